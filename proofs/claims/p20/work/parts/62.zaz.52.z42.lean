-- 62.zaz.52.z42
/-! what is read keeps its ranges -/
def rgF (S0 S : Tr) : Prop := ∀ a j, ((a = 0 ∧ 16 ≤ j ∧ j ≤ 18) ∨ a = 23 ∨ a = 24 ∨ a = 27 ∨ a = 31 ∨ a = 33) → S a j = S0 a j
theorem rgF_r {S : Tr} : rgF S S := fun _ _ _ => rfl
theorem rgF_s {S0 S : Tr} {a i : Nat} {v : Int32} (h : rgF S0 S) (hn : ¬ ((a = 0 ∧ 16 ≤ i ∧ i ≤ 18) ∨ a = 23 ∨ a = 24 ∨ a = 27 ∨ a = 31 ∨ a = 33)) : rgF S0 (st S a i v) := fun b j hb => by
  rw [st_no (fun e => by obtain ⟨e1, e2⟩ := e; subst e1 e2; exact hn hb)]; exact h b j hb
def tkF (S0 S : Tr) : Prop := ∀ a j, ¬ (a = 0 ∧ 7 ≤ j ∧ j ≤ 10) → S a j = S0 a j
theorem tkF_r {S : Tr} : tkF S S := fun _ _ _ => rfl
theorem tkF_s {S0 S : Tr} {a i : Nat} {v : Int32} (h : tkF S0 S) (hn : a = 0 ∧ 7 ≤ i ∧ i ≤ 10) : tkF S0 (st S a i v) := fun b j hb => by
  rw [st_no (fun e => by obtain ⟨e1, e2⟩ := e; subst e1 e2; exact hb hn)]; exact h b j hb
set_option maxHeartbeats 1000000 in
set_option maxRecDepth 100000 in
theorem rfJ_X8_signToken_J192 {S0 : Tr} (s0 : Int32) (S : Tr) (hS : rgF S0 S)   : Ep (fJ_X8_signToken_J192 s0 S) (fun q => rgF S0 q) := by
  unfold fJ_X8_signToken_J192
  refine Ep_lt (fun S_14 eS_14 => ?_)
  have hS_14 : rgF S0 S_14 := by rw [eS_14]; exact rgF_s hS (by omega)
  exact Ep_some hS_14
set_option maxHeartbeats 1000000 in
set_option maxRecDepth 100000 in
theorem rfJ_X8_signToken_J135 {S0 : Tr} (x2 : Int32) (x3 : Int32) (S : Tr) (hS : rgF S0 S)   : Ep (fJ_X8_signToken_J135 x2 x3 S) (fun q => rgF S0 q) := by
  unfold fJ_X8_signToken_J135
  refine Ep_lt (fun S_10 eS_10 => ?_)
  have hS_10 : rgF S0 S_10 := by rw [eS_10]; exact rgF_s hS (by omega)
  refine Ep_ite (fun _ => ?_) (fun _ => ?_)
  · exact rfJ_X8_signToken_J192 2 S_10 hS_10
  · refine Ep_ite (fun _ => ?_) (fun _ => ?_)
    · refine Ep_ite (fun _ => ?_) (fun _ => ?_)
      · refine Ep_ite (fun _ => ?_) (fun _ => ?_)
        · exact rfJ_X8_signToken_J192 0 S_10 hS_10
        · exact rfJ_X8_signToken_J192 3 S_10 hS_10
      · exact rfJ_X8_signToken_J192 1 S_10 hS_10
    · refine Ep_ite (fun _ => ?_) (fun _ => ?_)
      · exact rfJ_X8_signToken_J192 5 S_10 hS_10
      · exact rfJ_X8_signToken_J192 4 S_10 hS_10
set_option maxHeartbeats 1000000 in
set_option maxRecDepth 100000 in
theorem rfJ_X8_signToken_J125 {S0 : Tr} (x2 : Int32) (x3 : Int32) (S : Tr) (hS : rgF S0 S)   : Ep (fJ_X8_signToken_J125 x2 x3 S) (fun q => rgF S0 q) := by
  unfold fJ_X8_signToken_J125
  refine Ep_lt (fun S_9 eS_9 => ?_)
  have hS_9 : rgF S0 S_9 := by rw [eS_9]; exact rgF_s hS (by omega)
  exact rfJ_X8_signToken_J135 x2 x3 S_9 hS_9
set_option maxHeartbeats 1000000 in
set_option maxRecDepth 100000 in
theorem rfJ_X8_signToken_J116 {S0 : Tr} (x2 : Int32) (s0 : Int32) (S : Tr) (hS : rgF S0 S)   : Ep (fJ_X8_signToken_J116 x2 s0 S) (fun q => rgF S0 q) := by
  unfold fJ_X8_signToken_J116
  refine Ep_ite (fun _ => ?_) (fun _ => ?_)
  · refine Ep_ite (fun _ => ?_) (fun _ => ?_)
    · exact rfJ_X8_signToken_J135 x2 s0 S hS
    · exact rfJ_X8_signToken_J125 x2 s0 S hS
  · exact rfJ_X8_signToken_J125 x2 s0 S hS
set_option maxHeartbeats 1000000 in
set_option maxRecDepth 100000 in
theorem rfJ_X8_signToken_J115 {S0 : Tr} (x2 : Int32) (S : Tr) (hS : rgF S0 S)   : Ep (fJ_X8_signToken_J115 x2 S) (fun q => rgF S0 q) := by
  unfold fJ_X8_signToken_J115
  exact rfJ_X8_signToken_J116 x2 0 S hS
set_option maxHeartbeats 1000000 in
set_option maxRecDepth 100000 in
theorem rfJ_X8_signToken_J95 {S0 : Tr} (x1 : Int32) (s0 : Int32) (S : Tr) (hS : rgF S0 S)   : Ep (fJ_X8_signToken_J95 x1 s0 S) (fun q => rgF S0 q) := by
  unfold fJ_X8_signToken_J95
  refine Ep_ite (fun _ => ?_) (fun _ => ?_)
  · refine Ep_ite (fun _ => ?_) (fun _ => ?_)
    · exact rfJ_X8_signToken_J116 s0 1 S hS
    · exact rfJ_X8_signToken_J115 s0 S hS
  · exact rfJ_X8_signToken_J115 s0 S hS
set_option maxHeartbeats 1000000 in
set_option maxRecDepth 100000 in
theorem rfJ_X8_signToken_J94 {S0 : Tr} (x1 : Int32) (S : Tr) (hS : rgF S0 S)   : Ep (fJ_X8_signToken_J94 x1 S) (fun q => rgF S0 q) := by
  unfold fJ_X8_signToken_J94
  exact rfJ_X8_signToken_J95 x1 0 S hS
set_option maxHeartbeats 1000000 in
set_option maxRecDepth 100000 in
theorem rfJ_X8_signToken_J74 {S0 : Tr} (s0 : Int32) (S : Tr) (hS : rgF S0 S)   : Ep (fJ_X8_signToken_J74 s0 S) (fun q => rgF S0 q) := by
  unfold fJ_X8_signToken_J74
  refine Ep_ite (fun _ => ?_) (fun _ => ?_)
  · exact rfJ_X8_signToken_J94 s0 S hS
  · refine Ep_ite (fun _ => ?_) (fun _ => ?_)
    · exact rfJ_X8_signToken_J95 s0 1 S hS
    · exact rfJ_X8_signToken_J94 s0 S hS
set_option maxHeartbeats 1000000 in
set_option maxRecDepth 100000 in
theorem rfJ_X8_signToken_J50 {S0 : Tr} (S : Tr) (hS : rgF S0 S)   : Ep (fJ_X8_signToken_J50 S) (fun q => rgF S0 q) := by
  unfold fJ_X8_signToken_J50
  refine Ep_ite (fun _ => ?_) (fun _ => ?_)
  · exact rfJ_X8_signToken_J74 0 S hS
  · refine Ep_ck ?_
    exact rfJ_X8_signToken_J74 (S 1 (S 0 7).toNatClampNeg) S hS
set_option maxHeartbeats 1000000 in
set_option maxRecDepth 100000 in
theorem rfJ_X8_signToken_J287 {S0 : Tr} (s0 : Int32) (S : Tr) (hS : rgF S0 S)   : Ep (fJ_X8_signToken_J287 s0 S) (fun q => rgF S0 q) := by
  unfold fJ_X8_signToken_J287
  refine Ep_lt (fun S_25 eS_25 => ?_)
  have hS_25 : rgF S0 S_25 := by rw [eS_25]; exact rgF_s hS (by omega)
  exact Ep_some hS_25
set_option maxHeartbeats 1000000 in
set_option maxRecDepth 100000 in
theorem rfJ_X8_signToken_J275 {S0 : Tr} (s0 : Int32) (S : Tr) (hS : rgF S0 S)   : Ep (fJ_X8_signToken_J275 s0 S) (fun q => rgF S0 q) := by
  unfold fJ_X8_signToken_J275
  refine Ep_ite (fun _ => ?_) (fun _ => ?_)
  · exact rfJ_X8_signToken_J287 6 S hS
  · exact rfJ_X8_signToken_J287 4 S hS
set_option maxHeartbeats 1000000 in
set_option maxRecDepth 100000 in
theorem rfJ_X8_signToken_J270 {S0 : Tr} (S : Tr) (hS : rgF S0 S)   : Ep (fJ_X8_signToken_J270 S) (fun q => rgF S0 q) := by
  unfold fJ_X8_signToken_J270
  exact rfJ_X8_signToken_J275 1 S hS
set_option maxHeartbeats 1000000 in
set_option maxRecDepth 100000 in
theorem rf_X8_signToken {S0 : Tr} (S : Tr) (hS : rgF S0 S)   : Ep (f_X8_signToken S) (fun q => rgF S0 q) := by
  unfold f_X8_signToken
  refine Ep_ck ?_
  refine Ep_lt (fun S_2 eS_2 => ?_)
  have hS_2 : rgF S0 S_2 := by rw [eS_2]; exact rgF_s hS (by omega)
  refine Ep_lt (fun S_3 eS_3 => ?_)
  have hS_3 : rgF S0 S_3 := by rw [eS_3]; exact rgF_s hS_2 (by omega)
  refine Ep_ite (fun _ => ?_) (fun _ => ?_)
  · exact rfJ_X8_signToken_J50 S_3 hS_3
  · refine Ep_ite (fun _ => ?_) (fun _ => ?_)
    · exact rfJ_X8_signToken_J50 S_3 hS_3
    · refine Ep_ite (fun _ => ?_) (fun _ => ?_)
      · exact rfJ_X8_signToken_J50 S_3 hS_3
      · refine Ep_ite (fun _ => ?_) (fun _ => ?_)
        · exact rfJ_X8_signToken_J270 S_3 hS_3
        · refine Ep_ite (fun _ => ?_) (fun _ => ?_)
          · exact rfJ_X8_signToken_J270 S_3 hS_3
          · refine Ep_ite (fun _ => ?_) (fun _ => ?_)
            · exact rfJ_X8_signToken_J270 S_3 hS_3
            · refine Ep_ite (fun _ => ?_) (fun _ => ?_)
              · exact rfJ_X8_signToken_J270 S_3 hS_3
              · refine Ep_ite (fun _ => ?_) (fun _ => ?_)
                · exact rfJ_X8_signToken_J270 S_3 hS_3
                · refine Ep_ite (fun _ => ?_) (fun _ => ?_)
                  · exact rfJ_X8_signToken_J270 S_3 hS_3
                  · refine Ep_ite (fun _ => ?_) (fun _ => ?_)
                    · exact rfJ_X8_signToken_J270 S_3 hS_3
                    · refine Ep_ite (fun _ => ?_) (fun _ => ?_)
                      · exact rfJ_X8_signToken_J270 S_3 hS_3
                      · exact rfJ_X8_signToken_J275 0 S_3 hS_3
set_option maxHeartbeats 1000000 in
set_option maxRecDepth 100000 in
theorem rfJ_X8_token_J261 {S0 : Tr} (k213 : Tr → Option (Tr)) (s0 : Int32) (S : Tr) (hS : rgF S0 S) (hk213 : ∀ (S : Tr), rgF S0 S → Ep (k213 S) (fun q => rgF S0 q))  : Ep (fJ_X8_token_J261 k213 s0 S) (fun q => rgF S0 q) := by
  unfold fJ_X8_token_J261
  refine Ep_lt (fun S_23 eS_23 => ?_)
  have hS_23 : rgF S0 S_23 := by rw [eS_23]; exact rgF_s hS (by omega)
  refine Ep_lt (fun S_24 eS_24 => ?_)
  have hS_24 : rgF S0 S_24 := by rw [eS_24]; exact rgF_s hS_23 (by omega)
  exact hk213 S_24 hS_24
set_option maxHeartbeats 1000000 in
set_option maxRecDepth 100000 in
theorem rfB_X8_token_L213 {S0 : Tr}     (N : Nat) : ∀ (S : Tr), rgF S0 S → Ep (lpF (fun _ => none) (fB_X8_token_L213) N S) (fun q => rgF S0 q) := by
  induction N with
  | zero => intro S _; exact Ep_none
  | succ N ih =>
    intro S hS
    show Ep (fB_X8_token_L213 (lpF (fun _ => none) (fB_X8_token_L213) N) S) _
    have hk213 := ih
    clear ih
    generalize lpF (fun _ => none) (fB_X8_token_L213) N = k213 at hk213 ⊢
    unfold fB_X8_token_L213
    refine Ep_any (fun r17 => ?_)
    refine Ep_ite (fun _ => ?_) (fun _ => ?_)
    · exact Ep_some hS
    · refine Ep_ite (fun _ => ?_) (fun _ => ?_)
      · refine Ep_ck ?_
        exact rfJ_X8_token_J261 k213 ((((10 : Int32) * (S 0 9)) + (S 1 (S 0 7).toNatClampNeg)) - 48) S hS hk213
      · exact rfJ_X8_token_J261 k213 (S 0 9) S hS hk213
set_option maxHeartbeats 1000000 in
set_option maxRecDepth 100000 in
theorem rfL_X8_token_L213 {S0 : Tr}     (S : Tr) (hS : rgF S0 S) : Ep (fL_X8_token_L213 S) (fun q => rgF S0 q) := by
  unfold fL_X8_token_L213
  exact rfB_X8_token_L213 2000 S hS
set_option maxHeartbeats 1000000 in
set_option maxRecDepth 100000 in
theorem rfJ_X8_token_J162 {S0 : Tr} (s0 : Int32) (S : Tr) (hS : rgF S0 S)   : Ep (fJ_X8_token_J162 s0 S) (fun q => rgF S0 q) := by
  unfold fJ_X8_token_J162
  refine Ep_lt (fun S_35 eS_35 => ?_)
  have hS_35 : rgF S0 S_35 := by rw [eS_35]; exact rgF_s hS (by omega)
  refine Ep_ite (fun _ => ?_) (fun _ => ?_)
  · refine Ep_any (fun r37 => ?_)
    refine Ep_lt (fun S_40 eS_40 => ?_)
    have hS_40 : rgF S0 S_40 := by rw [eS_40]; exact rgF_s hS_35 (by omega)
    exact Ep_some hS_40
  · exact Ep_some hS_35
set_option maxHeartbeats 1000000 in
set_option maxRecDepth 100000 in
theorem rfJ_X8_token_J114 {S0 : Tr} (S : Tr) (hS : rgF S0 S)   : Ep (fJ_X8_token_J114 S) (fun q => rgF S0 q) := by
  unfold fJ_X8_token_J114
  refine Ep_any (fun r29 => ?_)
  refine Ep_lt (fun S_32 eS_32 => ?_)
  have hS_32 : rgF S0 S_32 := by rw [eS_32]; exact rgF_s hS (by omega)
  refine Ep_ite (fun _ => ?_) (fun _ => ?_)
  · refine Ep_ite (fun _ => ?_) (fun _ => ?_)
    · exact rfJ_X8_token_J162 2 S_32 hS_32
    · exact rfJ_X8_token_J162 6 S_32 hS_32
  · exact rfJ_X8_token_J162 1 S_32 hS_32
set_option maxHeartbeats 1000000 in
set_option maxRecDepth 100000 in
theorem rfB_X8_token_L90 {S0 : Tr}     (N : Nat) : ∀ (S : Tr), rgF S0 S → Ep (lpF (fun _ => none) (fB_X8_token_L90) N S) (fun q => rgF S0 q) := by
  induction N with
  | zero => intro S _; exact Ep_none
  | succ N ih =>
    intro S hS
    show Ep (fB_X8_token_L90 (lpF (fun _ => none) (fB_X8_token_L90) N) S) _
    have hk90 := ih
    clear ih
    generalize lpF (fun _ => none) (fB_X8_token_L90) N = k90 at hk90 ⊢
    unfold fB_X8_token_L90
    refine Ep_any (fun r25 => ?_)
    refine Ep_ite (fun _ => ?_) (fun _ => ?_)
    · exact rfJ_X8_token_J114 S hS
    · refine Ep_lt (fun S_41 eS_41 => ?_)
      have hS_41 : rgF S0 S_41 := by rw [eS_41]; exact rgF_s hS (by omega)
      exact hk90 S_41 hS_41
set_option maxHeartbeats 1000000 in
set_option maxRecDepth 100000 in
theorem rfL_X8_token_L90 {S0 : Tr}     (S : Tr) (hS : rgF S0 S) : Ep (fL_X8_token_L90 S) (fun q => rgF S0 q) := by
  unfold fL_X8_token_L90
  exact rfB_X8_token_L90 2000 S hS
set_option maxHeartbeats 1000000 in
set_option maxRecDepth 100000 in
theorem rfJ_X8_token_J52 {S0 : Tr} (S : Tr) (hS : rgF S0 S)   : Ep (fJ_X8_token_J52 S) (fun q => rgF S0 q) := by
  unfold fJ_X8_token_J52
  refine Ep_lt (fun S_2 eS_2 => ?_)
  have hS_2 : rgF S0 S_2 := by rw [eS_2]; exact rgF_s hS (by omega)
  refine Ep_ite (fun _ => ?_) (fun _ => ?_)
  · refine Ep_lt (fun S_42 eS_42 => ?_)
    have hS_42 : rgF S0 S_42 := by rw [eS_42]; exact rgF_s hS_2 (by omega)
    exact Ep_some hS_42
  · refine Ep_any (fun r4 => ?_)
    refine Ep_ite (fun _ => ?_) (fun _ => ?_)
    · refine Ep_any (fun r8 => ?_)
      refine Ep_ite (fun _ => ?_) (fun _ => ?_)
      · refine Ep_bd (rf_X8_signToken S_2 hS_2) (fun S_12 hS_12 => ?_)
        exact Ep_some hS_12
      · refine Ep_lt (fun S_15 eS_15 => ?_)
        have hS_15 : rgF S0 S_15 := by rw [eS_15]; exact rgF_s hS_2 (by omega)
        refine Ep_lt (fun S_16 eS_16 => ?_)
        have hS_16 : rgF S0 S_16 := by rw [eS_16]; exact rgF_s hS_15 (by omega)
        exact rfL_X8_token_L213 S_16 hS_16
    · exact rfL_X8_token_L90 S_2 hS_2
set_option maxHeartbeats 1000000 in
set_option maxRecDepth 100000 in
theorem rfJ_X8_token_J39 {S0 : Tr} (k0 : Tr → Option (Tr)) (S : Tr) (hS : rgF S0 S) (hk0 : ∀ (S : Tr), rgF S0 S → Ep (k0 S) (fun q => rgF S0 q))  : Ep (fJ_X8_token_J39 k0 S) (fun q => rgF S0 q) := by
  unfold fJ_X8_token_J39
  refine Ep_lt (fun S_45 eS_45 => ?_)
  have hS_45 : rgF S0 S_45 := by rw [eS_45]; exact rgF_s hS (by omega)
  exact hk0 S_45 hS_45
set_option maxHeartbeats 1000000 in
set_option maxRecDepth 100000 in
theorem rfB_X8_token_L0 {S0 : Tr}     (N : Nat) : ∀ (S : Tr), rgF S0 S → Ep (lpF (fun _ => none) (fB_X8_token_L0) N S) (fun q => rgF S0 q) := by
  induction N with
  | zero => intro S _; exact Ep_none
  | succ N ih =>
    intro S hS
    show Ep (fB_X8_token_L0 (lpF (fun _ => none) (fB_X8_token_L0) N) S) _
    have hk0 := ih
    clear ih
    generalize lpF (fun _ => none) (fB_X8_token_L0) N = k0 at hk0 ⊢
    unfold fB_X8_token_L0
    refine Ep_ite (fun _ => ?_) (fun _ => ?_)
    · exact rfJ_X8_token_J52 S hS
    · refine Ep_ck ?_
      refine Ep_ite (fun _ => ?_) (fun _ => ?_)
      · exact rfJ_X8_token_J39 k0 S hS hk0
      · refine Ep_ite (fun _ => ?_) (fun _ => ?_)
        · exact rfJ_X8_token_J39 k0 S hS hk0
        · exact rfJ_X8_token_J52 S hS
set_option maxHeartbeats 1000000 in
set_option maxRecDepth 100000 in
theorem rfL_X8_token_L0 {S0 : Tr}     (S : Tr) (hS : rgF S0 S) : Ep (fL_X8_token_L0 S) (fun q => rgF S0 q) := by
  unfold fL_X8_token_L0
  exact rfB_X8_token_L0 2000 S hS
set_option maxHeartbeats 1000000 in
set_option maxRecDepth 100000 in
theorem rf_X8_token {S0 : Tr} (S : Tr) (hS : rgF S0 S)   : Ep (f_X8_token S) (fun q => rgF S0 q) := by
  unfold f_X8_token
  exact rfL_X8_token_L0 S hS
set_option maxHeartbeats 1000000 in
set_option maxRecDepth 100000 in
theorem rf_X8_wrong {S0 : Tr} (S : Tr) (x1 : Int32) (hS : rgF S0 S)   : Ep (f_X8_wrong S x1) (fun q => rgF S0 q.2) := by
  unfold f_X8_wrong
  refine Ep_lt (fun S_1 eS_1 => ?_)
  have hS_1 : rgF S0 S_1 := by rw [eS_1]; exact rgF_s hS (by omega)
  refine Ep_lt (fun S_2 eS_2 => ?_)
  have hS_2 : rgF S0 S_2 := by rw [eS_2]; exact rgF_s hS_1 (by omega)
  exact Ep_some hS_2
set_option maxHeartbeats 1000000 in
set_option maxRecDepth 100000 in
theorem rf_X8_number {S0 : Tr} (S : Tr) (x1 : Int32) (x2 : Int32) (hS : rgF S0 S)   : Ep (f_X8_number S x1 x2) (fun q => rgF S0 q.2) := by
  unfold f_X8_number
  refine Ep_ite (fun _ => ?_) (fun _ => ?_)
  · refine Ep_any (fun r2 => ?_)
    refine Ep_ite (fun _ => ?_) (fun _ => ?_)
    · refine Ep_bd (rf_X8_wrong S (2 : Int32) hS) (fun q hq => ?_)
      refine Ep_lt (fun r10 er10 => ?_)
      refine Ep_lt (fun S_11 eS_11 => ?_)
      have hS_11 : rgF S0 S_11 := by rw [eS_11]; exact hq
      refine Ep_ck ?_
      exact Ep_some hS_11
    · refine Ep_lt (fun S_6 eS_6 => ?_)
      have hS_6 : rgF S0 S_6 := by rw [eS_6]; exact rgF_s hS (by omega)
      refine Ep_bd (rf_X8_token S_6 hS_6) (fun S_7 hS_7 => ?_)
      exact Ep_some hS_7
  · refine Ep_bd (rf_X8_wrong S (1 : Int32) hS) (fun q hq => ?_)
    refine Ep_lt (fun r15 er15 => ?_)
    refine Ep_lt (fun S_16 eS_16 => ?_)
    have hS_16 : rgF S0 S_16 := by rw [eS_16]; exact hq
    refine Ep_ck ?_
    exact Ep_some hS_16
set_option maxHeartbeats 1000000 in
set_option maxRecDepth 100000 in
theorem rf_X8_isOnce {S0 : Tr} (S : Tr) (x1 : Int32) (hS : rgF S0 S)   : Ep (f_X8_isOnce S x1) (fun q => rgF S0 q.2) := by
  unfold f_X8_isOnce
  refine Ep_ck ?_
  refine Ep_ite (fun _ => ?_) (fun _ => ?_)
  · refine Ep_lt (fun S_3 eS_3 => ?_)
    have hS_3 : rgF S0 S_3 := by rw [eS_3]; exact rgF_s hS (by omega)
    refine Ep_bd (rf_X8_token S_3 hS_3) (fun S_4 hS_4 => ?_)
    exact Ep_some hS_4
  · refine Ep_bd (rf_X8_wrong S (3 : Int32) hS) (fun q hq => ?_)
    refine Ep_lt (fun r7 er7 => ?_)
    refine Ep_lt (fun S_8 eS_8 => ?_)
    have hS_8 : rgF S0 S_8 := by rw [eS_8]; exact hq
    refine Ep_ck ?_
    exact Ep_some hS_8
set_option maxHeartbeats 1000000 in
set_option maxRecDepth 100000 in
theorem rf_X8_waitLine {S0 : Tr} (S : Tr) (hS : rgF S0 S)   : Ep (f_X8_waitLine S) (fun q => rgF S0 q.2) := by
  unfold f_X8_waitLine
  refine Ep_ite (fun _ => ?_) (fun _ => ?_)
  · refine Ep_bd (rf_X8_wrong S (2 : Int32) hS) (fun q hq => ?_)
    refine Ep_lt (fun r29 er29 => ?_)
    refine Ep_lt (fun S_30 eS_30 => ?_)
    have hS_30 : rgF S0 S_30 := by rw [eS_30]; exact hq
    refine Ep_ck ?_
    exact Ep_some hS_30
  · refine Ep_bd (rf_X8_token S hS) (fun S_2 hS_2 => ?_)
    refine Ep_lt (fun y5 ey5 => ?_)
    refine Ep_bd (rf_X8_number S_2 (0 : Int32) (19 : Int32) hS_2) (fun q hq => ?_)
    refine Ep_lt (fun r6 er6 => ?_)
    refine Ep_lt (fun S_7 eS_7 => ?_)
    have hS_7 : rgF S0 S_7 := by rw [eS_7]; exact hq
    refine Ep_ite (fun _ => ?_) (fun _ => ?_)
    · exact Ep_some hS_7
    · refine Ep_lt (fun y11 ey11 => ?_)
      refine Ep_ck ?_
      refine Ep_ite (fun _ => ?_) (fun _ => ?_)
      · refine Ep_lt (fun S_14 eS_14 => ?_)
        have hS_14 : rgF S0 S_14 := by rw [eS_14]; exact rgF_s hS_7 (by omega)
        refine Ep_bd (rf_X8_number S_14 (0 : Int32) (999 : Int32) hS_14) (fun q hq => ?_)
        refine Ep_lt (fun r15 er15 => ?_)
        refine Ep_lt (fun S_16 eS_16 => ?_)
        have hS_16 : rgF S0 S_16 := by rw [eS_16]; exact hq
        refine Ep_ite (fun _ => ?_) (fun _ => ?_)
        · exact Ep_some hS_16
        · refine Ep_ck ?_
          refine Ep_lt (fun S_21 eS_21 => ?_)
          have hS_21 : rgF S0 S_21 := by rw [eS_21]; exact rgF_s hS_16 (by omega)
          refine Ep_lt (fun S_22 eS_22 => ?_)
          have hS_22 : rgF S0 S_22 := by rw [eS_22]; exact rgF_s hS_21 (by omega)
          exact Ep_some hS_22
      · refine Ep_lt (fun S_23 eS_23 => ?_)
        have hS_23 : rgF S0 S_23 := by rw [eS_23]; exact rgF_s hS_7 (by omega)
        refine Ep_bd (rf_X8_wrong S_23 (3 : Int32) hS_23) (fun q hq => ?_)
        refine Ep_lt (fun r24 er24 => ?_)
        refine Ep_lt (fun S_25 eS_25 => ?_)
        have hS_25 : rgF S0 S_25 := by rw [eS_25]; exact hq
        refine Ep_ck ?_
        exact Ep_some hS_25
set_option maxHeartbeats 1000000 in
set_option maxRecDepth 100000 in
theorem rf_X8_dropHeld {S0 : Tr} (S : Tr) (hS : rgF S0 S)   : Ep (f_X8_dropHeld S) (fun q => rgF S0 q.2) := by
  unfold f_X8_dropHeld
  refine Ep_lt (fun S_1 eS_1 => ?_)
  have hS_1 : rgF S0 S_1 := by rw [eS_1]; exact rgF_s hS (by omega)
  refine Ep_ck ?_
  exact Ep_some hS_1
set_option maxHeartbeats 1000000 in
set_option maxRecDepth 100000 in
theorem rf_X8_grown {S0 : Tr} (S : Tr) (x1 : Int32) (x2 : Int32) (x3 : Int32) (hS : rgF S0 S)   : Ep (f_X8_grown S x1 x2 x3) (fun q => rgF S0 q) := by
  unfold f_X8_grown
  refine Ep_ck ?_
  refine Ep_lt (fun S_2 eS_2 => ?_)
  have hS_2 : rgF S0 S_2 := by rw [eS_2]; exact rgF_s hS (by omega)
  refine Ep_ck ?_
  refine Ep_lt (fun S_4 eS_4 => ?_)
  have hS_4 : rgF S0 S_4 := by rw [eS_4]; exact rgF_s hS_2 (by omega)
  refine Ep_ck ?_
  refine Ep_lt (fun S_6 eS_6 => ?_)
  have hS_6 : rgF S0 S_6 := by rw [eS_6]; exact rgF_s hS_4 (by omega)
  refine Ep_ck ?_
  refine Ep_lt (fun S_8 eS_8 => ?_)
  have hS_8 : rgF S0 S_8 := by rw [eS_8]; exact rgF_s hS_6 (by omega)
  refine Ep_lt (fun S_9 eS_9 => ?_)
  have hS_9 : rgF S0 S_9 := by rw [eS_9]; exact rgF_s hS_8 (by omega)
  refine Ep_lt (fun S_10 eS_10 => ?_)
  have hS_10 : rgF S0 S_10 := by rw [eS_10]; exact rgF_s hS_9 (by omega)
  exact Ep_some hS_10
set_option maxHeartbeats 1000000 in
set_option maxRecDepth 100000 in
theorem rfJ_X8_bind_J58 {S0 : Tr} (k0 : Tr → Option (Tr)) (x1 : Int32) (x2 : Int32) (s0 : Int32) (S : Tr) (hS : rgF S0 S) (hk0 : ∀ (S : Tr), rgF S0 S → Ep (k0 S) (fun q => rgF S0 q))  : Ep (fJ_X8_bind_J58 k0 x1 x2 s0 S) (fun q => rgF S0 q) := by
  unfold fJ_X8_bind_J58
  refine Ep_bd (rf_X8_dropHeld S hS) (fun q hq => ?_)
  refine Ep_lt (fun r15 er15 => ?_)
  refine Ep_lt (fun S_16 eS_16 => ?_)
  have hS_16 : rgF S0 S_16 := by rw [eS_16]; exact hq
  refine Ep_bd (rf_X8_grown S_16 x2 r15 s0 hS_16) (fun S_19 hS_19 => ?_)
  exact hk0 S_19 hS_19
set_option maxHeartbeats 1000000 in
set_option maxRecDepth 100000 in
theorem rfB_X8_bind_L0 {S0 : Tr} (x1 : Int32)    (N : Nat) : ∀ (S : Tr), rgF S0 S → Ep (lpF (fun _ => none) (fB_X8_bind_L0 x1) N S) (fun q => rgF S0 q) := by
  induction N with
  | zero => intro S _; exact Ep_none
  | succ N ih =>
    intro S hS
    show Ep (fB_X8_bind_L0 x1 (lpF (fun _ => none) (fB_X8_bind_L0 x1) N) S) _
    have hk0 := ih
    clear ih
    generalize lpF (fun _ => none) (fB_X8_bind_L0 x1) N = k0 at hk0 ⊢
    unfold fB_X8_bind_L0
    refine Ep_ite (fun _ => ?_) (fun _ => ?_)
    · exact Ep_some hS
    · refine Ep_ck ?_
      refine Ep_any (fun r3 => ?_)
      refine Ep_ite (fun _ => ?_) (fun _ => ?_)
      · exact Ep_some hS
      · refine Ep_lt (fun S_7 eS_7 => ?_)
        have hS_7 : rgF S0 S_7 := by rw [eS_7]; exact rgF_s hS (by omega)
        refine Ep_ck ?_
        refine Ep_lt (fun y9 ey9 => ?_)
        refine Ep_ite (fun _ => ?_) (fun _ => ?_)
        · exact rfJ_X8_bind_J58 k0 x1 y9 (-1) S_7 hS_7 hk0
        · refine Ep_bd (rf_X8_dropHeld S_7 hS_7) (fun q hq => ?_)
          refine Ep_lt (fun r11 er11 => ?_)
          refine Ep_lt (fun S_12 eS_12 => ?_)
          have hS_12 : rgF S0 S_12 := by rw [eS_12]; exact hq
          exact rfJ_X8_bind_J58 k0 x1 y9 r11 S_12 hS_12 hk0
set_option maxHeartbeats 1000000 in
set_option maxRecDepth 100000 in
theorem rfL_X8_bind_L0 {S0 : Tr} (x1 : Int32)    (S : Tr) (hS : rgF S0 S) : Ep (fL_X8_bind_L0 x1 S) (fun q => rgF S0 q) := by
  unfold fL_X8_bind_L0
  exact rfB_X8_bind_L0 x1 2000 S hS
set_option maxHeartbeats 1000000 in
set_option maxRecDepth 100000 in
theorem rf_X8_bind {S0 : Tr} (S : Tr) (x1 : Int32) (hS : rgF S0 S)   : Ep (f_X8_bind S x1) (fun q => rgF S0 q) := by
  unfold f_X8_bind
  exact rfL_X8_bind_L0 x1 S hS
set_option maxHeartbeats 1000000 in
set_option maxRecDepth 100000 in
theorem rf_X8_isCounted {S0 : Tr} (S : Tr) (hS : rgF S0 S)   : Ep (f_X8_isCounted S) (fun q => rgF S0 q.2) := by
  unfold f_X8_isCounted
  refine Ep_ite (fun _ => ?_) (fun _ => ?_)
  · refine Ep_bd (rf_X8_wrong S (2 : Int32) hS) (fun q hq => ?_)
    refine Ep_lt (fun r3 er3 => ?_)
    refine Ep_lt (fun S_4 eS_4 => ?_)
    have hS_4 : rgF S0 S_4 := by rw [eS_4]; exact hq
    refine Ep_ck ?_
    exact Ep_some hS_4
  · refine Ep_lt (fun S_2 eS_2 => ?_)
    have hS_2 : rgF S0 S_2 := by rw [eS_2]; exact rgF_s hS (by omega)
    exact Ep_some hS_2
set_option maxHeartbeats 1000000 in
set_option maxRecDepth 100000 in
theorem rf_X8_waitsFor {S0 : Tr} (S : Tr) (x1 : Int32) (hS : rgF S0 S)   : Ep (f_X8_waitsFor S x1) (fun q => rgF S0 q) := by
  unfold f_X8_waitsFor
  refine Ep_ck ?_
  refine Ep_lt (fun S_2 eS_2 => ?_)
  have hS_2 : rgF S0 S_2 := by rw [eS_2]; exact rgF_s hS (by omega)
  refine Ep_lt (fun S_3 eS_3 => ?_)
  have hS_3 : rgF S0 S_3 := by rw [eS_3]; exact rgF_s hS_2 (by omega)
  exact Ep_some hS_3
set_option maxHeartbeats 1000000 in
set_option maxRecDepth 100000 in
theorem rfJ_X8_signs_J250 {S0 : Tr} (s0 : Int32) (S : Tr) (hS : rgF S0 S)   : Ep (fJ_X8_signs_J250 s0 S) (fun q => rgF S0 q.2) := by
  unfold fJ_X8_signs_J250
  refine Ep_ck ?_
  refine Ep_lt (fun S_59 eS_59 => ?_)
  have hS_59 : rgF S0 S_59 := by rw [eS_59]; exact rgF_s hS (by omega)
  refine Ep_bd (rf_X8_token S_59 hS_59) (fun S_60 hS_60 => ?_)
  exact Ep_some hS_60
set_option maxHeartbeats 1000000 in
set_option maxRecDepth 100000 in
theorem rfJ_X8_signs_J217 {S0 : Tr} (x1 : Int32) (S : Tr) (hS : rgF S0 S)   : Ep (fJ_X8_signs_J217 x1 S) (fun q => rgF S0 q.2) := by
  unfold fJ_X8_signs_J217
  refine Ep_bd (rf_X8_isCounted S hS) (fun q hq => ?_)
  refine Ep_lt (fun r45 er45 => ?_)
  refine Ep_lt (fun S_46 eS_46 => ?_)
  have hS_46 : rgF S0 S_46 := by rw [eS_46]; exact hq
  refine Ep_ite (fun _ => ?_) (fun _ => ?_)
  · exact Ep_some hS_46
  · refine Ep_bd (rf_X8_waitsFor S_46 x1 hS_46) (fun S_50 hS_50 => ?_)
    refine Ep_lt (fun S_53 eS_53 => ?_)
    have hS_53 : rgF S0 S_53 := by rw [eS_53]; exact rgF_s hS_50 (by omega)
    refine Ep_any (fun r54 => ?_)
    refine Ep_ite (fun _ => ?_) (fun _ => ?_)
    · exact rfJ_X8_signs_J250 0 S_53 hS_53
    · exact rfJ_X8_signs_J250 1 S_53 hS_53
set_option maxHeartbeats 1000000 in
set_option maxRecDepth 100000 in
theorem rfJ_X8_signs_J175 {S0 : Tr} (x1 : Int32) (s0 : Int32) (S : Tr) (hS : rgF S0 S)   : Ep (fJ_X8_signs_J175 x1 s0 S) (fun q => rgF S0 q.2) := by
  unfold fJ_X8_signs_J175
  refine Ep_bd (rf_X8_bind S s0 hS) (fun S_38 hS_38 => ?_)
  refine Ep_any (fun r41 => ?_)
  refine Ep_ite (fun _ => ?_) (fun _ => ?_)
  · refine Ep_ite (fun _ => ?_) (fun _ => ?_)
    · exact rfJ_X8_signs_J217 x1 S_38 hS_38
    · refine Ep_ck ?_
      refine Ep_any (fun r65 => ?_)
      refine Ep_ite (fun _ => ?_) (fun _ => ?_)
      · refine Ep_bd (rf_X8_wrong S_38 (1 : Int32) hS_38) (fun q hq => ?_)
        refine Ep_lt (fun r69 er69 => ?_)
        refine Ep_lt (fun S_70 eS_70 => ?_)
        have hS_70 : rgF S0 S_70 := by rw [eS_70]; exact hq
        refine Ep_ck ?_
        exact Ep_some hS_70
      · exact rfJ_X8_signs_J217 x1 S_38 hS_38
  · exact rfJ_X8_signs_J217 x1 S_38 hS_38
set_option maxHeartbeats 1000000 in
set_option maxRecDepth 100000 in
theorem rfJ_X8_signs_J147 {S0 : Tr} (s0 : Int32) (S : Tr) (hS : rgF S0 S)   : Ep (fJ_X8_signs_J147 s0 S) (fun q => rgF S0 q.2) := by
  unfold fJ_X8_signs_J147
  refine Ep_ite (fun _ => ?_) (fun _ => ?_)
  · refine Ep_bd (rf_X8_wrong S (1 : Int32) hS) (fun q hq => ?_)
    refine Ep_lt (fun r74 er74 => ?_)
    refine Ep_lt (fun S_75 eS_75 => ?_)
    have hS_75 : rgF S0 S_75 := by rw [eS_75]; exact hq
    refine Ep_ck ?_
    exact Ep_some hS_75
  · refine Ep_any (fun r31 => ?_)
    refine Ep_ite (fun _ => ?_) (fun _ => ?_)
    · exact rfJ_X8_signs_J175 s0 5 S hS
    · refine Ep_any (fun r35 => ?_)
      exact rfJ_X8_signs_J175 s0 r35 S hS
set_option maxHeartbeats 1000000 in
set_option maxRecDepth 100000 in
theorem rfJ_X8_signs_J47 {S0 : Tr} (S : Tr) (hS : rgF S0 S)   : Ep (fJ_X8_signs_J47 S) (fun q => rgF S0 q.2) := by
  unfold fJ_X8_signs_J47
  refine Ep_any (fun r5 => ?_)
  refine Ep_ite (fun _ => ?_) (fun _ => ?_)
  · refine Ep_any (fun r9 => ?_)
    refine Ep_ite (fun _ => ?_) (fun _ => ?_)
    · refine Ep_ite (fun _ => ?_) (fun _ => ?_)
      · exact rfJ_X8_signs_J147 ((5 : Int32) + (S 0 9)) S hS
      · refine Ep_any (fun r14 => ?_)
        refine Ep_ite (fun _ => ?_) (fun _ => ?_)
        · refine Ep_any (fun r18 => ?_)
          refine Ep_ite (fun _ => ?_) (fun _ => ?_)
          · refine Ep_any (fun r22 => ?_)
            refine Ep_ite (fun _ => ?_) (fun _ => ?_)
            · refine Ep_any (fun r26 => ?_)
              refine Ep_ite (fun _ => ?_) (fun _ => ?_)
              · exact rfJ_X8_signs_J147 0 S hS
              · exact rfJ_X8_signs_J147 14 S hS
            · exact rfJ_X8_signs_J147 13 S hS
          · exact rfJ_X8_signs_J147 12 S hS
        · exact rfJ_X8_signs_J147 11 S hS
    · exact rfJ_X8_signs_J147 4 S hS
  · exact rfJ_X8_signs_J147 3 S hS
set_option maxHeartbeats 1000000 in
set_option maxRecDepth 100000 in
theorem rf_X8_signs {S0 : Tr} (S : Tr) (hS : rgF S0 S)   : Ep (f_X8_signs S) (fun q => rgF S0 q.2) := by
  unfold f_X8_signs
  refine Ep_any (fun r1 => ?_)
  refine Ep_ite (fun _ => ?_) (fun _ => ?_)
  · exact rfJ_X8_signs_J47 S hS
  · refine Ep_ite (fun _ => ?_) (fun _ => ?_)
    · exact rfJ_X8_signs_J47 S hS
    · refine Ep_bd (rf_X8_bind S (1 : Int32) hS) (fun S_80 hS_80 => ?_)
      refine Ep_lt (fun S_83 eS_83 => ?_)
      have hS_83 : rgF S0 S_83 := by rw [eS_83]; exact rgF_s hS_80 (by omega)
      refine Ep_lt (fun S_84 eS_84 => ?_)
      have hS_84 : rgF S0 S_84 := by rw [eS_84]; exact rgF_s hS_83 (by omega)
      refine Ep_bd (rf_X8_token S_84 hS_84) (fun S_85 hS_85 => ?_)
      exact Ep_some hS_85
set_option maxHeartbeats 1000000 in
set_option maxRecDepth 100000 in
theorem rfJ_X8_leafRead_J160 {S0 : Tr} (s0 : Int32) (s1 : Int32) (S : Tr) (hS : rgF S0 S)   : Ep (fJ_X8_leafRead_J160 s0 s1 S) (fun q => rgF S0 q.2) := by
  unfold fJ_X8_leafRead_J160
  refine Ep_bd (rf_X8_grown S s1 s0 (0 : Int32) hS) (fun S_21 hS_21 => ?_)
  refine Ep_lt (fun S_24 eS_24 => ?_)
  have hS_24 : rgF S0 S_24 := by rw [eS_24]; exact rgF_s hS_21 (by omega)
  refine Ep_bd (rf_X8_token S_24 hS_24) (fun S_25 hS_25 => ?_)
  exact Ep_some hS_25
set_option maxHeartbeats 1000000 in
set_option maxRecDepth 100000 in
theorem rfJ_X8_leafRead_J148 {S0 : Tr} (x1 : Int32) (s0 : Int32) (S : Tr) (hS : rgF S0 S)   : Ep (fJ_X8_leafRead_J148 x1 s0 S) (fun q => rgF S0 q.2) := by
  unfold fJ_X8_leafRead_J148
  refine Ep_ite (fun _ => ?_) (fun _ => ?_)
  · exact rfJ_X8_leafRead_J160 (S 0 9) s0 S hS
  · exact rfJ_X8_leafRead_J160 x1 s0 S hS
set_option maxHeartbeats 1000000 in
set_option maxRecDepth 100000 in
theorem rfJ_X8_leafRead_J129 {S0 : Tr} (x1 : Int32) (S : Tr) (hS : rgF S0 S)   : Ep (fJ_X8_leafRead_J129 x1 S) (fun q => rgF S0 q.2) := by
  unfold fJ_X8_leafRead_J129
  refine Ep_bd (rf_X8_isCounted S hS) (fun q hq => ?_)
  refine Ep_lt (fun r14 er14 => ?_)
  refine Ep_lt (fun S_15 eS_15 => ?_)
  have hS_15 : rgF S0 S_15 := by rw [eS_15]; exact hq
  refine Ep_ite (fun _ => ?_) (fun _ => ?_)
  · exact Ep_some hS_15
  · refine Ep_ite (fun _ => ?_) (fun _ => ?_)
    · exact rfJ_X8_leafRead_J148 x1 0 S_15 hS_15
    · exact rfJ_X8_leafRead_J148 x1 1 S_15 hS_15
set_option maxHeartbeats 1000000 in
set_option maxRecDepth 100000 in
theorem rfJ_X8_leafRead_J109 {S0 : Tr} (x1 : Int32) (S : Tr) (hS : rgF S0 S)   : Ep (fJ_X8_leafRead_J109 x1 S) (fun q => rgF S0 q.2) := by
  unfold fJ_X8_leafRead_J109
  refine Ep_ite (fun _ => ?_) (fun _ => ?_)
  · exact rfJ_X8_leafRead_J129 x1 S hS
  · refine Ep_ite (fun _ => ?_) (fun _ => ?_)
    · exact rfJ_X8_leafRead_J129 x1 S hS
    · refine Ep_bd (rf_X8_wrong S (2 : Int32) hS) (fun q hq => ?_)
      refine Ep_lt (fun r29 er29 => ?_)
      refine Ep_lt (fun S_30 eS_30 => ?_)
      have hS_30 : rgF S0 S_30 := by rw [eS_30]; exact hq
      refine Ep_ck ?_
      exact Ep_some hS_30
set_option maxHeartbeats 1000000 in
set_option maxRecDepth 100000 in
theorem rfJ_X8_leafRead_J86 {S0 : Tr} (S : Tr) (hS : rgF S0 S)   : Ep (fJ_X8_leafRead_J86 S) (fun q => rgF S0 q.2) := by
  unfold fJ_X8_leafRead_J86
  refine Ep_any (fun r9 => ?_)
  refine Ep_ite (fun _ => ?_) (fun _ => ?_)
  · exact rfJ_X8_leafRead_J109 r9 S hS
  · refine Ep_ite (fun _ => ?_) (fun _ => ?_)
    · exact rfJ_X8_leafRead_J109 r9 S hS
    · refine Ep_bd (rf_X8_wrong S (1 : Int32) hS) (fun q hq => ?_)
      refine Ep_lt (fun r35 er35 => ?_)
      refine Ep_lt (fun S_36 eS_36 => ?_)
      have hS_36 : rgF S0 S_36 := by rw [eS_36]; exact hq
      refine Ep_ck ?_
      exact Ep_some hS_36
set_option maxHeartbeats 1000000 in
set_option maxRecDepth 100000 in
theorem rf_X8_leafRead {S0 : Tr} (S : Tr) (hS : rgF S0 S)   : Ep (f_X8_leafRead S) (fun q => rgF S0 q.2) := by
  unfold f_X8_leafRead
  refine Ep_any (fun r1 => ?_)
  refine Ep_ite (fun _ => ?_) (fun _ => ?_)
  · refine Ep_any (fun r5 => ?_)
    refine Ep_ite (fun _ => ?_) (fun _ => ?_)
    · exact rfJ_X8_leafRead_J86 S hS
    · refine Ep_ite (fun _ => ?_) (fun _ => ?_)
      · exact rfJ_X8_leafRead_J86 S hS
      · refine Ep_bd (rf_X8_isCounted S hS) (fun q hq => ?_)
        refine Ep_lt (fun r41 er41 => ?_)
        refine Ep_lt (fun S_42 eS_42 => ?_)
        have hS_42 : rgF S0 S_42 := by rw [eS_42]; exact hq
        refine Ep_ite (fun _ => ?_) (fun _ => ?_)
        · exact Ep_some hS_42
        · refine Ep_bd (rf_X8_waitsFor S_42 (2 : Int32) hS_42) (fun S_46 hS_46 => ?_)
          refine Ep_bd (rf_X8_token S_46 hS_46) (fun S_49 hS_49 => ?_)
          exact Ep_some hS_49
  · refine Ep_ite (fun _ => ?_) (fun _ => ?_)
    · refine Ep_bd (rf_X8_wrong S (2 : Int32) hS) (fun q hq => ?_)
      refine Ep_lt (fun r61 er61 => ?_)
      refine Ep_lt (fun S_62 eS_62 => ?_)
      have hS_62 : rgF S0 S_62 := by rw [eS_62]; exact hq
      refine Ep_ck ?_
      exact Ep_some hS_62
    · refine Ep_lt (fun S_53 eS_53 => ?_)
      have hS_53 : rgF S0 S_53 := by rw [eS_53]; exact rgF_s hS (by omega)
      refine Ep_bd (rf_X8_waitsFor S_53 (0 : Int32) hS_53) (fun S_54 hS_54 => ?_)
      refine Ep_lt (fun S_57 eS_57 => ?_)
      have hS_57 : rgF S0 S_57 := by rw [eS_57]; exact rgF_s hS_54 (by omega)
      refine Ep_bd (rf_X8_token S_57 hS_57) (fun S_58 hS_58 => ?_)
      exact Ep_some hS_58
set_option maxHeartbeats 1000000 in
set_option maxRecDepth 100000 in
theorem rfJ_X8_sumRead_J48 {S0 : Tr} (k25 : Tr → Option (Int32 × Tr)) (S : Tr) (hS : rgF S0 S) (hk25 : ∀ (S : Tr), rgF S0 S → Ep (k25 S) (fun q => rgF S0 q.2))  : Ep (fJ_X8_sumRead_J48 k25 S) (fun q => rgF S0 q.2) := by
  unfold fJ_X8_sumRead_J48
  refine Ep_ite (fun _ => ?_) (fun _ => ?_)
  · refine Ep_bd (rf_X8_signs S hS) (fun q hq => ?_)
    refine Ep_lt (fun r11 er11 => ?_)
    refine Ep_lt (fun S_12 eS_12 => ?_)
    have hS_12 : rgF S0 S_12 := by rw [eS_12]; exact hq
    refine Ep_ite (fun _ => ?_) (fun _ => ?_)
    · exact Ep_some hS_12
    · exact hk25 S_12 hS_12
  · refine Ep_bd (rf_X8_leafRead S hS) (fun q hq => ?_)
    refine Ep_lt (fun r16 er16 => ?_)
    refine Ep_lt (fun S_17 eS_17 => ?_)
    have hS_17 : rgF S0 S_17 := by rw [eS_17]; exact hq
    refine Ep_ite (fun _ => ?_) (fun _ => ?_)
    · exact Ep_some hS_17
    · exact hk25 S_17 hS_17
set_option maxHeartbeats 1000000 in
set_option maxRecDepth 100000 in
theorem rfJ_X8_sumRead_J74 {S0 : Tr} (S : Tr) (hS : rgF S0 S)   : Ep (fJ_X8_sumRead_J74 S) (fun q => rgF S0 q.2) := by
  unfold fJ_X8_sumRead_J74
  refine Ep_bd (rf_X8_bind S (1 : Int32) hS) (fun S_23 hS_23 => ?_)
  exact Ep_some hS_23
set_option maxHeartbeats 1000000 in
set_option maxRecDepth 100000 in
theorem rfB_X8_sumRead_L25 {S0 : Tr}     (N : Nat) : ∀ (S : Tr), rgF S0 S → Ep (lpF (fun _ => none) (fB_X8_sumRead_L25) N S) (fun q => rgF S0 q.2) := by
  induction N with
  | zero => intro S _; exact Ep_none
  | succ N ih =>
    intro S hS
    show Ep (fB_X8_sumRead_L25 (lpF (fun _ => none) (fB_X8_sumRead_L25) N) S) _
    have hk25 := ih
    clear ih
    generalize lpF (fun _ => none) (fB_X8_sumRead_L25) N = k25 at hk25 ⊢
    unfold fB_X8_sumRead_L25
    refine Ep_any (fun r6 => ?_)
    refine Ep_ite (fun _ => ?_) (fun _ => ?_)
    · exact rfJ_X8_sumRead_J48 k25 S hS hk25
    · refine Ep_ite (fun _ => ?_) (fun _ => ?_)
      · refine Ep_ite (fun _ => ?_) (fun _ => ?_)
        · exact rfJ_X8_sumRead_J74 S hS
        · exact rfJ_X8_sumRead_J48 k25 S hS hk25
      · exact rfJ_X8_sumRead_J48 k25 S hS hk25
set_option maxHeartbeats 1000000 in
set_option maxRecDepth 100000 in
theorem rfL_X8_sumRead_L25 {S0 : Tr}     (S : Tr) (hS : rgF S0 S) : Ep (fL_X8_sumRead_L25 S) (fun q => rgF S0 q.2) := by
  unfold fL_X8_sumRead_L25
  exact rfB_X8_sumRead_L25 2000 S hS
set_option maxHeartbeats 1000000 in
set_option maxRecDepth 100000 in
theorem rf_X8_sumRead {S0 : Tr} (S : Tr) (hS : rgF S0 S)   : Ep (f_X8_sumRead S) (fun q => rgF S0 q.2) := by
  unfold f_X8_sumRead
  refine Ep_lt (fun S_1 eS_1 => ?_)
  have hS_1 : rgF S0 S_1 := by rw [eS_1]; exact rgF_s hS (by omega)
  refine Ep_lt (fun S_2 eS_2 => ?_)
  have hS_2 : rgF S0 S_2 := by rw [eS_2]; exact rgF_s hS_1 (by omega)
  refine Ep_lt (fun S_3 eS_3 => ?_)
  have hS_3 : rgF S0 S_3 := by rw [eS_3]; exact rgF_s hS_2 (by omega)
  refine Ep_lt (fun S_4 eS_4 => ?_)
  have hS_4 : rgF S0 S_4 := by rw [eS_4]; exact rgF_s hS_3 (by omega)
  refine Ep_lt (fun S_5 eS_5 => ?_)
  have hS_5 : rgF S0 S_5 := by rw [eS_5]; exact rgF_s hS_4 (by omega)
  exact rfL_X8_sumRead_L25 S_5 hS_5
set_option maxHeartbeats 1000000 in
set_option maxRecDepth 100000 in
theorem tfJ_X8_signToken_J192 {S0 : Tr} (s0 : Int32) (S : Tr) (hS : tkF S0 S)   : Ep (fJ_X8_signToken_J192 s0 S) (fun q => tkF S0 q) := by
  unfold fJ_X8_signToken_J192
  refine Ep_lt (fun S_14 eS_14 => ?_)
  have hS_14 : tkF S0 S_14 := by rw [eS_14]; exact tkF_s hS (by omega)
  exact Ep_some hS_14
set_option maxHeartbeats 1000000 in
set_option maxRecDepth 100000 in
theorem tfJ_X8_signToken_J135 {S0 : Tr} (x2 : Int32) (x3 : Int32) (S : Tr) (hS : tkF S0 S)   : Ep (fJ_X8_signToken_J135 x2 x3 S) (fun q => tkF S0 q) := by
  unfold fJ_X8_signToken_J135
  refine Ep_lt (fun S_10 eS_10 => ?_)
  have hS_10 : tkF S0 S_10 := by rw [eS_10]; exact tkF_s hS (by omega)
  refine Ep_ite (fun _ => ?_) (fun _ => ?_)
  · exact tfJ_X8_signToken_J192 2 S_10 hS_10
  · refine Ep_ite (fun _ => ?_) (fun _ => ?_)
    · refine Ep_ite (fun _ => ?_) (fun _ => ?_)
      · refine Ep_ite (fun _ => ?_) (fun _ => ?_)
        · exact tfJ_X8_signToken_J192 0 S_10 hS_10
        · exact tfJ_X8_signToken_J192 3 S_10 hS_10
      · exact tfJ_X8_signToken_J192 1 S_10 hS_10
    · refine Ep_ite (fun _ => ?_) (fun _ => ?_)
      · exact tfJ_X8_signToken_J192 5 S_10 hS_10
      · exact tfJ_X8_signToken_J192 4 S_10 hS_10
set_option maxHeartbeats 1000000 in
set_option maxRecDepth 100000 in
theorem tfJ_X8_signToken_J125 {S0 : Tr} (x2 : Int32) (x3 : Int32) (S : Tr) (hS : tkF S0 S)   : Ep (fJ_X8_signToken_J125 x2 x3 S) (fun q => tkF S0 q) := by
  unfold fJ_X8_signToken_J125
  refine Ep_lt (fun S_9 eS_9 => ?_)
  have hS_9 : tkF S0 S_9 := by rw [eS_9]; exact tkF_s hS (by omega)
  exact tfJ_X8_signToken_J135 x2 x3 S_9 hS_9
set_option maxHeartbeats 1000000 in
set_option maxRecDepth 100000 in
theorem tfJ_X8_signToken_J116 {S0 : Tr} (x2 : Int32) (s0 : Int32) (S : Tr) (hS : tkF S0 S)   : Ep (fJ_X8_signToken_J116 x2 s0 S) (fun q => tkF S0 q) := by
  unfold fJ_X8_signToken_J116
  refine Ep_ite (fun _ => ?_) (fun _ => ?_)
  · refine Ep_ite (fun _ => ?_) (fun _ => ?_)
    · exact tfJ_X8_signToken_J135 x2 s0 S hS
    · exact tfJ_X8_signToken_J125 x2 s0 S hS
  · exact tfJ_X8_signToken_J125 x2 s0 S hS
set_option maxHeartbeats 1000000 in
set_option maxRecDepth 100000 in
theorem tfJ_X8_signToken_J115 {S0 : Tr} (x2 : Int32) (S : Tr) (hS : tkF S0 S)   : Ep (fJ_X8_signToken_J115 x2 S) (fun q => tkF S0 q) := by
  unfold fJ_X8_signToken_J115
  exact tfJ_X8_signToken_J116 x2 0 S hS
set_option maxHeartbeats 1000000 in
set_option maxRecDepth 100000 in
theorem tfJ_X8_signToken_J95 {S0 : Tr} (x1 : Int32) (s0 : Int32) (S : Tr) (hS : tkF S0 S)   : Ep (fJ_X8_signToken_J95 x1 s0 S) (fun q => tkF S0 q) := by
  unfold fJ_X8_signToken_J95
  refine Ep_ite (fun _ => ?_) (fun _ => ?_)
  · refine Ep_ite (fun _ => ?_) (fun _ => ?_)
    · exact tfJ_X8_signToken_J116 s0 1 S hS
    · exact tfJ_X8_signToken_J115 s0 S hS
  · exact tfJ_X8_signToken_J115 s0 S hS
set_option maxHeartbeats 1000000 in
set_option maxRecDepth 100000 in
theorem tfJ_X8_signToken_J94 {S0 : Tr} (x1 : Int32) (S : Tr) (hS : tkF S0 S)   : Ep (fJ_X8_signToken_J94 x1 S) (fun q => tkF S0 q) := by
  unfold fJ_X8_signToken_J94
  exact tfJ_X8_signToken_J95 x1 0 S hS
set_option maxHeartbeats 1000000 in
set_option maxRecDepth 100000 in
theorem tfJ_X8_signToken_J74 {S0 : Tr} (s0 : Int32) (S : Tr) (hS : tkF S0 S)   : Ep (fJ_X8_signToken_J74 s0 S) (fun q => tkF S0 q) := by
  unfold fJ_X8_signToken_J74
  refine Ep_ite (fun _ => ?_) (fun _ => ?_)
  · exact tfJ_X8_signToken_J94 s0 S hS
  · refine Ep_ite (fun _ => ?_) (fun _ => ?_)
    · exact tfJ_X8_signToken_J95 s0 1 S hS
    · exact tfJ_X8_signToken_J94 s0 S hS
set_option maxHeartbeats 1000000 in
set_option maxRecDepth 100000 in
theorem tfJ_X8_signToken_J50 {S0 : Tr} (S : Tr) (hS : tkF S0 S)   : Ep (fJ_X8_signToken_J50 S) (fun q => tkF S0 q) := by
  unfold fJ_X8_signToken_J50
  refine Ep_ite (fun _ => ?_) (fun _ => ?_)
  · exact tfJ_X8_signToken_J74 0 S hS
  · refine Ep_ck ?_
    exact tfJ_X8_signToken_J74 (S 1 (S 0 7).toNatClampNeg) S hS
set_option maxHeartbeats 1000000 in
set_option maxRecDepth 100000 in
theorem tfJ_X8_signToken_J287 {S0 : Tr} (s0 : Int32) (S : Tr) (hS : tkF S0 S)   : Ep (fJ_X8_signToken_J287 s0 S) (fun q => tkF S0 q) := by
  unfold fJ_X8_signToken_J287
  refine Ep_lt (fun S_25 eS_25 => ?_)
  have hS_25 : tkF S0 S_25 := by rw [eS_25]; exact tkF_s hS (by omega)
  exact Ep_some hS_25
set_option maxHeartbeats 1000000 in
set_option maxRecDepth 100000 in
theorem tfJ_X8_signToken_J275 {S0 : Tr} (s0 : Int32) (S : Tr) (hS : tkF S0 S)   : Ep (fJ_X8_signToken_J275 s0 S) (fun q => tkF S0 q) := by
  unfold fJ_X8_signToken_J275
  refine Ep_ite (fun _ => ?_) (fun _ => ?_)
  · exact tfJ_X8_signToken_J287 6 S hS
  · exact tfJ_X8_signToken_J287 4 S hS
set_option maxHeartbeats 1000000 in
set_option maxRecDepth 100000 in
theorem tfJ_X8_signToken_J270 {S0 : Tr} (S : Tr) (hS : tkF S0 S)   : Ep (fJ_X8_signToken_J270 S) (fun q => tkF S0 q) := by
  unfold fJ_X8_signToken_J270
  exact tfJ_X8_signToken_J275 1 S hS
set_option maxHeartbeats 1000000 in
set_option maxRecDepth 100000 in
theorem tf_X8_signToken {S0 : Tr} (S : Tr) (hS : tkF S0 S)   : Ep (f_X8_signToken S) (fun q => tkF S0 q) := by
  unfold f_X8_signToken
  refine Ep_ck ?_
  refine Ep_lt (fun S_2 eS_2 => ?_)
  have hS_2 : tkF S0 S_2 := by rw [eS_2]; exact tkF_s hS (by omega)
  refine Ep_lt (fun S_3 eS_3 => ?_)
  have hS_3 : tkF S0 S_3 := by rw [eS_3]; exact tkF_s hS_2 (by omega)
  refine Ep_ite (fun _ => ?_) (fun _ => ?_)
  · exact tfJ_X8_signToken_J50 S_3 hS_3
  · refine Ep_ite (fun _ => ?_) (fun _ => ?_)
    · exact tfJ_X8_signToken_J50 S_3 hS_3
    · refine Ep_ite (fun _ => ?_) (fun _ => ?_)
      · exact tfJ_X8_signToken_J50 S_3 hS_3
      · refine Ep_ite (fun _ => ?_) (fun _ => ?_)
        · exact tfJ_X8_signToken_J270 S_3 hS_3
        · refine Ep_ite (fun _ => ?_) (fun _ => ?_)
          · exact tfJ_X8_signToken_J270 S_3 hS_3
          · refine Ep_ite (fun _ => ?_) (fun _ => ?_)
            · exact tfJ_X8_signToken_J270 S_3 hS_3
            · refine Ep_ite (fun _ => ?_) (fun _ => ?_)
              · exact tfJ_X8_signToken_J270 S_3 hS_3
              · refine Ep_ite (fun _ => ?_) (fun _ => ?_)
                · exact tfJ_X8_signToken_J270 S_3 hS_3
                · refine Ep_ite (fun _ => ?_) (fun _ => ?_)
                  · exact tfJ_X8_signToken_J270 S_3 hS_3
                  · refine Ep_ite (fun _ => ?_) (fun _ => ?_)
                    · exact tfJ_X8_signToken_J270 S_3 hS_3
                    · refine Ep_ite (fun _ => ?_) (fun _ => ?_)
                      · exact tfJ_X8_signToken_J270 S_3 hS_3
                      · exact tfJ_X8_signToken_J275 0 S_3 hS_3
set_option maxHeartbeats 1000000 in
set_option maxRecDepth 100000 in
theorem tfJ_X8_token_J261 {S0 : Tr} (k213 : Tr → Option (Tr)) (s0 : Int32) (S : Tr) (hS : tkF S0 S) (hk213 : ∀ (S : Tr), tkF S0 S → Ep (k213 S) (fun q => tkF S0 q))  : Ep (fJ_X8_token_J261 k213 s0 S) (fun q => tkF S0 q) := by
  unfold fJ_X8_token_J261
  refine Ep_lt (fun S_23 eS_23 => ?_)
  have hS_23 : tkF S0 S_23 := by rw [eS_23]; exact tkF_s hS (by omega)
  refine Ep_lt (fun S_24 eS_24 => ?_)
  have hS_24 : tkF S0 S_24 := by rw [eS_24]; exact tkF_s hS_23 (by omega)
  exact hk213 S_24 hS_24
set_option maxHeartbeats 1000000 in
set_option maxRecDepth 100000 in
theorem tfB_X8_token_L213 {S0 : Tr}     (N : Nat) : ∀ (S : Tr), tkF S0 S → Ep (lpF (fun _ => none) (fB_X8_token_L213) N S) (fun q => tkF S0 q) := by
  induction N with
  | zero => intro S _; exact Ep_none
  | succ N ih =>
    intro S hS
    show Ep (fB_X8_token_L213 (lpF (fun _ => none) (fB_X8_token_L213) N) S) _
    have hk213 := ih
    clear ih
    generalize lpF (fun _ => none) (fB_X8_token_L213) N = k213 at hk213 ⊢
    unfold fB_X8_token_L213
    refine Ep_any (fun r17 => ?_)
    refine Ep_ite (fun _ => ?_) (fun _ => ?_)
    · exact Ep_some hS
    · refine Ep_ite (fun _ => ?_) (fun _ => ?_)
      · refine Ep_ck ?_
        exact tfJ_X8_token_J261 k213 ((((10 : Int32) * (S 0 9)) + (S 1 (S 0 7).toNatClampNeg)) - 48) S hS hk213
      · exact tfJ_X8_token_J261 k213 (S 0 9) S hS hk213
set_option maxHeartbeats 1000000 in
set_option maxRecDepth 100000 in
theorem tfL_X8_token_L213 {S0 : Tr}     (S : Tr) (hS : tkF S0 S) : Ep (fL_X8_token_L213 S) (fun q => tkF S0 q) := by
  unfold fL_X8_token_L213
  exact tfB_X8_token_L213 2000 S hS
set_option maxHeartbeats 1000000 in
set_option maxRecDepth 100000 in
theorem tfJ_X8_token_J162 {S0 : Tr} (s0 : Int32) (S : Tr) (hS : tkF S0 S)   : Ep (fJ_X8_token_J162 s0 S) (fun q => tkF S0 q) := by
  unfold fJ_X8_token_J162
  refine Ep_lt (fun S_35 eS_35 => ?_)
  have hS_35 : tkF S0 S_35 := by rw [eS_35]; exact tkF_s hS (by omega)
  refine Ep_ite (fun _ => ?_) (fun _ => ?_)
  · refine Ep_any (fun r37 => ?_)
    refine Ep_lt (fun S_40 eS_40 => ?_)
    have hS_40 : tkF S0 S_40 := by rw [eS_40]; exact tkF_s hS_35 (by omega)
    exact Ep_some hS_40
  · exact Ep_some hS_35
set_option maxHeartbeats 1000000 in
set_option maxRecDepth 100000 in
theorem tfJ_X8_token_J114 {S0 : Tr} (S : Tr) (hS : tkF S0 S)   : Ep (fJ_X8_token_J114 S) (fun q => tkF S0 q) := by
  unfold fJ_X8_token_J114
  refine Ep_any (fun r29 => ?_)
  refine Ep_lt (fun S_32 eS_32 => ?_)
  have hS_32 : tkF S0 S_32 := by rw [eS_32]; exact tkF_s hS (by omega)
  refine Ep_ite (fun _ => ?_) (fun _ => ?_)
  · refine Ep_ite (fun _ => ?_) (fun _ => ?_)
    · exact tfJ_X8_token_J162 2 S_32 hS_32
    · exact tfJ_X8_token_J162 6 S_32 hS_32
  · exact tfJ_X8_token_J162 1 S_32 hS_32
set_option maxHeartbeats 1000000 in
set_option maxRecDepth 100000 in
theorem tfB_X8_token_L90 {S0 : Tr}     (N : Nat) : ∀ (S : Tr), tkF S0 S → Ep (lpF (fun _ => none) (fB_X8_token_L90) N S) (fun q => tkF S0 q) := by
  induction N with
  | zero => intro S _; exact Ep_none
  | succ N ih =>
    intro S hS
    show Ep (fB_X8_token_L90 (lpF (fun _ => none) (fB_X8_token_L90) N) S) _
    have hk90 := ih
    clear ih
    generalize lpF (fun _ => none) (fB_X8_token_L90) N = k90 at hk90 ⊢
    unfold fB_X8_token_L90
    refine Ep_any (fun r25 => ?_)
    refine Ep_ite (fun _ => ?_) (fun _ => ?_)
    · exact tfJ_X8_token_J114 S hS
    · refine Ep_lt (fun S_41 eS_41 => ?_)
      have hS_41 : tkF S0 S_41 := by rw [eS_41]; exact tkF_s hS (by omega)
      exact hk90 S_41 hS_41
set_option maxHeartbeats 1000000 in
set_option maxRecDepth 100000 in
theorem tfL_X8_token_L90 {S0 : Tr}     (S : Tr) (hS : tkF S0 S) : Ep (fL_X8_token_L90 S) (fun q => tkF S0 q) := by
  unfold fL_X8_token_L90
  exact tfB_X8_token_L90 2000 S hS
set_option maxHeartbeats 1000000 in
set_option maxRecDepth 100000 in
theorem tfJ_X8_token_J52 {S0 : Tr} (S : Tr) (hS : tkF S0 S)   : Ep (fJ_X8_token_J52 S) (fun q => tkF S0 q) := by
  unfold fJ_X8_token_J52
  refine Ep_lt (fun S_2 eS_2 => ?_)
  have hS_2 : tkF S0 S_2 := by rw [eS_2]; exact tkF_s hS (by omega)
  refine Ep_ite (fun _ => ?_) (fun _ => ?_)
  · refine Ep_lt (fun S_42 eS_42 => ?_)
    have hS_42 : tkF S0 S_42 := by rw [eS_42]; exact tkF_s hS_2 (by omega)
    exact Ep_some hS_42
  · refine Ep_any (fun r4 => ?_)
    refine Ep_ite (fun _ => ?_) (fun _ => ?_)
    · refine Ep_any (fun r8 => ?_)
      refine Ep_ite (fun _ => ?_) (fun _ => ?_)
      · refine Ep_bd (tf_X8_signToken S_2 hS_2) (fun S_12 hS_12 => ?_)
        exact Ep_some hS_12
      · refine Ep_lt (fun S_15 eS_15 => ?_)
        have hS_15 : tkF S0 S_15 := by rw [eS_15]; exact tkF_s hS_2 (by omega)
        refine Ep_lt (fun S_16 eS_16 => ?_)
        have hS_16 : tkF S0 S_16 := by rw [eS_16]; exact tkF_s hS_15 (by omega)
        exact tfL_X8_token_L213 S_16 hS_16
    · exact tfL_X8_token_L90 S_2 hS_2
set_option maxHeartbeats 1000000 in
set_option maxRecDepth 100000 in
theorem tfJ_X8_token_J39 {S0 : Tr} (k0 : Tr → Option (Tr)) (S : Tr) (hS : tkF S0 S) (hk0 : ∀ (S : Tr), tkF S0 S → Ep (k0 S) (fun q => tkF S0 q))  : Ep (fJ_X8_token_J39 k0 S) (fun q => tkF S0 q) := by
  unfold fJ_X8_token_J39
  refine Ep_lt (fun S_45 eS_45 => ?_)
  have hS_45 : tkF S0 S_45 := by rw [eS_45]; exact tkF_s hS (by omega)
  exact hk0 S_45 hS_45
set_option maxHeartbeats 1000000 in
set_option maxRecDepth 100000 in
theorem tfB_X8_token_L0 {S0 : Tr}     (N : Nat) : ∀ (S : Tr), tkF S0 S → Ep (lpF (fun _ => none) (fB_X8_token_L0) N S) (fun q => tkF S0 q) := by
  induction N with
  | zero => intro S _; exact Ep_none
  | succ N ih =>
    intro S hS
    show Ep (fB_X8_token_L0 (lpF (fun _ => none) (fB_X8_token_L0) N) S) _
    have hk0 := ih
    clear ih
    generalize lpF (fun _ => none) (fB_X8_token_L0) N = k0 at hk0 ⊢
    unfold fB_X8_token_L0
    refine Ep_ite (fun _ => ?_) (fun _ => ?_)
    · exact tfJ_X8_token_J52 S hS
    · refine Ep_ck ?_
      refine Ep_ite (fun _ => ?_) (fun _ => ?_)
      · exact tfJ_X8_token_J39 k0 S hS hk0
      · refine Ep_ite (fun _ => ?_) (fun _ => ?_)
        · exact tfJ_X8_token_J39 k0 S hS hk0
        · exact tfJ_X8_token_J52 S hS
set_option maxHeartbeats 1000000 in
set_option maxRecDepth 100000 in
theorem tfL_X8_token_L0 {S0 : Tr}     (S : Tr) (hS : tkF S0 S) : Ep (fL_X8_token_L0 S) (fun q => tkF S0 q) := by
  unfold fL_X8_token_L0
  exact tfB_X8_token_L0 2000 S hS
set_option maxHeartbeats 1000000 in
set_option maxRecDepth 100000 in
theorem tf_X8_token {S0 : Tr} (S : Tr) (hS : tkF S0 S)   : Ep (f_X8_token S) (fun q => tkF S0 q) := by
  unfold f_X8_token
  exact tfL_X8_token_L0 S hS
/-- a number in its range -/
theorem rg_num (S : Tr) (x1 x2 : Int32) : Ep (f_X8_number S x1 x2) (fun q => (q.1 = 0 ∨ (x1.toInt ≤ (q.2 0 11).toInt ∧ (q.2 0 11).toInt ≤ x2.toInt)) ∧ rgF S q.2) := by
  refine Ep_and ?_ (rf_X8_number S x1 x2 rgF_r)
  have wr : ∀ (S1 : Tr) (v : Int32), Ep (f_X8_wrong S1 v) (fun q => q.1 = 0) := fun S1 v => by
    unfold f_X8_wrong
    exact Ep_lt (fun _ _ => Ep_lt (fun _ _ => Ep_some rfl))
  unfold f_X8_number
  refine Ep_ite (fun _ => ?_) (fun _ => Ep_bd (wr S 1) (fun q hq => Ep_lt (fun r15 e15 => Ep_lt (fun S16 _ => Ep_ck (Ep_some (Or.inl (e15.trans hq)))))))
  have iq : Ep (f_X8_isIn (S 0 9) x1 x2) (fun r => r = 0 ∨ (x1.toInt ≤ (S 0 9).toInt ∧ (S 0 9).toInt ≤ x2.toInt)) := by
    unfold f_X8_isIn
    refine Ep_ite (fun _ => Ep_some (Or.inl rfl)) (fun c => Ep_ite (fun _ => Ep_some (Or.inl rfl)) (fun d => Ep_some (Or.inr ⟨?_, ?_⟩)))
    · exact tq_ltn (x := S 0 9) (y := x1) rfl rfl c
    · exact tq_ltn (x := x2) (y := S 0 9) rfl rfl d
  refine Ep_bd iq (fun r hr => Ep_ite (fun _ => Ep_bd (wr S 2) (fun q hq => Ep_lt (fun r10 e10 => Ep_lt (fun S11 _ => Ep_ck (Ep_some (Or.inl (e10.trans hq))))))) (fun n => Ep_lt (fun S6 e6 => Ep_bd (tf_X8_token S6 tkF_r) (fun S7 h7 => Ep_some (Or.inr ?_)))))
  have e : S7 0 11 = S 0 9 := by rw [h7 0 11 (by omega), e6, st_same]
  show x1.toInt ≤ (S7 0 11).toInt ∧ (S7 0 11).toInt ≤ x2.toInt
  rw [e]
  exact hr.resolve_left n
/-- the ranges of what has been read -/
def rg (S : Tr) : Prop := ((0 ≤ (S 0 16).toInt ∧ (S 0 16).toInt ≤ 5) ∧ (0 ≤ (S 0 17).toInt ∧ (S 0 17).toInt ≤ 6) ∧ (0 ≤ (S 0 18).toInt ∧ (S 0 18).toInt ≤ 10)) ∧ (∀ p : Nat, (p : Int) < (S 0 16).toInt → 0 ≤ (S 24 (5 + p)).toInt) ∧ (∀ p : Nat, (p : Int) < (S 0 17).toInt → 0 ≤ (S 27 (6 + p)).toInt ∧ (S 27 (6 + p)).toInt ≤ 19) ∧ (∀ i : Nat, (i : Int) < (S 0 18).toInt → 1 ≤ (S 31 (10 + i)).toInt ∧ (S 31 (10 + i)).toInt ≤ 99 ∧ (S 33 (10 + i)).toInt < (S 0 16).toInt) ∧ 0 ≤ (S 23 3).toInt ∧ (S 23 3).toInt ≤ 2 ∧ 0 ≤ (S 23 5).toInt
theorem rg_f {S S1 : Tr} (h : rg S) (f : rgF S S1) : rg S1 := by
  obtain ⟨h1, h2, h3, h4, h5⟩ := h
  have e16 := f 0 16 (by omega)
  have e17 := f 0 17 (by omega)
  have e18 := f 0 18 (by omega)
  unfold rg
  rw [e16, e17, e18, f 23 3 (by omega), f 23 5 (by omega)]
  exact ⟨h1, fun p hp => by rw [f 24 _ (by omega)]; exact h2 p hp, fun p hp => by rw [f 27 _ (by omega)]; exact h3 p hp, fun i hi => by rw [f 31 _ (by omega), f 33 _ (by omega)]; exact h4 i hi, h5⟩
theorem rgF_t {S T U : Tr} (h1 : rgF S T) (h2 : rgF T U) : rgF S U := fun a j h => (h2 a j h).trans (h1 a j h)
theorem rg_wr (S1 : Tr) (v : Int32) : Ep (f_X8_wrong S1 v) (fun q => q.1 = 0) := by
  unfold f_X8_wrong
  exact Ep_lt (fun _ _ => Ep_lt (fun _ _ => Ep_some rfl))
theorem rg_pl {S : Tr} (h : rg S) : Ep (f_X8_placeLine S) (fun q => q.1 = 0 ∨ rg q.2) := by
  obtain ⟨n, hn⟩ : ∃ n : Nat, (S 0 16).toInt = n := ⟨(S 0 16).toInt.toNat, by have := h.1.1; omega⟩
  have b := h.1
  have j44 : ∀ S1 : Tr, Ep (fJ_X8_placeLine_J44 S1) (fun q => q.1 = 0 ∨ rg q.2) := fun S1 => by
    unfold fJ_X8_placeLine_J44
    exact Ep_bd (rg_wr S1 1) (fun q hq => Ep_lt (fun r e => Ep_lt (fun _ _ => Ep_ck (Ep_some (Or.inl (e.trans hq))))))
  unfold f_X8_placeLine
  refine Ep_ite (fun _ => Ep_bd (rg_wr S 2) (fun q hq => Ep_lt (fun r e => Ep_lt (fun _ _ => Ep_ck (Ep_some (Or.inl (e.trans hq))))))) (fun c => ?_)
  have n5 : n < 5 := by
    by_cases g : n = 5
    · exact absurd (Int32.toInt_inj.mp (by rw [hn, g]; decide)) c
    · omega
  refine Ep_bd (rf_X8_token S rgF_r) (fun S2 f2 => Ep_ite (fun _ => Ep_ite (fun _ => j44 S2) (fun d => Ep_ite (fun d2 => Ep_ck (Ep_lt (fun S14 e14 => ?_))) (fun _ => j44 S2))) (fun _ => j44 S2))
  have d := tq_ltn (x := S2 0 9) (y := 8) (b := 8) rfl (by decide) d
  have d2 := tq_le (x := S2 0 9) (y := 12) (b := 12) rfl (by decide) d2
  have n2 : (S2 0 16).toInt = n := by rw [f2 0 16 (by omega)]; exact hn
  rw [jh (by decide : (5 : Int32).toInt = ((5 : Nat) : Int)) n2 (by omega)] at e14
  have v : (S2 0 9 - 8).toInt = (S2 0 9).toInt - 8 := i_subK rfl (by decide) (by omega) (by omega)
  refine Ep_bd (rf_X8_token S14 rgF_r) (fun S15 f15 => Ep_bd (rg_num S15 0 999) (fun q hq => Ep_lt (fun r18 e18 => Ep_lt (fun S19 e19 => Ep_ite (fun c => Ep_some (Or.inl rfl)) (fun _ => Ep_ck (Ep_lt (fun S24 e24 => Ep_lt (fun S25 e25 => Ep_some (Or.inr ?_)))))))))
  have f19 : rgF S14 S19 := by rw [e19]; exact rgF_t f15 hq.2
  have g : ∀ a j, ((a = 0 ∧ 17 ≤ j ∧ j ≤ 18) ∨ a = 23 ∨ (a = 24 ∧ ¬ j = 5 + n) ∨ a = 27 ∨ a = 31 ∨ a = 33) → S25 a j = S a j := fun a j hc => by rw [e25, st_no (by omega), e24, st_no (by omega), f19 a j (by omega), e14, st_no (by omega), f2 a j (by omega)]
  have g16 : S25 0 16 = S2 0 16 + 1 := by rw [e25, st_same, e24, st_oth (by decide), f19 0 16 (by omega), e14, st_oth (by decide)]
  have m16 : (S25 0 16).toInt = (n : Int) + 1 := by rw [g16]; exact i_addK n2 (by decide) (by omega) (by omega)
  have g24 : S25 24 (5 + n) = S2 0 9 - 8 := by rw [e25, st_oth (by decide), e24, st_oth (by decide), f19 24 _ (by omega), e14, st_same]
  obtain ⟨h1, h2, h3, h4, h5⟩ := h
  show rg S25
  unfold rg
  rw [m16, g 0 17 (by omega), g 0 18 (by omega), g 23 3 (by omega), g 23 5 (by omega)]
  refine ⟨⟨by omega, h1.2.1, h1.2.2⟩, fun p hp => ?_, fun p hp => by rw [g 27 _ (by omega)]; exact h3 p hp, fun i hi => ?_, h5⟩
  · by_cases e : p = n
    · subst e; rw [g24, v]; omega
    · rw [g 24 _ (by omega)]; exact h2 p (by omega)
  · rw [g 31 _ (by omega), g 33 _ (by omega)]
    have := h4 i hi
    omega
theorem rg_pe {S : Tr} (h : rg S) : Ep (f_X8_personLine S) (fun q => q.1 = 0 ∨ rg q.2) := by
  obtain ⟨n, hn⟩ : ∃ n : Nat, (S 0 17).toInt = n := ⟨(S 0 17).toInt.toNat, by have := h.1.2.1; omega⟩
  have b := h.1
  have bad : ∀ (S1 : Tr) (v : Int32), Ep (bd (f_X8_wrong S1 v) fun q => lt q.1 fun r45 => lt q.2 fun S_46 => ck (okB r45) (some (r45, S_46))) (fun q => q.1 = 0 ∨ rg q.2) := fun S1 v => Ep_bd (rg_wr S1 v) (fun q hq => Ep_lt (fun r e => Ep_lt (fun _ _ => Ep_ck (Ep_some (Or.inl (e.trans hq))))))
  unfold f_X8_personLine
  refine Ep_ite (fun _ => bad S 2) (fun c => ?_)
  have n6 : n < 6 := by
    by_cases g : n = 6
    · exact absurd (Int32.toInt_inj.mp (by rw [hn, g]; decide)) c
    · omega
  refine Ep_bd (rf_X8_token S rgF_r) (fun S2 f2 => Ep_ite (fun _ => Ep_any (fun r6 => Ep_ite (fun _ => Ep_lt (fun y10 ey => Ep_ck (Ep_lt (fun S12 e12 => ?_)))) (fun _ => bad S2 3))) (fun _ => bad S2 1))
  have n2 : (S2 0 17).toInt = n := by rw [f2 0 17 (by omega)]; exact hn
  have y : y10.toNatClampNeg = 6 + n := by rw [ey]; exact jh (by decide) n2 (by omega)
  rw [y] at e12 ⊢
  refine Ep_bd (rf_X8_token S12 rgF_r) (fun S13 f13 => Ep_bd (rg_num S13 0 19) (fun q hq => Ep_lt (fun r16 e16 => Ep_lt (fun S17 e17 => Ep_ite (fun c => Ep_some (Or.inl rfl)) (fun c => Ep_lt (fun S21 e21 => ?_))))))
  have q1 := hq.1.resolve_left (fun e => c (e16.trans e))
  rw [← e17, show (0 : Int32).toInt = 0 by decide, show (19 : Int32).toInt = 19 by decide] at q1
  have f17 : rgF S12 S17 := by rw [e17]; exact rgF_t f13 hq.2
  refine Ep_bd (rg_num S21 _ 20) (fun q hq => Ep_lt (fun r22 e22 => Ep_lt (fun S23 e23 => Ep_ite (fun c => Ep_some (Or.inl rfl)) (fun c => Ep_lt (fun S27 e27 => ?_)))))
  have f23 : rgF S21 S23 := by rw [e23]; exact hq.2
  refine Ep_bd (rg_num S27 1 99) (fun q hq => Ep_lt (fun r28 e28 => Ep_lt (fun S29 e29 => Ep_ite (fun c => Ep_some (Or.inl rfl)) (fun c => Ep_lt (fun S33 e33 => Ep_lt (fun S34 e34 => Ep_some (Or.inr ?_)))))))
  have f29 : rgF S27 S29 := by rw [e29]; exact hq.2
  have g : ∀ a j, ((a = 0 ∧ (j = 16 ∨ j = 18)) ∨ a = 23 ∨ a = 24 ∨ (a = 27 ∧ ¬ j = 6 + n) ∨ a = 31 ∨ a = 33) → S34 a j = S a j := fun a j hc => by rw [e34, st_no (by omega), e33, st_no (by omega), f29 a j (by omega), e27, st_no (by omega), f23 a j (by omega), e21, st_no (by omega), f17 a j (by omega), e12, st_no (by omega), f2 a j (by omega)]
  have g17 : S34 0 17 = S2 0 17 + 1 := by rw [e34, st_same, e33, st_oth (by decide), f29 0 17 (by omega), e27, st_oth (by decide), f23 0 17 (by omega), e21, st_oth (by decide), f17 0 17 (by omega), e12, st_oth (by decide)]
  have m17 : (S34 0 17).toInt = (n : Int) + 1 := by rw [g17]; exact i_addK n2 (by decide) (by omega) (by omega)
  have g27 : S34 27 (6 + n) = S17 0 11 := by rw [e34, st_oth (by decide), e33, st_oth (by decide), f29 27 _ (by omega), e27, st_oth (by decide), f23 27 _ (by omega), e21, st_same]
  obtain ⟨h1, h2, h3, h4, h5⟩ := h
  show rg S34
  unfold rg
  rw [m17, g 0 16 (by omega), g 0 18 (by omega), g 23 3 (by omega), g 23 5 (by omega)]
  refine ⟨⟨h1.1, by omega, h1.2.2⟩, fun p hp => by rw [g 24 _ (by omega)]; exact h2 p hp, fun p hp => ?_, fun i hi => by rw [g 31 _ (by omega), g 33 _ (by omega)]; exact h4 i hi, h5⟩
  by_cases e : p = n
  · subst e; rw [g27]; exact q1
  · rw [g 27 _ (by omega)]; exact h3 p (by omega)
theorem rg_pi {S : Tr} (h : rg S) : Ep (f_X8_pieceLine S) (fun q => q.1 = 0 ∨ rg q.2) := by
  obtain ⟨n, hn⟩ : ∃ n : Nat, (S 0 18).toInt = n := ⟨(S 0 18).toInt.toNat, by have := h.1.2.2; omega⟩
  have b := h.1
  have bad : ∀ (S1 : Tr) (v : Int32), Ep (bd (f_X8_wrong S1 v) fun q => lt q.1 fun r45 => lt q.2 fun S_46 => ck (okB r45) (some (r45, S_46))) (fun q => q.1 = 0 ∨ rg q.2) := fun S1 v => Ep_bd (rg_wr S1 v) (fun q hq => Ep_lt (fun r e => Ep_lt (fun _ _ => Ep_ck (Ep_some (Or.inl (e.trans hq))))))
  unfold f_X8_pieceLine
  refine Ep_ite (fun _ => bad S 2) (fun c => ?_)
  have n10 : n < 10 := by
    by_cases g : n = 10
    · exact absurd (Int32.toInt_inj.mp (by rw [hn, g]; decide)) c
    · omega
  refine Ep_bd (rf_X8_token S rgF_r) (fun S2 f2 => Ep_ite (fun _ => Ep_any (fun r6 => Ep_ite (fun _ => Ep_lt (fun y10 ey => Ep_ck (Ep_lt (fun S12 e12 => ?_)))) (fun _ => bad S2 4))) (fun _ => bad S2 1))
  have n2 : (S2 0 18).toInt = n := by rw [f2 0 18 (by omega)]; exact hn
  have y : y10.toNatClampNeg = 10 + n := by rw [ey]; exact jh (by decide) n2 (by omega)
  rw [y] at e12 ⊢
  refine Ep_bd (rf_X8_token S12 rgF_r) (fun S13 f13 => Ep_bd (rg_num S13 1 99) (fun q hq => Ep_lt (fun r16 e16 => Ep_lt (fun S17 e17 => Ep_ite (fun c => Ep_some (Or.inl rfl)) (fun c => Ep_lt (fun S21 e21 => ?_))))))
  have q1 := hq.1.resolve_left (fun e => c (e16.trans e))
  rw [← e17, show (1 : Int32).toInt = 1 by decide, show (99 : Int32).toInt = 99 by decide] at q1
  have f17 : rgF S12 S17 := by rw [e17]; exact rgF_t f13 hq.2
  refine Ep_bd (rg_num S21 0 9) (fun q hq => Ep_lt (fun r22 e22 => Ep_lt (fun S23 e23 => Ep_ite (fun c => Ep_some (Or.inl rfl)) (fun c => Ep_lt (fun S27 e27 => Ep_lt (fun S28 e28 => ?_))))))
  have f23 : rgF S21 S23 := by rw [e23]; exact hq.2
  obtain ⟨h1, h2, h3, h4, h5⟩ := h
  have g28 : ∀ a j, ((a = 0 ∧ 16 ≤ j ∧ j ≤ 18) ∨ a = 23 ∨ a = 24 ∨ a = 27 ∨ (a = 31 ∧ ¬ j = 10 + n) ∨ (a = 33 ∧ ¬ j = 10 + n)) → S28 a j = S a j := fun a j hc => by rw [e28, st_no (by omega), e27, st_no (by omega), f23 a j (by omega), e21, st_no (by omega), f17 a j (by omega), e12, st_no (by omega), f2 a j (by omega)]
  have g31 : S28 31 (10 + n) = S17 0 11 := by rw [e28, st_oth (by decide), e27, st_oth (by decide), f23 31 _ (by omega), e21, st_same]
  have fin : ∀ S29 : Tr, (∀ a j, ((a = 0 ∧ 16 ≤ j ∧ j ≤ 18) ∨ a = 23 ∨ a = 24 ∨ a = 27 ∨ a = 31 ∨ (a = 33 ∧ ¬ j = 10 + n)) → S29 a j = S28 a j) → (S29 33 (10 + n)).toInt < (S 0 16).toInt → Ep (fJ_X8_pieceLine_J170 S29) (fun q => q.1 = 0 ∨ rg q.2) := fun S29 f29 w => by
    unfold fJ_X8_pieceLine_J170
    refine Ep_lt (fun S30 e30 => Ep_some (Or.inr ?_))
    have g : ∀ a j, ((a = 0 ∧ 16 ≤ j ∧ j ≤ 17) ∨ a = 23 ∨ a = 24 ∨ a = 27 ∨ (a = 31 ∧ ¬ j = 10 + n) ∨ (a = 33 ∧ ¬ j = 10 + n)) → S30 a j = S a j := fun a j hc => by rw [e30, st_no (by omega), f29 a j (by omega), g28 a j (by omega)]
    have m18 : (S30 0 18).toInt = (n : Int) + 1 := by
      rw [e30, st_same, f29 0 18 (by omega), g28 0 18 (by omega)]
      exact i_addK hn (by decide) (by omega) (by omega)
    show rg S30
    unfold rg
    rw [m18, g 0 16 (by omega), g 0 17 (by omega), g 23 3 (by omega), g 23 5 (by omega)]
    refine ⟨⟨h1.1, h1.2.1, by omega⟩, fun p hp => by rw [g 24 _ (by omega)]; exact h2 p hp, fun p hp => by rw [g 27 _ (by omega)]; exact h3 p hp, fun i hi => ?_, h5⟩
    by_cases e : i = n
    · subst e
      rw [e30, st_oth (by decide), st_oth (by decide), f29 31 _ (by omega), g31]
      exact ⟨q1.1, q1.2, w⟩
    · rw [g 31 _ (by omega), g 33 _ (by omega)]; exact h4 i (by omega)
  refine Ep_ite (fun _ => Ep_ite (fun d => Ep_lt (fun S32 e32 => Ep_bd (rf_X8_token S32 rgF_r) (fun S33 f33 => fin S33 (fun a j hc => by rw [f33 a j (by omega), e32, st_no (by omega)]) ?_))) (fun _ => bad S28 4)) (fun _ => fin S28 (fun _ _ _ => rfl) ?_)
  · have d := Int32.lt_iff_toInt_lt.mp d
    rw [g28 0 16 (by omega)] at d
    rw [f33 33 _ (by omega), e32, st_same]
    exact d
  · rw [e28, st_same, show (-1 : Int32).toInt = -1 by decide]
    omega
theorem rg_343 {S : Tr} {r : Int32} (h : r = 0 ∨ rg S) : Ep (fJ_X8_lineRead_J343 r S) (fun q => q.1 = 0 ∨ rg q.2) := by
  unfold fJ_X8_lineRead_J343
  refine Ep_ite (fun _ => Ep_some (Or.inl rfl)) (fun n => Ep_any (fun r15 => Ep_ite (fun _ => Ep_bd (rg_wr S 1) (fun q hq => Ep_lt (fun r e => Ep_lt (fun _ _ => Ep_ck (Ep_some (Or.inl (e.trans hq))))))) (fun _ => Ep_bd (rf_X8_token S rgF_r) (fun S19 f19 => Ep_some (Or.inr (rg_f (h.resolve_left n) f19))))))
theorem rg_line {S : Tr} (h : rg S) : Ep (f_X8_lineRead S) (fun q => q.1 = 0 ∨ rg q.2) := by
  have bad : ∀ (S1 : Tr) (v : Int32), Ep (bd (f_X8_wrong S1 v) fun q => lt q.1 fun r45 => lt q.2 fun S_46 => ck (okB r45) (some (r45, S_46))) (fun q => q.1 = 0 ∨ rg q.2) := fun S1 v => Ep_bd (rg_wr S1 v) (fun q hq => Ep_lt (fun r e => Ep_lt (fun _ _ => Ep_ck (Ep_some (Or.inl (e.trans hq))))))
  have j17 : ∀ S1 : Tr, Ep (fJ_X8_lineRead_J17 S1) (fun q => q.1 = 0 ∨ rg q.2) := fun S1 => by unfold fJ_X8_lineRead_J17; exact bad S1 1
  have j136 : ∀ S1 : Tr, Ep (fJ_X8_lineRead_J136 S1) (fun q => q.1 = 0 ∨ rg q.2) := fun S1 => by unfold fJ_X8_lineRead_J136; exact bad S1 1
  have j276 : ∀ S1 : Tr, Ep (fJ_X8_lineRead_J276 S1) (fun q => q.1 = 0 ∨ rg q.2) := fun S1 => by unfold fJ_X8_lineRead_J276; exact bad S1 1
  have j187 : ∀ (s0 : Int32) (S1 : Tr), (s0 = 0 ∨ rg S1) → Ep (fJ_X8_lineRead_J187 s0 S1) (fun q => q.1 = 0 ∨ rg q.2) := fun s0 S1 hr => by
    unfold fJ_X8_lineRead_J187
    refine Ep_ite (fun _ => rg_343 hr) (fun n => Ep_lt (fun S67 e67 => rg_343 (Or.inr ?_)))
    have z : ∀ a j, ¬ (a = 23 ∧ j = 4) → S67 a j = S1 a j := fun a j n => by rw [e67, st_no n]
    obtain ⟨h1, h2, h3, h4, h5⟩ := hr.resolve_left n
    unfold rg
    rw [z 0 16 (by omega), z 0 17 (by omega), z 0 18 (by omega), z 23 3 (by omega), z 23 5 (by omega)]
    exact ⟨h1, fun p hp => by rw [z 24 _ (by omega)]; exact h2 p hp, fun p hp => by rw [z 27 _ (by omega)]; exact h3 p hp, fun i hi => by rw [z 31 _ (by omega), z 33 _ (by omega)]; exact h4 i hi, h5⟩
  have j228 : ∀ (s0 : Int32) (S1 : Tr), (s0 = 0 ∨ (rg S1 ∧ 0 ≤ (S1 0 11).toInt)) → Ep (fJ_X8_lineRead_J228 s0 S1) (fun q => q.1 = 0 ∨ rg q.2) := fun s0 S1 hr => by
    unfold fJ_X8_lineRead_J228
    refine Ep_ite (fun c => rg_343 (Or.inl c)) (fun n => Ep_lt (fun S67 e67 => rg_343 (Or.inr ?_)))
    have z : ∀ a j, ¬ (a = 23 ∧ j = 5) → S67 a j = S1 a j := fun a j n => by rw [e67, st_no n]
    have z5 : S67 23 5 = S1 0 11 := by rw [e67, st_same]
    obtain ⟨⟨h1, h2, h3, h4, h5⟩, h6⟩ := hr.resolve_left n
    unfold rg
    rw [z 0 16 (by omega), z 0 17 (by omega), z 0 18 (by omega), z 23 3 (by omega), z5]
    exact ⟨h1, fun p hp => by rw [z 24 _ (by omega)]; exact h2 p hp, fun p hp => by rw [z 27 _ (by omega)]; exact h3 p hp, fun i hi => by rw [z 31 _ (by omega), z 33 _ (by omega)]; exact h4 i hi, h5.1, h5.2.1, h6⟩
  unfold f_X8_lineRead
  refine Ep_ite (fun _ => Ep_ite (fun _ => Ep_lt (fun y8 _ => ?_)) (fun _ => j17 S)) (fun _ => j17 S)
  refine Ep_ite (fun _ => Ep_bd (rg_pl h) (fun q hq => Ep_lt (fun r e => Ep_lt (fun S1 e1 => rg_343 (by rw [e, e1]; exact hq))))) (fun _ => ?_)
  refine Ep_ite (fun _ => Ep_bd (rg_pe h) (fun q hq => Ep_lt (fun r e => Ep_lt (fun S1 e1 => rg_343 (by rw [e, e1]; exact hq))))) (fun _ => ?_)
  refine Ep_ite (fun _ => Ep_bd (rg_pi h) (fun q hq => Ep_lt (fun r e => Ep_lt (fun S1 e1 => rg_343 (by rw [e, e1]; exact hq))))) (fun _ => ?_)
  refine Ep_ite (fun _ => Ep_bd (rf_X8_waitLine S rgF_r) (fun q hq => Ep_lt (fun r e => Ep_lt (fun S1 e1 => rg_343 (Or.inr (by rw [e1]; exact rg_f h hq)))))) (fun _ => ?_)
  refine Ep_ite (fun _ => Ep_bd (rf_X8_isOnce S 0 rgF_r) (fun q hq => Ep_lt (fun r _ => Ep_lt (fun S44 e44 => Ep_ite (fun _ => Ep_some (Or.inl rfl)) (fun _ => Ep_ite (fun _ => Ep_ite (fun _ => j136 S44) (fun d => Ep_ite (fun d2 => Ep_lt (fun S56 e56 => Ep_bd (rf_X8_token S56 rgF_r) (fun S57 f57 => rg_343 (Or.inr (rg_f ?_ f57))))) (fun _ => j136 S44))) (fun _ => j136 S44)))))) (fun _ => ?_)
  · have d := tq_ltn (x := S44 0 9) (y := 13) (b := 13) rfl (by decide) d
    have d2 := tq_le (x := S44 0 9) (y := 15) (b := 15) rfl (by decide) d2
    have v : (S44 0 9 - 13).toInt = (S44 0 9).toInt - 13 := i_subK rfl (by decide) (by omega) (by omega)
    have h44 : rg S44 := by rw [e44]; exact rg_f h hq
    obtain ⟨h1, h2, h3, h4, h5⟩ := h44
    have z : ∀ a j, ¬ (a = 23 ∧ j = 3) → S56 a j = S44 a j := fun a j n => by rw [e56, st_no n]
    have z3 : (S56 23 3).toInt = (S44 0 9).toInt - 13 := by rw [e56, st_same]; exact v
    unfold rg
    rw [z 0 16 (by omega), z 0 17 (by omega), z 0 18 (by omega), z3, z 23 5 (by omega)]
    exact ⟨h1, fun p hp => by rw [z 24 _ (by omega)]; exact h2 p hp, fun p hp => by rw [z 27 _ (by omega)]; exact h3 p hp, fun i hi => by rw [z 31 _ (by omega), z 33 _ (by omega)]; exact h4 i hi, by omega, by omega, h5.2.2⟩
  refine Ep_ite (fun _ => Ep_bd (rf_X8_isOnce S 1 rgF_r) (fun q hq => Ep_lt (fun r _ => Ep_lt (fun S62 e62 => Ep_ite (fun _ => ?_) (fun _ => Ep_bd (rf_X8_number S62 0 99 rgF_r) (fun q2 hq2 => Ep_lt (fun r68 _ => Ep_lt (fun S69 e69 => Ep_ite (fun _ => ?_) (fun _ => j187 1 S69 (Or.inr (by rw [e69]; exact rg_f (by rw [e62]; exact rg_f h hq) hq2))))))))))) (fun _ => ?_)
  · unfold fJ_X8_lineRead_J186; exact j187 0 S62 (Or.inl rfl)
  · unfold fJ_X8_lineRead_J186; exact j187 0 S69 (Or.inl rfl)
  refine Ep_ite (fun _ => Ep_bd (rf_X8_isOnce S 2 rgF_r) (fun q hq => Ep_lt (fun r _ => Ep_lt (fun S62 e62 => Ep_ite (fun _ => ?_) (fun _ => Ep_bd (rg_num S62 0 99999) (fun q2 hq2 => Ep_lt (fun r68 e68 => Ep_lt (fun S69 e69 => Ep_ite (fun _ => ?_) (fun n68 => j228 1 S69 (Or.inr ⟨by rw [e69]; exact rg_f (by rw [e62]; exact rg_f h hq) hq2.2, by rw [e69]; exact (hq2.1.resolve_left (fun e => n68 (e68.trans e))).1⟩)))))))))) (fun _ => ?_)
  · unfold fJ_X8_lineRead_J227; exact j228 0 S62 (Or.inl rfl)
  · unfold fJ_X8_lineRead_J227; exact j228 0 S69 (Or.inl rfl)
  refine Ep_bd (rf_X8_token S rgF_r) (fun S86 f86 => Ep_ite (fun _ => Ep_ite (fun _ => j276 S86) (fun _ => Ep_ite (fun _ => Ep_lt (fun y97 _ => Ep_ck (Ep_ite (fun _ => Ep_lt (fun S100 e100 => Ep_bd (rf_X8_token S100 rgF_r) (fun S101 f101 => Ep_lt (fun S104 e104 => Ep_bd (rf_X8_sumRead S104 rgF_r) (fun q hq => Ep_lt (fun r105 _ => Ep_lt (fun S106 e106 => Ep_lt (fun S109 e109 => rg_343 (Or.inr ?_))))))))) (fun _ => bad S86 3)))) (fun _ => j276 S86))) (fun _ => j276 S86))
  refine rg_f h ?_
  have a1 : rgF S S100 := by rw [e100]; exact rgF_s f86 (by omega)
  have a2 : rgF S S104 := by rw [e104]; exact rgF_s (rgF_t a1 f101) (by omega)
  rw [e109, e106]
  exact rgF_s (rgF_t a2 hq) (by omega)
/-- the ranges of what is kept of a text -/
def rgK (S : Tr) : Prop := (∀ p : Nat, (p : Int) < (S 0 12).toInt → 0 ≤ (S 24 p).toInt) ∧ (∀ p : Nat, (p : Int) < (S 0 13).toInt → 0 ≤ (S 27 p).toInt ∧ (S 27 p).toInt ≤ 19) ∧ (∀ i : Nat, (i : Int) < (S 0 14).toInt → 1 ≤ (S 31 i).toInt ∧ (S 31 i).toInt ≤ 99 ∧ (S 33 i).toInt < (S 0 12).toInt) ∧ 0 ≤ (S 23 0).toInt ∧ (S 23 0).toInt ≤ 2 ∧ 0 ≤ (S 23 2).toInt
theorem rgK_of {T S1 : Tr} (h : rg T) (k : KT T S1) : rgK S1 := by
  obtain ⟨h1, h2, h3, h4, h5⟩ := h
  obtain ⟨k0, k23, k24, _, _, k27, _, _, _, k31, _, k33, _⟩ := k
  have z12 : S1 0 12 = T 0 16 := k0 12 (by decide) (by decide)
  have z13 : S1 0 13 = T 0 17 := k0 13 (by decide) (by decide)
  have z14 : S1 0 14 = T 0 18 := k0 14 (by decide) (by decide)
  unfold rgK
  rw [z12, z13, z14, k23 0 (by decide), k23 2 (by decide)]
  exact ⟨fun p hp => by rw [k24 p (by omega)]; exact h2 p hp, fun p hp => by rw [k27 p (by omega)]; exact h3 p hp, fun i hi => by rw [k31 i (by omega), k33 i (by omega)]; exact h4 i hi, h5⟩
theorem rg_text (S : Tr) (L : Lo) (x1 : Int32) : Ep (f_X8_text S L x1) (fun q => 0 ≤ q.1.toInt → rgK q.2.1) := by
  have lp : ∀ (N : Nat) (x2 : Int32) (S1 : Tr), rg S1 → Ep (lpF (fun _ _ => none) (fB_X8_text_L55 L) N x2 S1) (fun q => 0 ≤ q.1.toInt → rgK q.2.1) := by
    intro N
    induction N with
    | zero => intro x2 S1 _; exact Ep_none
    | succ N ih =>
      intro x2 S1 h
      show Ep (fB_X8_text_L55 L (lpF (fun _ _ => none) (fB_X8_text_L55 L) N) x2 S1) _
      generalize lpF (fun _ _ => none) (fB_X8_text_L55 L) N = k at ih ⊢
      unfold fB_X8_text_L55
      refine Ep_ite (fun _ => ?_) (fun _ => Ep_bd (rg_line h) (fun q hq => Ep_lt (fun r20 e20 => Ep_lt (fun S21 e21 => Ep_ite (fun _ => Ep_some (fun g => absurd (show (0 : Int) ≤ (-1 : Int32).toInt from g) (by decide))) (fun n => Ep_lt (fun y _ => ih y S21 (by rw [e21]; exact hq.resolve_left (fun e => n (e20.trans e)))))))))
      unfold fJ_X8_text_J77
      exact Ep_bd (k_keepText S1 L) (fun q hq => Ep_lt (fun S16 e16 => Ep_lt (fun L17 _ => Ep_some (fun _ => by show rgK S16; rw [e16]; exact rgK_of h hq))))
  unfold f_X8_text
  refine Ep_lt (fun S1 e1 => Ep_ite (fun _ => Ep_some (fun g => absurd (show (0 : Int) ≤ (-2 : Int32).toInt from g) (by decide))) (fun _ => Ep_ite (fun _ => Ep_lt (fun S4 e4 => Ep_lt (fun S5 e5 => Ep_lt (fun S6 e6 => Ep_lt (fun S7 e7 => Ep_lt (fun S8 e8 => Ep_bd (e_plain S8) (fun S9 h9 => Ep_bd (rf_X8_token S9 rgF_r) (fun S12 f12 => ?_)))))))) (fun _ => Ep_some (fun g => absurd (show (0 : Int) ≤ (-2 : Int32).toInt from g) (by decide)))))
  unfold fL_X8_text_L55
  refine lp 2000 0 S12 (rg_f ?_ f12)
  obtain ⟨_, p2, p3, _⟩ := h9
  have l0 : (0 : Int32).toInt = 0 := by decide
  unfold rg
  have p33 := (p2 0 (by omega)).2.1
  rw [p3 16 (by omega), p3 17 (by omega), p3 18 (by omega), show S9 23 3 = 0 from p33, show S9 23 5 = 0 from (p2 2 (by omega)).2.1, l0]
  exact ⟨⟨by omega, by omega, by omega⟩, fun p hp => absurd hp (by omega), fun p hp => absurd hp (by omega), fun i hi => absurd hi (by omega), by omega, by omega, by omega⟩
-- 62.zaz.53.z43
/-! a text read: the train that is now begins -/
def bgQ (P A : Tr) : Prop := (A 0 0 = 0 ∧ A 0 1 = 0 ∧ A 0 2 = P 0 6 ∧ A 0 3 = P 0 4 ∧ A 0 4 = P 0 5) ∧ (∀ p, p < 6 → A 9 p = P 11 p ∧ A 10 p = P 13 p ∧ A 11 p = 0 ∧ A 12 p = 0) ∧ (∀ i, i < 10 → A 13 i = P 17 i ∧ A 14 i = 0 ∧ A 15 i = -1) ∧ (∀ p, p < 5 → A 17 p = 0 ∧ A 18 p = 0)
theorem e_bgn2 (pa : Nat → Nat) (T P : Tr) (q : Nat) : Ep (f_X6_begin pa T P q) (fun r => bgQ P r.1 ∧ ∀ j, 5 ≤ j → r.1 0 j = T 0 j) := by
  unfold f_X6_begin
  refine Ep_lt (fun T1 e1 => Ep_lt (fun T2 e2 => Ep_lt (fun T3 e3 => Ep_lt (fun T4 e4 => Ep_lt (fun T5 e5 => ?_)))))
  have c0 : T5 0 0 = 0 ∧ T5 0 1 = 0 ∧ T5 0 2 = P 0 6 ∧ T5 0 3 = P 0 4 ∧ T5 0 4 = P 0 5 := ⟨by rw [e5, st_ne (by decide), e4, st_ne (by decide), e3, st_ne (by decide), e2, st_ne (by decide), e1, st_same], by rw [e5, st_ne (by decide), e4, st_ne (by decide), e3, st_ne (by decide), e2, st_same], by rw [e5, st_ne (by decide), e4, st_ne (by decide), e3, st_same], by rw [e5, st_ne (by decide), e4, st_same], by rw [e5, st_same]⟩
  have c5 : ∀ j, 5 ≤ j → T5 0 j = T 0 j := fun j hj => by rw [e5, st_ne (by omega), e4, st_ne (by omega), e3, st_ne (by omega), e2, st_ne (by omega), e1, st_ne (by omega)]
  have l133 : ∀ (N n : Nat) (x : Int32) (A : Tr), x.toInt = n → n ≤ 5 → (∀ j, A 0 j = T5 0 j) → (∀ p, p < 6 → A 9 p = P 11 p ∧ A 10 p = P 13 p ∧ A 11 p = 0 ∧ A 12 p = 0) → (∀ i, i < 10 → A 13 i = P 17 i ∧ A 14 i = 0 ∧ A 15 i = -1) → (∀ p, p < n → A 17 p = 0 ∧ A 18 p = 0) → Ep (lpF (fun _ _ => none) (fB_X6_begin_L133 pa P (pa 0)) N x A) (fun r => bgQ P r.1 ∧ ∀ j, 5 ≤ j → r.1 0 j = T 0 j) := by
    intro N
    induction N with
    | zero => intro n x A _ _ _ _ _ _; exact Ep_none
    | succ N ih =>
      intro n x A hx hn h0 h1 h2 h3
      show Ep (fB_X6_begin_L133 pa P (pa 0) (lpF (fun _ _ => none) (fB_X6_begin_L133 pa P (pa 0)) N) x A) _
      generalize lpF (fun _ _ => none) (fB_X6_begin_L133 pa P (pa 0)) N = k at ih ⊢
      unfold fB_X6_begin_L133
      refine Ep_ite (fun c => ?_) (fun c => ?_)
      · have := tq_le (a := 5) (by decide) hx c
        refine Ep_some ⟨⟨?_, h1, h2, fun p hp => h3 p (by omega)⟩, fun j hj => by show A 0 j = _; rw [h0, c5 j hj]⟩
        show A 0 0 = 0 ∧ A 0 1 = 0 ∧ A 0 2 = P 0 6 ∧ A 0 3 = P 0 4 ∧ A 0 4 = P 0 5
        rw [h0, h0, h0, h0, h0]; exact c0
      · have := tq_len (b := n) (a := 5) (by decide) hx c
        rw [i_cn hx]
        refine Ep_ck (Ep_lt (fun A1 a1 => Ep_lt (fun A2 a2 => Ep_lt (fun y ey => ?_))))
        have z : ∀ a j, ¬ (a = 17 ∨ a = 18) → A2 a j = A a j := fun a j n => by rw [a2, st_no (by omega), a1, st_no (by omega)]
        refine ih (n + 1) y A2 (by rw [ey]; exact i_p1 hx (by omega)) (by omega) (fun j => by rw [z 0 j (by omega)]; exact h0 j) (fun p hp => by rw [z 9 p (by omega), z 10 p (by omega), z 11 p (by omega), z 12 p (by omega)]; exact h1 p hp) (fun i hi => by rw [z 13 i (by omega), z 14 i (by omega), z 15 i (by omega)]; exact h2 i hi) (fun p hp => ?_)
        rcases (by omega : p < n ∨ p = n) with g | rfl
        · rw [a2, st_oth (by omega), st_ne (by omega), a1, st_ne (by omega), st_oth (by omega)]; exact h3 p g
        · exact ⟨by rw [a2, st_oth (by omega), a1, st_same], by rw [a2, st_same]⟩
  have l93 : ∀ (N n : Nat) (x : Int32) (A : Tr), x.toInt = n → n ≤ 10 → (∀ j, A 0 j = T5 0 j) → (∀ p, p < 6 → A 9 p = P 11 p ∧ A 10 p = P 13 p ∧ A 11 p = 0 ∧ A 12 p = 0) → (∀ i, i < n → A 13 i = P 17 i ∧ A 14 i = 0 ∧ A 15 i = -1) → Ep (lpF (fun _ _ => none) (fB_X6_begin_L93 pa P (pa 0)) N x A) (fun r => bgQ P r.1 ∧ ∀ j, 5 ≤ j → r.1 0 j = T 0 j) := by
    intro N
    induction N with
    | zero => intro n x A _ _ _ _ _; exact Ep_none
    | succ N ih =>
      intro n x A hx hn h0 h1 h2
      show Ep (fB_X6_begin_L93 pa P (pa 0) (lpF (fun _ _ => none) (fB_X6_begin_L93 pa P (pa 0)) N) x A) _
      generalize lpF (fun _ _ => none) (fB_X6_begin_L93 pa P (pa 0)) N = k at ih ⊢
      unfold fB_X6_begin_L93
      refine Ep_ite (fun c => ?_) (fun c => ?_)
      · have := tq_le (a := 10) (by decide) hx c
        unfold fL_X6_begin_L133
        exact l133 2000 0 0 A (by decide) (by omega) h0 h1 (fun i hi => h2 i (by omega)) (fun p hp => absurd hp (by omega))
      · have := tq_len (b := n) (a := 10) (by decide) hx c
        rw [i_cn hx]
        refine Ep_ck (Ep_lt (fun A1 a1 => Ep_lt (fun A2 a2 => Ep_lt (fun A3 a3 => Ep_lt (fun y ey => ?_)))))
        have z : ∀ a j, ¬ (13 ≤ a ∧ a ≤ 15) → A3 a j = A a j := fun a j n => by rw [a3, st_no (by omega), a2, st_no (by omega), a1, st_no (by omega)]
        refine ih (n + 1) y A3 (by rw [ey]; exact i_p1 hx (by omega)) (by omega) (fun j => by rw [z 0 j (by omega)]; exact h0 j) (fun p hp => by rw [z 9 p (by omega), z 10 p (by omega), z 11 p (by omega), z 12 p (by omega)]; exact h1 p hp) (fun p hp => ?_)
        rcases (by omega : p < n ∨ p = n) with g | rfl
        · rw [a3, st_oth (by omega), st_oth (by omega), st_ne (by omega), a2, st_oth (by omega), st_ne (by omega), st_oth (by omega), a1, st_ne (by omega), st_oth (by omega), st_oth (by omega)]; exact h2 p g
        · exact ⟨by rw [a3, st_oth (by omega), a2, st_oth (by omega), a1, st_same], by rw [a3, st_oth (by omega), a2, st_same], by rw [a3, st_same]⟩
  have l41 : ∀ (N n : Nat) (x : Int32) (A : Tr), x.toInt = n → n ≤ 6 → (∀ j, A 0 j = T5 0 j) → (∀ p, p < n → A 9 p = P 11 p ∧ A 10 p = P 13 p ∧ A 11 p = 0 ∧ A 12 p = 0) → Ep (lpF (fun _ _ => none) (fB_X6_begin_L41 pa P (pa 0)) N x A) (fun r => bgQ P r.1 ∧ ∀ j, 5 ≤ j → r.1 0 j = T 0 j) := by
    intro N
    induction N with
    | zero => intro n x A _ _ _ _; exact Ep_none
    | succ N ih =>
      intro n x A hx hn h0 h1
      show Ep (fB_X6_begin_L41 pa P (pa 0) (lpF (fun _ _ => none) (fB_X6_begin_L41 pa P (pa 0)) N) x A) _
      generalize lpF (fun _ _ => none) (fB_X6_begin_L41 pa P (pa 0)) N = k at ih ⊢
      unfold fB_X6_begin_L41
      refine Ep_ite (fun c => ?_) (fun c => ?_)
      · have := tq_le (a := 6) (by decide) hx c
        unfold fL_X6_begin_L93
        exact l93 2000 0 0 A (by decide) (by omega) h0 (fun i hi => h1 i (by omega)) (fun p hp => absurd hp (by omega))
      · have := tq_len (b := n) (a := 6) (by decide) hx c
        rw [i_cn hx]
        refine Ep_ck (Ep_lt (fun A1 a1 => Ep_lt (fun A2 a2 => Ep_lt (fun A3 a3 => Ep_lt (fun A4 a4 => Ep_lt (fun y ey => ?_))))))
        have z : ∀ a j, ¬ (9 ≤ a ∧ a ≤ 12) → A4 a j = A a j := fun a j n => by rw [a4, st_no (by omega), a3, st_no (by omega), a2, st_no (by omega), a1, st_no (by omega)]
        refine ih (n + 1) y A4 (by rw [ey]; exact i_p1 hx (by omega)) (by omega) (fun j => by rw [z 0 j (by omega)]; exact h0 j) (fun p hp => ?_)
        rcases (by omega : p < n ∨ p = n) with g | rfl
        · have w : ∀ a, 9 ≤ a → a ≤ 12 → A4 a p = A a p := fun a _ _ => by rw [a4, st_no (by omega), a3, st_no (by omega), a2, st_no (by omega), a1, st_no (by omega)]
          rw [w 9 (by omega) (by omega), w 10 (by omega) (by omega), w 11 (by omega) (by omega), w 12 (by omega) (by omega)]; exact h1 p g
        · exact ⟨by rw [a4, st_oth (by omega), a3, st_oth (by omega), a2, st_oth (by omega), a1, st_same], by rw [a4, st_oth (by omega), a3, st_oth (by omega), a2, st_same], by rw [a4, st_oth (by omega), a3, st_same], by rw [a4, st_same]⟩
  unfold fL_X6_begin_L41
  exact l41 2000 0 0 T5 (by decide) (by omega) (fun _ => rfl) (fun p hp => absurd hp (by omega))
def atQ (b : Nat) (S q : Tr) : Prop := (∀ i, i < 10 → q 53 (10 * b + i) = 0 ∧ q 54 (10 * b + i) = -1) ∧ (∀ p, p < 5 → q 56 (5 * b + p) = 0) ∧ (∀ p, p < 6 → q 57 (6 * b + p) = S 27 p ∧ q 58 (6 * b + p) = S 29 p ∧ q 59 (6 * b + p) = 0 ∧ q 60 (6 * b + p) = 0) ∧ (q 61 b = 0 ∧ q 62 b = 0 ∧ q 63 b = 0) ∧ ∀ a j, ¬ (53 ≤ a ∧ a ≤ 63) → q a j = S a j
theorem e_atF {b : Nat} {S : Tr} {xb : Int32} (hb : xb.toNatClampNeg = b) (hxb : 0 ≤ xb.toInt ∧ xb.toInt ≤ 1) : Ep (f_X8_atFirst S xb) (atQ b S) := by
  have l64 : ∀ (N n : Nat) (x : Int32) (A : Tr), x.toInt = n → n ≤ 6 → (∀ i, i < 10 → A 53 (10 * b + i) = 0 ∧ A 54 (10 * b + i) = -1) → (∀ p, p < 5 → A 56 (5 * b + p) = 0) → (∀ p, p < n → A 57 (6 * b + p) = S 27 p ∧ A 58 (6 * b + p) = S 29 p ∧ A 59 (6 * b + p) = 0 ∧ A 60 (6 * b + p) = 0) → (∀ a j, ¬ (53 ≤ a ∧ a ≤ 63) → A a j = S a j) → Ep (lpF (fun _ _ => none) (fB_X8_atFirst_L64 xb) N x A) (atQ b S) := by
    intro N
    induction N with
    | zero => intro n x A _ _ _ _ _ _; exact Ep_none
    | succ N ih =>
      intro n x A hx hn h1 h2 h3 h4
      show Ep (fB_X8_atFirst_L64 xb (lpF (fun _ _ => none) (fB_X8_atFirst_L64 xb) N) x A) _
      generalize lpF (fun _ _ => none) (fB_X8_atFirst_L64 xb) N = k at ih ⊢
      unfold fB_X8_atFirst_L64
      refine Ep_ite (fun c => ?_) (fun c => ?_)
      · have := tq_le (a := 6) (by decide) hx c
        unfold fJ_X8_atFirst_J134
        rw [hb]
        refine Ep_ck (Ep_lt (fun S5 e5 => Ep_lt (fun S6 e6 => Ep_lt (fun S7 e7 => Ep_some ?_))))
        have z : ∀ a j, ¬ (61 ≤ a ∧ a ≤ 63) → S7 a j = A a j := fun a j n => by rw [e7, st_no (by omega), e6, st_no (by omega), e5, st_no (by omega)]
        refine ⟨fun i hi => by rw [z 53 _ (by omega), z 54 _ (by omega)]; exact h1 i hi, fun p hp => by rw [z 56 _ (by omega)]; exact h2 p hp, fun p hp => by rw [z 57 _ (by omega), z 58 _ (by omega), z 59 _ (by omega), z 60 _ (by omega)]; exact h3 p (by omega), ⟨?_, ?_, ?_⟩, fun a j n => by rw [z a j (by omega)]; exact h4 a j n⟩
        · rw [e7, st_oth (by omega), e6, st_oth (by omega), e5, st_same]
        · rw [e7, st_oth (by omega), e6, st_same]
        · rw [e7, st_same]
      · have := tq_len (b := n) (a := 6) (by decide) hx c
        have j6 : (((6 : Int32) * xb) + x).toNatClampNeg = 6 * b + n := by rw [jx 6 (by decide) (by omega) hxb hx (by omega), hb]
        rw [j6, i_cn hx]
        refine Ep_ck (Ep_ck (Ep_lt (fun S10 e10 => Ep_lt (fun S11 e11 => Ep_lt (fun S12 e12 => Ep_lt (fun S13 e13 => Ep_lt (fun y ey => ?_)))))))
        have z : ∀ a j, ¬ (57 ≤ a ∧ a ≤ 60) → S13 a j = A a j := fun a j n => by rw [e13, st_no (by omega), e12, st_no (by omega), e11, st_no (by omega), e10, st_no (by omega)]
        refine ih (n + 1) y S13 (by rw [ey]; exact i_p1 hx (by omega)) (by omega) (fun i hi => by rw [z 53 _ (by omega), z 54 _ (by omega)]; exact h1 i hi) (fun p hp => by rw [z 56 _ (by omega)]; exact h2 p hp) (fun p hp => ?_) (fun a j n => by rw [z a j (by omega)]; exact h4 a j n)
        rcases (by omega : p < n ∨ p = n) with g | rfl
        · have w : ∀ a, 57 ≤ a → a ≤ 60 → S13 a (6 * b + p) = A a (6 * b + p) := fun a _ _ => by rw [e13, st_no (by omega), e12, st_no (by omega), e11, st_no (by omega), e10, st_no (by omega)]
          rw [w 57 (by omega) (by omega), w 58 (by omega) (by omega), w 59 (by omega) (by omega), w 60 (by omega) (by omega)]; exact h3 p g
        · refine ⟨?_, ?_, ?_, ?_⟩
          · rw [e13, st_oth (by omega), e12, st_oth (by omega), e11, st_oth (by omega), e10, st_same]; exact h4 27 p (by omega)
          · rw [e13, st_oth (by omega), e12, st_oth (by omega), e11, st_same, e10, st_oth (by omega)]; exact h4 29 p (by omega)
          · rw [e13, st_oth (by omega), e12, st_same]
          · rw [e13, st_same]
  have l40 : ∀ (N n : Nat) (x : Int32) (A : Tr), x.toInt = n → n ≤ 5 → (∀ i, i < 10 → A 53 (10 * b + i) = 0 ∧ A 54 (10 * b + i) = -1) → (∀ p, p < n → A 56 (5 * b + p) = 0) → (∀ a j, ¬ (53 ≤ a ∧ a ≤ 63) → A a j = S a j) → Ep (lpF (fun _ _ => none) (fB_X8_atFirst_L40 xb) N x A) (atQ b S) := by
    intro N
    induction N with
    | zero => intro n x A _ _ _ _ _; exact Ep_none
    | succ N ih =>
      intro n x A hx hn h1 h2 h4
      show Ep (fB_X8_atFirst_L40 xb (lpF (fun _ _ => none) (fB_X8_atFirst_L40 xb) N) x A) _
      generalize lpF (fun _ _ => none) (fB_X8_atFirst_L40 xb) N = k at ih ⊢
      unfold fB_X8_atFirst_L40
      refine Ep_ite (fun c => ?_) (fun c => ?_)
      · have := tq_le (a := 5) (by decide) hx c
        unfold fL_X8_atFirst_L64
        exact l64 2000 0 0 A (by decide) (by omega) h1 (fun p hp => h2 p (by omega)) (fun p hp => absurd hp (by omega)) h4
      · have := tq_len (b := n) (a := 5) (by decide) hx c
        have j5 : (((5 : Int32) * xb) + x).toNatClampNeg = 5 * b + n := by rw [jx 5 (by decide) (by omega) hxb hx (by omega), hb]
        rw [j5]
        refine Ep_ck (Ep_lt (fun S16 e16 => Ep_lt (fun y ey => ih (n + 1) y S16 (by rw [ey]; exact i_p1 hx (by omega)) (by omega) (fun i hi => by rw [e16, st_oth (by omega), st_oth (by omega)]; exact h1 i hi) (fun p hp => ?_) (fun a j n => by rw [e16, st_no (by omega)]; exact h4 a j n))))
        rcases (by omega : p < n ∨ p = n) with g | rfl
        · rw [e16, st_ne (by omega)]; exact h2 p g
        · rw [e16, st_same]
  have l2 : ∀ (N n : Nat) (x : Int32) (A : Tr), x.toInt = n → n ≤ 10 → (∀ i, i < n → A 53 (10 * b + i) = 0 ∧ A 54 (10 * b + i) = -1) → (∀ a j, ¬ (53 ≤ a ∧ a ≤ 63) → A a j = S a j) → Ep (lpF (fun _ _ => none) (fB_X8_atFirst_L2 xb) N x A) (atQ b S) := by
    intro N
    induction N with
    | zero => intro n x A _ _ _ _; exact Ep_none
    | succ N ih =>
      intro n x A hx hn h1 h4
      show Ep (fB_X8_atFirst_L2 xb (lpF (fun _ _ => none) (fB_X8_atFirst_L2 xb) N) x A) _
      generalize lpF (fun _ _ => none) (fB_X8_atFirst_L2 xb) N = k at ih ⊢
      unfold fB_X8_atFirst_L2
      refine Ep_ite (fun c => ?_) (fun c => ?_)
      · have := tq_le (a := 10) (by decide) hx c
        unfold fL_X8_atFirst_L40
        exact l40 2000 0 0 A (by decide) (by omega) (fun i hi => h1 i (by omega)) (fun p hp => absurd hp (by omega)) h4
      · have := tq_len (b := n) (a := 10) (by decide) hx c
        have j10 : (((10 : Int32) * xb) + x).toNatClampNeg = 10 * b + n := by rw [jx 10 (by decide) (by omega) hxb hx (by omega), hb]
        rw [j10]
        refine Ep_ck (Ep_lt (fun S19 e19 => Ep_lt (fun S20 e20 => Ep_lt (fun y ey => ih (n + 1) y S20 (by rw [ey]; exact i_p1 hx (by omega)) (by omega) (fun i hi => ?_) (fun a j n => by rw [e20, st_no (by omega), e19, st_no (by omega)]; exact h4 a j n)))))
        rcases (by omega : i < n ∨ i = n) with g | rfl
        · rw [e20, st_oth (by omega), st_ne (by omega), e19, st_ne (by omega), st_oth (by omega)]; exact h1 i g
        · exact ⟨by rw [e20, st_oth (by omega), e19, st_same], by rw [e20, st_same]⟩
  unfold f_X8_atFirst fL_X8_atFirst_L2
  exact l2 2000 0 0 S (by decide) (by omega) (fun i hi => absurd hi (by omega)) (fun _ _ _ => rfl)
/-- a text's first state, in its own rows -/
def bgR (q : Tr × Lo) : Prop := (∀ i, i < 10 → q.1 53 i = 0 ∧ q.1 54 i = -1) ∧ (∀ p, p < 5 → q.1 56 p = 0) ∧ (∀ p, p < 6 → q.1 57 p = q.1 27 p ∧ q.1 58 p = q.1 29 p ∧ q.1 59 p = 0 ∧ q.1 60 p = 0) ∧ (q.1 61 0 = 0 ∧ q.1 62 0 = 0) ∧ (q.1 0 65 = 0 ∧ q.1 0 82 = 0 ∧ q.1 0 84 = 0) ∧ q.2 0 63 = (q.1 23 2).toInt64
theorem k_beg (S : Tr) (L : Lo) : Ep (f_X8_begin S L) bgR := by
  unfold f_X8_begin
  refine Ep_bd (e_atF (b := 0) (xb := 0) (by decide) (by decide)) (fun S1 h1 => Ep_lt (fun L4 e4 => Ep_bd (e_plnT S1) (fun S5 h5 => Ep_lt (fun S8 e8 => Ep_lt (fun S9 e9 => Ep_lt (fun S10 e10 => Ep_lt (fun S11 e11 => Ep_some ?_)))))))
  obtain ⟨a1, a2, a3, ⟨a4, a5, _⟩, a6⟩ := h1
  obtain ⟨p1, p2⟩ := h5
  have g : ∀ a j, ¬ (a = 0 ∧ (78 ≤ j ∧ j ≤ 84)) → S11 a j = S5 a j := fun a j n => by rw [e11, st_no (by omega), e10, st_no (by omega), e9, st_no (by omega), e8, st_no (by omega)]
  have f : ∀ a j, ¬ (a = 0) → ¬ a = 72 → S11 a j = S1 a j := fun a j n1 n2 => (g a j (by omega)).trans (p2 a j (by omega) n2)
  refine ⟨fun i hi => ?_, fun p hp => ?_, fun p hp => ?_, ⟨?_, ?_⟩, ⟨?_, ?_, ?_⟩, ?_⟩
  · show S11 53 i = 0 ∧ S11 54 i = -1
    have x := a1 i hi
    rw [show 10 * 0 + i = i by omega] at x
    rw [f 53 i (by omega) (by omega), f 54 i (by omega) (by omega)]; exact x
  · show S11 56 p = 0
    have x := a2 p hp
    rw [show 5 * 0 + p = p by omega] at x
    rw [f 56 p (by omega) (by omega)]; exact x
  · show S11 57 p = S11 27 p ∧ S11 58 p = S11 29 p ∧ S11 59 p = 0 ∧ S11 60 p = 0
    have x := a3 p hp
    rw [show 6 * 0 + p = p by omega] at x
    rw [f 57 p (by omega) (by omega), f 58 p (by omega) (by omega), f 59 p (by omega) (by omega), f 60 p (by omega) (by omega), f 27 p (by omega) (by omega), f 29 p (by omega) (by omega), a6 27 p (by omega), a6 29 p (by omega)]; exact x
  · show S11 61 0 = 0
    rw [f 61 0 (by omega) (by omega)]; exact a4
  · show S11 62 0 = 0
    rw [f 62 0 (by omega) (by omega)]; exact a5
  · show S11 0 65 = 0
    rw [g 0 65 (by omega)]; exact p1.2.1 65 (by omega) (by omega)
  · show S11 0 82 = 0
    rw [e11, st_ne (by decide), e10, st_same]
  · show S11 0 84 = 0
    rw [e11, st_same]
  · show L4 0 63 = (S11 23 2).toInt64
    rw [f 23 2 (by omega) (by omega), e4, stL_same]
theorem k_kpB (T : Tr) (L : Lo) : Ep (f_X8_keepText T L) bgR := by
  have j164 : ∀ S : Tr, Ep (fJ_X8_keepText_J164 S L) bgR := fun S => by
    unfold fJ_X8_keepText_J164
    exact Ep_any (fun _ => Ep_any (fun _ => Ep_any (fun _ => Ep_any (fun _ => Ep_any (fun S54 => Ep_bd (k_beg S54 L) (fun q hq => Ep_lt (fun S57 e57 => Ep_lt (fun L58 e58 => Ep_some (by rw [e57, e58]; exact hq)))))))))
  have l139 : ∀ (N : Nat) (x : Int32) (S : Tr), Ep (lpF (fun _ _ => none) (fB_X8_keepText_L139 L) N x S) bgR := by
    intro N
    induction N with
    | zero => intro x S; exact Ep_none
    | succ N ih =>
      intro x S
      show Ep (fB_X8_keepText_L139 L (lpF (fun _ _ => none) (fB_X8_keepText_L139 L) N) x S) _
      generalize lpF (fun _ _ => none) (fB_X8_keepText_L139 L) N = k at ih ⊢
      unfold fB_X8_keepText_L139
      exact Ep_ite (fun _ => j164 S) (fun _ => Ep_ck (Ep_ck (Ep_lt (fun S63 _ => Ep_lt (fun y _ => ih y S63)))))
  unfold f_X8_keepText fL_X8_keepText_L139
  exact Ep_lt (fun _ _ => Ep_lt (fun _ _ => Ep_lt (fun _ _ => Ep_lt (fun _ _ => Ep_any (fun _ => Ep_any (fun _ => Ep_any (fun _ => Ep_any (fun _ => Ep_any (fun _ => Ep_any (fun _ => Ep_any (fun _ => Ep_any (fun _ => Ep_any (fun _ => Ep_any (fun _ => Ep_any (fun _ => Ep_any (fun S38 => l139 2000 0 S38))))))))))))))))
-- 62.zaz.54.z44
/-! what is read and kept, side by side with the plan -/
theorem nd_cg {g kn pa ot kn1 pa1 ot1 : Nat → Int32} {f i : Nat} (h : nd g kn pa ot f i) (e1 : kn1 (f + i) = kn (f + i)) (e2 : pa1 (f + i) = pa (f + i)) (e3 : ot1 (f + i) = ot (f + i)) : nd g kn1 pa1 ot1 f i := by
  unfold nd at h ⊢
  rw [e1, e2, e3]; exact h
theorem lwK_KT {P T S : Tr} {k : Nat} (hk : k < 3) (h : lwR P T k) (h19 : (T 0 19).toInt ≤ 64) (e36 : S 36 k = vp_nar .boolean (T 36 (3 + k))) (e37 : S 37 k = T 37 (3 + k)) (e38 : S 38 k = T 38 (3 + k)) (e39 : ∀ j, j < 64 → S 39 j = T 39 (64 + j)) (e40 : ∀ j, j < 64 → S 40 j = T 40 (64 + j)) (e41 : ∀ j, j < 64 → S 41 j = T 41 (64 + j)) : lwK P S k := by
  rcases h with ⟨a1, a2⟩ | ⟨a1, f, s, b1, b2, b3, b4, b5, b6, b7⟩
  · exact Or.inl ⟨a1, by rw [e36, a2]; rfl⟩
  · refine Or.inr ⟨by rw [e36, a1]; rfl, f, s, b1, b2, by rw [e37]; exact b3, by rw [e38]; exact b4, by omega, b6, fun i hi => ?_⟩
    exact nd_cg (b7 i hi) (e39 _ (by omega)) (e40 _ (by omega)) (e41 _ (by omega))
theorem pK_KT {R P T S : Tr} (h : RD R P T) (k : KT T S) (r : rgK S) : pK P S := by
  obtain ⟨m1, m2, m3, m4, m5⟩ := nm_KT h k
  obtain ⟨r1, r2, r3, r4⟩ := r
  obtain ⟨_, _, _, _, _, hL⟩ := h
  obtain ⟨l1, l2, l3, w0, w1, w2⟩ := hL
  obtain ⟨_, _, _, _, _, _, _, _, _, _, _, _, _, k36, k37, k38, k39, k40, k41⟩ := k
  have h19 : (T 0 19).toInt ≤ 64 := by rw [l2]; exact l3.2
  refine ⟨⟨m1.1, m1.2.1, m1.2.2.1, m1.2.2.2.1, m1.2.2.2.2.1, m1.2.2.2.2.2.1, m1.2.2.2.2.2.2, r1⟩, m2, fun p hp => ?_, fun i hi => ?_, m5, fun k hk => ?_⟩
  · obtain ⟨a1, a2, a3, a4⟩ := m3 p hp
    exact ⟨a1, a2, a3, a4, (r2 p hp).1, (r2 p hp).2⟩
  · obtain ⟨a1, a2, a3, a4⟩ := m4 i hi
    exact ⟨a1, a2, a3, a4, (r3 i hi).1, (r3 i hi).2.1, (r3 i hi).2.2⟩
  · have w : lwR P T k := by
      rcases (by omega : k = 0 ∨ k = 1 ∨ k = 2) with rfl | rfl | rfl
      · exact w0
      · exact w1
      · exact w2
    exact lwK_KT hk w h19 (k36 k hk) (k37 k hk) (k38 k hk) k39 k40 k41
/-- the train that is now at a text's start -/
theorem Nw_bg {P A S : Tr} {L : Lo} (hK : pK P S) (hj : jR S) (r : rgK S) (hb : bgR (S, L)) (ha : bgQ P A) (h6 : ¬ A 0 6 = 0) (h7 : ¬ A 0 7 = 0) : Nw P A S L := by
  obtain ⟨b1, b2, b3, ⟨b4, b5⟩, ⟨b6, _, _⟩, b7⟩ := hb
  obtain ⟨⟨a1, a2, a3, a4, a5⟩, a6, a7, a8⟩ := ha
  obtain ⟨r1, r2, r3, r4⟩ := r
  have h13 : 0 ≤ (S 0 13).toInt ∧ (S 0 13).toInt ≤ 6 := hj.1 0 13
  have h14 : 0 ≤ (S 0 14).toInt ∧ (S 0 14).toInt ≤ 10 := hj.1 0 14
  have l0 : (0 : Int32).toInt = 0 := by decide
  have lm : (-1 : Int32).toInt = -1 := by decide
  have c1 : ∀ i, i < 10 → S 53 i = 0 ∧ S 54 i = -1 := b1
  have c2 : ∀ p, p < 5 → S 56 p = 0 := b2
  have c3 : ∀ p, p < 6 → S 57 p = S 27 p ∧ S 58 p = S 29 p ∧ S 59 p = 0 ∧ S 60 p = 0 := b3
  have c7 : L 0 63 = (S 23 2).toInt64 := b7
  obtain ⟨⟨k1, k2, k3, k4, k5, k6, k7, k8⟩, kA, kE, kI, kW, kL⟩ := id hK
  refine ⟨⟨hj.1, hj.2.1, hj.2.2.1⟩, hK, ⟨a1.trans b5.symm, a2.trans b4.symm, fun p hp => ?_, fun i hi => ?_, fun p hp => ⟨?_, fun k hk => ?_, ?_⟩⟩, ⟨fun i hi => ?_, fun p hp => ?_⟩, fun p hp => ?_, fun i hi => ?_, ⟨a4.trans k5, a5.trans k6, r4.1, r4.2.1, h6, h7⟩, ⟨?_, ?_, b6⟩, fun p hp _ => ?_⟩
  · rw [show 6 * 0 + p = p by omega, (a6 p (by omega)).2.2.1, (a6 p (by omega)).2.2.2, (c3 p (by omega)).2.2.1, (c3 p (by omega)).2.2.2]
    exact ⟨rfl, rfl⟩
  · rw [show 10 * 0 + i = i by omega, (a7 i (by omega)).2.1, (a7 i (by omega)).2.2, (c1 i (by omega)).1, (c1 i (by omega)).2]
    exact ⟨rfl, rfl⟩
  · rw [show 5 * 0 + p = p by omega, (a8 p hp).1, c2 p hp]
  · rw [show 5 * 0 + p = p by omega, c2 p hp, l0] at hk
    omega
  · rw [(a8 p hp).1, (a8 p hp).2]
    rfl
  · have ow := own_lt (b := 0) ⟨hj.1, hj.2.1, hj.2.2.1⟩ i hi
    have := (r3 i hi)
    have h12 : 0 ≤ (S 0 12).toInt ∧ (S 0 12).toInt ≤ 5 := hj.1 0 12
    rw [show 10 * 0 + i = i by omega, show 6 * 0 + (S 30 i).toNatClampNeg = (S 30 i).toNatClampNeg by omega, (c1 i (by omega)).1, (c1 i (by omega)).2, lm, (c3 _ (by omega)).2.2.1]
    exact ⟨fun e => absurd e (by decide), fun _ => rfl, by omega⟩
  · rw [show 6 * 0 + p = p by omega, (c3 p (by omega)).1, (c3 p (by omega)).2.2.1]
    exact ⟨Or.inl rfl, r2 p hp⟩
  · rw [(c3 p (by omega)).1, (c3 p (by omega)).2.1, (a6 p (by omega)).1, (a6 p (by omega)).2.1]
    exact ⟨(kE p hp).2.1, (kE p hp).2.2.2.1⟩
  · rw [(a7 i (by omega)).1]
    exact (kI i hi).2.2.2.1
  · rw [a3, k7]; exact c7
  · rw [a3, k7]; exact r4.2.2
  · exact (c3 p (by omega)).2.2.1
-- 62.zaz.55.z45
/-! a text that fails keeps all; one that succeeds begins anew -/
def kpc (a j : Nat) : Prop := (a = 23 ∧ j < 3) ∨ ((a = 24 ∨ a = 25) ∧ j < 5) ∨ ((26 ≤ a ∧ a ≤ 29) ∧ j < 6) ∨ ((30 ≤ a ∧ a ≤ 33) ∧ j < 10) ∨ (a = 34 ∧ j < 21) ∨ ((36 ≤ a ∧ a ≤ 38) ∧ j < 3) ∨ ((39 ≤ a ∧ a ≤ 41) ∧ j < 64)
theorem ble_no {n j : Nat} (h : ¬ n ≤ j) : Nat.ble n j = false := by
  rw [← Bool.not_eq_true]; intro q; exact h (Nat.le_of_ble_eq_true q)
theorem Wp_kp {a j : Nat} (h : kpc a j) : Wp a j = false := by
  rcases h with ⟨rfl, h⟩ | ⟨h, h1⟩ | ⟨h, h1⟩ | ⟨h, h1⟩ | ⟨rfl, h⟩ | ⟨h, h1⟩ | ⟨h, h1⟩
  · unfold Wp; rw [ble_no (n := 3) (by omega)]; rfl
  · unfold Wp; rw [ble_no (n := 5) (by omega)]
    rcases h with rfl | rfl <;> rfl
  · unfold Wp; rw [ble_no (n := 6) (by omega)]
    rcases (by omega : a = 26 ∨ a = 27 ∨ a = 28 ∨ a = 29) with rfl | rfl | rfl | rfl <;> rfl
  · unfold Wp; rw [ble_no (n := 10) (by omega)]
    rcases (by omega : a = 30 ∨ a = 31 ∨ a = 32 ∨ a = 33) with rfl | rfl | rfl | rfl <;> rfl
  · unfold Wp; rw [ble_no (n := 21) (by omega)]; rfl
  · unfold Wp; rw [ble_no (n := 3) (by omega)]
    rcases (by omega : a = 36 ∨ a = 37 ∨ a = 38) with rfl | rfl | rfl <;> rfl
  · unfold Wp; rw [ble_no (n := 64) (by omega)]
    rcases (by omega : a = 39 ∨ a = 40 ∨ a = 41) with rfl | rfl | rfl <;> rfl
theorem lwK_h {P S S1 : Tr} {k : Nat} (hk : k < 3) (h : lwK P S k) (e : ∀ a j, kpc a j → S1 a j = S a j) : lwK P S1 k := by
  unfold lwK at h ⊢
  rw [e 36 k (Or.inr (Or.inr (Or.inr (Or.inr (Or.inr (Or.inl ⟨by omega, hk⟩)))))), e 37 k (Or.inr (Or.inr (Or.inr (Or.inr (Or.inr (Or.inl ⟨by omega, hk⟩)))))), e 38 k (Or.inr (Or.inr (Or.inr (Or.inr (Or.inr (Or.inl ⟨by omega, hk⟩))))))]
  rcases h with a | ⟨a1, f, s, b1, b2, b3, b4, b5, b6, b7⟩
  · exact Or.inl a
  · refine Or.inr ⟨a1, f, s, b1, b2, b3, b4, b5, b6, fun i hi => nd_cg (b7 i hi) ?_ ?_ ?_⟩
    · exact e 39 _ (Or.inr (Or.inr (Or.inr (Or.inr (Or.inr (Or.inr ⟨by omega, by omega⟩))))))
    · exact e 40 _ (Or.inr (Or.inr (Or.inr (Or.inr (Or.inr (Or.inr ⟨by omega, by omega⟩))))))
    · exact e 41 _ (Or.inr (Or.inr (Or.inr (Or.inr (Or.inr (Or.inr ⟨by omega, by omega⟩))))))
theorem pK_h {P S S1 : Tr} (hS : iR BM S) (h : pK P S) (e0 : ∀ j, 12 ≤ j → j ≤ 15 → S1 0 j = S 0 j) (e : ∀ a j, kpc a j → S1 a j = S a j) : pK P S1 := by
  have h12 : 0 ≤ (S 0 12).toInt ∧ (S 0 12).toInt ≤ 5 := hS 0 12
  have h13 : 0 ≤ (S 0 13).toInt ∧ (S 0 13).toInt ≤ 6 := hS 0 13
  have h14 : 0 ≤ (S 0 14).toInt ∧ (S 0 14).toInt ≤ 10 := hS 0 14
  obtain ⟨⟨a0, a1, a2, a3, a4, a5, a6, a7⟩, h2, h3, h4, h5, h6⟩ := h
  have f12 := e0 12 (by omega) (by omega)
  have f13 := e0 13 (by omega) (by omega)
  have f14 := e0 14 (by omega) (by omega)
  have k23 : ∀ j, j < 3 → S1 23 j = S 23 j := fun j hj => e 23 j (Or.inl ⟨rfl, hj⟩)
  have k5 : ∀ a j, a = 24 ∨ a = 25 → j < 5 → S1 a j = S a j := fun a j ha hj => e a j (Or.inr (Or.inl ⟨ha, hj⟩))
  have k6 : ∀ a j, 26 ≤ a → a ≤ 29 → j < 6 → S1 a j = S a j := fun a j h1 h2 hj => e a j (Or.inr (Or.inr (Or.inl ⟨⟨h1, h2⟩, hj⟩)))
  have k10 : ∀ a j, 30 ≤ a → a ≤ 33 → j < 10 → S1 a j = S a j := fun a j h1 h2 hj => e a j (Or.inr (Or.inr (Or.inr (Or.inl ⟨⟨h1, h2⟩, hj⟩))))
  refine ⟨⟨a0.trans f12.symm, a1.trans f13.symm, a2.trans f14.symm, a3.trans (e0 15 (by omega) (by omega)).symm, a4.trans (k23 0 (by omega)).symm, a5.trans (k23 1 (by omega)).symm, a6.trans (k23 2 (by omega)).symm, fun i hi => ?_⟩, fun i hi => ?_, fun i hi => ?_, fun i hi => ?_, fun t ht => ?_, fun k hk => lwK_h hk (h6 k hk) e⟩
  · rw [f12] at hi; rw [k5 24 i (by omega) (by omega)]; exact a7 i hi
  · rw [f12] at hi; rw [k5 24 i (by omega) (by omega), k5 25 i (by omega) (by omega)]; exact h2 i hi
  · rw [f13] at hi; rw [k6 26 i (by omega) (by omega) (by omega), k6 27 i (by omega) (by omega) (by omega), k6 28 i (by omega) (by omega) (by omega), k6 29 i (by omega) (by omega) (by omega)]; exact h3 i hi
  · rw [f14] at hi; rw [f12, k10 30 i (by omega) (by omega) (by omega), k10 31 i (by omega) (by omega) (by omega), k10 32 i (by omega) (by omega) (by omega), k10 33 i (by omega) (by omega) (by omega)]; exact h4 i hi
  · rw [e 34 t (Or.inr (Or.inr (Or.inr (Or.inr (Or.inl ⟨rfl, ht⟩)))))]; exact h5 t ht
theorem Nw_h {P T S S1 : Tr} {L L1 : Lo} (h : Nw P T S L) (hI : rI 0 S1) (e0 : ∀ j, 12 ≤ j → j ≤ 15 → S1 0 j = S 0 j) (e : ∀ a j, kpc a j → S1 a j = S a j) (e5 : ∀ a j, 53 ≤ a → a ≤ 62 → S1 a j = S a j) (h65 : S1 0 65 = 0) (h63 : L1 0 63 = L 0 63) : Nw P T S1 L1 := by
  obtain ⟨hS, hK, hd, hv, n9, n13, nr, nl, na⟩ := h
  have h13 : 0 ≤ (S 0 13).toInt ∧ (S 0 13).toInt ≤ 6 := hS.1 0 13
  have h14 : 0 ≤ (S 0 14).toInt ∧ (S 0 14).toInt ≤ 10 := hS.1 0 14
  have k30 : ∀ i, i < 10 → S1 30 i = S 30 i := fun i hi => e 30 i (Or.inr (Or.inr (Or.inr (Or.inl ⟨⟨by omega, by omega⟩, hi⟩))))
  have k33 : ∀ i, i < 10 → S1 33 i = S 33 i := fun i hi => e 33 i (Or.inr (Or.inr (Or.inr (Or.inl ⟨⟨by omega, by omega⟩, hi⟩))))
  have k23 : ∀ j, j < 3 → S1 23 j = S 23 j := fun j hj => e 23 j (Or.inl ⟨rfl, hj⟩)
  refine ⟨hI, pK_h hS.1 hK e0 e, dyn_e hd hS.1 (fun _ _ _ => rfl) (fun a j q => ?_), ⟨fun i hi => ?_, fun p hp => ?_⟩, fun p hp => ?_, fun i hi => ?_, ?_, ⟨by rw [h63]; exact nl.1, nl.2.1, h65⟩, fun p hp hq => ?_⟩
  · rcases q with ⟨rfl, q1, q2⟩ | ⟨q1, q2⟩
    · exact e0 j q1 q2
    · exact e5 a j q1 q2
  · rw [e0 14 (by omega) (by omega)] at hi
    rw [k30 i (by omega), e5 53 _ (by omega) (by omega), e5 54 _ (by omega) (by omega), e5 59 _ (by omega) (by omega), e0 12 (by omega) (by omega)]; exact hv.1 i hi
  · rw [e0 13 (by omega) (by omega)] at hp
    rw [e5 59 _ (by omega) (by omega), e5 57 _ (by omega) (by omega)]; exact hv.2 p hp
  · rw [e0 13 (by omega) (by omega)] at hp
    rw [e5 57 _ (by omega) (by omega), e5 58 _ (by omega) (by omega)]; exact n9 p hp
  · rw [e0 14 (by omega) (by omega)] at hi
    rw [k33 i (by omega)]; exact n13 i hi
  · rw [k23 0 (by omega), k23 1 (by omega)]; exact nr
  · rw [e0 13 (by omega) (by omega)] at hp
    rw [e5 62 _ (by omega) (by omega), e5 57 _ (by omega) (by omega)] at hq
    rw [e5 59 _ (by omega) (by omega)]; exact na p hp hq
theorem kFT_at {S S1 : Tr} (a : kFT S S1) : (∀ j, 12 ≤ j → j ≤ 15 → S1 0 j = S 0 j) ∧ (∀ c j, kpc c j → S1 c j = S c j) ∧ (∀ c j, 53 ≤ c → c ≤ 62 → S1 c j = S c j) ∧ (∀ c j, 84 ≤ c → c ≤ 88 → S1 c j = S c j) ∧ ∀ j, j = 65 ∨ j = 82 ∨ j = 84 ∨ j = 88 ∨ j = 89 → S1 0 j = S 0 j := by
  have hi : ∀ c j, 53 ≤ c → c ≤ 88 → S1 c j = S c j := fun c j h1 h2 => a c j (by
    have e : ∀ k, k ≤ 43 → Nat.beq c k = false := fun k hk => by
      rw [← Bool.not_eq_true]; intro q; have := Nat.eq_of_beq_eq_true q; omega
    unfold Wp
    rw [e 0 (by omega), e 22 (by omega), e 35 (by omega), e 42 (by omega), e 43 (by omega), e 23 (by omega), e 36 (by omega), e 37 (by omega), e 38 (by omega), e 24 (by omega), e 25 (by omega), e 26 (by omega), e 27 (by omega), e 28 (by omega), e 29 (by omega), e 30 (by omega), e 31 (by omega), e 32 (by omega), e 33 (by omega), e 34 (by omega), e 39 (by omega), e 40 (by omega), e 41 (by omega)]
    rfl) (by omega)
  refine ⟨fun j h1 h2 => a 0 j ?_ (by omega), fun c j q => a c j (Wp_kp q) (fun g => by unfold kpc at q; omega), fun c j h1 h2 => hi c j h1 (by omega), fun c j h1 h2 => hi c j (by omega) h2, fun j q => a 0 j ?_ (by omega)⟩
  · rcases (by omega : j = 12 ∨ j = 13 ∨ j = 14 ∨ j = 15) with rfl | rfl | rfl | rfl <;> rfl
  · rcases q with rfl | rfl | rfl | rfl | rfl <;> rfl
theorem tx_fail {P T C X Ti S S1 : Tr} {L : Lo} (h : Nw P T S L) (hu : uR P C S) (hi : imR P X Ti S L) (a : kFT S S1) (hj : jR S1) : Nw P T S1 L ∧ uR P C S1 ∧ imR P X Ti S1 L := by
  have h13 : 0 ≤ (S 0 13).toInt ∧ (S 0 13).toInt ≤ 6 := h.1.1 0 13
  have h14 : 0 ≤ (S 0 14).toInt ∧ (S 0 14).toInt ≤ 10 := h.1.1 0 14
  obtain ⟨k0, k1, k2, k3, k4⟩ := kFT_at a
  refine ⟨Nw_h h ⟨hj.1, hj.2.1, hj.2.2.1⟩ k0 k1 k2 ((k4 65 (by omega)).trans h.2.2.2.2.2.2.2.1.2.2) rfl, uR_o hu (k4 82 (by omega)) (fun j h1 h2 => k0 j h1 (by omega)) (fun j => k3 84 j (by omega) (by omega)), imR_o hi h13.2 h14.2 (fun j q => ?_) (fun c j q => ?_) rfl⟩
  · rcases q with q | rfl | rfl
    · exact k0 j q.1 (by omega)
    · exact k4 88 (by omega)
    · exact k4 89 (by omega)
  · rcases q with q | ⟨q, q2⟩ | ⟨rfl, _⟩ | q
    · exact k1 c j (Or.inl q)
    · exact k1 c j (Or.inr (Or.inr (Or.inr (Or.inl ⟨by omega, q2⟩))))
    · exact k2 57 j (by omega) (by omega)
    · exact k3 c j (by omega) q.2
theorem tx_ok {R P P2 T9 Tn A C X1 Ti S S1 : Tr} {L L1 : Lo} {pa : Nat → Nat} {q0 q1 : Nat} (h : Nw P Tn S L) (hu : uR P C S) (ud : RD R P2 T9) (uk : f_X8_keepText T9 L = some (S1, L1)) (hj : jR S1) (rk : rgK S1) (ub : f_X6_begin pa Tn P2 q0 = some (A, q1)) (hX : X1 0 4 = 0) : Nw P2 A S1 L1 ∧ uR P2 (st C 0 0 0) S1 ∧ imR P2 X1 Ti S1 L1 := by
  have kt := k_keepText T9 L _ uk
  have kb := k_kpB T9 L _ uk
  obtain ⟨a1, a2⟩ := e_bgn2 pa Tn P2 q0 _ ub
  have a6 : A 0 6 = Tn 0 6 := a2 6 (by omega)
  have a7 : A 0 7 = Tn 0 7 := a2 7 (by omega)
  obtain ⟨_, m, n, m20, _, hm, _, _⟩ := hu
  have z82 : S1 0 82 = 0 := kb.2.2.2.2.1.2.1
  refine ⟨Nw_bg (pK_KT ud kt rk) hj rk kb a1 (by rw [a6]; exact h.2.2.2.2.2.2.1.2.2.2.2.1) (by rw [a7]; exact h.2.2.2.2.2.2.1.2.2.2.2.2), ?_, fun n => absurd hX n⟩
  exact ⟨by rw [st_same, z82], m, 0, m20, by omega, by rw [st_ne (by decide)]; exact hm, by rw [z82]; decide, fun r hr => absurd hr (by omega)⟩
/-- the first train of all -/
theorem Nw_0 {P T1 A S S1 C X Ti : Tr} {L L0 : Lo} {pa : Nat → Nat} {B : Tr} {q9 : Nat} (hP : f_X2_clear T1 = some P) (h1 : f_X8_plain B = some S1) (h2 : f_X8_keepText S1 L0 = some (S, L)) (hb : ∃ T2, f_X6_begin pa T1 P 0 = some (T2, q9) ∧ A = st (st (st T2 0 5 0) 0 6 1) 0 7 1) (hT0 : ∀ a j, T1 a j = 0) (hj : jR S) (hC : ∀ a j, C a j = 0) (hX : X 0 4 = 0) : Nw P A S L ∧ uR P C S ∧ imR P X Ti S L := by
  obtain ⟨p1, p2, p3⟩ := e_clr _ _ hP
  obtain ⟨q1, q2, q3, _⟩ := e_plain _ _ h1
  obtain ⟨T2, b1, b2⟩ := hb
  have ud : RD T1 P S1 := RD_0 p1 p2 p3 (hT0 0 5) (hT0 0 6) q1 q2 q3
  have kt := k_keepText S1 L0 _ h2
  have kb := k_kpB S1 L0 _ h2
  have rg1 : rg S1 := by
    have l0 : (0 : Int32).toInt = 0 := by decide
    unfold rg
    rw [q3 16 (by omega), q3 17 (by omega), q3 18 (by omega), show S1 23 3 = 0 from (q2 0 (by omega)).2.1, show S1 23 5 = 0 from (q2 2 (by omega)).2.1, l0]
    exact ⟨⟨by omega, by omega, by omega⟩, fun p hp => absurd hp (by omega), fun p hp => absurd hp (by omega), fun i hi => absurd hi (by omega), by omega, by omega, by omega⟩
  have rk := rgK_of rg1 kt
  obtain ⟨⟨c1, c2, c3, c4, c5⟩, c6, c7, c8⟩ := (e_bgn2 pa T1 P 0 _ b1).1
  have z : ∀ a j, ¬ (a = 0 ∧ 5 ≤ j) → A a j = T2 a j := fun a j n => by rw [b2, st_no (by omega), st_no (by omega), st_no (by omega)]
  have bA : bgQ P A := by
    refine ⟨⟨?_, ?_, ?_, ?_, ?_⟩, fun p hp => ?_, fun i hi => ?_, fun p hp => ?_⟩
    · rw [z 0 0 (by omega)]; exact c1
    · rw [z 0 1 (by omega)]; exact c2
    · rw [z 0 2 (by omega)]; exact c3
    · rw [z 0 3 (by omega)]; exact c4
    · rw [z 0 4 (by omega)]; exact c5
    · rw [z 9 p (by omega), z 10 p (by omega), z 11 p (by omega), z 12 p (by omega)]; exact c6 p hp
    · rw [z 13 i (by omega), z 14 i (by omega), z 15 i (by omega)]; exact c7 i hi
    · rw [z 17 p (by omega), z 18 p (by omega)]; exact c8 p hp
  have z82 : S 0 82 = 0 := kb.2.2.2.2.1.2.1
  refine ⟨Nw_bg (pK_KT ud kt rk) hj rk kb bA (by rw [b2, st_ne (by decide), st_same]; decide) (by rw [b2, st_same]; decide), ?_, fun n => absurd hX n⟩
  exact ⟨by rw [hC, z82], 0, 0, by omega, by omega, by rw [hC]; decide, by rw [z82]; decide, fun r hr => absurd hr (by omega)⟩
-- 62.zaz.56.z46
/-! answers about what is now -/
theorem e_X7piece {P Tn S : Tr} {L : Lo} {pa qa : Nat → Nat} {q0 q4 : Nat} {x1 x2 : Int32} (h : Nw P Tn S L) : E2 (f_X7_piece pa qa P Tn q0 q4 x1 x2) (f_X8_piece S x1 x2) (fun r q => r = q.1) := by
  unfold f_X7_piece f_X8_piece
  refine E2_ltr (fun S1 e1 => ?_)
  have hN : Nw P Tn S1 L := by rw [e1]; exact Nw_2 h
  obtain ⟨⟨hS, hpI, hg⟩, hK, hd, hv, _⟩ := id hN
  have h14 : 0 ≤ (S1 0 14).toInt ∧ (S1 0 14).toInt ≤ 10 := hS 0 14
  refine E2_bd (e_isPc hK.1.2.2.1) (fun r r' hr => ?_)
  obtain ⟨rfl, hr⟩ := hr
  refine E2_it Iff.rfl (fun _ _ => E2_some rfl) (fun n _ => ?_)
  obtain ⟨_, x0, x14⟩ := hr.resolve_left n
  obtain ⟨i, hi⟩ : ∃ i : Nat, x1.toInt = i := ⟨x1.toInt.toNat, by omega⟩
  have hii : (i : Int) < (S1 0 14).toInt := by omega
  obtain ⟨k1, k2, k3, _⟩ := hK.2.2.2.1 i hii
  have d := hd.2.2.2.1 i hii
  rw [show 10 * 0 + i = i by omega] at d
  rw [i_cn hi]
  refine E2_it Iff.rfl (fun _ _ => E2_ckl (fun _ => E2_ckl (fun _ => E2_ckr (fun _ => E2_some k1)))) (fun _ _ => ?_)
  refine E2_it Iff.rfl (fun _ _ => E2_ckl (fun _ => E2_ckl (fun _ => E2_ckr (fun _ => E2_some k2)))) (fun _ _ => ?_)
  refine E2_it Iff.rfl (fun _ _ => E2_ckl (fun _ => E2_ckl (fun _ => E2_ckr (fun _ => E2_some k3)))) (fun _ _ => ?_)
  refine E2_it Iff.rfl (fun _ _ => E2_ckl (fun _ => E2_ckr (fun _ => E2_some d.1))) (fun _ _ => ?_)
  refine E2_it Iff.rfl (fun _ _ => E2_ckl (fun _ => E2_ckr (fun _ => E2_some d.2))) (fun _ _ => ?_)
  refine E2_it Iff.rfl (fun _ _ => E2_ckl (fun _ => ?_)) (fun _ _ => E2_some rfl)
  by_cases c : 0 ≤ (S1 54 i).toInt
  · obtain ⟨p, pos, ha⟩ := at2_of (b := 0) (P := P) (T := Tn) hS hg.1 hd.2.2.2.1 hd.2.2.2.2 hii (by rw [show 10 * 0 + i = i by omega]; exact c)
    obtain ⟨a1, a2⟩ := e_abv (b := 0) (xb := 0) ha (by decide) (by decide) hS hg.1 hi (by omega)
    refine E2_bl a1 (fun u hu => E2_br a2 (fun v hv => E2_some ?_))
    exact Int32.toInt_inj.mp (hu.trans hv.symm)
  · refine E2_bl (e_ab0 hi (by rw [d.2]; omega)) (fun u hu => E2_br (e_ab1 (b := 0) (xb := 0) (S := S1) (by decide) (by decide) hi (by omega) (by rw [show 10 * 0 + i = i by omega]; omega)) (fun v hv => E2_some ?_))
    exact hu.trans hv.symm
theorem e_X7place {P Tn S : Tr} {L : Lo} {pa qa : Nat → Nat} {q0 q4 : Nat} {x1 x2 : Int32} (h : Nw P Tn S L) : E2 (f_X7_place pa qa P Tn q0 q4 x1 x2) (f_X8_place S x1 x2) (fun r q => r = q.1) := by
  unfold f_X7_place f_X8_place
  refine E2_ltr (fun S1 e1 => ?_)
  have hN : Nw P Tn S1 L := by rw [e1]; exact Nw_2 h
  obtain ⟨⟨hS, hpI, hg⟩, hK, hd, hv, _⟩ := id hN
  have h12 : 0 ≤ (S1 0 12).toInt ∧ (S1 0 12).toInt ≤ 5 := hS 0 12
  refine E2_bd (e_isPl hK.1.1) (fun r r' hr => ?_)
  obtain ⟨rfl, hr⟩ := hr
  refine E2_it Iff.rfl (fun _ _ => E2_some rfl) (fun n _ => ?_)
  obtain ⟨_, x0, x12⟩ := hr.resolve_left n
  obtain ⟨p, hp⟩ : ∃ p : Nat, x1.toInt = p := ⟨x1.toInt.toNat, by omega⟩
  have hpp : (p : Int) < (S1 0 12).toInt := by omega
  obtain ⟨k1, k2⟩ := hK.2.1 p hpp
  have s1 := hd.2.2.2.2 p (by omega)
  have s17 := s1.1
  rw [show 5 * 0 + p = p by omega] at s17
  rw [i_cn hp]
  refine E2_it Iff.rfl (fun _ _ => E2_ckl (fun _ => E2_ckl (fun _ => E2_ckr (fun _ => E2_some k1)))) (fun _ _ => ?_)
  refine E2_it Iff.rfl (fun _ _ => E2_ckl (fun _ => E2_ckl (fun _ => E2_ckr (fun _ => E2_some k2)))) (fun _ _ => ?_)
  refine E2_it Iff.rfl (fun _ _ => E2_ckl (fun _ => E2_br (e_wgt (b := 0) (xb := 0) (by decide) (by decide) hp (by omega) hS hg.1 hK.2.2.2.1 s1) (fun v hv => E2_some hv.symm))) (fun _ _ => ?_)
  refine E2_it Iff.rfl (fun _ _ => E2_ckl (fun _ => E2_ckr (fun _ => E2_some s17))) (fun _ _ => ?_)
  refine E2_it Iff.rfl (fun _ _ => E2_ckl (fun _ => E2_ckr (fun _ => E2_bl (e_tpN (b := 0) (P := P) hS hd.2.2.2.2 hp (by omega)) (fun u hu => ?_)))) (fun _ _ => E2_some rfl)
  rw [show 5 * 0 + p = p by omega] at hu
  have b56 := BM56 hS p
  rcases hu with ⟨c, u1⟩ | ⟨c, u1⟩
  · rw [if_pos c]; exact E2_some u1
  · rw [if_neg c]
    obtain ⟨m, hm⟩ : ∃ m : Nat, (S1 56 p).toInt = m := ⟨(S1 56 p).toInt.toNat, by omega⟩
    have m0 : m ≠ 0 := fun g => c (Int32.toInt_inj.mp (by rw [hm, g]; decide))
    have e : (S1 56 p - 1).toInt = ((m - 1 : Nat) : Int) := by rw [i_subK hm (y := 1) (by decide) (by omega) (by omega)]; omega
    refine E2_br (e_sat (b := 0) (xb := 0) (S := S1) (by decide) (by decide) hp (by omega) e (by omega)) (fun v hv => E2_some ?_)
    show u = v
    rw [u1, hv, hm, show ((m : Nat) : Int).toNat - 1 = m - 1 by omega]
theorem E2_lb' {α β : Type} {R Q : α → β → Prop} {x : Option α} {y : Option β} (h1 : E2 x y R) (h : ∀ a b, R a b → Q a b) : E2 (bd x fun r => some r) y Q := fun a b ea eb => by
  cases x with
  | none => cases ea
  | some v => exact h a b (h1 a b ea eb)
theorem e_mh {P Tn S : Tr} {L : Lo} {x : Int32} (h : Nw P Tn S L) : E2 (f_X6_piecesThatAre Tn P x) (f_X8_manyHow S x) (fun r r' => r = r') := by
  obtain ⟨⟨hS, hpI, hg⟩, hK, hd, hv, _⟩ := id h
  have h14 : 0 ≤ (S 0 14).toInt ∧ (S 0 14).toInt ≤ 10 := hS 0 14
  have p14 : P 0 2 = S 0 14 := hK.1.2.2.1
  have lp : ∀ (N M n : Nat) (x2 x3 : Int32), x3.toInt = n → n ≤ 10 → E2 (lpF (fun _ _ => none) (fB_X6_piecesThatAre_L4 Tn P x) N x2 x3) (lpF (fun _ _ => none) (fB_X8_manyHow_L4 S x) M x2 x3) (fun r r' => r = r') := by
    intro N
    induction N with
    | zero => intro M n x2 x3 _ _; exact E2_nl
    | succ N ih =>
      intro M n x2 x3 hx hn
      cases M with
      | zero => exact E2_nr
      | succ M =>
        show E2 (fB_X6_piecesThatAre_L4 Tn P x (lpF (fun _ _ => none) (fB_X6_piecesThatAre_L4 Tn P x) N) x2 x3) (fB_X8_manyHow_L4 S x (lpF (fun _ _ => none) (fB_X8_manyHow_L4 S x) M) x2 x3) _
        have ih := ih M
        generalize lpF (fun _ _ => none) (fB_X6_piecesThatAre_L4 Tn P x) N = k at ih ⊢
        generalize lpF (fun _ _ => none) (fB_X8_manyHow_L4 S x) M = k' at ih ⊢
        unfold fB_X6_piecesThatAre_L4 fB_X8_manyHow_L4
        rw [p14]
        refine E2_it Iff.rfl (fun _ _ => E2_some rfl) (fun c _ => E2_ckl (fun _ => E2_ckr (fun _ => ?_)))
        have lt := tq_len rfl hx c
        have d := (hd.2.2.2.1 n lt).1
        rw [show 10 * 0 + n = n by omega] at d
        have e1 := i_p1 hx (by omega)
        rw [i_cn hx, d]
        refine E2_it Iff.rfl (fun _ _ => E2_ltl (fun y a1 => E2_ltl (fun z a2 => E2_ltr (fun y' a3 => E2_ltr (fun z' a4 => ?_))))) (fun _ _ => E2_ltl (fun z a2 => E2_ltr (fun y' a3 => E2_ltr (fun z' a4 => ?_))))
        · rw [a1, a2, a3, a4]; exact ih (n + 1) (x2 + 1) (x3 + 1) e1 (by omega)
        · rw [a2, a3, a4, Int32.add_zero]; exact ih (n + 1) x2 (x3 + 1) e1 (by omega)
  unfold f_X6_piecesThatAre fL_X6_piecesThatAre_L4 f_X8_manyHow fL_X8_manyHow_L4
  exact lp 2000 2000 0 0 0 (by decide) (by omega)
theorem e_pab {P Tn S : Tr} {L : Lo} (h : Nw P Tn S L) : E2 (f_X6_personsAboard Tn P) (fL_X8_count_L154 S 0 0) (fun r q => r = q.1) := by
  obtain ⟨⟨hS, hpI, hg⟩, hK, hd, hv, _⟩ := id h
  have h13 : 0 ≤ (S 0 13).toInt ∧ (S 0 13).toInt ≤ 6 := hS 0 13
  have p13 : P 0 1 = S 0 13 := hK.1.2.1
  have lp : ∀ (N M n : Nat) (x2 x3 : Int32), x3.toInt = n → n ≤ 6 → E2 (lpF (fun _ _ => none) (fB_X6_personsAboard_L4 Tn P) N x2 x3) (lpF (fun _ _ => none) (fB_X8_count_L154 S) M x2 x3) (fun r q => r = q.1) := by
    intro N
    induction N with
    | zero => intro M n x2 x3 _ _; exact E2_nl
    | succ N ih =>
      intro M n x2 x3 hx hn
      cases M with
      | zero => exact E2_nr
      | succ M =>
        show E2 (fB_X6_personsAboard_L4 Tn P (lpF (fun _ _ => none) (fB_X6_personsAboard_L4 Tn P) N) x2 x3) (fB_X8_count_L154 S (lpF (fun _ _ => none) (fB_X8_count_L154 S) M) x2 x3) _
        have ih := ih M
        generalize lpF (fun _ _ => none) (fB_X6_personsAboard_L4 Tn P) N = k at ih ⊢
        generalize lpF (fun _ _ => none) (fB_X8_count_L154 S) M = k' at ih ⊢
        unfold fB_X6_personsAboard_L4 fB_X8_count_L154
        rw [p13]
        refine E2_it Iff.rfl (fun _ _ => E2_some rfl) (fun c _ => E2_ckl (fun _ => E2_ckr (fun _ => ?_)))
        have lt := tq_len rfl hx c
        have d := (hd.2.2.1 n lt).1
        rw [show 6 * 0 + n = n by omega] at d
        have e1 := i_p1 hx (by omega)
        rw [i_cn hx, d]
        refine E2_it Iff.rfl (fun _ _ => E2_ltl (fun y a1 => E2_ltl (fun z a2 => E2_ltr (fun y' a3 => E2_ltr (fun z' a4 => ?_))))) (fun _ _ => E2_ltl (fun z a2 => E2_ltr (fun y' a3 => E2_ltr (fun z' a4 => ?_))))
        · rw [a1, a2, a3, a4]; exact ih (n + 1) (x2 + 1) (x3 + 1) e1 (by omega)
        · rw [a2, a3, a4, Int32.add_zero]; exact ih (n + 1) x2 (x3 + 1) e1 (by omega)
  unfold f_X6_personsAboard fL_X6_personsAboard_L4 fL_X8_count_L154
  exact lp 2000 2000 0 0 0 (by decide) (by omega)
theorem e_X7count {P Tn C Z S : Tr} {L : Lo} {pa qa : Nat → Nat} {q0 q4 : Nat} {x1 : Int32} (h : Nw P Tn S L) (hu : uR P C S) (hz : zR Z S) : E2 (f_X7_count pa qa P Tn C Z q0 q4 x1) (f_X8_count S x1) (fun r q => r = q.1) := by
  unfold f_X7_count f_X8_count
  refine E2_ltr (fun S1 e1 => ?_)
  have hN : Nw P Tn S1 L := by rw [e1]; exact Nw_2 h
  have z : ∀ a j, ¬ (a = 0 ∧ j = 2) → S1 a j = S a j := fun a j n => by rw [e1, st_no n]
  obtain ⟨⟨hS, hpI, hg⟩, hK, hd, hv, _⟩ := id hN
  obtain ⟨k1, k2, k3, k4, k5, _⟩ := hK.1
  have many : ∀ v : Int32, (x1 - 6) + 1 = v → E2 (ck (decide (q0 = pa 0)) (bd (f_X6_piecesThatAre Tn P ((x1 - 6) + 1)) fun r13 => some r13)) (bd (f_X8_manyHow S1 v) fun r9 => some (r9, S1)) (fun r q => r = q.1) := fun v e => by
    rw [e]
    exact E2_ckl (fun _ => E2_bd (e_mh hN) (fun u v hu => E2_some hu))
  refine E2_it Iff.rfl (fun _ _ => E2_ckl (fun _ => E2_some k1)) (fun _ _ => ?_)
  refine E2_it Iff.rfl (fun _ _ => E2_ckl (fun _ => E2_some k2)) (fun _ _ => ?_)
  refine E2_it Iff.rfl (fun _ _ => E2_ckl (fun _ => E2_some k3)) (fun _ _ => ?_)
  refine E2_it Iff.rfl (fun _ _ => E2_ckl (fun _ => E2_some k4)) (fun _ _ => ?_)
  refine E2_it Iff.rfl (fun _ _ => E2_some hd.1) (fun _ _ => ?_)
  refine E2_it Iff.rfl (fun _ _ => E2_some hd.2.1) (fun _ _ => ?_)
  refine E2_it Iff.rfl (fun c _ => many 1 (by rw [c]; decide)) (fun _ _ => ?_)
  refine E2_it Iff.rfl (fun c _ => many 2 (by rw [c]; decide)) (fun _ _ => ?_)
  refine E2_it Iff.rfl (fun c _ => many 3 (by rw [c]; decide)) (fun _ _ => ?_)
  refine E2_it Iff.rfl (fun c _ => many 4 (by rw [c]; decide)) (fun _ _ => ?_)
  refine E2_it Iff.rfl (fun c _ => many 5 (by rw [c]; decide)) (fun _ _ => ?_)
  refine E2_it Iff.rfl (fun _ _ => E2_ckl (fun _ => E2_lb' (e_pab hN) (fun u v hu => hu))) (fun _ _ => ?_)
  refine E2_it Iff.rfl (fun _ _ => E2_ckl (fun _ => E2_some k5)) (fun _ _ => ?_)
  refine E2_it Iff.rfl (fun _ _ => E2_some (hz.1.trans (z 0 78 (by omega)).symm)) (fun _ _ => ?_)
  refine E2_it Iff.rfl (fun _ _ => ?_) (fun _ _ => ?_)
  · unfold f_X4_regarded_x f_X8_knownBy
    rw [z 0 79 (by omega), z 0 78 (by omega), hz.1, hz.2.1]
    by_cases g : 0 ≤ S 0 79
    · rw [if_pos g]; exact E2_sl (E2_sr (E2_some rfl))
    · rw [if_neg g]; exact E2_sl (E2_sr (E2_some rfl))
  · exact E2_it Iff.rfl (fun _ _ => E2_some (hu.1.trans (z 0 82 (by omega)).symm)) (fun _ _ => E2_some rfl)
