/-! who is awaited stays so till the stop is theirs -/
theorem aw_s {j0 b0 : Nat} {S : Tr} {a i : Nat} {v : Int32} (h : S 59 j0 = 0 ∧ ¬ S 57 j0 = S 62 b0) (hn : ¬ (a = 57 ∨ a = 62)) (h9 : ¬ (a = 59 ∧ i = j0)) : st S a i v 59 j0 = 0 ∧ ¬ st S a i v 57 j0 = st S a i v 62 b0 := by
  rw [st_no (fun e => h9 ⟨e.1.symm, e.2.symm⟩), st_no (fun e => hn (Or.inl e.1.symm)), st_no (fun e => hn (Or.inr e.1.symm))]; exact h
set_option maxHeartbeats 1000000 in
set_option maxRecDepth 100000 in
theorem awJ_X8_takes_J96 {j0 b0 : Nat} (x1 : Int32) (x2 : Int32) (x3 : Int32) (S : Tr) (hS : S 59 j0 = 0 ∧ ¬ S 57 j0 = S 62 b0)   : Ep (fJ_X8_takes_J96 x1 x2 x3 S) (fun q => q 59 j0 = 0 ∧ ¬ q 57 j0 = q 62 b0) := by
  unfold fJ_X8_takes_J96
  refine Ep_ck ?_
  refine Ep_lt (fun S_11 eS_11 => ?_)
  have hS_11 : S_11 59 j0 = 0 ∧ ¬ S_11 57 j0 = S_11 62 b0 := by rw [eS_11]; exact aw_s hS (by omega) (by omega)
  refine Ep_lt (fun S_12 eS_12 => ?_)
  have hS_12 : S_12 59 j0 = 0 ∧ ¬ S_12 57 j0 = S_12 62 b0 := by rw [eS_12]; exact aw_s hS_11 (by omega) (by omega)
  exact Ep_some hS_12
set_option maxHeartbeats 1000000 in
set_option maxRecDepth 100000 in
theorem awB_X8_takes_L36 {j0 b0 : Nat} (x1 : Int32) (x2 : Int32) (x3 : Int32) (x4 : Int32)    (N : Nat) : ∀ (x5 : Int32) (S : Tr), S 59 j0 = 0 ∧ ¬ S 57 j0 = S 62 b0 → Ep (lpF (fun _ _ => none) (fB_X8_takes_L36 x1 x2 x3 x4) N x5 S) (fun q => q 59 j0 = 0 ∧ ¬ q 57 j0 = q 62 b0) := by
  induction N with
  | zero => intro x5 S _; exact Ep_none
  | succ N ih =>
    intro x5 S hS
    show Ep (fB_X8_takes_L36 x1 x2 x3 x4 (lpF (fun _ _ => none) (fB_X8_takes_L36 x1 x2 x3 x4) N) x5 S) _
    have hk36 := ih
    clear ih
    generalize lpF (fun _ _ => none) (fB_X8_takes_L36 x1 x2 x3 x4) N = k36 at hk36 ⊢
    unfold fB_X8_takes_L36
    refine Ep_ck ?_
    refine Ep_ite (fun _ => ?_) (fun _ => ?_)
    · exact awJ_X8_takes_J96 x1 x2 x3 S hS
    · refine Ep_ck ?_
      refine Ep_ck ?_
      refine Ep_lt (fun S_15 eS_15 => ?_)
      have hS_15 : S_15 59 j0 = 0 ∧ ¬ S_15 57 j0 = S_15 62 b0 := by rw [eS_15]; exact aw_s hS (by omega) (by omega)
      refine Ep_lt (fun y16 ey16 => ?_)
      exact hk36 y16 S_15 hS_15
set_option maxHeartbeats 1000000 in
set_option maxRecDepth 100000 in
theorem awL_X8_takes_L36 {j0 b0 : Nat} (x1 : Int32) (x2 : Int32) (x3 : Int32) (x4 : Int32)    (x5 : Int32) (S : Tr) (hS : S 59 j0 = 0 ∧ ¬ S 57 j0 = S 62 b0) : Ep (fL_X8_takes_L36 x1 x2 x3 x4 x5 S) (fun q => q 59 j0 = 0 ∧ ¬ q 57 j0 = q 62 b0) := by
  unfold fL_X8_takes_L36
  exact awB_X8_takes_L36 x1 x2 x3 x4 2000 x5 S hS
set_option maxHeartbeats 1000000 in
set_option maxRecDepth 100000 in
theorem aw_X8_takes {j0 b0 : Nat} (S : Tr) (x1 : Int32) (x2 : Int32) (x3 : Int32) (hS : S 59 j0 = 0 ∧ ¬ S 57 j0 = S 62 b0)   : Ep (f_X8_takes S x1 x2 x3) (fun q => q 59 j0 = 0 ∧ ¬ q 57 j0 = q 62 b0) := by
  unfold f_X8_takes
  refine Ep_ck ?_
  refine Ep_lt (fun y2 ey2 => ?_)
  refine Ep_any (fun r3 => ?_)
  refine Ep_ck ?_
  refine Ep_lt (fun S_7 eS_7 => ?_)
  have hS_7 : S_7 59 j0 = 0 ∧ ¬ S_7 57 j0 = S_7 62 b0 := by rw [eS_7]; exact aw_s hS (by omega) (by omega)
  exact awL_X8_takes_L36 x1 x2 x3 y2 r3 S_7 hS_7
set_option maxHeartbeats 1000000 in
set_option maxRecDepth 100000 in
theorem aw_X8_lays {j0 b0 : Nat} (S : Tr) (x1 : Int32) (x2 : Int32) (x3 : Int32) (hS : S 59 j0 = 0 ∧ ¬ S 57 j0 = S 62 b0)   : Ep (f_X8_lays S x1 x2 x3) (fun q => q 59 j0 = 0 ∧ ¬ q 57 j0 = q 62 b0) := by
  unfold f_X8_lays
  refine Ep_ck ?_
  refine Ep_ck ?_
  refine Ep_lt (fun S_3 eS_3 => ?_)
  have hS_3 : S_3 59 j0 = 0 ∧ ¬ S_3 57 j0 = S_3 62 b0 := by rw [eS_3]; exact aw_s hS (by omega) (by omega)
  refine Ep_lt (fun S_4 eS_4 => ?_)
  have hS_4 : S_4 59 j0 = 0 ∧ ¬ S_4 57 j0 = S_4 62 b0 := by rw [eS_4]; exact aw_s hS_3 (by omega) (by omega)
  refine Ep_ck ?_
  refine Ep_lt (fun S_6 eS_6 => ?_)
  have hS_6 : S_6 59 j0 = 0 ∧ ¬ S_6 57 j0 = S_6 62 b0 := by rw [eS_6]; exact aw_s hS_4 (by omega) (by omega)
  refine Ep_lt (fun S_7 eS_7 => ?_)
  have hS_7 : S_7 59 j0 = 0 ∧ ¬ S_7 57 j0 = S_7 62 b0 := by rw [eS_7]; exact aw_s hS_6 (by omega) (by omega)
  exact Ep_some hS_7
set_option maxHeartbeats 1000000 in
set_option maxRecDepth 100000 in
theorem awJ_X8_lawOf_J39 {j0 b0 : Nat} (x1 : Int32) (S : Tr) (L : Lo) (hS : S 59 j0 = 0 ∧ ¬ S 57 j0 = S 62 b0)   : Ep (fJ_X8_lawOf_J39 x1 S L) (fun q => q.2.1 59 j0 = 0 ∧ ¬ q.2.1 57 j0 = q.2.1 62 b0) := by
  unfold fJ_X8_lawOf_J39
  refine Ep_ite (fun _ => ?_) (fun _ => ?_)
  · refine Ep_ck ?_
    refine Ep_ck ?_
    exact Ep_some hS
  · exact Ep_some hS
set_option maxHeartbeats 1000000 in
set_option maxRecDepth 100000 in
theorem awJ_X8_bounded_J29 {j0 b0 : Nat} (x1 : Int64) (s0 : Int32) (S : Tr) (hS : S 59 j0 = 0 ∧ ¬ S 57 j0 = S 62 b0)   : Ep (fJ_X8_bounded_J29 x1 s0 S) (fun q => q.2 59 j0 = 0 ∧ ¬ q.2 57 j0 = q.2 62 b0) := by
  unfold fJ_X8_bounded_J29
  refine Ep_ck ?_
  refine Ep_lt (fun S_3 eS_3 => ?_)
  have hS_3 : S_3 59 j0 = 0 ∧ ¬ S_3 57 j0 = S_3 62 b0 := by rw [eS_3]; exact aw_s hS (by omega) (by omega)
  refine Ep_ite (fun _ => ?_) (fun _ => ?_)
  · exact Ep_some hS_3
  · exact Ep_some hS_3
set_option maxHeartbeats 1000000 in
set_option maxRecDepth 100000 in
theorem awJ_X8_bounded_J24 {j0 b0 : Nat} (x1 : Int64) (S : Tr) (hS : S 59 j0 = 0 ∧ ¬ S 57 j0 = S 62 b0)   : Ep (fJ_X8_bounded_J24 x1 S) (fun q => q.2 59 j0 = 0 ∧ ¬ q.2 57 j0 = q.2 62 b0) := by
  unfold fJ_X8_bounded_J24
  exact awJ_X8_bounded_J29 x1 1 S hS
set_option maxHeartbeats 1000000 in
set_option maxRecDepth 100000 in
theorem aw_X8_bounded {j0 b0 : Nat} (S : Tr) (x1 : Int64) (hS : S 59 j0 = 0 ∧ ¬ S 57 j0 = S 62 b0)   : Ep (f_X8_bounded S x1) (fun q => q.2 59 j0 = 0 ∧ ¬ q.2 57 j0 = q.2 62 b0) := by
  unfold f_X8_bounded
  refine Ep_ite (fun _ => ?_) (fun _ => ?_)
  · refine Ep_ite (fun _ => ?_) (fun _ => ?_)
    · exact awJ_X8_bounded_J24 x1 S hS
    · refine Ep_ite (fun _ => ?_) (fun _ => ?_)
      · exact awJ_X8_bounded_J29 x1 0 S hS
      · exact awJ_X8_bounded_J24 x1 S hS
  · exact awJ_X8_bounded_J24 x1 S hS
set_option maxHeartbeats 1000000 in
set_option maxRecDepth 100000 in
theorem awJ_X8_times_J69 {j0 b0 : Nat} (x1 : Int64) (x3 : Int64) (s0 : Int32) (S : Tr) (hS : S 59 j0 = 0 ∧ ¬ S 57 j0 = S 62 b0)   : Ep (fJ_X8_times_J69 x1 x3 s0 S) (fun q => q.2 59 j0 = 0 ∧ ¬ q.2 57 j0 = q.2 62 b0) := by
  unfold fJ_X8_times_J69
  refine Ep_ck ?_
  refine Ep_lt (fun S_4 eS_4 => ?_)
  have hS_4 : S_4 59 j0 = 0 ∧ ¬ S_4 57 j0 = S_4 62 b0 := by rw [eS_4]; exact aw_s hS (by omega) (by omega)
  refine Ep_ite (fun _ => ?_) (fun _ => ?_)
  · exact Ep_some hS_4
  · exact Ep_some hS_4
set_option maxHeartbeats 1000000 in
set_option maxRecDepth 100000 in
theorem awJ_X8_times_J64 {j0 b0 : Nat} (x1 : Int64) (x3 : Int64) (S : Tr) (hS : S 59 j0 = 0 ∧ ¬ S 57 j0 = S 62 b0)   : Ep (fJ_X8_times_J64 x1 x3 S) (fun q => q.2 59 j0 = 0 ∧ ¬ q.2 57 j0 = q.2 62 b0) := by
  unfold fJ_X8_times_J64
  exact awJ_X8_times_J69 x1 x3 1 S hS
set_option maxHeartbeats 1000000 in
set_option maxRecDepth 100000 in
theorem awJ_X8_times_J49 {j0 b0 : Nat} (x1 : Int64) (x3 : Int64) (s0 : Int32) (S : Tr) (hS : S 59 j0 = 0 ∧ ¬ S 57 j0 = S 62 b0)   : Ep (fJ_X8_times_J49 x1 x3 s0 S) (fun q => q.2 59 j0 = 0 ∧ ¬ q.2 57 j0 = q.2 62 b0) := by
  unfold fJ_X8_times_J49
  refine Ep_ite (fun _ => ?_) (fun _ => ?_)
  · refine Ep_ite (fun _ => ?_) (fun _ => ?_)
    · exact awJ_X8_times_J69 x1 x3 0 S hS
    · exact awJ_X8_times_J64 x1 x3 S hS
  · exact awJ_X8_times_J64 x1 x3 S hS
set_option maxHeartbeats 1000000 in
set_option maxRecDepth 100000 in
theorem awJ_X8_times_J48 {j0 b0 : Nat} (x1 : Int64) (x3 : Int64) (S : Tr) (hS : S 59 j0 = 0 ∧ ¬ S 57 j0 = S 62 b0)   : Ep (fJ_X8_times_J48 x1 x3 S) (fun q => q.2 59 j0 = 0 ∧ ¬ q.2 57 j0 = q.2 62 b0) := by
  unfold fJ_X8_times_J48
  exact awJ_X8_times_J49 x1 x3 0 S hS
set_option maxHeartbeats 1000000 in
set_option maxRecDepth 100000 in
theorem awJ_X8_times_J39 {j0 b0 : Nat} (x1 : Int64) (x3 : Int64) (s0 : Int64) (s1 : Int64) (s2 : Int64) (S : Tr) (hS : S 59 j0 = 0 ∧ ¬ S 57 j0 = S 62 b0)   : Ep (fJ_X8_times_J39 x1 x3 s0 s1 s2 S) (fun q => q.2 59 j0 = 0 ∧ ¬ q.2 57 j0 = q.2 62 b0) := by
  unfold fJ_X8_times_J39
  refine Ep_ck ?_
  refine Ep_ite (fun _ => ?_) (fun _ => ?_)
  · exact awJ_X8_times_J48 x1 x3 S hS
  · exact awJ_X8_times_J49 x1 x3 1 S hS
set_option maxHeartbeats 1000000 in
set_option maxRecDepth 100000 in
theorem awJ_X8_times_J24 {j0 b0 : Nat} (x1 : Int64) (x3 : Int64) (s0 : Int64) (S : Tr) (hS : S 59 j0 = 0 ∧ ¬ S 57 j0 = S 62 b0)   : Ep (fJ_X8_times_J24 x1 x3 s0 S) (fun q => q.2 59 j0 = 0 ∧ ¬ q.2 57 j0 = q.2 62 b0) := by
  unfold fJ_X8_times_J24
  refine Ep_ite (fun _ => ?_) (fun _ => ?_)
  · exact awJ_X8_times_J39 x1 x3 x1 1000000000000 s0 S hS
  · exact awJ_X8_times_J39 x1 x3 (-x1) 1000000000000 s0 S hS
set_option maxHeartbeats 1000000 in
set_option maxRecDepth 100000 in
theorem aw_X8_times {j0 b0 : Nat} (S : Tr) (x1 : Int64) (x3 : Int64) (hS : S 59 j0 = 0 ∧ ¬ S 57 j0 = S 62 b0)   : Ep (f_X8_times S x1 x3) (fun q => q.2 59 j0 = 0 ∧ ¬ q.2 57 j0 = q.2 62 b0) := by
  unfold f_X8_times
  refine Ep_ite (fun _ => ?_) (fun _ => ?_)
  · exact awJ_X8_times_J48 x1 x3 S hS
  · refine Ep_ite (fun _ => ?_) (fun _ => ?_)
    · exact awJ_X8_times_J48 x1 x3 S hS
    · refine Ep_ite (fun _ => ?_) (fun _ => ?_)
      · exact awJ_X8_times_J24 x1 x3 x3 S hS
      · exact awJ_X8_times_J24 x1 x3 (-x3) S hS
set_option maxHeartbeats 1000000 in
set_option maxRecDepth 100000 in
theorem awJ_X8_valueOf_J240 {j0 b0 : Nat} (L : Lo) (x2 : Int64) (x4 : Int64) (s0 : Int32) (S : Tr) (hS : S 59 j0 = 0 ∧ ¬ S 57 j0 = S 62 b0)   : Ep (fJ_X8_valueOf_J240 L x2 x4 s0 S) (fun q => q.2 59 j0 = 0 ∧ ¬ q.2 57 j0 = q.2 62 b0) := by
  unfold fJ_X8_valueOf_J240
  refine Ep_ck ?_
  refine Ep_lt (fun S_34 eS_34 => ?_)
  have hS_34 : S_34 59 j0 = 0 ∧ ¬ S_34 57 j0 = S_34 62 b0 := by rw [eS_34]; exact aw_s hS (by omega) (by omega)
  refine Ep_ite (fun _ => ?_) (fun _ => ?_)
  · refine Ep_ck ?_
    exact Ep_some hS_34
  · exact Ep_some hS_34
set_option maxHeartbeats 1000000 in
set_option maxRecDepth 100000 in
theorem awJ_X8_valueOf_J235 {j0 b0 : Nat} (L : Lo) (x2 : Int64) (x4 : Int64) (S : Tr) (hS : S 59 j0 = 0 ∧ ¬ S 57 j0 = S 62 b0)   : Ep (fJ_X8_valueOf_J235 L x2 x4 S) (fun q => q.2 59 j0 = 0 ∧ ¬ q.2 57 j0 = q.2 62 b0) := by
  unfold fJ_X8_valueOf_J235
  exact awJ_X8_valueOf_J240 L x2 x4 1 S hS
set_option maxHeartbeats 1000000 in
set_option maxRecDepth 100000 in
theorem aw_X8_valueOf {j0 b0 : Nat} (S : Tr) (L : Lo) (x1 : Int32) (hS : S 59 j0 = 0 ∧ ¬ S 57 j0 = S 62 b0)   : Ep (f_X8_valueOf S L x1) (fun q => q.2 59 j0 = 0 ∧ ¬ q.2 57 j0 = q.2 62 b0) := by
  unfold f_X8_valueOf
  refine Ep_ck ?_
  refine Ep_ite (fun _ => ?_) (fun _ => ?_)
  · exact Ep_some hS
  · refine Ep_ite (fun _ => ?_) (fun _ => ?_)
    · refine Ep_ck ?_
      exact Ep_some hS
    · refine Ep_ck ?_
      refine Ep_lt (fun y5 ey5 => ?_)
      refine Ep_ite (fun _ => ?_) (fun _ => ?_)
      · refine Ep_ite (fun _ => ?_) (fun _ => ?_)
        · exact Ep_some hS
        · exact Ep_some hS
      · refine Ep_ck ?_
        refine Ep_lt (fun y8 ey8 => ?_)
        refine Ep_lt (fun y9 ey9 => ?_)
        refine Ep_ite (fun _ => ?_) (fun _ => ?_)
        · refine Ep_ite (fun _ => ?_) (fun _ => ?_)
          · exact Ep_some hS
          · refine Ep_ite (fun _ => ?_) (fun _ => ?_)
            · exact Ep_some hS
            · exact Ep_some hS
        · refine Ep_ite (fun _ => ?_) (fun _ => ?_)
          · refine Ep_ite (fun _ => ?_) (fun _ => ?_)
            · refine Ep_ite (fun _ => ?_) (fun _ => ?_)
              · exact Ep_some hS
              · exact Ep_some hS
            · exact Ep_some hS
          · refine Ep_ite (fun _ => ?_) (fun _ => ?_)
            · refine Ep_bd (aw_X8_bounded S (y5 + y8) hS) (fun q hq => ?_)
              refine Ep_lt (fun r17 er17 => ?_)
              refine Ep_lt (fun S_18 eS_18 => ?_)
              have hS_18 : S_18 59 j0 = 0 ∧ ¬ S_18 57 j0 = S_18 62 b0 := by rw [eS_18]; exact hq
              exact Ep_some hS_18
            · refine Ep_ite (fun _ => ?_) (fun _ => ?_)
              · refine Ep_bd (aw_X8_bounded S (y5 - y8) hS) (fun q hq => ?_)
                refine Ep_lt (fun r22 er22 => ?_)
                refine Ep_lt (fun S_23 eS_23 => ?_)
                have hS_23 : S_23 59 j0 = 0 ∧ ¬ S_23 57 j0 = S_23 62 b0 := by rw [eS_23]; exact hq
                exact Ep_some hS_23
              · refine Ep_ite (fun _ => ?_) (fun _ => ?_)
                · refine Ep_bd (aw_X8_times S y5 y8 hS) (fun q hq => ?_)
                  refine Ep_lt (fun r27 er27 => ?_)
                  refine Ep_lt (fun S_28 eS_28 => ?_)
                  have hS_28 : S_28 59 j0 = 0 ∧ ¬ S_28 57 j0 = S_28 62 b0 := by rw [eS_28]; exact hq
                  exact Ep_some hS_28
                · refine Ep_ite (fun _ => ?_) (fun _ => ?_)
                  · refine Ep_ite (fun _ => ?_) (fun _ => ?_)
                    · refine Ep_ite (fun _ => ?_) (fun _ => ?_)
                      · exact awJ_X8_valueOf_J235 L y5 y8 S hS
                      · exact awJ_X8_valueOf_J240 L y5 y8 0 S hS
                    · exact awJ_X8_valueOf_J235 L y5 y8 S hS
                  · refine Ep_any (fun r38 => ?_)
                    refine Ep_ite (fun _ => ?_) (fun _ => ?_)
                    · exact Ep_some hS
                    · exact Ep_some hS
set_option maxHeartbeats 1000000 in
set_option maxRecDepth 100000 in
theorem awB_X8_lawOf_L12 {j0 b0 : Nat} (x1 : Int32)    (N : Nat) : ∀ (x2 : Int32) (S : Tr) (L : Lo), S 59 j0 = 0 ∧ ¬ S 57 j0 = S 62 b0 → Ep (lpF (fun _ _ _ => none) (fB_X8_lawOf_L12 x1) N x2 S L) (fun q => q.2.1 59 j0 = 0 ∧ ¬ q.2.1 57 j0 = q.2.1 62 b0) := by
  induction N with
  | zero => intro x2 S L _; exact Ep_none
  | succ N ih =>
    intro x2 S L hS
    show Ep (fB_X8_lawOf_L12 x1 (lpF (fun _ _ _ => none) (fB_X8_lawOf_L12 x1) N) x2 S L) _
    have hk12 := ih
    clear ih
    generalize lpF (fun _ _ _ => none) (fB_X8_lawOf_L12 x1) N = k12 at hk12 ⊢
    unfold fB_X8_lawOf_L12
    refine Ep_ck ?_
    refine Ep_ite (fun _ => ?_) (fun _ => ?_)
    · exact awJ_X8_lawOf_J39 x1 S L hS
    · refine Ep_bd (aw_X8_valueOf S L x2 hS) (fun q hq => ?_)
      refine Ep_lt (fun r9 er9 => ?_)
      refine Ep_lt (fun S_10 eS_10 => ?_)
      have hS_10 : S_10 59 j0 = 0 ∧ ¬ S_10 57 j0 = S_10 62 b0 := by rw [eS_10]; exact hq
      refine Ep_ck ?_
      refine Ep_lt (fun L_14 eL_14 => ?_)
      refine Ep_lt (fun y15 ey15 => ?_)
      exact hk12 y15 S_10 L_14 hS_10
set_option maxHeartbeats 1000000 in
set_option maxRecDepth 100000 in
theorem awL_X8_lawOf_L12 {j0 b0 : Nat} (x1 : Int32)    (x2 : Int32) (S : Tr) (L : Lo) (hS : S 59 j0 = 0 ∧ ¬ S 57 j0 = S 62 b0) : Ep (fL_X8_lawOf_L12 x1 x2 S L) (fun q => q.2.1 59 j0 = 0 ∧ ¬ q.2.1 57 j0 = q.2.1 62 b0) := by
  unfold fL_X8_lawOf_L12
  exact awB_X8_lawOf_L12 x1 2000 x2 S L hS
set_option maxHeartbeats 1000000 in
set_option maxRecDepth 100000 in
theorem aw_X8_lawOf {j0 b0 : Nat} (S : Tr) (L : Lo) (x1 : Int32) (hS : S 59 j0 = 0 ∧ ¬ S 57 j0 = S 62 b0)   : Ep (f_X8_lawOf S L x1) (fun q => q.2.1 59 j0 = 0 ∧ ¬ q.2.1 57 j0 = q.2.1 62 b0) := by
  unfold f_X8_lawOf
  refine Ep_lt (fun S_1 eS_1 => ?_)
  have hS_1 : S_1 59 j0 = 0 ∧ ¬ S_1 57 j0 = S_1 62 b0 := by rw [eS_1]; exact aw_s hS (by omega) (by omega)
  refine Ep_ck ?_
  refine Ep_lt (fun y3 ey3 => ?_)
  exact awL_X8_lawOf_L12 x1 y3 S_1 L hS_1
set_option maxHeartbeats 1000000 in
set_option maxRecDepth 100000 in
theorem aw_X8_boundLaw {j0 b0 : Nat} (S : Tr) (L : Lo) (x1 : Int32) (x2 : Int32) (x3 : Int32) (hS : S 59 j0 = 0 ∧ ¬ S 57 j0 = S 62 b0)   : Ep (f_X8_boundLaw S L x1 x2 x3) (fun q => q.2.1 59 j0 = 0 ∧ ¬ q.2.1 57 j0 = q.2.1 62 b0) := by
  unfold f_X8_boundLaw
  refine Ep_ck ?_
  refine Ep_ite (fun _ => ?_) (fun _ => ?_)
  · exact Ep_some hS
  · refine Ep_bd (aw_X8_lawOf S L x1 hS) (fun q hq => ?_)
    refine Ep_lt (fun r3 er3 => ?_)
    refine Ep_lt (fun S_4 eS_4 => ?_)
    have hS_4 : S_4 59 j0 = 0 ∧ ¬ S_4 57 j0 = S_4 62 b0 := by rw [eS_4]; exact hq
    refine Ep_lt (fun L_5 eL_5 => ?_)
    refine Ep_ite (fun _ => ?_) (fun _ => ?_)
    · refine Ep_ite (fun _ => ?_) (fun _ => ?_)
      · refine Ep_ite (fun _ => ?_) (fun _ => ?_)
        · exact Ep_some hS_4
        · exact Ep_some hS_4
      · exact Ep_some hS_4
    · exact Ep_some hS_4
set_option maxHeartbeats 1000000 in
set_option maxRecDepth 100000 in
theorem aw_X8_liftOf {j0 b0 : Nat} (S : Tr) (L : Lo) (x1 : Int32) (x2 : Int32) (x3 : Int32) (hS : S 59 j0 = 0 ∧ ¬ S 57 j0 = S 62 b0)   : Ep (f_X8_liftOf S L x1 x2 x3) (fun q => q.2.1 59 j0 = 0 ∧ ¬ q.2.1 57 j0 = q.2.1 62 b0) := by
  unfold f_X8_liftOf
  refine Ep_any (fun L_1 => ?_)
  refine Ep_ck ?_
  refine Ep_any (fun r5 => ?_)
  refine Ep_ck ?_
  refine Ep_bd (aw_X8_boundLaw S L_1 (0 : Int32) (((S 31 x2.toNatClampNeg) / r5) + 1) (99 : Int32) hS) (fun q hq => ?_)
  refine Ep_lt (fun r9 er9 => ?_)
  refine Ep_lt (fun S_10 eS_10 => ?_)
  have hS_10 : S_10 59 j0 = 0 ∧ ¬ S_10 57 j0 = S_10 62 b0 := by rw [eS_10]; exact hq
  refine Ep_lt (fun L_11 eL_11 => ?_)
  exact Ep_some hS_10
set_option maxHeartbeats 1000000 in
set_option maxRecDepth 100000 in
theorem awB_X8_secondsOf_L23 {j0 b0 : Nat} (x1 : Int32) (x2 : Int32) (x3 : Int32)    (N : Nat) : ∀ (x4 : Int32) (x5 : Int32) (S : Tr) (L : Lo), S 59 j0 = 0 ∧ ¬ S 57 j0 = S 62 b0 → Ep (lpF (fun _ _ _ _ => none) (fB_X8_secondsOf_L23 x1 x2 x3) N x4 x5 S L) (fun q => q.2.1 59 j0 = 0 ∧ ¬ q.2.1 57 j0 = q.2.1 62 b0) := by
  induction N with
  | zero => intro x4 x5 S L _; exact Ep_none
  | succ N ih =>
    intro x4 x5 S L hS
    show Ep (fB_X8_secondsOf_L23 x1 x2 x3 (lpF (fun _ _ _ _ => none) (fB_X8_secondsOf_L23 x1 x2 x3) N) x4 x5 S L) _
    have hk23 := ih
    clear ih
    generalize lpF (fun _ _ _ _ => none) (fB_X8_secondsOf_L23 x1 x2 x3) N = k23 at hk23 ⊢
    unfold fB_X8_secondsOf_L23
    refine Ep_ck ?_
    refine Ep_ite (fun _ => ?_) (fun _ => ?_)
    · exact Ep_some hS
    · refine Ep_any (fun r8 => ?_)
      refine Ep_ck ?_
      refine Ep_bd (aw_X8_liftOf S L x1 r8 (S 30 x2.toNatClampNeg) hS) (fun q hq => ?_)
      refine Ep_lt (fun r12 er12 => ?_)
      refine Ep_lt (fun S_13 eS_13 => ?_)
      have hS_13 : S_13 59 j0 = 0 ∧ ¬ S_13 57 j0 = S_13 62 b0 := by rw [eS_13]; exact hq
      refine Ep_lt (fun L_14 eL_14 => ?_)
      refine Ep_lt (fun y17 ey17 => ?_)
      refine Ep_lt (fun y18 ey18 => ?_)
      exact hk23 y17 y18 S_13 L_14 hS_13
set_option maxHeartbeats 1000000 in
set_option maxRecDepth 100000 in
theorem awL_X8_secondsOf_L23 {j0 b0 : Nat} (x1 : Int32) (x2 : Int32) (x3 : Int32)    (x4 : Int32) (x5 : Int32) (S : Tr) (L : Lo) (hS : S 59 j0 = 0 ∧ ¬ S 57 j0 = S 62 b0) : Ep (fL_X8_secondsOf_L23 x1 x2 x3 x4 x5 S L) (fun q => q.2.1 59 j0 = 0 ∧ ¬ q.2.1 57 j0 = q.2.1 62 b0) := by
  unfold fL_X8_secondsOf_L23
  exact awB_X8_secondsOf_L23 x1 x2 x3 2000 x4 x5 S L hS
set_option maxHeartbeats 1000000 in
set_option maxRecDepth 100000 in
theorem aw_X8_secondsOf {j0 b0 : Nat} (S : Tr) (L : Lo) (x1 : Int32) (x2 : Int32) (hS : S 59 j0 = 0 ∧ ¬ S 57 j0 = S 62 b0)   : Ep (f_X8_secondsOf S L x1 x2) (fun q => q.2.1 59 j0 = 0 ∧ ¬ q.2.1 57 j0 = q.2.1 62 b0) := by
  unfold f_X8_secondsOf
  refine Ep_ck ?_
  refine Ep_lt (fun y2 ey2 => ?_)
  refine Ep_any (fun r3 => ?_)
  exact awL_X8_secondsOf_L23 x1 x2 y2 0 r3 S L hS
set_option maxHeartbeats 1000000 in
set_option maxRecDepth 100000 in
theorem awJ_X8_outs_J182 {j0 b0 : Nat} (k9 : Int32 → Int32 → Tr → Lo → Option (Tr × Lo)) (x1 : Int32) (x2 : Int32) (x3 : Int32) (S : Tr) (L : Lo) (hS : S 59 j0 = 0 ∧ ¬ S 57 j0 = S 62 b0) (hk9 : ∀ (x2 : Int32) (x3 : Int32) (S : Tr) (L : Lo), S 59 j0 = 0 ∧ ¬ S 57 j0 = S 62 b0 → Ep (k9 x2 x3 S L) (fun q => q.1 59 j0 = 0 ∧ ¬ q.1 57 j0 = q.1 62 b0)) (hne : ¬ (((6 : Int32) * x1) + x3).toNatClampNeg = j0) : Ep (fJ_X8_outs_J182 k9 x1 x2 x3 S L) (fun q => q.1 59 j0 = 0 ∧ ¬ q.1 57 j0 = q.1 62 b0) := by
  unfold fJ_X8_outs_J182
  refine Ep_any (fun r24 => ?_)
  refine Ep_ite (fun _ => ?_) (fun _ => ?_)
  · refine Ep_ck ?_
    refine Ep_lt (fun S_30 eS_30 => ?_)
    have hS_30 : S_30 59 j0 = 0 ∧ ¬ S_30 57 j0 = S_30 62 b0 := by rw [eS_30]; exact aw_s hS (by omega) (fun e => hne e.2)
    refine Ep_lt (fun y31 ey31 => ?_)
    exact hk9 x2 y31 S_30 L hS_30
  · refine Ep_lt (fun y28 ey28 => ?_)
    exact hk9 x2 y28 S L hS
set_option maxHeartbeats 1000000 in
set_option maxRecDepth 100000 in
theorem awJ_X8_outs_J117 {j0 b0 : Nat} (k9 : Int32 → Int32 → Tr → Lo → Option (Tr × Lo)) (k32 : Int32 → Int32 → Tr → Lo → Option (Tr × Lo)) (x1 : Int32) (x3 : Int32) (x4 : Int32) (x5 : Int32) (s0 : Int32) (S : Tr) (L : Lo) (hS : S 59 j0 = 0 ∧ ¬ S 57 j0 = S 62 b0) (hk9 : ∀ (x2 : Int32) (x3 : Int32) (S : Tr) (L : Lo), S 59 j0 = 0 ∧ ¬ S 57 j0 = S 62 b0 → Ep (k9 x2 x3 S L) (fun q => q.1 59 j0 = 0 ∧ ¬ q.1 57 j0 = q.1 62 b0)) (hk32 : ∀ (x2 : Int32) (x4 : Int32) (S : Tr) (L : Lo), S 59 j0 = 0 ∧ ¬ S 57 j0 = S 62 b0 → Ep (k32 x2 x4 S L) (fun q => q.1 59 j0 = 0 ∧ ¬ q.1 57 j0 = q.1 62 b0)) (hne : ¬ (((6 : Int32) * x1) + x3).toNatClampNeg = j0) : Ep (fJ_X8_outs_J117 k9 k32 x1 x3 x4 x5 s0 S L) (fun q => q.1 59 j0 = 0 ∧ ¬ q.1 57 j0 = q.1 62 b0) := by
  unfold fJ_X8_outs_J117
  refine Ep_ite (fun _ => ?_) (fun _ => ?_)
  · refine Ep_lt (fun y56 ey56 => ?_)
    exact hk32 s0 y56 S L hS
  · refine Ep_lt (fun S_44 eS_44 => ?_)
    have hS_44 : S_44 59 j0 = 0 ∧ ¬ S_44 57 j0 = S_44 62 b0 := by rw [eS_44]; exact aw_s hS (by omega) (by omega)
    refine Ep_ck ?_
    refine Ep_lt (fun S_46 eS_46 => ?_)
    have hS_46 : S_46 59 j0 = 0 ∧ ¬ S_46 57 j0 = S_46 62 b0 := by rw [eS_46]; exact aw_s hS_44 (by omega) (by omega)
    refine Ep_ck ?_
    refine Ep_any (fun r48 => ?_)
    refine Ep_lt (fun S_51 eS_51 => ?_)
    have hS_51 : S_51 59 j0 = 0 ∧ ¬ S_51 57 j0 = S_51 62 b0 := by rw [eS_51]; exact aw_s hS_46 (by omega) (by omega)
    refine Ep_bd (aw_X8_takes S_51 x1 x4 (2 : Int32) hS_51) (fun S_52 hS_52 => ?_)
    refine Ep_lt (fun y55 ey55 => ?_)
    exact hk32 s0 y55 S_52 L hS_52
set_option maxHeartbeats 1000000 in
set_option maxRecDepth 100000 in
theorem awJ_X8_outs_J116 {j0 b0 : Nat} (k9 : Int32 → Int32 → Tr → Lo → Option (Tr × Lo)) (k32 : Int32 → Int32 → Tr → Lo → Option (Tr × Lo)) (x1 : Int32) (x3 : Int32) (x4 : Int32) (x5 : Int32) (S : Tr) (L : Lo) (hS : S 59 j0 = 0 ∧ ¬ S 57 j0 = S 62 b0) (hk9 : ∀ (x2 : Int32) (x3 : Int32) (S : Tr) (L : Lo), S 59 j0 = 0 ∧ ¬ S 57 j0 = S 62 b0 → Ep (k9 x2 x3 S L) (fun q => q.1 59 j0 = 0 ∧ ¬ q.1 57 j0 = q.1 62 b0)) (hk32 : ∀ (x2 : Int32) (x4 : Int32) (S : Tr) (L : Lo), S 59 j0 = 0 ∧ ¬ S 57 j0 = S 62 b0 → Ep (k32 x2 x4 S L) (fun q => q.1 59 j0 = 0 ∧ ¬ q.1 57 j0 = q.1 62 b0)) (hne : ¬ (((6 : Int32) * x1) + x3).toNatClampNeg = j0) : Ep (fJ_X8_outs_J116 k9 k32 x1 x3 x4 x5 S L) (fun q => q.1 59 j0 = 0 ∧ ¬ q.1 57 j0 = q.1 62 b0) := by
  unfold fJ_X8_outs_J116
  exact awJ_X8_outs_J117 k9 k32 x1 x3 x4 x5 0 S L hS hk9 hk32 hne
set_option maxHeartbeats 1000000 in
set_option maxRecDepth 100000 in
theorem awJ_X8_outs_J112 {j0 b0 : Nat} (k9 : Int32 → Int32 → Tr → Lo → Option (Tr × Lo)) (k32 : Int32 → Int32 → Tr → Lo → Option (Tr × Lo)) (x1 : Int32) (x3 : Int32) (x4 : Int32) (x5 : Int32) (S : Tr) (L : Lo) (hS : S 59 j0 = 0 ∧ ¬ S 57 j0 = S 62 b0) (hk9 : ∀ (x2 : Int32) (x3 : Int32) (S : Tr) (L : Lo), S 59 j0 = 0 ∧ ¬ S 57 j0 = S 62 b0 → Ep (k9 x2 x3 S L) (fun q => q.1 59 j0 = 0 ∧ ¬ q.1 57 j0 = q.1 62 b0)) (hk32 : ∀ (x2 : Int32) (x4 : Int32) (S : Tr) (L : Lo), S 59 j0 = 0 ∧ ¬ S 57 j0 = S 62 b0 → Ep (k32 x2 x4 S L) (fun q => q.1 59 j0 = 0 ∧ ¬ q.1 57 j0 = q.1 62 b0)) (hne : ¬ (((6 : Int32) * x1) + x3).toNatClampNeg = j0) : Ep (fJ_X8_outs_J112 k9 k32 x1 x3 x4 x5 S L) (fun q => q.1 59 j0 = 0 ∧ ¬ q.1 57 j0 = q.1 62 b0) := by
  unfold fJ_X8_outs_J112
  exact awJ_X8_outs_J117 k9 k32 x1 x3 x4 x5 1 S L hS hk9 hk32 hne
set_option maxHeartbeats 1000000 in
set_option maxRecDepth 100000 in
theorem awB_X8_outs_L32 {j0 b0 : Nat} (k9 : Int32 → Int32 → Tr → Lo → Option (Tr × Lo)) (x1 : Int32) (x3 : Int32)  (hk9 : ∀ (x2 : Int32) (x3 : Int32) (S : Tr) (L : Lo), S 59 j0 = 0 ∧ ¬ S 57 j0 = S 62 b0 → Ep (k9 x2 x3 S L) (fun q => q.1 59 j0 = 0 ∧ ¬ q.1 57 j0 = q.1 62 b0)) (hne : ¬ (((6 : Int32) * x1) + x3).toNatClampNeg = j0) (N : Nat) : ∀ (x2 : Int32) (x4 : Int32) (S : Tr) (L : Lo), S 59 j0 = 0 ∧ ¬ S 57 j0 = S 62 b0 → Ep (lpF (fun _ _ _ _ => none) (fB_X8_outs_L32 k9 x1 x3) N x2 x4 S L) (fun q => q.1 59 j0 = 0 ∧ ¬ q.1 57 j0 = q.1 62 b0) := by
  induction N with
  | zero => intro x2 x4 S L _; exact Ep_none
  | succ N ih =>
    intro x2 x4 S L hS
    show Ep (fB_X8_outs_L32 k9 x1 x3 (lpF (fun _ _ _ _ => none) (fB_X8_outs_L32 k9 x1 x3) N) x2 x4 S L) _
    have hk32 := ih
    clear ih
    generalize lpF (fun _ _ _ _ => none) (fB_X8_outs_L32 k9 x1 x3) N = k32 at hk32 ⊢
    unfold fB_X8_outs_L32
    refine Ep_ite (fun _ => ?_) (fun _ => ?_)
    · exact awJ_X8_outs_J182 k9 x1 x2 x3 S L hS hk9 hne
    · refine Ep_ck ?_
      refine Ep_ite (fun _ => ?_) (fun _ => ?_)
      · refine Ep_ck ?_
        refine Ep_ite (fun _ => ?_) (fun _ => ?_)
        · refine Ep_bd (aw_X8_secondsOf S L x1 x4 hS) (fun q hq => ?_)
          refine Ep_lt (fun r37 er37 => ?_)
          refine Ep_lt (fun S_38 eS_38 => ?_)
          have hS_38 : S_38 59 j0 = 0 ∧ ¬ S_38 57 j0 = S_38 62 b0 := by rw [eS_38]; exact hq
          refine Ep_lt (fun L_39 eL_39 => ?_)
          refine Ep_ite (fun _ => ?_) (fun _ => ?_)
          · exact awJ_X8_outs_J116 k9 k32 x1 x3 x4 r37 S_38 L_39 hS_38 hk9 hk32 hne
          · refine Ep_ite (fun _ => ?_) (fun _ => ?_)
            · refine Ep_ck ?_
              refine Ep_ck ?_
              refine Ep_ite (fun _ => ?_) (fun _ => ?_)
              · exact awJ_X8_outs_J116 k9 k32 x1 x3 x4 r37 S_38 L_39 hS_38 hk9 hk32 hne
              · exact awJ_X8_outs_J112 k9 k32 x1 x3 x4 r37 S_38 L_39 hS_38 hk9 hk32 hne
            · exact awJ_X8_outs_J112 k9 k32 x1 x3 x4 r37 S_38 L_39 hS_38 hk9 hk32 hne
        · refine Ep_lt (fun y61 ey61 => ?_)
          exact hk32 x2 y61 S L hS
      · refine Ep_lt (fun y34 ey34 => ?_)
        exact hk32 x2 y34 S L hS
set_option maxHeartbeats 1000000 in
set_option maxRecDepth 100000 in
theorem awL_X8_outs_L32 {j0 b0 : Nat} (k9 : Int32 → Int32 → Tr → Lo → Option (Tr × Lo)) (x1 : Int32) (x3 : Int32)  (hk9 : ∀ (x2 : Int32) (x3 : Int32) (S : Tr) (L : Lo), S 59 j0 = 0 ∧ ¬ S 57 j0 = S 62 b0 → Ep (k9 x2 x3 S L) (fun q => q.1 59 j0 = 0 ∧ ¬ q.1 57 j0 = q.1 62 b0)) (hne : ¬ (((6 : Int32) * x1) + x3).toNatClampNeg = j0) (x2 : Int32) (x4 : Int32) (S : Tr) (L : Lo) (hS : S 59 j0 = 0 ∧ ¬ S 57 j0 = S 62 b0) : Ep (fL_X8_outs_L32 k9 x1 x3 x2 x4 S L) (fun q => q.1 59 j0 = 0 ∧ ¬ q.1 57 j0 = q.1 62 b0) := by
  unfold fL_X8_outs_L32
  exact awB_X8_outs_L32 k9 x1 x3 hk9 hne 2000 x2 x4 S L hS
set_option maxHeartbeats 1000000 in
set_option maxRecDepth 100000 in
theorem awB_X8_ins_L61 {j0 b0 : Nat} (k2 : Int32 → Tr → Option (Tr)) (x1 : Int32) (x2 : Int32)  (hk2 : ∀ (x2 : Int32) (S : Tr), S 59 j0 = 0 ∧ ¬ S 57 j0 = S 62 b0 → Ep (k2 x2 S) (fun q => q 59 j0 = 0 ∧ ¬ q 57 j0 = q 62 b0))  (N : Nat) : ∀ (x3 : Int32) (S : Tr), S 59 j0 = 0 ∧ ¬ S 57 j0 = S 62 b0 → Ep (lpF (fun _ _ => none) (fB_X8_ins_L61 k2 x1 x2) N x3 S) (fun q => q 59 j0 = 0 ∧ ¬ q 57 j0 = q 62 b0) := by
  induction N with
  | zero => intro x3 S _; exact Ep_none
  | succ N ih =>
    intro x3 S hS
    show Ep (fB_X8_ins_L61 k2 x1 x2 (lpF (fun _ _ => none) (fB_X8_ins_L61 k2 x1 x2) N) x3 S) _
    have hk61 := ih
    clear ih
    generalize lpF (fun _ _ => none) (fB_X8_ins_L61 k2 x1 x2) N = k61 at hk61 ⊢
    unfold fB_X8_ins_L61
    refine Ep_ite (fun _ => ?_) (fun _ => ?_)
    · refine Ep_lt (fun y17 ey17 => ?_)
      exact hk2 y17 S hS
    · refine Ep_ck ?_
      refine Ep_ite (fun _ => ?_) (fun _ => ?_)
      · refine Ep_ck ?_
        refine Ep_ite (fun _ => ?_) (fun _ => ?_)
        · refine Ep_any (fun r23 => ?_)
          refine Ep_ite (fun _ => ?_) (fun _ => ?_)
          · refine Ep_bd (aw_X8_lays S x1 r23 x3 hS) (fun S_27 hS_27 => ?_)
            refine Ep_lt (fun y30 ey30 => ?_)
            exact hk61 y30 S_27 hS_27
          · refine Ep_lt (fun S_31 eS_31 => ?_)
            have hS_31 : S_31 59 j0 = 0 ∧ ¬ S_31 57 j0 = S_31 62 b0 := by rw [eS_31]; exact aw_s hS (by omega) (by omega)
            refine Ep_lt (fun y32 ey32 => ?_)
            exact hk61 y32 S_31 hS_31
        · refine Ep_lt (fun y33 ey33 => ?_)
          exact hk61 y33 S hS
      · refine Ep_lt (fun y20 ey20 => ?_)
        exact hk61 y20 S hS
set_option maxHeartbeats 1000000 in
set_option maxRecDepth 100000 in
theorem awL_X8_ins_L61 {j0 b0 : Nat} (k2 : Int32 → Tr → Option (Tr)) (x1 : Int32) (x2 : Int32)  (hk2 : ∀ (x2 : Int32) (S : Tr), S 59 j0 = 0 ∧ ¬ S 57 j0 = S 62 b0 → Ep (k2 x2 S) (fun q => q 59 j0 = 0 ∧ ¬ q 57 j0 = q 62 b0))  (x3 : Int32) (S : Tr) (hS : S 59 j0 = 0 ∧ ¬ S 57 j0 = S 62 b0) : Ep (fL_X8_ins_L61 k2 x1 x2 x3 S) (fun q => q 59 j0 = 0 ∧ ¬ q 57 j0 = q 62 b0) := by
  unfold fL_X8_ins_L61
  exact awB_X8_ins_L61 k2 x1 x2 hk2 2000 x3 S hS
set_option maxHeartbeats 1000000 in
set_option maxRecDepth 100000 in
theorem awJ_X8_ins_J185 {j0 b0 : Nat} (k146 : Int32 → Tr → Option (Tr)) (x1 : Int32) (x2 : Int32) (s0 : Int32) (s1 : Int32) (s2 : Int32) (S : Tr) (hS : S 59 j0 = 0 ∧ ¬ S 57 j0 = S 62 b0) (hk146 : ∀ (x2 : Int32) (S : Tr), S 59 j0 = 0 ∧ ¬ S 57 j0 = S 62 b0 → Ep (k146 x2 S) (fun q => q 59 j0 = 0 ∧ ¬ q 57 j0 = q 62 b0))  : Ep (fJ_X8_ins_J185 k146 x1 x2 s0 s1 s2 S) (fun q => q 59 j0 = 0 ∧ ¬ q 57 j0 = q 62 b0) := by
  unfold fJ_X8_ins_J185
  refine Ep_ck ?_
  refine Ep_lt (fun S_7 eS_7 => ?_)
  have hS_7 : S_7 59 j0 = 0 ∧ ¬ S_7 57 j0 = S_7 62 b0 := by rw [eS_7]; exact aw_s hS (by omega) (by omega)
  refine Ep_lt (fun y8 ey8 => ?_)
  exact hk146 y8 S_7 hS_7
set_option maxHeartbeats 1000000 in
set_option maxRecDepth 100000 in
theorem awB_X8_ins_L146 {j0 b0 : Nat} (x1 : Int32)    (N : Nat) : ∀ (x2 : Int32) (S : Tr), S 59 j0 = 0 ∧ ¬ S 57 j0 = S 62 b0 → Ep (lpF (fun _ _ => none) (fB_X8_ins_L146 x1) N x2 S) (fun q => q 59 j0 = 0 ∧ ¬ q 57 j0 = q 62 b0) := by
  induction N with
  | zero => intro x2 S _; exact Ep_none
  | succ N ih =>
    intro x2 S hS
    show Ep (fB_X8_ins_L146 x1 (lpF (fun _ _ => none) (fB_X8_ins_L146 x1) N) x2 S) _
    have hk146 := ih
    clear ih
    generalize lpF (fun _ _ => none) (fB_X8_ins_L146 x1) N = k146 at hk146 ⊢
    unfold fB_X8_ins_L146
    refine Ep_ite (fun _ => ?_) (fun _ => ?_)
    · exact Ep_some hS
    · refine Ep_ck ?_
      refine Ep_ck ?_
      refine Ep_ite (fun _ => ?_) (fun _ => ?_)
      · refine Ep_ck ?_
        exact awJ_X8_ins_J185 k146 x1 x2 (S 56 (((5 : Int32) * x1) + x2).toNatClampNeg) (S 63 x1.toNatClampNeg) x1 S hS hk146
      · exact awJ_X8_ins_J185 k146 x1 x2 0 (S 63 x1.toNatClampNeg) x1 S hS hk146
set_option maxHeartbeats 1000000 in
set_option maxRecDepth 100000 in
theorem awL_X8_ins_L146 {j0 b0 : Nat} (x1 : Int32)    (x2 : Int32) (S : Tr) (hS : S 59 j0 = 0 ∧ ¬ S 57 j0 = S 62 b0) : Ep (fL_X8_ins_L146 x1 x2 S) (fun q => q 59 j0 = 0 ∧ ¬ q 57 j0 = q 62 b0) := by
  unfold fL_X8_ins_L146
  exact awB_X8_ins_L146 x1 2000 x2 S hS
set_option maxHeartbeats 1000000 in
set_option maxRecDepth 100000 in
theorem awB_X8_onTheWay_L90 {j0 b0 : Nat} (x1 : Int32)    (N : Nat) : ∀ (x2 : Int32) (S : Tr) (L : Lo), S 59 j0 = 0 ∧ ¬ S 57 j0 = S 62 b0 → Ep (lpF (fun _ _ _ => none) (fB_X8_onTheWay_L90 x1) N x2 S L) (fun q => q.1 59 j0 = 0 ∧ ¬ q.1 57 j0 = q.1 62 b0) := by
  induction N with
  | zero => intro x2 S L _; exact Ep_none
  | succ N ih =>
    intro x2 S L hS
    show Ep (fB_X8_onTheWay_L90 x1 (lpF (fun _ _ _ => none) (fB_X8_onTheWay_L90 x1) N) x2 S L) _
    have hk90 := ih
    clear ih
    generalize lpF (fun _ _ _ => none) (fB_X8_onTheWay_L90 x1) N = k90 at hk90 ⊢
    unfold fB_X8_onTheWay_L90
    refine Ep_ite (fun _ => ?_) (fun _ => ?_)
    · exact Ep_some hS
    · refine Ep_ite (fun _ => ?_) (fun _ => ?_)
      · refine Ep_ck ?_
        refine Ep_ite (fun _ => ?_) (fun _ => ?_)
        · refine Ep_ck ?_
          refine Ep_ite (fun _ => ?_) (fun _ => ?_)
          · refine Ep_ck ?_
            refine Ep_any (fun L_10 => ?_)
            refine Ep_bd (aw_X8_boundLaw S L_10 (2 : Int32) (10 : Int32) (100 : Int32) hS) (fun q hq => ?_)
            refine Ep_lt (fun r13 er13 => ?_)
            refine Ep_lt (fun S_14 eS_14 => ?_)
            have hS_14 : S_14 59 j0 = 0 ∧ ¬ S_14 57 j0 = S_14 62 b0 := by rw [eS_14]; exact hq
            refine Ep_lt (fun L_15 eL_15 => ?_)
            refine Ep_any (fun q => ?_)
            refine Ep_lt (fun r18 er18 => ?_)
            refine Ep_lt (fun L_19 eL_19 => ?_)
            refine Ep_ite (fun _ => ?_) (fun _ => ?_)
            · refine Ep_lt (fun y23 ey23 => ?_)
              exact hk90 y23 S_14 L_19 hS_14
            · refine Ep_bd (aw_X8_takes S_14 x1 x2 (4 : Int32) hS_14) (fun S_24 hS_24 => ?_)
              refine Ep_lt (fun y27 ey27 => ?_)
              exact hk90 y27 S_24 L_19 hS_24
          · refine Ep_lt (fun y28 ey28 => ?_)
            exact hk90 y28 S L hS
        · refine Ep_lt (fun y6 ey6 => ?_)
          exact hk90 y6 S L hS
      · exact Ep_some hS
set_option maxHeartbeats 1000000 in
set_option maxRecDepth 100000 in
theorem awL_X8_onTheWay_L90 {j0 b0 : Nat} (x1 : Int32)    (x2 : Int32) (S : Tr) (L : Lo) (hS : S 59 j0 = 0 ∧ ¬ S 57 j0 = S 62 b0) : Ep (fL_X8_onTheWay_L90 x1 x2 S L) (fun q => q.1 59 j0 = 0 ∧ ¬ q.1 57 j0 = q.1 62 b0) := by
  unfold fL_X8_onTheWay_L90
  exact awB_X8_onTheWay_L90 x1 2000 x2 S L hS
set_option maxHeartbeats 1000000 in
set_option maxRecDepth 100000 in
theorem awJ_X8_fallOf_J58 {j0 b0 : Nat} (s0 : Int32) (s1 : Int32) (S : Tr) (L : Lo) (hS : S 59 j0 = 0 ∧ ¬ S 57 j0 = S 62 b0)   : Ep (fJ_X8_fallOf_J58 s0 s1 S L) (fun q => q.2.1 59 j0 = 0 ∧ ¬ q.2.1 57 j0 = q.2.1 62 b0) := by
  unfold fJ_X8_fallOf_J58
  refine Ep_bd (aw_X8_boundLaw S L s1 s0 (100 : Int32) hS) (fun q hq => ?_)
  refine Ep_lt (fun r11 er11 => ?_)
  refine Ep_lt (fun S_12 eS_12 => ?_)
  have hS_12 : S_12 59 j0 = 0 ∧ ¬ S_12 57 j0 = S_12 62 b0 := by rw [eS_12]; exact hq
  refine Ep_lt (fun L_13 eL_13 => ?_)
  exact Ep_some hS_12
set_option maxHeartbeats 1000000 in
set_option maxRecDepth 100000 in
theorem awJ_X8_fallOf_J17 {j0 b0 : Nat} (x1 : Int32) (x2 : Int32) (s0 : Int32) (S : Tr) (L : Lo) (hS : S 59 j0 = 0 ∧ ¬ S 57 j0 = S 62 b0)   : Ep (fJ_X8_fallOf_J17 x1 x2 s0 S L) (fun q => q.2.1 59 j0 = 0 ∧ ¬ q.2.1 57 j0 = q.2.1 62 b0) := by
  unfold fJ_X8_fallOf_J17
  refine Ep_any (fun r2 => ?_)
  refine Ep_ck ?_
  refine Ep_lt (fun y6 ey6 => ?_)
  refine Ep_any (fun L_7 => ?_)
  refine Ep_ite (fun _ => ?_) (fun _ => ?_)
  · exact awJ_X8_fallOf_J58 y6 1 S L_7 hS
  · exact awJ_X8_fallOf_J58 0 1 S L_7 hS
set_option maxHeartbeats 1000000 in
set_option maxRecDepth 100000 in
theorem aw_X8_fallOf {j0 b0 : Nat} (S : Tr) (L : Lo) (x1 : Int32) (x2 : Int32) (hS : S 59 j0 = 0 ∧ ¬ S 57 j0 = S 62 b0)   : Ep (f_X8_fallOf S L x1 x2) (fun q => q.2.1 59 j0 = 0 ∧ ¬ q.2.1 57 j0 = q.2.1 62 b0) := by
  unfold f_X8_fallOf
  refine Ep_ite (fun _ => ?_) (fun _ => ?_)
  · exact awJ_X8_fallOf_J17 x1 x2 (S 23 1) S L hS
  · exact awJ_X8_fallOf_J17 x1 x2 0 S L hS
set_option maxHeartbeats 1000000 in
set_option maxRecDepth 100000 in
theorem awB_X8_onTheWay_L2 {j0 b0 : Nat} (x1 : Int32)    (N : Nat) : ∀ (x2 : Int32) (S : Tr) (L : Lo), S 59 j0 = 0 ∧ ¬ S 57 j0 = S 62 b0 → Ep (lpF (fun _ _ _ => none) (fB_X8_onTheWay_L2 x1) N x2 S L) (fun q => q.1 59 j0 = 0 ∧ ¬ q.1 57 j0 = q.1 62 b0) := by
  induction N with
  | zero => intro x2 S L _; exact Ep_none
  | succ N ih =>
    intro x2 S L hS
    show Ep (fB_X8_onTheWay_L2 x1 (lpF (fun _ _ _ => none) (fB_X8_onTheWay_L2 x1) N) x2 S L) _
    have hk2 := ih
    clear ih
    generalize lpF (fun _ _ _ => none) (fB_X8_onTheWay_L2 x1) N = k2 at hk2 ⊢
    unfold fB_X8_onTheWay_L2
    refine Ep_ite (fun _ => ?_) (fun _ => ?_)
    · exact awL_X8_onTheWay_L90 x1 0 S L hS
    · refine Ep_ite (fun _ => ?_) (fun _ => ?_)
      · refine Ep_ck ?_
        refine Ep_ite (fun _ => ?_) (fun _ => ?_)
        · refine Ep_lt (fun y32 ey32 => ?_)
          exact hk2 y32 S L hS
        · refine Ep_ck ?_
          refine Ep_ite (fun _ => ?_) (fun _ => ?_)
          · refine Ep_lt (fun y53 ey53 => ?_)
            exact hk2 y53 S L hS
          · refine Ep_any (fun r35 => ?_)
            refine Ep_bd (aw_X8_fallOf S L x1 r35 hS) (fun q hq => ?_)
            refine Ep_lt (fun r38 er38 => ?_)
            refine Ep_lt (fun S_39 eS_39 => ?_)
            have hS_39 : S_39 59 j0 = 0 ∧ ¬ S_39 57 j0 = S_39 62 b0 := by rw [eS_39]; exact hq
            refine Ep_lt (fun L_40 eL_40 => ?_)
            refine Ep_any (fun q => ?_)
            refine Ep_lt (fun r43 er43 => ?_)
            refine Ep_lt (fun L_44 eL_44 => ?_)
            refine Ep_ite (fun _ => ?_) (fun _ => ?_)
            · refine Ep_lt (fun y48 ey48 => ?_)
              exact hk2 y48 S_39 L_44 hS_39
            · refine Ep_bd (aw_X8_takes S_39 x1 r35 (3 : Int32) hS_39) (fun S_49 hS_49 => ?_)
              refine Ep_lt (fun y52 ey52 => ?_)
              exact hk2 y52 S_49 L_44 hS_49
      · exact awL_X8_onTheWay_L90 x1 0 S L hS
set_option maxHeartbeats 1000000 in
set_option maxRecDepth 100000 in
theorem awL_X8_onTheWay_L2 {j0 b0 : Nat} (x1 : Int32)    (x2 : Int32) (S : Tr) (L : Lo) (hS : S 59 j0 = 0 ∧ ¬ S 57 j0 = S 62 b0) : Ep (fL_X8_onTheWay_L2 x1 x2 S L) (fun q => q.1 59 j0 = 0 ∧ ¬ q.1 57 j0 = q.1 62 b0) := by
  unfold fL_X8_onTheWay_L2
  exact awB_X8_onTheWay_L2 x1 2000 x2 S L hS
set_option maxHeartbeats 1000000 in
set_option maxRecDepth 100000 in
theorem aw_X8_onTheWay {j0 b0 : Nat} (S : Tr) (L : Lo) (x1 : Int32) (hS : S 59 j0 = 0 ∧ ¬ S 57 j0 = S 62 b0)   : Ep (f_X8_onTheWay S L x1) (fun q => q.1 59 j0 = 0 ∧ ¬ q.1 57 j0 = q.1 62 b0) := by
  unfold f_X8_onTheWay
  exact awL_X8_onTheWay_L2 x1 0 S L hS
theorem aw_261 {j0 b0 : Nat} {L : Lo} {xb : Int32} (N : Nat) : ∀ (x : Int32) (S : Tr), (S 59 j0 = 0 ∧ ¬ S 57 j0 = S 62 b0) → Ep (lpF (fun _ _ => none) (fB_X8_outs_L261 L xb) N x S) (fun q => q.1 59 j0 = 0 ∧ ¬ q.1 57 j0 = q.1 62 b0) := by
  induction N with
  | zero => intro x S _; exact Ep_none
  | succ N ih =>
    intro x S h
    show Ep (fB_X8_outs_L261 L xb (lpF (fun _ _ => none) (fB_X8_outs_L261 L xb) N) x S) _
    generalize lpF (fun _ _ => none) (fB_X8_outs_L261 L xb) N = k at ih ⊢
    unfold fB_X8_outs_L261
    refine Ep_ite (fun _ => Ep_some h) (fun _ => Ep_ck (Ep_ite (fun c => Ep_lt (fun S1 e1 => Ep_lt (fun y _ => ih y S1 ?_))) (fun _ => Ep_lt (fun y _ => ih y S h))))
    rw [e1]
    exact aw_s h (by omega) (fun e => by rw [e.2, h.1] at c; exact absurd c (by decide))
theorem aw_223 {j0 b0 : Nat} {L : Lo} {xb : Int32} (N : Nat) : ∀ (x : Int32) (S : Tr), (S 59 j0 = 0 ∧ ¬ S 57 j0 = S 62 b0) → Ep (lpF (fun _ _ => none) (fB_X8_outs_L223 L xb) N x S) (fun q => q.1 59 j0 = 0 ∧ ¬ q.1 57 j0 = q.1 62 b0) := by
  induction N with
  | zero => intro x S _; exact Ep_none
  | succ N ih =>
    intro x S h
    show Ep (fB_X8_outs_L223 L xb (lpF (fun _ _ => none) (fB_X8_outs_L223 L xb) N) x S) _
    generalize lpF (fun _ _ => none) (fB_X8_outs_L223 L xb) N = k at ih ⊢
    unfold fB_X8_outs_L223
    refine Ep_ite (fun _ => ?_) (fun _ => Ep_ck (Ep_ite (fun _ => Ep_bd (aw_X8_takes S xb x 5 h) (fun S1 h1 => Ep_lt (fun y _ => ih y S1 h1))) (fun _ => Ep_lt (fun y _ => ih y S h))))
    unfold fL_X8_outs_L261
    exact aw_261 2000 0 S h
theorem aw_outs {j0 b0 : Nat} {S : Tr} {L : Lo} {xb : Int32} (h : S 59 j0 = 0 ∧ ¬ S 57 j0 = S 62 b0) : Ep (f_X8_outs S L xb) (fun q => q.1 59 j0 = 0 ∧ ¬ q.1 57 j0 = q.1 62 b0) := by
  have lp : ∀ (N : Nat) (x2 x : Int32) (S : Tr) (L : Lo), (S 59 j0 = 0 ∧ ¬ S 57 j0 = S 62 b0) → Ep (lpF (fun _ _ _ _ => none) (fB_X8_outs_L9 xb) N x2 x S L) (fun q => q.1 59 j0 = 0 ∧ ¬ q.1 57 j0 = q.1 62 b0) := by
    intro N
    induction N with
    | zero => intro x2 x S L _; exact Ep_none
    | succ N ih =>
      intro x2 x S L h
      show Ep (fB_X8_outs_L9 xb (lpF (fun _ _ _ _ => none) (fB_X8_outs_L9 xb) N) x2 x S L) _
      generalize lpF (fun _ _ _ _ => none) (fB_X8_outs_L9 xb) N = k at ih ⊢
      unfold fB_X8_outs_L9
      refine Ep_ite (fun _ => ?_) (fun _ => ?_)
      · unfold fJ_X8_outs_J209
        refine Ep_ck (Ep_ite (fun _ => ?_) (fun _ => Ep_some h))
        unfold fL_X8_outs_L223
        exact aw_223 2000 0 S h
      · have gq : Ep (f_X8_getsOut S xb x) (fun r => r = 0 ∨ S 59 (((6 : Int32) * xb) + x).toNatClampNeg = 1) := by
          unfold f_X8_getsOut
          exact Ep_ck (Ep_ite (fun c => fun r _ => Or.inr c) (fun _ => Ep_some (Or.inl rfl)))
        refine Ep_bd gq (fun r hr => Ep_ite (fun _ => Ep_lt (fun y _ => ih x2 y S L h)) (fun n => ?_))
        have c := hr.resolve_left n
        exact awL_X8_outs_L32 k xb x (fun x2 x3 S L h => ih x2 x3 S L h) (fun e => by rw [e, h.1] at c; exact absurd c (by decide)) x2 0 S L h
  unfold f_X8_outs
  refine Ep_lt (fun S1 e1 => ?_)
  unfold fL_X8_outs_L9
  exact lp 2000 1 0 S1 L (by rw [e1]; exact aw_s h (by omega) (by omega))
theorem aw_ins {j0 b0 : Nat} {S : Tr} {xb : Int32} (hb : xb.toNatClampNeg = b0) (h : S 59 j0 = 0 ∧ ¬ S 57 j0 = S 62 b0) : Ep (f_X8_ins S xb) (fun q => q 59 j0 = 0 ∧ ¬ q 57 j0 = q 62 b0) := by
  have lp : ∀ (N : Nat) (x : Int32) (S : Tr), (S 59 j0 = 0 ∧ ¬ S 57 j0 = S 62 b0) → Ep (lpF (fun _ _ => none) (fB_X8_ins_L2 xb) N x S) (fun q => q 59 j0 = 0 ∧ ¬ q 57 j0 = q 62 b0) := by
    intro N
    induction N with
    | zero => intro x S _; exact Ep_none
    | succ N ih =>
      intro x S h
      show Ep (fB_X8_ins_L2 xb (lpF (fun _ _ => none) (fB_X8_ins_L2 xb) N) x S) _
      generalize lpF (fun _ _ => none) (fB_X8_ins_L2 xb) N = k at ih ⊢
      unfold fB_X8_ins_L2
      rw [hb]
      refine Ep_ite (fun _ => awL_X8_ins_L146 xb 0 S h) (fun _ => Ep_ck (Ep_ck (Ep_ite (fun c => Ep_ite (fun _ => Ep_lt (fun S1 e1 => ?_)) (fun _ => Ep_lt (fun y _ => ih y S h))) (fun _ => Ep_lt (fun y _ => ih y S h)))))
      exact awL_X8_ins_L61 k xb x (fun x2 S h => ih x2 S h) 0 S1 (by rw [e1]; exact aw_s h (by omega) (fun e => by rw [e.2] at c; exact h.2 c))
  unfold f_X8_ins fL_X8_ins_L2
  exact lp 2000 0 S h
theorem aw_goOn {j0 b0 : Nat} {S : Tr} {L : Lo} {xb : Int32} (hb : xb.toNatClampNeg = b0) (h : S 59 j0 = 0 ∧ ¬ S 57 j0 = S 62 b0) : Ep (f_X8_goOn S L xb) (fun q => q.1 59 j0 = 0) := by
  have fin : ∀ (S : Tr) (L : Lo), (S 59 j0 = 0 ∧ ¬ S 57 j0 = S 62 b0) → Ep (fJ_X8_goOn_J26 xb S L) (fun q => q.1 59 j0 = 0) := fun S L h => by
    unfold fJ_X8_goOn_J26
    refine Ep_ck (Ep_lt (fun S1 e1 => Ep_some ?_))
    show S1 59 j0 = 0
    rw [e1, st_oth (by omega)]; exact h.1
  unfold f_X8_goOn
  refine Ep_bd (aw_outs h) (fun q hq => Ep_lt (fun S1 e1 => Ep_lt (fun L2 _ => Ep_bd (aw_ins (S := S1) hb (by rw [e1]; exact hq)) (fun S5 h5 => Ep_ck (Ep_ite (fun _ => fin S5 L2 h5) (fun _ => Ep_bd (aw_X8_onTheWay S5 L2 xb h5) (fun r hr => Ep_lt (fun S12 e12 => Ep_lt (fun L13 _ => fin S12 L13 (by rw [e12]; exact hr))))))))))
