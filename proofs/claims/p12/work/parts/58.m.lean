/-- a whole line: it failed, or it counts -/
def lQ (z : Tr) (q : Int32 × Tr) : Prop := (q.1 = 0 ∧ ∃ x, rP x z q.2) ∨ (q.1 = 1 ∧ mu z < mu q.2 ∧ rP 3 z q.2)
theorem lQ_wrong {x : Nat} {z S : Tr} (h : rP x z S) (y : Int32) : D (bd (f_X8_wrong S y) fun q => lt q.1 fun r => lt q.2 fun S1 => ck (okB r) (some (r, S1))) (lQ z) :=
  D_mono (r_wrong h y) (fun _ hq => Or.inl ⟨hq.1, x, hq.2⟩)
theorem r_343 {x : Nat} {z S : Tr} (h : rP x z S) {x1 : Int32} (hx : x1 = 0 ∨ (x = 3 ∧ mu z < mu S)) : D (fJ_X8_lineRead_J343 x1 S) (lQ z) := by
  unfold fJ_X8_lineRead_J343
  refine D_ite (fun _ => D_some (Or.inl ⟨rfl, x, h⟩)) (fun c => ?_)
  have hx1 := hx.resolve_left c
  refine D_bd (t_X8_isSign S 59 h.1) (fun r _ _ => D_ite (fun _ => lQ_wrong h 1) (fun _ => ?_))
  obtain ⟨rfl, hm⟩ := hx1
  exact D_bd (r_token h) (fun T _ hT => D_some (Or.inr ⟨rfl, by rw [mu_K hT.2]; exact hm, hT.1⟩))
theorem r_343l {z : Tr} {q : Int32 × Tr} (h : lP 3 z q) : D (fJ_X8_lineRead_J343 q.1 q.2) (lQ z) :=
  r_343 h.2 (h.1.imp id (fun g => ⟨rfl, g.2⟩))
theorem r_lineRead {z S : Tr} (h : rP 3 z S) : D (f_X8_lineRead S) (lQ z) := by
  have l0 : (0 : Int32).toInt = 0 := by decide
  have hJ17 : D (fJ_X8_lineRead_J17 S) (lQ z) := lQ_wrong h 1
  unfold f_X8_lineRead
  refine D_ite (fun _ => D_ite (fun _ => ?_) (fun _ => hJ17)) (fun _ => hJ17)
  refine D_lt (fun y _ => ?_)
  refine D_ite (fun _ => D_bd (r_placeLine h) (fun q _ hq => r_343l hq)) (fun _ => ?_)
  refine D_ite (fun _ => D_bd (r_personLine h) (fun q _ hq => r_343l hq)) (fun _ => ?_)
  refine D_ite (fun _ => D_bd (r_pieceLine h) (fun q _ hq => r_343l hq)) (fun _ => ?_)
  refine D_ite (fun _ => D_bd (r_waitLine h) (fun q _ hq => r_343l hq)) (fun _ => ?_)
  refine D_ite (fun _ => ?_) (fun _ => D_ite (fun _ => ?_) (fun _ => D_ite (fun _ => ?_) (fun _ => ?_)))
  · refine D_bd (r_isOnce h (by decide)) (fun q _ hq => ?_)
    refine D_ite (fun _ => D_some (Or.inl ⟨rfl, 3, hq.2⟩)) (fun c => ?_)
    have hm := (hq.1.resolve_left c).2
    have hJ : D (fJ_X8_lineRead_J136 q.2) (lQ z) := lQ_wrong hq.2 1
    refine D_ite (fun _ => D_ite (fun _ => hJ) (fun _ => D_ite (fun _ => ?_) (fun _ => hJ))) (fun _ => hJ)
    refine D_lt (fun T eT => ?_)
    have hT := rP_self hq.2
    have hT1 : rP 3 q.2 T := by rw [eT]; exact rP_full hT _ rfl (Wp_23 (by decide)) rfl (fun hz => absurd hz (by decide))
    refine D_bd (r_token hT1) (fun T2 _ hT2 => ?_)
    have hm2 := hT2.1.2.2.2.2.2
    exact r_343 (rP_tr hq.2 hT2.1) (Or.inr ⟨rfl, by omega⟩)
  · refine D_bd (r_isOnce h (by decide)) (fun q _ hq => ?_)
    refine D_ite (fun _ => ?_) (fun c => ?_)
    · unfold fJ_X8_lineRead_J186 fJ_X8_lineRead_J187
      exact D_ite (fun _ => r_343 hq.2 (Or.inl rfl)) (fun hz => absurd rfl hz)
    have hm := (hq.1.resolve_left c).2
    refine D_bd (r_number (rP_self hq.2) 0 99) (fun p _ hp => ?_)
    have hp2 := rP_tr hq.2 hp.2.1
    refine D_ite (fun _ => ?_) (fun _ => ?_)
    · unfold fJ_X8_lineRead_J186 fJ_X8_lineRead_J187
      exact D_ite (fun _ => r_343 hp2 (Or.inl rfl)) (fun hz => absurd rfl hz)
    · unfold fJ_X8_lineRead_J187
      refine D_ite (fun hz => absurd hz (by decide)) (fun _ => D_lt (fun T eT => ?_))
      have hT1 : rP 3 q.2 T := by rw [eT]; exact rP_full hp.2.1 _ rfl (Wp_23 (by decide)) rfl (fun hz => absurd hz (by decide))
      have hm2 := hT1.2.2.2.2.2
      exact r_343 (rP_tr hq.2 hT1) (Or.inr ⟨rfl, by omega⟩)
  · refine D_bd (r_isOnce h (by decide)) (fun q _ hq => ?_)
    refine D_ite (fun _ => ?_) (fun c => ?_)
    · unfold fJ_X8_lineRead_J227 fJ_X8_lineRead_J228
      exact D_ite (fun _ => r_343 hq.2 (Or.inl rfl)) (fun hz => absurd rfl hz)
    have hm := (hq.1.resolve_left c).2
    refine D_bd (r_number (rP_self hq.2) 0 99999) (fun p _ hp => ?_)
    have hp2 := rP_tr hq.2 hp.2.1
    refine D_ite (fun _ => ?_) (fun _ => ?_)
    · unfold fJ_X8_lineRead_J227 fJ_X8_lineRead_J228
      exact D_ite (fun _ => r_343 hp2 (Or.inl rfl)) (fun hz => absurd rfl hz)
    · unfold fJ_X8_lineRead_J228
      refine D_ite (fun hz => absurd hz (by decide)) (fun _ => D_lt (fun T eT => ?_))
      have hT1 : rP 3 q.2 T := by rw [eT]; exact rP_full hp.2.1 _ rfl (Wp_23 (by decide)) rfl (fun hz => absurd hz (by decide))
      have hm2 := hT1.2.2.2.2.2
      exact r_343 (rP_tr hq.2 hT1) (Or.inr ⟨rfl, by omega⟩)
  · refine D_bd (r_token h) (fun T _ hT => ?_)
    have hJ : D (fJ_X8_lineRead_J276 T) (lQ z) := lQ_wrong hT.1 1
    refine D_ite (fun _ => D_ite (fun _ => hJ) (fun c16 => D_ite (fun c18 => ?_) (fun _ => hJ))) (fun _ => hJ)
    have k1 := tq_ltn (x := T 0 9) (y := (16 : Int32)) rfl (b := 16) (by decide) c16
    have k2 := tq_le (x := T 0 9) (y := (18 : Int32)) rfl (b := 18) (by decide) c18
    refine D_lt (fun y ey => ?_)
    have e1 : ((3 : Int32) + T 0 9).toInt = 3 + (T 0 9).toInt := i_addK (by decide) rfl (by omega) (by omega)
    have e2 : y.toInt = 3 + (T 0 9).toInt - 16 := by rw [ey]; exact i_subK e1 (by decide) (by omega) (by omega)
    obtain ⟨w, hw, hk⟩ : ∃ w, w < 3 ∧ y.toNatClampNeg = 3 + w := ⟨((T 0 9).toInt - 16).toNat, by omega, by simp only [i_cl]; omega⟩
    refine D_ck (okI_of (by omega) (by omega)) ?_
    generalize y.toNatClampNeg = k at hk ⊢
    refine D_ite (fun c0 => ?_) (fun _ => lQ_wrong hT.1 3)
    refine D_lt (fun T1 eT1 => ?_)
    have h1 := rP_36 hT.1 hw hk (v := vp_nar .boolean 1) (by decide) c0
    rw [← eT1] at h1
    have he1 : T1 0 19 = T1 0 46 := by
      rw [eT1, st_oth (by decide)]; exact hT.1.2.2.2.2.1.2.2.2.2 rfl
    refine D_bd (r_token (rP_self h1.1)) (fun T2 _ hT2 => ?_)
    have b19 : 0 ≤ (T2 0 19).toInt ∧ (T2 0 19).toInt ≤ 64 := hT2.1.1 0 19
    refine D_lt (fun T3 eT3 => ?_)
    have h3 : rP w T1 T3 := by
      rw [eT3]; exact rP_set (a := 37) hT2.1 b19.1 b19.2 (Wp_37 (by omega)) rfl (fun hz => absurd hz (by decide))
    have he3 : T3 0 19 = T3 0 46 := by
      rw [eT3, st_oth (by decide), hT2.2 0 19 rfl, hT2.2 0 46 rfl]; exact he1
    refine D_bd (r_sumRead hw h3 he3) (fun q _ hq => ?_)
    have b2 : 0 ≤ (q.2 0 19).toInt ∧ (q.2 0 19).toInt ≤ 64 := hq.1.1 0 19
    refine D_lt (fun r5 er5 => D_lt (fun T5 eT5 => D_lt (fun T4 eT4 => ?_)))
    subst er5
    subst eT5
    rcases hq.2 with hz | ⟨_, g1, g2⟩
    · have h4 : rP w T1 T4 := by rw [eT4]; exact rP_38f hq.1 hw hk b2
      exact r_343 (rP_tr h1.1 h4) (Or.inl hz)
    · have h4 : rP 3 T1 T4 := by rw [eT4]; exact rP_38 hq.1 hw hk ⟨g2, b2.2⟩ g1
      have hm2 := h4.2.2.2.2.2
      have hm1 := h1.2
      exact r_343 (rP_tr h1.1 h4) (Or.inr ⟨rfl, by omega⟩)
