-- 58.m
/-- a whole line: it failed, or it counts -/
def lQ (z : Tr) (q : Int32 × Tr) : Prop := (q.1 = 0 ∧ ∃ x, rP x z q.2) ∨ (q.1 = 1 ∧ mu z < mu q.2 ∧ rP 3 z q.2)
theorem lQ_wrong {x : Nat} {z S : Tr} (h : rP x z S) (y : Int32) : D (bd (f_X8_wrong S y) fun q => lt q.1 fun r => lt q.2 fun S1 => ck (okB r) (some (r, S1))) (lQ z) :=
  D_mono (r_wrong h y) (fun _ hq => Or.inl ⟨hq.1, x, hq.2⟩)
theorem r_343 {x : Nat} {z S : Tr} (h : rP x z S) {x1 : Int32} (hx : x1 = 0 ∨ (x = 3 ∧ mu z < mu S)) : D (fJ_X8_lineRead_J343 x1 S) (lQ z) := by
  unfold fJ_X8_lineRead_J343
  refine D_ite (fun _ => D_some (Or.inl ⟨rfl, x, h⟩)) (fun c => ?_)
  have hx1 := hx.resolve_left c
  refine D_bd (t_X8_isSign S 59 h.1) (fun r _ _ => D_ite (fun _ => lQ_wrong h 1) (fun _ => ?_))
  obtain ⟨rfl, hm⟩ := hx1
  exact D_bd (r_token h) (fun T _ hT => D_some (Or.inr ⟨rfl, by rw [mu_K hT.2]; exact hm, hT.1⟩))
theorem r_343l {z : Tr} {q : Int32 × Tr} (h : lP 3 z q) : D (fJ_X8_lineRead_J343 q.1 q.2) (lQ z) :=
  r_343 h.2 (h.1.imp id (fun g => ⟨rfl, g.2⟩))
theorem r_lineRead {z S : Tr} (h : rP 3 z S) : D (f_X8_lineRead S) (lQ z) := by
  have l0 : (0 : Int32).toInt = 0 := by decide
  have hJ17 : D (fJ_X8_lineRead_J17 S) (lQ z) := lQ_wrong h 1
  unfold f_X8_lineRead
  refine D_ite (fun _ => D_ite (fun _ => ?_) (fun _ => hJ17)) (fun _ => hJ17)
  refine D_lt (fun y _ => ?_)
  refine D_ite (fun _ => D_bd (r_placeLine h) (fun q _ hq => r_343l hq)) (fun _ => ?_)
  refine D_ite (fun _ => D_bd (r_personLine h) (fun q _ hq => r_343l hq)) (fun _ => ?_)
  refine D_ite (fun _ => D_bd (r_pieceLine h) (fun q _ hq => r_343l hq)) (fun _ => ?_)
  refine D_ite (fun _ => D_bd (r_waitLine h) (fun q _ hq => r_343l hq)) (fun _ => ?_)
  refine D_ite (fun _ => ?_) (fun _ => D_ite (fun _ => ?_) (fun _ => D_ite (fun _ => ?_) (fun _ => ?_)))
  · refine D_bd (r_isOnce h (by decide)) (fun q _ hq => ?_)
    refine D_ite (fun _ => D_some (Or.inl ⟨rfl, 3, hq.2⟩)) (fun c => ?_)
    have hm := (hq.1.resolve_left c).2
    have hJ : D (fJ_X8_lineRead_J136 q.2) (lQ z) := lQ_wrong hq.2 1
    refine D_ite (fun _ => D_ite (fun _ => hJ) (fun _ => D_ite (fun _ => ?_) (fun _ => hJ))) (fun _ => hJ)
    refine D_lt (fun T eT => ?_)
    have hT := rP_self hq.2
    have hT1 : rP 3 q.2 T := by rw [eT]; exact rP_full hT _ rfl (Wp_23 (by decide)) rfl (fun hz => absurd hz (by decide))
    refine D_bd (r_token hT1) (fun T2 _ hT2 => ?_)
    have hm2 := hT2.1.2.2.2.2.2
    exact r_343 (rP_tr hq.2 hT2.1) (Or.inr ⟨rfl, by omega⟩)
  · refine D_bd (r_isOnce h (by decide)) (fun q _ hq => ?_)
    refine D_ite (fun _ => ?_) (fun c => ?_)
    · unfold fJ_X8_lineRead_J186 fJ_X8_lineRead_J187
      exact D_ite (fun _ => r_343 hq.2 (Or.inl rfl)) (fun hz => absurd rfl hz)
    have hm := (hq.1.resolve_left c).2
    refine D_bd (r_number (rP_self hq.2) 0 99) (fun p _ hp => ?_)
    have hp2 := rP_tr hq.2 hp.2.1
    refine D_ite (fun _ => ?_) (fun _ => ?_)
    · unfold fJ_X8_lineRead_J186 fJ_X8_lineRead_J187
      exact D_ite (fun _ => r_343 hp2 (Or.inl rfl)) (fun hz => absurd rfl hz)
    · unfold fJ_X8_lineRead_J187
      refine D_ite (fun hz => absurd hz (by decide)) (fun _ => D_lt (fun T eT => ?_))
      have hT1 : rP 3 q.2 T := by rw [eT]; exact rP_full hp.2.1 _ rfl (Wp_23 (by decide)) rfl (fun hz => absurd hz (by decide))
      have hm2 := hT1.2.2.2.2.2
      exact r_343 (rP_tr hq.2 hT1) (Or.inr ⟨rfl, by omega⟩)
  · refine D_bd (r_isOnce h (by decide)) (fun q _ hq => ?_)
    refine D_ite (fun _ => ?_) (fun c => ?_)
    · unfold fJ_X8_lineRead_J227 fJ_X8_lineRead_J228
      exact D_ite (fun _ => r_343 hq.2 (Or.inl rfl)) (fun hz => absurd rfl hz)
    have hm := (hq.1.resolve_left c).2
    refine D_bd (r_number (rP_self hq.2) 0 99999) (fun p _ hp => ?_)
    have hp2 := rP_tr hq.2 hp.2.1
    refine D_ite (fun _ => ?_) (fun _ => ?_)
    · unfold fJ_X8_lineRead_J227 fJ_X8_lineRead_J228
      exact D_ite (fun _ => r_343 hp2 (Or.inl rfl)) (fun hz => absurd rfl hz)
    · unfold fJ_X8_lineRead_J228
      refine D_ite (fun hz => absurd hz (by decide)) (fun _ => D_lt (fun T eT => ?_))
      have hT1 : rP 3 q.2 T := by rw [eT]; exact rP_full hp.2.1 _ rfl (Wp_23 (by decide)) rfl (fun hz => absurd hz (by decide))
      have hm2 := hT1.2.2.2.2.2
      exact r_343 (rP_tr hq.2 hT1) (Or.inr ⟨rfl, by omega⟩)
  · refine D_bd (r_token h) (fun T _ hT => ?_)
    have hJ : D (fJ_X8_lineRead_J276 T) (lQ z) := lQ_wrong hT.1 1
    refine D_ite (fun _ => D_ite (fun _ => hJ) (fun c16 => D_ite (fun c18 => ?_) (fun _ => hJ))) (fun _ => hJ)
    have k1 := tq_ltn (x := T 0 9) (y := (16 : Int32)) rfl (b := 16) (by decide) c16
    have k2 := tq_le (x := T 0 9) (y := (18 : Int32)) rfl (b := 18) (by decide) c18
    refine D_lt (fun y ey => ?_)
    have e1 : ((3 : Int32) + T 0 9).toInt = 3 + (T 0 9).toInt := i_addK (by decide) rfl (by omega) (by omega)
    have e2 : y.toInt = 3 + (T 0 9).toInt - 16 := by rw [ey]; exact i_subK e1 (by decide) (by omega) (by omega)
    obtain ⟨w, hw, hk⟩ : ∃ w, w < 3 ∧ y.toNatClampNeg = 3 + w := ⟨((T 0 9).toInt - 16).toNat, by omega, by simp only [i_cl]; omega⟩
    refine D_ck (okI_of (by omega) (by omega)) ?_
    generalize y.toNatClampNeg = k at hk ⊢
    refine D_ite (fun c0 => ?_) (fun _ => lQ_wrong hT.1 3)
    refine D_lt (fun T1 eT1 => ?_)
    have h1 := rP_36 hT.1 hw hk (v := vp_nar .boolean 1) (by decide) c0
    rw [← eT1] at h1
    have he1 : T1 0 19 = T1 0 46 := by
      rw [eT1, st_oth (by decide)]; exact hT.1.2.2.2.2.1.2.2.2.2 rfl
    refine D_bd (r_token (rP_self h1.1)) (fun T2 _ hT2 => ?_)
    have b19 : 0 ≤ (T2 0 19).toInt ∧ (T2 0 19).toInt ≤ 64 := hT2.1.1 0 19
    refine D_lt (fun T3 eT3 => ?_)
    have h3 : rP w T1 T3 := by
      rw [eT3]; exact rP_set (a := 37) hT2.1 b19.1 b19.2 (Wp_37 (by omega)) rfl (fun hz => absurd hz (by decide))
    have he3 : T3 0 19 = T3 0 46 := by
      rw [eT3, st_oth (by decide), hT2.2 0 19 rfl, hT2.2 0 46 rfl]; exact he1
    refine D_bd (r_sumRead hw h3 he3) (fun q _ hq => ?_)
    have b2 : 0 ≤ (q.2 0 19).toInt ∧ (q.2 0 19).toInt ≤ 64 := hq.1.1 0 19
    refine D_lt (fun r5 er5 => D_lt (fun T5 eT5 => D_lt (fun T4 eT4 => ?_)))
    subst er5
    subst eT5
    rcases hq.2 with hz | ⟨_, g1, g2⟩
    · have h4 : rP w T1 T4 := by rw [eT4]; exact rP_38f hq.1 hw hk b2
      exact r_343 (rP_tr h1.1 h4) (Or.inl hz)
    · have h4 : rP 3 T1 T4 := by rw [eT4]; exact rP_38 hq.1 hw hk ⟨g2, b2.2⟩ g1
      have hm2 := h4.2.2.2.2.2
      have hm1 := h1.2
      exact r_343 (rP_tr h1.1 h4) (Or.inr ⟨rfl, by omega⟩)
-- 59.m
/-! what reading leaves standing -/
theorem jR_P {z T : Tr} (h : jR z) (hi : iR BM T) (a : aP z T) (hk : ∀ k, nodeOK T k) : jR T := by
  obtain ⟨h1, h2, h3, h4, h5, h6⟩ := h
  have n36 : ∀ w, w < 3 → T 36 w = z 36 w := fun w hw => a 36 w ((by decide : ∀ i : Fin 3, Wp 36 i.val = false) ⟨w, hw⟩)
  have n38 : ∀ w, w < 3 → T 38 w = z 38 w := fun w hw => a 38 w ((by decide : ∀ i : Fin 3, Wp 38 i.val = false) ⟨w, hw⟩)
  have n30 : ∀ w, w < 10 → T 30 w = z 30 w := fun w hw => a 30 w ((by decide : ∀ i : Fin 10, Wp 30 i.val = false) ⟨w, hw⟩)
  have n29 : ∀ w, w < 6 → T 29 w = z 29 w := fun w hw => a 29 w ((by decide : ∀ i : Fin 6, Wp 29 i.val = false) ⟨w, hw⟩)
  have e13 := a 0 13 rfl
  have e14 := a 0 14 rfl
  refine ⟨hi, ⟨hk, fun w hw hl => ?_, fun i hi hl => ?_, fun p hp hl => ?_⟩, gI_fr h3 (fun j => a 53 j rfl) (fun j => a 54 j rfl) (fun j => a 55 j rfl) (fun j => a 56 j rfl) (fun j => a 58 j rfl) e13 e14, uI_fr h1 h4 (fun j => a 84 j rfl) (fun i _ => a 53 i rfl) (Int.le_of_eq (by rw [a 0 82 rfl])) e13 e14, vI_fr h1 h5 (fun j => a 86 j rfl) (fun j => a 87 j rfl) (a 0 84 rfl) e13 e14, zI_fr h6 (fun j => a 81 j rfl)⟩
  · rw [n38 w hw]; rw [n36 w hw] at hl; exact h2.2.1 w hw hl
  · rw [n30 i hi, e13]; rw [e14] at hl; exact h2.2.2.1 i hi hl
  · rw [n29 p hp]; rw [e13] at hl; exact h2.2.2.2 p hp hl
/-! plain: nothing is read yet -/
theorem p_70 (N : Nat) : ∀ (x1 : Int32) (T : Tr), 0 ≤ x1.toInt → x1.toInt ≤ 21 → 30 - x1.toInt < (N : Int) → D (lpF (fun _ _ => none) fB_X8_plain_L70 N x1 T) (fun q => ∀ a, ¬ a = 34 → ¬ a = 35 → q a = T a) := by
  induction N with
  | zero => intro x1 T h1 h2 h3; omega
  | succ N ih =>
    intro x1 T h1 h2 h3
    show D (fB_X8_plain_L70 (lpF (fun _ _ => none) fB_X8_plain_L70 N) x1 T) _
    generalize lpF (fun _ _ => none) fB_X8_plain_L70 N = k at ih ⊢
    unfold fB_X8_plain_L70
    refine D_ite (fun _ => D_some (fun _ _ _ => rfl)) (fun c => ?_)
    have k1 := tq_len (x := (21 : Int32)) (y := x1) (a := 21) (by decide) rfl c
    have e1 : ((21 : Int32) + x1).toInt = 21 + x1.toInt := i_addK (by decide) rfl (by omega) (by omega)
    refine D_ck (okI_of (by omega) (by omega)) (D_lt (fun S1 eS1 => D_ck (okI_of (by omega) (by omega)) (D_lt (fun S2 eS2 => D_lt (fun y ey => ?_)))))
    have e2 : y.toInt = x1.toInt + 1 := by rw [ey]; exact i_addK rfl (by decide) (by omega) (by omega)
    refine D_mono (ih y S2 (by omega) (by omega) (by omega)) (fun q hq a h4 h5 => ?_)
    rw [hq a h4 h5, eS2, st_oth h5, eS1, st_oth h4]
theorem p_32 (N : Nat) : ∀ (x1 : Int32) (T : Tr), 0 ≤ x1.toInt → x1.toInt ≤ 3 → 10 - x1.toInt < (N : Int) → (∀ w : Nat, (w : Int) < x1.toInt → T 36 (3 + w) = 0) → D (lpF (fun _ _ => none) fB_X8_plain_L32 N x1 T) (fun q => (∀ w : Nat, w < 3 → q 36 (3 + w) = 0) ∧ ∀ a, ¬ a = 34 → ¬ a = 35 → ¬ a = 22 → ¬ a = 23 → ¬ a = 36 → q a = T a) := by
  induction N with
  | zero => intro x1 T h1 h2 h3; omega
  | succ N ih =>
    intro x1 T h1 h2 h3 h4
    show D (fB_X8_plain_L32 (lpF (fun _ _ => none) fB_X8_plain_L32 N) x1 T) _
    generalize lpF (fun _ _ => none) fB_X8_plain_L32 N = k at ih ⊢
    unfold fB_X8_plain_L32
    refine D_ite (fun c => ?_) (fun c => ?_)
    · have k1 := tq_le (x := (3 : Int32)) (y := x1) (a := 3) (by decide) rfl c
      refine D_mono (p_70 2000 0 T (by decide) (by decide) (by decide)) (fun q hq => ⟨fun w hw => ?_, fun a g1 g2 _ _ _ => hq a g1 g2⟩)
      rw [hq 36 (by decide) (by decide)]; exact h4 w (by omega)
    · have k1 := tq_len (x := (3 : Int32)) (y := x1) (a := 3) (by decide) rfl c
      have e1 : ((3 : Int32) + x1).toInt = 3 + x1.toInt := i_addK (by decide) rfl (by omega) (by omega)
      have c1 : ((3 : Int32) + x1).toNatClampNeg = 3 + x1.toInt.toNat := by simp only [i_cl]; omega
      refine D_ck (okI_of (by omega) (by omega)) (D_lt (fun S1 eS1 => D_ck (okI_of (by omega) (by omega)) (D_lt (fun S2 eS2 => D_lt (fun S3 eS3 => D_lt (fun y ey => ?_))))))
      rw [c1] at eS3
      have e2 : y.toInt = x1.toInt + 1 := by rw [ey]; exact i_addK rfl (by decide) (by omega) (by omega)
      refine D_mono (ih y S3 (by omega) (by omega) (by omega) (fun w hw => ?_)) (fun q hq => ⟨hq.1, fun a g1 g2 g3 g4 g5 => ?_⟩)
      · rw [eS3]
        by_cases hz : 3 + w = 3 + x1.toInt.toNat
        · rw [hz, st_same]; rfl
        · rw [st_ne hz, eS2, st_oth (by decide), eS1, st_oth (by decide)]; exact h4 w (by omega)
      · rw [hq.2 a g1 g2 g3 g4 g5, eS3, st_oth g5, eS2, st_oth g4, eS1, st_oth g3]
theorem t2_plain (S : Tr) : D (f_X8_plain S) (fun q => q 0 16 = 0 ∧ q 0 17 = 0 ∧ q 0 18 = 0 ∧ q 0 19 = 0 ∧ q 0 46 = 0 ∧ (∀ w : Nat, w < 3 → q 36 (3 + w) = 0) ∧ (∀ j, j < 16 → q 0 j = S 0 j) ∧ (∀ a, ¬ a = 0 → ¬ a = 34 → ¬ a = 35 → ¬ a = 22 → ¬ a = 23 → ¬ a = 36 → q a = S a)) := by
  unfold f_X8_plain
  refine D_lt (fun S1 e1 => D_lt (fun S2 e2 => D_lt (fun S3 e3 => D_lt (fun S4 e4 => D_lt (fun S5 e5 => D_lt (fun S6 e6 => ?_))))))
  refine D_mono (p_32 2000 0 S6 (by decide) (by decide) (by decide) (fun w hw => ?_)) (fun q hq => ?_)
  · exact absurd hw (by rw [show (0 : Int32).toInt = 0 by decide]; omega)
  have z := hq.2 0 (by decide) (by decide) (by decide) (by decide) (by decide)
  rw [z]
  refine ⟨?_, ?_, ?_, ?_, ?_, hq.1, fun j hj => ?_, fun a g0 g1 g2 g3 g4 g5 => ?_⟩
  · rw [e6, st_ne (by decide), e5, st_ne (by decide), e4, st_ne (by decide), e3, st_ne (by decide), e2, st_ne (by decide), e1, st_same]
  · rw [e6, st_ne (by decide), e5, st_ne (by decide), e4, st_ne (by decide), e3, st_ne (by decide), e2, st_same]
  · rw [e6, st_ne (by decide), e5, st_ne (by decide), e4, st_ne (by decide), e3, st_same]
  · rw [e6, st_ne (by decide), e5, st_ne (by decide), e4, st_same]
  · rw [e6, st_same]
  · rw [e6, st_ne (by omega), e5, st_ne (by omega), e4, st_ne (by omega), e3, st_ne (by omega), e2, st_ne (by omega), e1, st_ne (by omega)]
  · rw [hq.2 a g1 g2 g3 g4 g5, e6, st_oth g0, e5, st_oth g0, e4, st_oth g0, e3, st_oth g0, e2, st_oth g0, e1, st_oth g0]
/-! what has been read is kept -/
def cpd (a n : Nat) (S T : Tr) : Prop := (∀ j, j < n → T a j = S a (n + j)) ∧ (∀ c j, ¬ (c = a ∧ j < n) → T c j = S c j)
theorem cpf {a n c : Nat} {S T : Tr} (h : cpd a n S T) (hc : ¬ c = a) : T c = S c := funext (fun j => h.2 c j (fun q => hc q.1))
theorem iR_cp {a n : Nat} {S T : Tr} (h : cpd a n S T) (hB : ∀ i j, BM a i = BM a j) (hS : iR BM S) : iR BM T := fun c j => by
  by_cases q : c = a ∧ j < n
  · obtain ⟨rfl, hj⟩ := q
    rw [h.1 j hj, hB j (n + j)]; exact hS c (n + j)
  · rw [h.2 c j q]; exact hS c j
theorem cp_23 (S : Tr) (N : Nat) : ∀ (x2 : Int32) (T : Tr), 0 ≤ x2.toInt → x2.toInt ≤ 3 → 100 - x2.toInt < (N : Int) → (∀ j : Nat, (j : Int) < x2.toInt → T 23 j = S 23 (3 + j)) → (∀ (c j : Nat), ¬ (c = 23 ∧ (j : Int) < x2.toInt) → T c j = S c j) → D (lpF (fun _ _ => none) (fB_X8_copies_23_L2 3) N x2 T) (cpd 23 3 S) := by
  induction N with
  | zero => intro x2 T h1 h2 h3; omega
  | succ N ih =>
    intro x2 T h1 h2 h3 h4 h5
    show D (fB_X8_copies_23_L2 3 (lpF (fun _ _ => none) (fB_X8_copies_23_L2 3) N) x2 T) _
    generalize lpF (fun _ _ => none) (fB_X8_copies_23_L2 3) N = k at ih ⊢
    unfold fB_X8_copies_23_L2
    refine D_ite (fun c => ?_) (fun c => ?_)
    · have k1 := tq_le (x := (3 : Int32)) (y := x2) (a := 3) (by decide) rfl c
      exact D_some ⟨fun j hj => h4 j (by omega), fun c j q => h5 c j (fun g => q ⟨g.1, by omega⟩)⟩
    · have k1 := tq_len (x := (3 : Int32)) (y := x2) (a := 3) (by decide) rfl c
      have e1 : ((3 : Int32) + x2).toInt = 3 + x2.toInt := i_addK (by decide) rfl (by omega) (by omega)
      have c1 : ((3 : Int32) + x2).toNatClampNeg = 3 + x2.toInt.toNat := by simp only [i_cl]; omega
      have c2 : x2.toNatClampNeg = x2.toInt.toNat := rfl
      refine D_ck (okI_of (by omega) (by omega)) (D_ck (okI_of (by omega) (by omega)) (D_lt (fun T1 e => D_lt (fun y ey => ?_))))
      rw [c1, c2] at e
      have e2 : y.toInt = x2.toInt + 1 := by rw [ey]; exact i_addK rfl (by decide) (by omega) (by omega)
      refine ih y T1 (by omega) (by omega) (by omega) (fun j hj => ?_) (fun c j q => ?_)
      · rw [e]
        by_cases hz : j = x2.toInt.toNat
        · subst hz; rw [st_same]; exact h5 _ _ (fun g => by omega)
        · rw [st_ne hz]; exact h4 j (by omega)
      · rw [e]
        rcases st_or (S := T) (a := 23) (i := x2.toInt.toNat) (b := c) (j := j) (v := T 23 (3 + x2.toInt.toNat)) with g | ⟨g1, g2⟩
        · rw [g]; exact h5 c j (fun g => q ⟨g.1, by omega⟩)
        · exact absurd ⟨g1, by omega⟩ q
theorem r_cp_23 (S : Tr) : D (f_X8_copies_23 S 3) (cpd 23 3 S) :=
  cp_23 S 2000 0 S (by decide) (by decide) (by decide) (fun j hj => absurd hj (by rw [show (0 : Int32).toInt = 0 by decide]; omega)) (fun _ _ _ => rfl)
theorem cp_24 (S : Tr) (N : Nat) : ∀ (x2 : Int32) (T : Tr), 0 ≤ x2.toInt → x2.toInt ≤ 5 → 100 - x2.toInt < (N : Int) → (∀ j : Nat, (j : Int) < x2.toInt → T 24 j = S 24 (5 + j)) → (∀ (c j : Nat), ¬ (c = 24 ∧ (j : Int) < x2.toInt) → T c j = S c j) → D (lpF (fun _ _ => none) (fB_X8_copies_24_L2 5) N x2 T) (cpd 24 5 S) := by
  induction N with
  | zero => intro x2 T h1 h2 h3; omega
  | succ N ih =>
    intro x2 T h1 h2 h3 h4 h5
    show D (fB_X8_copies_24_L2 5 (lpF (fun _ _ => none) (fB_X8_copies_24_L2 5) N) x2 T) _
    generalize lpF (fun _ _ => none) (fB_X8_copies_24_L2 5) N = k at ih ⊢
    unfold fB_X8_copies_24_L2
    refine D_ite (fun c => ?_) (fun c => ?_)
    · have k1 := tq_le (x := (5 : Int32)) (y := x2) (a := 5) (by decide) rfl c
      exact D_some ⟨fun j hj => h4 j (by omega), fun c j q => h5 c j (fun g => q ⟨g.1, by omega⟩)⟩
    · have k1 := tq_len (x := (5 : Int32)) (y := x2) (a := 5) (by decide) rfl c
      have e1 : ((5 : Int32) + x2).toInt = 5 + x2.toInt := i_addK (by decide) rfl (by omega) (by omega)
      have c1 : ((5 : Int32) + x2).toNatClampNeg = 5 + x2.toInt.toNat := by simp only [i_cl]; omega
      have c2 : x2.toNatClampNeg = x2.toInt.toNat := rfl
      refine D_ck (okI_of (by omega) (by omega)) (D_ck (okI_of (by omega) (by omega)) (D_lt (fun T1 e => D_lt (fun y ey => ?_))))
      rw [c1, c2] at e
      have e2 : y.toInt = x2.toInt + 1 := by rw [ey]; exact i_addK rfl (by decide) (by omega) (by omega)
      refine ih y T1 (by omega) (by omega) (by omega) (fun j hj => ?_) (fun c j q => ?_)
      · rw [e]
        by_cases hz : j = x2.toInt.toNat
        · subst hz; rw [st_same]; exact h5 _ _ (fun g => by omega)
        · rw [st_ne hz]; exact h4 j (by omega)
      · rw [e]
        rcases st_or (S := T) (a := 24) (i := x2.toInt.toNat) (b := c) (j := j) (v := T 24 (5 + x2.toInt.toNat)) with g | ⟨g1, g2⟩
        · rw [g]; exact h5 c j (fun g => q ⟨g.1, by omega⟩)
        · exact absurd ⟨g1, by omega⟩ q
theorem r_cp_24 (S : Tr) : D (f_X8_copies_24 S 5) (cpd 24 5 S) :=
  cp_24 S 2000 0 S (by decide) (by decide) (by decide) (fun j hj => absurd hj (by rw [show (0 : Int32).toInt = 0 by decide]; omega)) (fun _ _ _ => rfl)
theorem cp_25 (S : Tr) (N : Nat) : ∀ (x2 : Int32) (T : Tr), 0 ≤ x2.toInt → x2.toInt ≤ 5 → 100 - x2.toInt < (N : Int) → (∀ j : Nat, (j : Int) < x2.toInt → T 25 j = S 25 (5 + j)) → (∀ (c j : Nat), ¬ (c = 25 ∧ (j : Int) < x2.toInt) → T c j = S c j) → D (lpF (fun _ _ => none) (fB_X8_copies_25_L2 5) N x2 T) (cpd 25 5 S) := by
  induction N with
  | zero => intro x2 T h1 h2 h3; omega
  | succ N ih =>
    intro x2 T h1 h2 h3 h4 h5
    show D (fB_X8_copies_25_L2 5 (lpF (fun _ _ => none) (fB_X8_copies_25_L2 5) N) x2 T) _
    generalize lpF (fun _ _ => none) (fB_X8_copies_25_L2 5) N = k at ih ⊢
    unfold fB_X8_copies_25_L2
    refine D_ite (fun c => ?_) (fun c => ?_)
    · have k1 := tq_le (x := (5 : Int32)) (y := x2) (a := 5) (by decide) rfl c
      exact D_some ⟨fun j hj => h4 j (by omega), fun c j q => h5 c j (fun g => q ⟨g.1, by omega⟩)⟩
    · have k1 := tq_len (x := (5 : Int32)) (y := x2) (a := 5) (by decide) rfl c
      have e1 : ((5 : Int32) + x2).toInt = 5 + x2.toInt := i_addK (by decide) rfl (by omega) (by omega)
      have c1 : ((5 : Int32) + x2).toNatClampNeg = 5 + x2.toInt.toNat := by simp only [i_cl]; omega
      have c2 : x2.toNatClampNeg = x2.toInt.toNat := rfl
      refine D_ck (okI_of (by omega) (by omega)) (D_ck (okI_of (by omega) (by omega)) (D_lt (fun T1 e => D_lt (fun y ey => ?_))))
      rw [c1, c2] at e
      have e2 : y.toInt = x2.toInt + 1 := by rw [ey]; exact i_addK rfl (by decide) (by omega) (by omega)
      refine ih y T1 (by omega) (by omega) (by omega) (fun j hj => ?_) (fun c j q => ?_)
      · rw [e]
        by_cases hz : j = x2.toInt.toNat
        · subst hz; rw [st_same]; exact h5 _ _ (fun g => by omega)
        · rw [st_ne hz]; exact h4 j (by omega)
      · rw [e]
        rcases st_or (S := T) (a := 25) (i := x2.toInt.toNat) (b := c) (j := j) (v := T 25 (5 + x2.toInt.toNat)) with g | ⟨g1, g2⟩
        · rw [g]; exact h5 c j (fun g => q ⟨g.1, by omega⟩)
        · exact absurd ⟨g1, by omega⟩ q
theorem r_cp_25 (S : Tr) : D (f_X8_copies_25 S 5) (cpd 25 5 S) :=
  cp_25 S 2000 0 S (by decide) (by decide) (by decide) (fun j hj => absurd hj (by rw [show (0 : Int32).toInt = 0 by decide]; omega)) (fun _ _ _ => rfl)
theorem cp_26 (S : Tr) (N : Nat) : ∀ (x2 : Int32) (T : Tr), 0 ≤ x2.toInt → x2.toInt ≤ 6 → 100 - x2.toInt < (N : Int) → (∀ j : Nat, (j : Int) < x2.toInt → T 26 j = S 26 (6 + j)) → (∀ (c j : Nat), ¬ (c = 26 ∧ (j : Int) < x2.toInt) → T c j = S c j) → D (lpF (fun _ _ => none) (fB_X8_copies_26_L2 6) N x2 T) (cpd 26 6 S) := by
  induction N with
  | zero => intro x2 T h1 h2 h3; omega
  | succ N ih =>
    intro x2 T h1 h2 h3 h4 h5
    show D (fB_X8_copies_26_L2 6 (lpF (fun _ _ => none) (fB_X8_copies_26_L2 6) N) x2 T) _
    generalize lpF (fun _ _ => none) (fB_X8_copies_26_L2 6) N = k at ih ⊢
    unfold fB_X8_copies_26_L2
    refine D_ite (fun c => ?_) (fun c => ?_)
    · have k1 := tq_le (x := (6 : Int32)) (y := x2) (a := 6) (by decide) rfl c
      exact D_some ⟨fun j hj => h4 j (by omega), fun c j q => h5 c j (fun g => q ⟨g.1, by omega⟩)⟩
    · have k1 := tq_len (x := (6 : Int32)) (y := x2) (a := 6) (by decide) rfl c
      have e1 : ((6 : Int32) + x2).toInt = 6 + x2.toInt := i_addK (by decide) rfl (by omega) (by omega)
      have c1 : ((6 : Int32) + x2).toNatClampNeg = 6 + x2.toInt.toNat := by simp only [i_cl]; omega
      have c2 : x2.toNatClampNeg = x2.toInt.toNat := rfl
      refine D_ck (okI_of (by omega) (by omega)) (D_ck (okI_of (by omega) (by omega)) (D_lt (fun T1 e => D_lt (fun y ey => ?_))))
      rw [c1, c2] at e
      have e2 : y.toInt = x2.toInt + 1 := by rw [ey]; exact i_addK rfl (by decide) (by omega) (by omega)
      refine ih y T1 (by omega) (by omega) (by omega) (fun j hj => ?_) (fun c j q => ?_)
      · rw [e]
        by_cases hz : j = x2.toInt.toNat
        · subst hz; rw [st_same]; exact h5 _ _ (fun g => by omega)
        · rw [st_ne hz]; exact h4 j (by omega)
      · rw [e]
        rcases st_or (S := T) (a := 26) (i := x2.toInt.toNat) (b := c) (j := j) (v := T 26 (6 + x2.toInt.toNat)) with g | ⟨g1, g2⟩
        · rw [g]; exact h5 c j (fun g => q ⟨g.1, by omega⟩)
        · exact absurd ⟨g1, by omega⟩ q
theorem r_cp_26 (S : Tr) : D (f_X8_copies_26 S 6) (cpd 26 6 S) :=
  cp_26 S 2000 0 S (by decide) (by decide) (by decide) (fun j hj => absurd hj (by rw [show (0 : Int32).toInt = 0 by decide]; omega)) (fun _ _ _ => rfl)
theorem cp_27 (S : Tr) (N : Nat) : ∀ (x2 : Int32) (T : Tr), 0 ≤ x2.toInt → x2.toInt ≤ 6 → 100 - x2.toInt < (N : Int) → (∀ j : Nat, (j : Int) < x2.toInt → T 27 j = S 27 (6 + j)) → (∀ (c j : Nat), ¬ (c = 27 ∧ (j : Int) < x2.toInt) → T c j = S c j) → D (lpF (fun _ _ => none) (fB_X8_copies_27_L2 6) N x2 T) (cpd 27 6 S) := by
  induction N with
  | zero => intro x2 T h1 h2 h3; omega
  | succ N ih =>
    intro x2 T h1 h2 h3 h4 h5
    show D (fB_X8_copies_27_L2 6 (lpF (fun _ _ => none) (fB_X8_copies_27_L2 6) N) x2 T) _
    generalize lpF (fun _ _ => none) (fB_X8_copies_27_L2 6) N = k at ih ⊢
    unfold fB_X8_copies_27_L2
    refine D_ite (fun c => ?_) (fun c => ?_)
    · have k1 := tq_le (x := (6 : Int32)) (y := x2) (a := 6) (by decide) rfl c
      exact D_some ⟨fun j hj => h4 j (by omega), fun c j q => h5 c j (fun g => q ⟨g.1, by omega⟩)⟩
    · have k1 := tq_len (x := (6 : Int32)) (y := x2) (a := 6) (by decide) rfl c
      have e1 : ((6 : Int32) + x2).toInt = 6 + x2.toInt := i_addK (by decide) rfl (by omega) (by omega)
      have c1 : ((6 : Int32) + x2).toNatClampNeg = 6 + x2.toInt.toNat := by simp only [i_cl]; omega
      have c2 : x2.toNatClampNeg = x2.toInt.toNat := rfl
      refine D_ck (okI_of (by omega) (by omega)) (D_ck (okI_of (by omega) (by omega)) (D_lt (fun T1 e => D_lt (fun y ey => ?_))))
      rw [c1, c2] at e
      have e2 : y.toInt = x2.toInt + 1 := by rw [ey]; exact i_addK rfl (by decide) (by omega) (by omega)
      refine ih y T1 (by omega) (by omega) (by omega) (fun j hj => ?_) (fun c j q => ?_)
      · rw [e]
        by_cases hz : j = x2.toInt.toNat
        · subst hz; rw [st_same]; exact h5 _ _ (fun g => by omega)
        · rw [st_ne hz]; exact h4 j (by omega)
      · rw [e]
        rcases st_or (S := T) (a := 27) (i := x2.toInt.toNat) (b := c) (j := j) (v := T 27 (6 + x2.toInt.toNat)) with g | ⟨g1, g2⟩
        · rw [g]; exact h5 c j (fun g => q ⟨g.1, by omega⟩)
        · exact absurd ⟨g1, by omega⟩ q
theorem r_cp_27 (S : Tr) : D (f_X8_copies_27 S 6) (cpd 27 6 S) :=
  cp_27 S 2000 0 S (by decide) (by decide) (by decide) (fun j hj => absurd hj (by rw [show (0 : Int32).toInt = 0 by decide]; omega)) (fun _ _ _ => rfl)
theorem cp_28 (S : Tr) (N : Nat) : ∀ (x2 : Int32) (T : Tr), 0 ≤ x2.toInt → x2.toInt ≤ 6 → 100 - x2.toInt < (N : Int) → (∀ j : Nat, (j : Int) < x2.toInt → T 28 j = S 28 (6 + j)) → (∀ (c j : Nat), ¬ (c = 28 ∧ (j : Int) < x2.toInt) → T c j = S c j) → D (lpF (fun _ _ => none) (fB_X8_copies_28_L2 6) N x2 T) (cpd 28 6 S) := by
  induction N with
  | zero => intro x2 T h1 h2 h3; omega
  | succ N ih =>
    intro x2 T h1 h2 h3 h4 h5
    show D (fB_X8_copies_28_L2 6 (lpF (fun _ _ => none) (fB_X8_copies_28_L2 6) N) x2 T) _
    generalize lpF (fun _ _ => none) (fB_X8_copies_28_L2 6) N = k at ih ⊢
    unfold fB_X8_copies_28_L2
    refine D_ite (fun c => ?_) (fun c => ?_)
    · have k1 := tq_le (x := (6 : Int32)) (y := x2) (a := 6) (by decide) rfl c
      exact D_some ⟨fun j hj => h4 j (by omega), fun c j q => h5 c j (fun g => q ⟨g.1, by omega⟩)⟩
    · have k1 := tq_len (x := (6 : Int32)) (y := x2) (a := 6) (by decide) rfl c
      have e1 : ((6 : Int32) + x2).toInt = 6 + x2.toInt := i_addK (by decide) rfl (by omega) (by omega)
      have c1 : ((6 : Int32) + x2).toNatClampNeg = 6 + x2.toInt.toNat := by simp only [i_cl]; omega
      have c2 : x2.toNatClampNeg = x2.toInt.toNat := rfl
      refine D_ck (okI_of (by omega) (by omega)) (D_ck (okI_of (by omega) (by omega)) (D_lt (fun T1 e => D_lt (fun y ey => ?_))))
      rw [c1, c2] at e
      have e2 : y.toInt = x2.toInt + 1 := by rw [ey]; exact i_addK rfl (by decide) (by omega) (by omega)
      refine ih y T1 (by omega) (by omega) (by omega) (fun j hj => ?_) (fun c j q => ?_)
      · rw [e]
        by_cases hz : j = x2.toInt.toNat
        · subst hz; rw [st_same]; exact h5 _ _ (fun g => by omega)
        · rw [st_ne hz]; exact h4 j (by omega)
      · rw [e]
        rcases st_or (S := T) (a := 28) (i := x2.toInt.toNat) (b := c) (j := j) (v := T 28 (6 + x2.toInt.toNat)) with g | ⟨g1, g2⟩
        · rw [g]; exact h5 c j (fun g => q ⟨g.1, by omega⟩)
        · exact absurd ⟨g1, by omega⟩ q
theorem r_cp_28 (S : Tr) : D (f_X8_copies_28 S 6) (cpd 28 6 S) :=
  cp_28 S 2000 0 S (by decide) (by decide) (by decide) (fun j hj => absurd hj (by rw [show (0 : Int32).toInt = 0 by decide]; omega)) (fun _ _ _ => rfl)
theorem cp_29 (S : Tr) (N : Nat) : ∀ (x2 : Int32) (T : Tr), 0 ≤ x2.toInt → x2.toInt ≤ 6 → 100 - x2.toInt < (N : Int) → (∀ j : Nat, (j : Int) < x2.toInt → T 29 j = S 29 (6 + j)) → (∀ (c j : Nat), ¬ (c = 29 ∧ (j : Int) < x2.toInt) → T c j = S c j) → D (lpF (fun _ _ => none) (fB_X8_copies_29_L2 6) N x2 T) (cpd 29 6 S) := by
  induction N with
  | zero => intro x2 T h1 h2 h3; omega
  | succ N ih =>
    intro x2 T h1 h2 h3 h4 h5
    show D (fB_X8_copies_29_L2 6 (lpF (fun _ _ => none) (fB_X8_copies_29_L2 6) N) x2 T) _
    generalize lpF (fun _ _ => none) (fB_X8_copies_29_L2 6) N = k at ih ⊢
    unfold fB_X8_copies_29_L2
    refine D_ite (fun c => ?_) (fun c => ?_)
    · have k1 := tq_le (x := (6 : Int32)) (y := x2) (a := 6) (by decide) rfl c
      exact D_some ⟨fun j hj => h4 j (by omega), fun c j q => h5 c j (fun g => q ⟨g.1, by omega⟩)⟩
    · have k1 := tq_len (x := (6 : Int32)) (y := x2) (a := 6) (by decide) rfl c
      have e1 : ((6 : Int32) + x2).toInt = 6 + x2.toInt := i_addK (by decide) rfl (by omega) (by omega)
      have c1 : ((6 : Int32) + x2).toNatClampNeg = 6 + x2.toInt.toNat := by simp only [i_cl]; omega
      have c2 : x2.toNatClampNeg = x2.toInt.toNat := rfl
      refine D_ck (okI_of (by omega) (by omega)) (D_ck (okI_of (by omega) (by omega)) (D_lt (fun T1 e => D_lt (fun y ey => ?_))))
      rw [c1, c2] at e
      have e2 : y.toInt = x2.toInt + 1 := by rw [ey]; exact i_addK rfl (by decide) (by omega) (by omega)
      refine ih y T1 (by omega) (by omega) (by omega) (fun j hj => ?_) (fun c j q => ?_)
      · rw [e]
        by_cases hz : j = x2.toInt.toNat
        · subst hz; rw [st_same]; exact h5 _ _ (fun g => by omega)
        · rw [st_ne hz]; exact h4 j (by omega)
      · rw [e]
        rcases st_or (S := T) (a := 29) (i := x2.toInt.toNat) (b := c) (j := j) (v := T 29 (6 + x2.toInt.toNat)) with g | ⟨g1, g2⟩
        · rw [g]; exact h5 c j (fun g => q ⟨g.1, by omega⟩)
        · exact absurd ⟨g1, by omega⟩ q
theorem r_cp_29 (S : Tr) : D (f_X8_copies_29 S 6) (cpd 29 6 S) :=
  cp_29 S 2000 0 S (by decide) (by decide) (by decide) (fun j hj => absurd hj (by rw [show (0 : Int32).toInt = 0 by decide]; omega)) (fun _ _ _ => rfl)
theorem cp_30 (S : Tr) (N : Nat) : ∀ (x2 : Int32) (T : Tr), 0 ≤ x2.toInt → x2.toInt ≤ 10 → 100 - x2.toInt < (N : Int) → (∀ j : Nat, (j : Int) < x2.toInt → T 30 j = S 30 (10 + j)) → (∀ (c j : Nat), ¬ (c = 30 ∧ (j : Int) < x2.toInt) → T c j = S c j) → D (lpF (fun _ _ => none) (fB_X8_copies_30_L2 10) N x2 T) (cpd 30 10 S) := by
  induction N with
  | zero => intro x2 T h1 h2 h3; omega
  | succ N ih =>
    intro x2 T h1 h2 h3 h4 h5
    show D (fB_X8_copies_30_L2 10 (lpF (fun _ _ => none) (fB_X8_copies_30_L2 10) N) x2 T) _
    generalize lpF (fun _ _ => none) (fB_X8_copies_30_L2 10) N = k at ih ⊢
    unfold fB_X8_copies_30_L2
    refine D_ite (fun c => ?_) (fun c => ?_)
    · have k1 := tq_le (x := (10 : Int32)) (y := x2) (a := 10) (by decide) rfl c
      exact D_some ⟨fun j hj => h4 j (by omega), fun c j q => h5 c j (fun g => q ⟨g.1, by omega⟩)⟩
    · have k1 := tq_len (x := (10 : Int32)) (y := x2) (a := 10) (by decide) rfl c
      have e1 : ((10 : Int32) + x2).toInt = 10 + x2.toInt := i_addK (by decide) rfl (by omega) (by omega)
      have c1 : ((10 : Int32) + x2).toNatClampNeg = 10 + x2.toInt.toNat := by simp only [i_cl]; omega
      have c2 : x2.toNatClampNeg = x2.toInt.toNat := rfl
      refine D_ck (okI_of (by omega) (by omega)) (D_ck (okI_of (by omega) (by omega)) (D_lt (fun T1 e => D_lt (fun y ey => ?_))))
      rw [c1, c2] at e
      have e2 : y.toInt = x2.toInt + 1 := by rw [ey]; exact i_addK rfl (by decide) (by omega) (by omega)
      refine ih y T1 (by omega) (by omega) (by omega) (fun j hj => ?_) (fun c j q => ?_)
      · rw [e]
        by_cases hz : j = x2.toInt.toNat
        · subst hz; rw [st_same]; exact h5 _ _ (fun g => by omega)
        · rw [st_ne hz]; exact h4 j (by omega)
      · rw [e]
        rcases st_or (S := T) (a := 30) (i := x2.toInt.toNat) (b := c) (j := j) (v := T 30 (10 + x2.toInt.toNat)) with g | ⟨g1, g2⟩
        · rw [g]; exact h5 c j (fun g => q ⟨g.1, by omega⟩)
        · exact absurd ⟨g1, by omega⟩ q
theorem r_cp_30 (S : Tr) : D (f_X8_copies_30 S 10) (cpd 30 10 S) :=
  cp_30 S 2000 0 S (by decide) (by decide) (by decide) (fun j hj => absurd hj (by rw [show (0 : Int32).toInt = 0 by decide]; omega)) (fun _ _ _ => rfl)
theorem cp_31 (S : Tr) (N : Nat) : ∀ (x2 : Int32) (T : Tr), 0 ≤ x2.toInt → x2.toInt ≤ 10 → 100 - x2.toInt < (N : Int) → (∀ j : Nat, (j : Int) < x2.toInt → T 31 j = S 31 (10 + j)) → (∀ (c j : Nat), ¬ (c = 31 ∧ (j : Int) < x2.toInt) → T c j = S c j) → D (lpF (fun _ _ => none) (fB_X8_copies_31_L2 10) N x2 T) (cpd 31 10 S) := by
  induction N with
  | zero => intro x2 T h1 h2 h3; omega
  | succ N ih =>
    intro x2 T h1 h2 h3 h4 h5
    show D (fB_X8_copies_31_L2 10 (lpF (fun _ _ => none) (fB_X8_copies_31_L2 10) N) x2 T) _
    generalize lpF (fun _ _ => none) (fB_X8_copies_31_L2 10) N = k at ih ⊢
    unfold fB_X8_copies_31_L2
    refine D_ite (fun c => ?_) (fun c => ?_)
    · have k1 := tq_le (x := (10 : Int32)) (y := x2) (a := 10) (by decide) rfl c
      exact D_some ⟨fun j hj => h4 j (by omega), fun c j q => h5 c j (fun g => q ⟨g.1, by omega⟩)⟩
    · have k1 := tq_len (x := (10 : Int32)) (y := x2) (a := 10) (by decide) rfl c
      have e1 : ((10 : Int32) + x2).toInt = 10 + x2.toInt := i_addK (by decide) rfl (by omega) (by omega)
      have c1 : ((10 : Int32) + x2).toNatClampNeg = 10 + x2.toInt.toNat := by simp only [i_cl]; omega
      have c2 : x2.toNatClampNeg = x2.toInt.toNat := rfl
      refine D_ck (okI_of (by omega) (by omega)) (D_ck (okI_of (by omega) (by omega)) (D_lt (fun T1 e => D_lt (fun y ey => ?_))))
      rw [c1, c2] at e
      have e2 : y.toInt = x2.toInt + 1 := by rw [ey]; exact i_addK rfl (by decide) (by omega) (by omega)
      refine ih y T1 (by omega) (by omega) (by omega) (fun j hj => ?_) (fun c j q => ?_)
      · rw [e]
        by_cases hz : j = x2.toInt.toNat
        · subst hz; rw [st_same]; exact h5 _ _ (fun g => by omega)
        · rw [st_ne hz]; exact h4 j (by omega)
      · rw [e]
        rcases st_or (S := T) (a := 31) (i := x2.toInt.toNat) (b := c) (j := j) (v := T 31 (10 + x2.toInt.toNat)) with g | ⟨g1, g2⟩
        · rw [g]; exact h5 c j (fun g => q ⟨g.1, by omega⟩)
        · exact absurd ⟨g1, by omega⟩ q
theorem r_cp_31 (S : Tr) : D (f_X8_copies_31 S 10) (cpd 31 10 S) :=
  cp_31 S 2000 0 S (by decide) (by decide) (by decide) (fun j hj => absurd hj (by rw [show (0 : Int32).toInt = 0 by decide]; omega)) (fun _ _ _ => rfl)
theorem cp_32 (S : Tr) (N : Nat) : ∀ (x2 : Int32) (T : Tr), 0 ≤ x2.toInt → x2.toInt ≤ 10 → 100 - x2.toInt < (N : Int) → (∀ j : Nat, (j : Int) < x2.toInt → T 32 j = S 32 (10 + j)) → (∀ (c j : Nat), ¬ (c = 32 ∧ (j : Int) < x2.toInt) → T c j = S c j) → D (lpF (fun _ _ => none) (fB_X8_copies_32_L2 10) N x2 T) (cpd 32 10 S) := by
  induction N with
  | zero => intro x2 T h1 h2 h3; omega
  | succ N ih =>
    intro x2 T h1 h2 h3 h4 h5
    show D (fB_X8_copies_32_L2 10 (lpF (fun _ _ => none) (fB_X8_copies_32_L2 10) N) x2 T) _
    generalize lpF (fun _ _ => none) (fB_X8_copies_32_L2 10) N = k at ih ⊢
    unfold fB_X8_copies_32_L2
    refine D_ite (fun c => ?_) (fun c => ?_)
    · have k1 := tq_le (x := (10 : Int32)) (y := x2) (a := 10) (by decide) rfl c
      exact D_some ⟨fun j hj => h4 j (by omega), fun c j q => h5 c j (fun g => q ⟨g.1, by omega⟩)⟩
    · have k1 := tq_len (x := (10 : Int32)) (y := x2) (a := 10) (by decide) rfl c
      have e1 : ((10 : Int32) + x2).toInt = 10 + x2.toInt := i_addK (by decide) rfl (by omega) (by omega)
      have c1 : ((10 : Int32) + x2).toNatClampNeg = 10 + x2.toInt.toNat := by simp only [i_cl]; omega
      have c2 : x2.toNatClampNeg = x2.toInt.toNat := rfl
      refine D_ck (okI_of (by omega) (by omega)) (D_ck (okI_of (by omega) (by omega)) (D_lt (fun T1 e => D_lt (fun y ey => ?_))))
      rw [c1, c2] at e
      have e2 : y.toInt = x2.toInt + 1 := by rw [ey]; exact i_addK rfl (by decide) (by omega) (by omega)
      refine ih y T1 (by omega) (by omega) (by omega) (fun j hj => ?_) (fun c j q => ?_)
      · rw [e]
        by_cases hz : j = x2.toInt.toNat
        · subst hz; rw [st_same]; exact h5 _ _ (fun g => by omega)
        · rw [st_ne hz]; exact h4 j (by omega)
      · rw [e]
        rcases st_or (S := T) (a := 32) (i := x2.toInt.toNat) (b := c) (j := j) (v := T 32 (10 + x2.toInt.toNat)) with g | ⟨g1, g2⟩
        · rw [g]; exact h5 c j (fun g => q ⟨g.1, by omega⟩)
        · exact absurd ⟨g1, by omega⟩ q
theorem r_cp_32 (S : Tr) : D (f_X8_copies_32 S 10) (cpd 32 10 S) :=
  cp_32 S 2000 0 S (by decide) (by decide) (by decide) (fun j hj => absurd hj (by rw [show (0 : Int32).toInt = 0 by decide]; omega)) (fun _ _ _ => rfl)
theorem cp_33 (S : Tr) (N : Nat) : ∀ (x2 : Int32) (T : Tr), 0 ≤ x2.toInt → x2.toInt ≤ 10 → 100 - x2.toInt < (N : Int) → (∀ j : Nat, (j : Int) < x2.toInt → T 33 j = S 33 (10 + j)) → (∀ (c j : Nat), ¬ (c = 33 ∧ (j : Int) < x2.toInt) → T c j = S c j) → D (lpF (fun _ _ => none) (fB_X8_copies_33_L2 10) N x2 T) (cpd 33 10 S) := by
  induction N with
  | zero => intro x2 T h1 h2 h3; omega
  | succ N ih =>
    intro x2 T h1 h2 h3 h4 h5
    show D (fB_X8_copies_33_L2 10 (lpF (fun _ _ => none) (fB_X8_copies_33_L2 10) N) x2 T) _
    generalize lpF (fun _ _ => none) (fB_X8_copies_33_L2 10) N = k at ih ⊢
    unfold fB_X8_copies_33_L2
    refine D_ite (fun c => ?_) (fun c => ?_)
    · have k1 := tq_le (x := (10 : Int32)) (y := x2) (a := 10) (by decide) rfl c
      exact D_some ⟨fun j hj => h4 j (by omega), fun c j q => h5 c j (fun g => q ⟨g.1, by omega⟩)⟩
    · have k1 := tq_len (x := (10 : Int32)) (y := x2) (a := 10) (by decide) rfl c
      have e1 : ((10 : Int32) + x2).toInt = 10 + x2.toInt := i_addK (by decide) rfl (by omega) (by omega)
      have c1 : ((10 : Int32) + x2).toNatClampNeg = 10 + x2.toInt.toNat := by simp only [i_cl]; omega
      have c2 : x2.toNatClampNeg = x2.toInt.toNat := rfl
      refine D_ck (okI_of (by omega) (by omega)) (D_ck (okI_of (by omega) (by omega)) (D_lt (fun T1 e => D_lt (fun y ey => ?_))))
      rw [c1, c2] at e
      have e2 : y.toInt = x2.toInt + 1 := by rw [ey]; exact i_addK rfl (by decide) (by omega) (by omega)
      refine ih y T1 (by omega) (by omega) (by omega) (fun j hj => ?_) (fun c j q => ?_)
      · rw [e]
        by_cases hz : j = x2.toInt.toNat
        · subst hz; rw [st_same]; exact h5 _ _ (fun g => by omega)
        · rw [st_ne hz]; exact h4 j (by omega)
      · rw [e]
        rcases st_or (S := T) (a := 33) (i := x2.toInt.toNat) (b := c) (j := j) (v := T 33 (10 + x2.toInt.toNat)) with g | ⟨g1, g2⟩
        · rw [g]; exact h5 c j (fun g => q ⟨g.1, by omega⟩)
        · exact absurd ⟨g1, by omega⟩ q
theorem r_cp_33 (S : Tr) : D (f_X8_copies_33 S 10) (cpd 33 10 S) :=
  cp_33 S 2000 0 S (by decide) (by decide) (by decide) (fun j hj => absurd hj (by rw [show (0 : Int32).toInt = 0 by decide]; omega)) (fun _ _ _ => rfl)
theorem cp_34 (S : Tr) (N : Nat) : ∀ (x2 : Int32) (T : Tr), 0 ≤ x2.toInt → x2.toInt ≤ 21 → 100 - x2.toInt < (N : Int) → (∀ j : Nat, (j : Int) < x2.toInt → T 34 j = S 34 (21 + j)) → (∀ (c j : Nat), ¬ (c = 34 ∧ (j : Int) < x2.toInt) → T c j = S c j) → D (lpF (fun _ _ => none) (fB_X8_copies_34_L2 21) N x2 T) (cpd 34 21 S) := by
  induction N with
  | zero => intro x2 T h1 h2 h3; omega
  | succ N ih =>
    intro x2 T h1 h2 h3 h4 h5
    show D (fB_X8_copies_34_L2 21 (lpF (fun _ _ => none) (fB_X8_copies_34_L2 21) N) x2 T) _
    generalize lpF (fun _ _ => none) (fB_X8_copies_34_L2 21) N = k at ih ⊢
    unfold fB_X8_copies_34_L2
    refine D_ite (fun c => ?_) (fun c => ?_)
    · have k1 := tq_le (x := (21 : Int32)) (y := x2) (a := 21) (by decide) rfl c
      exact D_some ⟨fun j hj => h4 j (by omega), fun c j q => h5 c j (fun g => q ⟨g.1, by omega⟩)⟩
    · have k1 := tq_len (x := (21 : Int32)) (y := x2) (a := 21) (by decide) rfl c
      have e1 : ((21 : Int32) + x2).toInt = 21 + x2.toInt := i_addK (by decide) rfl (by omega) (by omega)
      have c1 : ((21 : Int32) + x2).toNatClampNeg = 21 + x2.toInt.toNat := by simp only [i_cl]; omega
      have c2 : x2.toNatClampNeg = x2.toInt.toNat := rfl
      refine D_ck (okI_of (by omega) (by omega)) (D_ck (okI_of (by omega) (by omega)) (D_lt (fun T1 e => D_lt (fun y ey => ?_))))
      rw [c1, c2] at e
      have e2 : y.toInt = x2.toInt + 1 := by rw [ey]; exact i_addK rfl (by decide) (by omega) (by omega)
      refine ih y T1 (by omega) (by omega) (by omega) (fun j hj => ?_) (fun c j q => ?_)
      · rw [e]
        by_cases hz : j = x2.toInt.toNat
        · subst hz; rw [st_same]; exact h5 _ _ (fun g => by omega)
        · rw [st_ne hz]; exact h4 j (by omega)
      · rw [e]
        rcases st_or (S := T) (a := 34) (i := x2.toInt.toNat) (b := c) (j := j) (v := T 34 (21 + x2.toInt.toNat)) with g | ⟨g1, g2⟩
        · rw [g]; exact h5 c j (fun g => q ⟨g.1, by omega⟩)
        · exact absurd ⟨g1, by omega⟩ q
theorem r_cp_34 (S : Tr) : D (f_X8_copies_34 S 21) (cpd 34 21 S) :=
  cp_34 S 2000 0 S (by decide) (by decide) (by decide) (fun j hj => absurd hj (by rw [show (0 : Int32).toInt = 0 by decide]; omega)) (fun _ _ _ => rfl)
theorem cp_37 (S : Tr) (N : Nat) : ∀ (x2 : Int32) (T : Tr), 0 ≤ x2.toInt → x2.toInt ≤ 3 → 100 - x2.toInt < (N : Int) → (∀ j : Nat, (j : Int) < x2.toInt → T 37 j = S 37 (3 + j)) → (∀ (c j : Nat), ¬ (c = 37 ∧ (j : Int) < x2.toInt) → T c j = S c j) → D (lpF (fun _ _ => none) (fB_X8_copies_37_L2 3) N x2 T) (cpd 37 3 S) := by
  induction N with
  | zero => intro x2 T h1 h2 h3; omega
  | succ N ih =>
    intro x2 T h1 h2 h3 h4 h5
    show D (fB_X8_copies_37_L2 3 (lpF (fun _ _ => none) (fB_X8_copies_37_L2 3) N) x2 T) _
    generalize lpF (fun _ _ => none) (fB_X8_copies_37_L2 3) N = k at ih ⊢
    unfold fB_X8_copies_37_L2
    refine D_ite (fun c => ?_) (fun c => ?_)
    · have k1 := tq_le (x := (3 : Int32)) (y := x2) (a := 3) (by decide) rfl c
      exact D_some ⟨fun j hj => h4 j (by omega), fun c j q => h5 c j (fun g => q ⟨g.1, by omega⟩)⟩
    · have k1 := tq_len (x := (3 : Int32)) (y := x2) (a := 3) (by decide) rfl c
      have e1 : ((3 : Int32) + x2).toInt = 3 + x2.toInt := i_addK (by decide) rfl (by omega) (by omega)
      have c1 : ((3 : Int32) + x2).toNatClampNeg = 3 + x2.toInt.toNat := by simp only [i_cl]; omega
      have c2 : x2.toNatClampNeg = x2.toInt.toNat := rfl
      refine D_ck (okI_of (by omega) (by omega)) (D_ck (okI_of (by omega) (by omega)) (D_lt (fun T1 e => D_lt (fun y ey => ?_))))
      rw [c1, c2] at e
      have e2 : y.toInt = x2.toInt + 1 := by rw [ey]; exact i_addK rfl (by decide) (by omega) (by omega)
      refine ih y T1 (by omega) (by omega) (by omega) (fun j hj => ?_) (fun c j q => ?_)
      · rw [e]
        by_cases hz : j = x2.toInt.toNat
        · subst hz; rw [st_same]; exact h5 _ _ (fun g => by omega)
        · rw [st_ne hz]; exact h4 j (by omega)
      · rw [e]
        rcases st_or (S := T) (a := 37) (i := x2.toInt.toNat) (b := c) (j := j) (v := T 37 (3 + x2.toInt.toNat)) with g | ⟨g1, g2⟩
        · rw [g]; exact h5 c j (fun g => q ⟨g.1, by omega⟩)
        · exact absurd ⟨g1, by omega⟩ q
theorem r_cp_37 (S : Tr) : D (f_X8_copies_37 S 3) (cpd 37 3 S) :=
  cp_37 S 2000 0 S (by decide) (by decide) (by decide) (fun j hj => absurd hj (by rw [show (0 : Int32).toInt = 0 by decide]; omega)) (fun _ _ _ => rfl)
theorem cp_38 (S : Tr) (N : Nat) : ∀ (x2 : Int32) (T : Tr), 0 ≤ x2.toInt → x2.toInt ≤ 3 → 100 - x2.toInt < (N : Int) → (∀ j : Nat, (j : Int) < x2.toInt → T 38 j = S 38 (3 + j)) → (∀ (c j : Nat), ¬ (c = 38 ∧ (j : Int) < x2.toInt) → T c j = S c j) → D (lpF (fun _ _ => none) (fB_X8_copies_38_L2 3) N x2 T) (cpd 38 3 S) := by
  induction N with
  | zero => intro x2 T h1 h2 h3; omega
  | succ N ih =>
    intro x2 T h1 h2 h3 h4 h5
    show D (fB_X8_copies_38_L2 3 (lpF (fun _ _ => none) (fB_X8_copies_38_L2 3) N) x2 T) _
    generalize lpF (fun _ _ => none) (fB_X8_copies_38_L2 3) N = k at ih ⊢
    unfold fB_X8_copies_38_L2
    refine D_ite (fun c => ?_) (fun c => ?_)
    · have k1 := tq_le (x := (3 : Int32)) (y := x2) (a := 3) (by decide) rfl c
      exact D_some ⟨fun j hj => h4 j (by omega), fun c j q => h5 c j (fun g => q ⟨g.1, by omega⟩)⟩
    · have k1 := tq_len (x := (3 : Int32)) (y := x2) (a := 3) (by decide) rfl c
      have e1 : ((3 : Int32) + x2).toInt = 3 + x2.toInt := i_addK (by decide) rfl (by omega) (by omega)
      have c1 : ((3 : Int32) + x2).toNatClampNeg = 3 + x2.toInt.toNat := by simp only [i_cl]; omega
      have c2 : x2.toNatClampNeg = x2.toInt.toNat := rfl
      refine D_ck (okI_of (by omega) (by omega)) (D_ck (okI_of (by omega) (by omega)) (D_lt (fun T1 e => D_lt (fun y ey => ?_))))
      rw [c1, c2] at e
      have e2 : y.toInt = x2.toInt + 1 := by rw [ey]; exact i_addK rfl (by decide) (by omega) (by omega)
      refine ih y T1 (by omega) (by omega) (by omega) (fun j hj => ?_) (fun c j q => ?_)
      · rw [e]
        by_cases hz : j = x2.toInt.toNat
        · subst hz; rw [st_same]; exact h5 _ _ (fun g => by omega)
        · rw [st_ne hz]; exact h4 j (by omega)
      · rw [e]
        rcases st_or (S := T) (a := 38) (i := x2.toInt.toNat) (b := c) (j := j) (v := T 38 (3 + x2.toInt.toNat)) with g | ⟨g1, g2⟩
        · rw [g]; exact h5 c j (fun g => q ⟨g.1, by omega⟩)
        · exact absurd ⟨g1, by omega⟩ q
theorem r_cp_38 (S : Tr) : D (f_X8_copies_38 S 3) (cpd 38 3 S) :=
  cp_38 S 2000 0 S (by decide) (by decide) (by decide) (fun j hj => absurd hj (by rw [show (0 : Int32).toInt = 0 by decide]; omega)) (fun _ _ _ => rfl)
theorem cp_39 (S : Tr) (N : Nat) : ∀ (x2 : Int32) (T : Tr), 0 ≤ x2.toInt → x2.toInt ≤ 64 → 100 - x2.toInt < (N : Int) → (∀ j : Nat, (j : Int) < x2.toInt → T 39 j = S 39 (64 + j)) → (∀ (c j : Nat), ¬ (c = 39 ∧ (j : Int) < x2.toInt) → T c j = S c j) → D (lpF (fun _ _ => none) (fB_X8_copies_39_L2 64) N x2 T) (cpd 39 64 S) := by
  induction N with
  | zero => intro x2 T h1 h2 h3; omega
  | succ N ih =>
    intro x2 T h1 h2 h3 h4 h5
    show D (fB_X8_copies_39_L2 64 (lpF (fun _ _ => none) (fB_X8_copies_39_L2 64) N) x2 T) _
    generalize lpF (fun _ _ => none) (fB_X8_copies_39_L2 64) N = k at ih ⊢
    unfold fB_X8_copies_39_L2
    refine D_ite (fun c => ?_) (fun c => ?_)
    · have k1 := tq_le (x := (64 : Int32)) (y := x2) (a := 64) (by decide) rfl c
      exact D_some ⟨fun j hj => h4 j (by omega), fun c j q => h5 c j (fun g => q ⟨g.1, by omega⟩)⟩
    · have k1 := tq_len (x := (64 : Int32)) (y := x2) (a := 64) (by decide) rfl c
      have e1 : ((64 : Int32) + x2).toInt = 64 + x2.toInt := i_addK (by decide) rfl (by omega) (by omega)
      have c1 : ((64 : Int32) + x2).toNatClampNeg = 64 + x2.toInt.toNat := by simp only [i_cl]; omega
      have c2 : x2.toNatClampNeg = x2.toInt.toNat := rfl
      refine D_ck (okI_of (by omega) (by omega)) (D_ck (okI_of (by omega) (by omega)) (D_lt (fun T1 e => D_lt (fun y ey => ?_))))
      rw [c1, c2] at e
      have e2 : y.toInt = x2.toInt + 1 := by rw [ey]; exact i_addK rfl (by decide) (by omega) (by omega)
      refine ih y T1 (by omega) (by omega) (by omega) (fun j hj => ?_) (fun c j q => ?_)
      · rw [e]
        by_cases hz : j = x2.toInt.toNat
        · subst hz; rw [st_same]; exact h5 _ _ (fun g => by omega)
        · rw [st_ne hz]; exact h4 j (by omega)
      · rw [e]
        rcases st_or (S := T) (a := 39) (i := x2.toInt.toNat) (b := c) (j := j) (v := T 39 (64 + x2.toInt.toNat)) with g | ⟨g1, g2⟩
        · rw [g]; exact h5 c j (fun g => q ⟨g.1, by omega⟩)
        · exact absurd ⟨g1, by omega⟩ q
theorem r_cp_39 (S : Tr) : D (f_X8_copies_39 S 64) (cpd 39 64 S) :=
  cp_39 S 2000 0 S (by decide) (by decide) (by decide) (fun j hj => absurd hj (by rw [show (0 : Int32).toInt = 0 by decide]; omega)) (fun _ _ _ => rfl)
theorem cp_40 (S : Tr) (N : Nat) : ∀ (x2 : Int32) (T : Tr), 0 ≤ x2.toInt → x2.toInt ≤ 64 → 100 - x2.toInt < (N : Int) → (∀ j : Nat, (j : Int) < x2.toInt → T 40 j = S 40 (64 + j)) → (∀ (c j : Nat), ¬ (c = 40 ∧ (j : Int) < x2.toInt) → T c j = S c j) → D (lpF (fun _ _ => none) (fB_X8_copies_40_L2 64) N x2 T) (cpd 40 64 S) := by
  induction N with
  | zero => intro x2 T h1 h2 h3; omega
  | succ N ih =>
    intro x2 T h1 h2 h3 h4 h5
    show D (fB_X8_copies_40_L2 64 (lpF (fun _ _ => none) (fB_X8_copies_40_L2 64) N) x2 T) _
    generalize lpF (fun _ _ => none) (fB_X8_copies_40_L2 64) N = k at ih ⊢
    unfold fB_X8_copies_40_L2
    refine D_ite (fun c => ?_) (fun c => ?_)
    · have k1 := tq_le (x := (64 : Int32)) (y := x2) (a := 64) (by decide) rfl c
      exact D_some ⟨fun j hj => h4 j (by omega), fun c j q => h5 c j (fun g => q ⟨g.1, by omega⟩)⟩
    · have k1 := tq_len (x := (64 : Int32)) (y := x2) (a := 64) (by decide) rfl c
      have e1 : ((64 : Int32) + x2).toInt = 64 + x2.toInt := i_addK (by decide) rfl (by omega) (by omega)
      have c1 : ((64 : Int32) + x2).toNatClampNeg = 64 + x2.toInt.toNat := by simp only [i_cl]; omega
      have c2 : x2.toNatClampNeg = x2.toInt.toNat := rfl
      refine D_ck (okI_of (by omega) (by omega)) (D_ck (okI_of (by omega) (by omega)) (D_lt (fun T1 e => D_lt (fun y ey => ?_))))
      rw [c1, c2] at e
      have e2 : y.toInt = x2.toInt + 1 := by rw [ey]; exact i_addK rfl (by decide) (by omega) (by omega)
      refine ih y T1 (by omega) (by omega) (by omega) (fun j hj => ?_) (fun c j q => ?_)
      · rw [e]
        by_cases hz : j = x2.toInt.toNat
        · subst hz; rw [st_same]; exact h5 _ _ (fun g => by omega)
        · rw [st_ne hz]; exact h4 j (by omega)
      · rw [e]
        rcases st_or (S := T) (a := 40) (i := x2.toInt.toNat) (b := c) (j := j) (v := T 40 (64 + x2.toInt.toNat)) with g | ⟨g1, g2⟩
        · rw [g]; exact h5 c j (fun g => q ⟨g.1, by omega⟩)
        · exact absurd ⟨g1, by omega⟩ q
theorem r_cp_40 (S : Tr) : D (f_X8_copies_40 S 64) (cpd 40 64 S) :=
  cp_40 S 2000 0 S (by decide) (by decide) (by decide) (fun j hj => absurd hj (by rw [show (0 : Int32).toInt = 0 by decide]; omega)) (fun _ _ _ => rfl)
theorem cp_41 (S : Tr) (N : Nat) : ∀ (x2 : Int32) (T : Tr), 0 ≤ x2.toInt → x2.toInt ≤ 64 → 100 - x2.toInt < (N : Int) → (∀ j : Nat, (j : Int) < x2.toInt → T 41 j = S 41 (64 + j)) → (∀ (c j : Nat), ¬ (c = 41 ∧ (j : Int) < x2.toInt) → T c j = S c j) → D (lpF (fun _ _ => none) (fB_X8_copies_41_L2 64) N x2 T) (cpd 41 64 S) := by
  induction N with
  | zero => intro x2 T h1 h2 h3; omega
  | succ N ih =>
    intro x2 T h1 h2 h3 h4 h5
    show D (fB_X8_copies_41_L2 64 (lpF (fun _ _ => none) (fB_X8_copies_41_L2 64) N) x2 T) _
    generalize lpF (fun _ _ => none) (fB_X8_copies_41_L2 64) N = k at ih ⊢
    unfold fB_X8_copies_41_L2
    refine D_ite (fun c => ?_) (fun c => ?_)
    · have k1 := tq_le (x := (64 : Int32)) (y := x2) (a := 64) (by decide) rfl c
      exact D_some ⟨fun j hj => h4 j (by omega), fun c j q => h5 c j (fun g => q ⟨g.1, by omega⟩)⟩
    · have k1 := tq_len (x := (64 : Int32)) (y := x2) (a := 64) (by decide) rfl c
      have e1 : ((64 : Int32) + x2).toInt = 64 + x2.toInt := i_addK (by decide) rfl (by omega) (by omega)
      have c1 : ((64 : Int32) + x2).toNatClampNeg = 64 + x2.toInt.toNat := by simp only [i_cl]; omega
      have c2 : x2.toNatClampNeg = x2.toInt.toNat := rfl
      refine D_ck (okI_of (by omega) (by omega)) (D_ck (okI_of (by omega) (by omega)) (D_lt (fun T1 e => D_lt (fun y ey => ?_))))
      rw [c1, c2] at e
      have e2 : y.toInt = x2.toInt + 1 := by rw [ey]; exact i_addK rfl (by decide) (by omega) (by omega)
      refine ih y T1 (by omega) (by omega) (by omega) (fun j hj => ?_) (fun c j q => ?_)
      · rw [e]
        by_cases hz : j = x2.toInt.toNat
        · subst hz; rw [st_same]; exact h5 _ _ (fun g => by omega)
        · rw [st_ne hz]; exact h4 j (by omega)
      · rw [e]
        rcases st_or (S := T) (a := 41) (i := x2.toInt.toNat) (b := c) (j := j) (v := T 41 (64 + x2.toInt.toNat)) with g | ⟨g1, g2⟩
        · rw [g]; exact h5 c j (fun g => q ⟨g.1, by omega⟩)
        · exact absurd ⟨g1, by omega⟩ q
theorem r_cp_41 (S : Tr) : D (f_X8_copies_41 S 64) (cpd 41 64 S) :=
  cp_41 S 2000 0 S (by decide) (by decide) (by decide) (fun j hj => absurd hj (by rw [show (0 : Int32).toInt = 0 by decide]; omega)) (fun _ _ _ => rfl)
-- 60.m
def bcp (S T : Tr) : Prop := (∀ w, w < 3 → T 36 w = vp_nar .boolean (S 36 (3 + w))) ∧ (∀ c j, ¬ (c = 36 ∧ j < 3) → T c j = S c j)
theorem bcf {c : Nat} {S T : Tr} (h : bcp S T) (hc : ¬ c = 36) : T c = S c := funext (fun j => h.2 c j (fun q => hc q.1))
theorem iR_b {S T : Tr} (h : bcp S T) (hS : iR BM S) : iR BM T := fun c j => by
  by_cases q : c = 36 ∧ j < 3
  · obtain ⟨rfl, hj⟩ := q
    have r := i_rng (T 36 j)
    refine ⟨?_, ?_⟩
    · show (-2147483648 : Int) ≤ _; omega
    · show _ ≤ (2147483647 : Int); omega
  · rw [h.2 c j q]; exact hS c j
theorem kt_139 (L : Lo) (S : Tr) {Q : Tr × Lo → Prop} (hE : ∀ T, bcp S T → D (fJ_X8_keepText_J164 T L) Q) (N : Nat) : ∀ (x1 : Int32) (T : Tr), 0 ≤ x1.toInt → x1.toInt ≤ 3 → 10 - x1.toInt < (N : Int) → (∀ w : Nat, (w : Int) < x1.toInt → T 36 w = vp_nar .boolean (S 36 (3 + w))) → (∀ (c j : Nat), ¬ (c = 36 ∧ (j : Int) < x1.toInt) → T c j = S c j) → D (lpF (fun _ _ => none) (fB_X8_keepText_L139 L) N x1 T) Q := by
  induction N with
  | zero => intro x1 T h1 h2 h3; omega
  | succ N ih =>
    intro x1 T h1 h2 h3 h4 h5
    show D (fB_X8_keepText_L139 L (lpF (fun _ _ => none) (fB_X8_keepText_L139 L) N) x1 T) _
    generalize lpF (fun _ _ => none) (fB_X8_keepText_L139 L) N = k at ih ⊢
    unfold fB_X8_keepText_L139
    refine D_ite (fun c => ?_) (fun c => ?_)
    · have k1 := tq_le (x := (3 : Int32)) (y := x1) (a := 3) (by decide) rfl c
      exact hE T ⟨fun w hw => h4 w (by omega), fun c j q => h5 c j (fun g => q ⟨g.1, by omega⟩)⟩
    · have k1 := tq_len (x := (3 : Int32)) (y := x1) (a := 3) (by decide) rfl c
      have e1 : ((3 : Int32) + x1).toInt = 3 + x1.toInt := i_addK (by decide) rfl (by omega) (by omega)
      have c1 : ((3 : Int32) + x1).toNatClampNeg = 3 + x1.toInt.toNat := by simp only [i_cl]; omega
      have c2 : x1.toNatClampNeg = x1.toInt.toNat := rfl
      refine D_ck (okI_of (by omega) (by omega)) (D_ck (okI_of (by omega) (by omega)) (D_lt (fun T1 e => D_lt (fun y ey => ?_))))
      rw [c1, c2] at e
      have e2 : y.toInt = x1.toInt + 1 := by rw [ey]; exact i_addK rfl (by decide) (by omega) (by omega)
      refine ih y T1 (by omega) (by omega) (by omega) (fun j hj => ?_) (fun c j q => ?_)
      · rw [e]
        by_cases hz : j = x1.toInt.toNat
        · subst hz; rw [st_same, h5 36 (3 + x1.toInt.toNat) (fun g => by omega)]
        · rw [st_ne hz]; exact h4 j (by omega)
      · rw [e]
        rcases st_or (S := T) (a := 36) (i := x1.toInt.toNat) (b := c) (j := j) (v := vp_nar .boolean (T 36 (3 + x1.toInt.toNat))) with g | ⟨g1, g2⟩
        · rw [g]; exact h5 c j (fun g => q ⟨g.1, by omega⟩)
        · exact absurd ⟨g1, by omega⟩ q
/-! a journey begins -/
theorem r_begin (S : Tr) (L : Lo) (hS : iR BM S) (hp : pI S) (hz : zI S) : D (f_X8_begin S L) (fun q => jR q.1 ∧ (∀ j, q.1 4 j = S 4 j) ∧ q.1 0 1 = S 0 1) := by
  unfold f_X8_begin
  have c0 : (0 : Int32).toNatClampNeg = 0 := rfl
  refine D_bd (t_X8_atFirst S 0 hS (by decide) hp) (fun S1 _ h1 => ?_)
  rw [c0] at h1
  obtain ⟨i1, a1, g1, p1, _⟩ := h1
  refine D_lt (fun L4 _ => ?_)
  refine D_bd (t_X8_plainTried S1 i1) (fun S5 _ h5 => ?_)
  obtain ⟨i5, a5⟩ := h5
  have p5 : pI S5 := pI_aG (b := 0) p1 (aT_G a5)
  have g5 : gI 0 S5 := gI0_G1 i1 g1 (aT_G a5)
  refine D_lt (fun S8 e8 => D_lt (fun S9 e9 => D_lt (fun S10 e10 => D_lt (fun S11 e11 => ?_))))
  have i8 : iR BM S8 := by rw [e8]; exact iR_set (a := 0) (i := 78) i5 (by decide) (by decide)
  have i9 : iR BM S9 := by rw [e9]; exact iR_set (a := 0) (i := 79) i8 (by decide) (by decide)
  have i10 : iR BM S10 := by rw [e10]; exact iR_set (a := 0) (i := 82) i9 (by decide) (by decide)
  have i11 : iR BM S11 := by rw [e11]; exact iR_setU i10 rfl
  have o : ∀ a, ¬ a = 0 → S11 a = S5 a := fun a ha => by rw [e11, st_oth ha, e10, st_oth ha, e9, st_oth ha, e8, st_oth ha]
  have oz : ∀ j, ¬ j = 78 → ¬ j = 79 → ¬ j = 82 → ¬ j = 84 → S11 0 j = S5 0 j := fun j n1 n2 n3 n4 => by rw [e11, st_ne n4, e10, st_ne n3, e9, st_ne n2, e8, st_ne n1]
  have e13 := oz 13 (by decide) (by decide) (by decide) (by decide)
  have e14 := oz 14 (by decide) (by decide) (by decide) (by decide)
  have e82 : S11 0 82 = 0 := by rw [e11, st_ne (by decide), e10, st_same]
  have e84 : S11 0 84 = 0 := by rw [e11, st_same]
  have j11 : jR S11 := by
    refine ⟨i11, pI_fr p5 (fun j => by rw [o 39 (by decide)]) (fun j => by rw [o 40 (by decide)]) (fun j => by rw [o 41 (by decide)]) (fun j => by rw [o 36 (by decide)]) (fun j => by rw [o 38 (by decide)]) (fun j => by rw [o 30 (by decide)]) (fun j => by rw [o 29 (by decide)]) e13 e14, gI_fr g5 (fun j => by rw [o 53 (by decide)]) (fun j => by rw [o 54 (by decide)]) (fun j => by rw [o 55 (by decide)]) (fun j => by rw [o 56 (by decide)]) (fun j => by rw [o 58 (by decide)]) e13 e14, fun r hr => ?_, fun hz => absurd e84 hz, zI_fr hz (fun j => ?_)⟩
    · rw [e82] at hr
      have l0 : (0 : Int32).toInt = 0 := by decide
      omega
    · rw [o 81 (by decide), a5 81 j rfl, a1 81 j rfl]
  refine D_some ⟨j11, fun j => ?_, ?_⟩
  · show S11 4 j = S 4 j
    rw [o 4 (by decide), a5 4 j rfl, a1 4 j rfl]
  · show S11 0 1 = S 0 1
    rw [oz 1 (by decide) (by decide) (by decide) (by decide), a5 0 1 rfl, a1 0 1 rfl]
theorem r_keepText {z S : Tr} (L : Lo) (hz9 : zI z) (h : rP 3 z S) : D (f_X8_keepText S L) (fun q => jR q.1 ∧ (∀ j, q.1 4 j = S 4 j) ∧ q.1 0 1 = S 0 1) := by
  unfold f_X8_keepText
  have b16 : 0 ≤ (S 0 16).toInt ∧ (S 0 16).toInt ≤ 5 := h.1 0 16
  have b17 : 0 ≤ (S 0 17).toInt ∧ (S 0 17).toInt ≤ 6 := h.1 0 17
  have b18 : 0 ≤ (S 0 18).toInt ∧ (S 0 18).toInt ≤ 10 := h.1 0 18
  have b19 : 0 ≤ (S 0 19).toInt ∧ (S 0 19).toInt ≤ 64 := h.1 0 19
  have hp := h.2.2.2.2.1
  refine D_lt (fun S1 e1 => D_lt (fun S2 e2 => D_lt (fun S3 e3 => D_lt (fun S4 e4 => ?_))))
  have q17 : S1 0 17 = S 0 17 := by rw [e1, st_ne (by decide)]
  have q18 : S2 0 18 = S 0 18 := by rw [e2, st_ne (by decide), e1, st_ne (by decide)]
  have q19 : S3 0 19 = S 0 19 := by rw [e3, st_ne (by decide), e2, st_ne (by decide), e1, st_ne (by decide)]
  rw [q17] at e2
  rw [q18] at e3
  rw [q19] at e4
  have i1 : iR BM S1 := by rw [e1]; exact iR_set (a := 0) (i := 12) h.1 b16.1 b16.2
  have i2 : iR BM S2 := by rw [e2]; exact iR_set (a := 0) (i := 13) i1 b17.1 b17.2
  have i3 : iR BM S3 := by rw [e3]; exact iR_set (a := 0) (i := 14) i2 b18.1 b18.2
  have i4 : iR BM S4 := by rw [e4]; exact iR_set (a := 0) (i := 15) i3 b19.1 b19.2
  have o4 : ∀ a, ¬ a = 0 → S4 a = S a := fun a ha => by rw [e4, st_oth ha, e3, st_oth ha, e2, st_oth ha, e1, st_oth ha]
  have z13 : S4 0 13 = S 0 17 := by rw [e4, st_ne (by decide), e3, st_ne (by decide), e2, st_same]
  have z14 : S4 0 14 = S 0 18 := by rw [e4, st_ne (by decide), e3, st_same]
  have z1 : S4 0 1 = S 0 1 := by rw [e4, st_ne (by decide), e3, st_ne (by decide), e2, st_ne (by decide), e1, st_ne (by decide)]
  refine D_bd (r_cp_23 S4) (fun T23 _ h23 => ?_)
  have i23 : iR BM T23 := iR_cp h23 (fun _ _ => rfl) i4
  refine D_bd (r_cp_24 T23) (fun T24 _ h24 => ?_)
  have i24 : iR BM T24 := iR_cp h24 (fun _ _ => rfl) i23
  refine D_bd (r_cp_25 T24) (fun T25 _ h25 => ?_)
  have i25 : iR BM T25 := iR_cp h25 (fun _ _ => rfl) i24
  refine D_bd (r_cp_26 T25) (fun T26 _ h26 => ?_)
  have i26 : iR BM T26 := iR_cp h26 (fun _ _ => rfl) i25
  refine D_bd (r_cp_27 T26) (fun T27 _ h27 => ?_)
  have i27 : iR BM T27 := iR_cp h27 (fun _ _ => rfl) i26
  refine D_bd (r_cp_28 T27) (fun T28 _ h28 => ?_)
  have i28 : iR BM T28 := iR_cp h28 (fun _ _ => rfl) i27
  refine D_bd (r_cp_29 T28) (fun T29 _ h29 => ?_)
  have i29 : iR BM T29 := iR_cp h29 (fun _ _ => rfl) i28
  refine D_bd (r_cp_30 T29) (fun T30 _ h30 => ?_)
  have i30 : iR BM T30 := iR_cp h30 (fun _ _ => rfl) i29
  refine D_bd (r_cp_31 T30) (fun T31 _ h31 => ?_)
  have i31 : iR BM T31 := iR_cp h31 (fun _ _ => rfl) i30
  refine D_bd (r_cp_32 T31) (fun T32 _ h32 => ?_)
  have i32 : iR BM T32 := iR_cp h32 (fun _ _ => rfl) i31
  refine D_bd (r_cp_33 T32) (fun T33 _ h33 => ?_)
  have i33 : iR BM T33 := iR_cp h33 (fun _ _ => rfl) i32
  refine D_bd (r_cp_34 T33) (fun T34 _ h34 => ?_)
  have i34 : iR BM T34 := iR_cp h34 (fun _ _ => rfl) i33
  refine kt_139 L T34 (fun T36 h36 => ?_) 2000 0 T34 (by decide) (by decide) (by decide) (fun j hj => absurd hj (by rw [show (0 : Int32).toInt = 0 by decide]; omega)) (fun _ _ _ => rfl)
  have i36 : iR BM T36 := iR_b h36 i34
  unfold fJ_X8_keepText_J164
  refine D_bd (r_cp_37 T36) (fun T37 _ h37 => ?_)
  have i37 : iR BM T37 := iR_cp h37 (fun _ _ => rfl) i36
  refine D_bd (r_cp_38 T37) (fun T38 _ h38 => ?_)
  have i38 : iR BM T38 := iR_cp h38 (fun _ _ => rfl) i37
  refine D_bd (r_cp_39 T38) (fun T39 _ h39 => ?_)
  have i39 : iR BM T39 := iR_cp h39 (fun _ _ => rfl) i38
  refine D_bd (r_cp_40 T39) (fun T40 _ h40 => ?_)
  have i40 : iR BM T40 := iR_cp h40 (fun _ _ => rfl) i39
  refine D_bd (r_cp_41 T40) (fun T41 _ h41 => ?_)
  have i41 : iR BM T41 := iR_cp h41 (fun _ _ => rfl) i40
  have u39 : T38 39 = S 39 := by rw [cpf h38 (by decide), cpf h37 (by decide), bcf h36 (by decide), cpf h34 (by decide), cpf h33 (by decide), cpf h32 (by decide), cpf h31 (by decide), cpf h30 (by decide), cpf h29 (by decide), cpf h28 (by decide), cpf h27 (by decide), cpf h26 (by decide), cpf h25 (by decide), cpf h24 (by decide), cpf h23 (by decide), o4 39 (by decide)]
  have u40 : T39 40 = S 40 := by rw [cpf h39 (by decide), cpf h38 (by decide), cpf h37 (by decide), bcf h36 (by decide), cpf h34 (by decide), cpf h33 (by decide), cpf h32 (by decide), cpf h31 (by decide), cpf h30 (by decide), cpf h29 (by decide), cpf h28 (by decide), cpf h27 (by decide), cpf h26 (by decide), cpf h25 (by decide), cpf h24 (by decide), cpf h23 (by decide), o4 40 (by decide)]
  have u41 : T40 41 = S 41 := by rw [cpf h40 (by decide), cpf h39 (by decide), cpf h38 (by decide), cpf h37 (by decide), bcf h36 (by decide), cpf h34 (by decide), cpf h33 (by decide), cpf h32 (by decide), cpf h31 (by decide), cpf h30 (by decide), cpf h29 (by decide), cpf h28 (by decide), cpf h27 (by decide), cpf h26 (by decide), cpf h25 (by decide), cpf h24 (by decide), cpf h23 (by decide), o4 41 (by decide)]
  have u38 : T37 38 = S 38 := by rw [cpf h37 (by decide), bcf h36 (by decide), cpf h34 (by decide), cpf h33 (by decide), cpf h32 (by decide), cpf h31 (by decide), cpf h30 (by decide), cpf h29 (by decide), cpf h28 (by decide), cpf h27 (by decide), cpf h26 (by decide), cpf h25 (by decide), cpf h24 (by decide), cpf h23 (by decide), o4 38 (by decide)]
  have u36 : T34 36 = S 36 := by rw [cpf h34 (by decide), cpf h33 (by decide), cpf h32 (by decide), cpf h31 (by decide), cpf h30 (by decide), cpf h29 (by decide), cpf h28 (by decide), cpf h27 (by decide), cpf h26 (by decide), cpf h25 (by decide), cpf h24 (by decide), cpf h23 (by decide), o4 36 (by decide)]
  have u30 : T29 30 = S 30 := by rw [cpf h29 (by decide), cpf h28 (by decide), cpf h27 (by decide), cpf h26 (by decide), cpf h25 (by decide), cpf h24 (by decide), cpf h23 (by decide), o4 30 (by decide)]
  have u29 : T28 29 = S 29 := by rw [cpf h28 (by decide), cpf h27 (by decide), cpf h26 (by decide), cpf h25 (by decide), cpf h24 (by decide), cpf h23 (by decide), o4 29 (by decide)]
  have u81 : T41 81 = S 81 := by rw [cpf h41 (by decide), cpf h40 (by decide), cpf h39 (by decide), cpf h38 (by decide), cpf h37 (by decide), bcf h36 (by decide), cpf h34 (by decide), cpf h33 (by decide), cpf h32 (by decide), cpf h31 (by decide), cpf h30 (by decide), cpf h29 (by decide), cpf h28 (by decide), cpf h27 (by decide), cpf h26 (by decide), cpf h25 (by decide), cpf h24 (by decide), cpf h23 (by decide), o4 81 (by decide)]
  have w4 : T41 4 = S 4 := by rw [cpf h41 (by decide), cpf h40 (by decide), cpf h39 (by decide), cpf h38 (by decide), cpf h37 (by decide), bcf h36 (by decide), cpf h34 (by decide), cpf h33 (by decide), cpf h32 (by decide), cpf h31 (by decide), cpf h30 (by decide), cpf h29 (by decide), cpf h28 (by decide), cpf h27 (by decide), cpf h26 (by decide), cpf h25 (by decide), cpf h24 (by decide), cpf h23 (by decide), o4 4 (by decide)]
  have v39 : T41 39 = T39 39 := by rw [cpf h41 (by decide), cpf h40 (by decide)]
  have v40 : T41 40 = T40 40 := by rw [cpf h41 (by decide)]
  have v38 : T41 38 = T38 38 := by rw [cpf h41 (by decide), cpf h40 (by decide), cpf h39 (by decide)]
  have v36 : T41 36 = T36 36 := by rw [cpf h41 (by decide), cpf h40 (by decide), cpf h39 (by decide), cpf h38 (by decide), cpf h37 (by decide)]
  have v30 : T41 30 = T30 30 := by rw [cpf h41 (by decide), cpf h40 (by decide), cpf h39 (by decide), cpf h38 (by decide), cpf h37 (by decide), bcf h36 (by decide), cpf h34 (by decide), cpf h33 (by decide), cpf h32 (by decide), cpf h31 (by decide)]
  have v29 : T41 29 = T29 29 := by rw [cpf h41 (by decide), cpf h40 (by decide), cpf h39 (by decide), cpf h38 (by decide), cpf h37 (by decide), bcf h36 (by decide), cpf h34 (by decide), cpf h33 (by decide), cpf h32 (by decide), cpf h31 (by decide), cpf h30 (by decide)]
  have z0 : T41 0 = S4 0 := by rw [cpf h41 (by decide), cpf h40 (by decide), cpf h39 (by decide), cpf h38 (by decide), cpf h37 (by decide), bcf h36 (by decide), cpf h34 (by decide), cpf h33 (by decide), cpf h32 (by decide), cpf h31 (by decide), cpf h30 (by decide), cpf h29 (by decide), cpf h28 (by decide), cpf h27 (by decide), cpf h26 (by decide), cpf h25 (by decide), cpf h24 (by decide), cpf h23 (by decide)]
  have pT : pI T41 := by
    refine ⟨fun k => ?_, fun w hw hl => ?_, fun i hi hl => ?_, fun p hp1 hl => ?_⟩
    · rcases (by omega : k < 64 ∨ 64 ≤ k) with hk | hk
      · have g := hp.2.2.1 (64 + k)
        unfold nodeOK at g ⊢
        rw [v39, v40, h39.1 k hk, h40.1 k hk, h41.1 k hk, u39, u40, u41]; exact g
      · have n39 := h39.2 39 k (fun q => by omega)
        have n40 := h40.2 40 k (fun q => by omega)
        have n41 := h41.2 41 k (fun q => by omega)
        refine nodeOK_eq (hp.2.2.1 k) ?_ ?_ ?_
        · rw [v39, n39, u39]
        · rw [v40, n40, u40]
        · rw [n41, u41]
    · rw [v38, h38.1 w hw, u38]
      refine hp.2.2.2.1 w hw (by omega) (fun q => hl ?_)
      rw [v36, h36.1 w hw, u36, q]; rfl
    · rw [z0, z14] at hl
      rw [v30, h30.1 i hi, u30, z0, z13]; exact hp.1 i hi hl
    · rw [z0, z13] at hl
      rw [v29, h29.1 p hp1, u29]; exact hp.2.1 p hp1 hl
  have zT : zI T41 := zI_fr hz9 (fun j => by rw [u81]; exact h.2.1 81 j rfl)
  refine D_bd (r_begin T41 L i41 pT zT) (fun q _ hq => D_some ⟨hq.1, fun j => ?_, ?_⟩)
  · show q.1 4 j = S 4 j
    rw [hq.2.1 j, w4]
  · show q.1 0 1 = S 0 1
    rw [hq.2.2, z0, z1]
-- 61.m
theorem mu_le {T : Tr} (h : iR BM T) : mu T ≤ 37 := by
  have b16 : 0 ≤ (T 0 16).toInt ∧ (T 0 16).toInt ≤ 5 := h 0 16
  have b17 : 0 ≤ (T 0 17).toInt ∧ (T 0 17).toInt ≤ 6 := h 0 17
  have b18 : 0 ≤ (T 0 18).toInt ∧ (T 0 18).toInt ≤ 10 := h 0 18
  have b20 : 0 ≤ (T 0 20).toInt ∧ (T 0 20).toInt ≤ 10 := h 0 20
  have f1 := flg_b (T 22 0)
  have f2 := flg_b (T 22 1)
  have f3 := flg_b (T 22 2)
  have f4 := flg_b (T 36 3)
  have f5 := flg_b (T 36 4)
  have f6 := flg_b (T 36 5)
  unfold mu
  omega
/-- all that holds of the reference between calls -/
def jX (T : Tr) : Prop := jR T ∧ wK T
theorem r_L55 {z : Tr} (L : Lo) (hj : jR z) (N : Nat) : ∀ (x2 : Int32) (T : Tr), rP 3 z T → 40 - mu T < (N : Int) → D (lpF (fun _ _ => none) (fB_X8_text_L55 L) N x2 T) (fun q => jX q.2.1 ∧ q.2.1 0 1 = z 0 1 ∧ ∀ j, q.2.1 4 j = z 4 j) := by
  induction N with
  | zero => intro x2 T h hn; have := mu_le h.1; omega
  | succ N ih =>
    intro x2 T h hn
    show D (fB_X8_text_L55 L (lpF (fun _ _ => none) (fB_X8_text_L55 L) N) x2 T) _
    generalize lpF (fun _ _ => none) (fB_X8_text_L55 L) N = k at ih ⊢
    unfold fB_X8_text_L55
    refine D_ite (fun _ => ?_) (fun _ => ?_)
    · unfold fJ_X8_text_J77
      refine D_bd (r_keepText L hj.2.2.2.2.2 h) (fun q _ hq => D_some ⟨⟨hq.1, wK_S hq.2.1 h.2.2.1⟩, ?_, fun j => ?_⟩)
      · show q.1 0 1 = z 0 1
        rw [hq.2.2]; exact h.2.1 0 1 rfl
      · show q.1 4 j = z 4 j
        rw [hq.2.1 j]; exact h.2.1 4 j rfl
    · refine D_bd (r_lineRead (rP_self h)) (fun q _ hq => ?_)
      rcases hq with ⟨hz, x, hr⟩ | ⟨hz, hm, hr⟩
      · refine D_ite (fun _ => ?_) (fun c => absurd hz c)
        have hr2 := rP_tr h hr
        exact D_some ⟨⟨jR_P hj hr2.1 hr2.2.1 hr2.2.2.2.2.1.2.2.1, hr2.2.2.1⟩, hr2.2.1 0 1 rfl, fun j => hr2.2.1 4 j rfl⟩
      · refine D_ite (fun c => ?_) (fun _ => D_lt (fun y _ => ?_))
        · exact absurd (c.symm.trans hz) (by decide)
        · exact ih y q.2 (rP_tr h hr) (by omega)
theorem jR_fr {S T : Tr} (h : jR S) (hB : iR BM T) (o : ∀ a, ¬ a = 0 → ¬ a = 1 → T a = S a) (e13 : T 0 13 = S 0 13) (e14 : T 0 14 = S 0 14) (e82 : T 0 82 = S 0 82) (e84 : T 0 84 = S 0 84) : jR T := by
  obtain ⟨h1, h2, h3, h4, h5, h6⟩ := h
  have q : ∀ a, ¬ a = 0 → ¬ a = 1 → ∀ j, T a j = S a j := fun a n0 n1 j => by rw [o a n0 n1]
  exact ⟨hB, pI_fr h2 (q 39 (by decide) (by decide)) (q 40 (by decide) (by decide)) (q 41 (by decide) (by decide)) (q 36 (by decide) (by decide)) (q 38 (by decide) (by decide)) (q 30 (by decide) (by decide)) (q 29 (by decide) (by decide)) e13 e14, gI_fr h3 (q 53 (by decide) (by decide)) (q 54 (by decide) (by decide)) (q 55 (by decide) (by decide)) (q 56 (by decide) (by decide)) (q 58 (by decide) (by decide)) e13 e14, uI_fr h1 h4 (q 84 (by decide) (by decide)) (fun i _ => q 53 (by decide) (by decide) i) (Int.le_of_eq (by rw [e82])) e13 e14, vI_fr h1 h5 (q 86 (by decide) (by decide)) (q 87 (by decide) (by decide)) e84 e13 e14, zI_fr h6 (q 81 (by decide) (by decide))⟩
theorem R_text (S : Tr) (L : Lo) (x1 : Int32) (h : jX S) : D (f_X8_text S L x1) (fun q => jX q.2.1 ∧ (0 ≤ x1.toInt ∧ x1.toInt ≤ (S 0 1).toInt → q.2.1 0 1 = 0) ∧ (¬ (0 ≤ x1.toInt ∧ x1.toInt ≤ (S 0 1).toInt) → q.2.1 0 1 = S 0 1) ∧ ∀ j, q.2.1 4 j = S 4 j) := by
  obtain ⟨h, hw⟩ := h
  have g := jR_thr (v := 0) h
  have b1 : 0 ≤ (S 0 1).toInt ∧ (S 0 1).toInt ≤ 700 := h.1 0 1
  unfold f_X8_text
  refine D_lt (fun S1 e1 => ?_)
  rw [← e1] at g
  have hw1 : wK S1 := wK_S (fun j => by rw [e1, st_oth (by decide)]) hw
  have t1 : S1 0 1 = S 0 1 := by rw [e1, st_ne (by decide)]
  refine D_ite (fun c => ?_) (fun c => ?_)
  · have k := tq_lt (x := x1) (y := (0 : Int32)) rfl (b := 0) (by decide) c
    exact D_some ⟨⟨g, hw1⟩, fun q => by omega, fun _ => t1, fun j => by show S1 4 j = S 4 j; rw [e1, st_oth (by decide)]⟩
  have k := tq_ltn (x := x1) (y := (0 : Int32)) rfl (b := 0) (by decide) c
  refine D_ite (fun c2 => ?_) (fun c2 => ?_)
  rotate_left
  · have k2 := tq_len (x := x1) (y := S1 0 1) rfl rfl c2
    rw [t1] at k2
    exact D_some ⟨⟨g, hw1⟩, fun q => by omega, fun _ => t1, fun j => by show S1 4 j = S 4 j; rw [e1, st_oth (by decide)]⟩
  have k2 := tq_le (x := x1) (y := S1 0 1) rfl rfl c2
  rw [t1] at k2
  refine D_lt (fun S4 e4 => D_lt (fun S5 e5 => D_lt (fun S6 e6 => D_lt (fun S7 e7 => D_lt (fun S8 e8 => ?_)))))
  have i4 : iR BM S4 := by
    rw [e4]; refine iR_set (a := 0) (i := 6) g.1 ?_ ?_
    · show (0 : Int) ≤ _; omega
    · show _ ≤ (700 : Int); omega
  have i5 : iR BM S5 := by rw [e5]; exact iR_set (a := 0) (i := 1) i4 (by decide) (by decide)
  have i6 : iR BM S6 := by rw [e6]; exact iR_setU i5 rfl
  have i7 : iR BM S7 := by rw [e7]; exact iR_setU i6 rfl
  have i8 : iR BM S8 := by rw [e8]; exact iR_set (a := 0) (i := 7) i7 (by decide) (by decide)
  have o8 : ∀ a, ¬ a = 0 → S8 a = S1 a := fun a ha => by rw [e8, st_oth ha, e7, st_oth ha, e6, st_oth ha, e5, st_oth ha, e4, st_oth ha]
  have z8 : ∀ j, 8 ≤ j → S8 0 j = S1 0 j := fun j hj => by rw [e8, st_ne (by omega), e7, st_ne (by omega), e6, st_ne (by omega), e5, st_ne (by omega), e4, st_ne (by omega)]
  have z7 : S8 0 7 = 0 := by rw [e8, st_same]
  have z1 : S8 0 1 = 0 := by rw [e8, st_ne (by decide), e7, st_ne (by decide), e6, st_ne (by decide), e5, st_same]
  have j8 : jR S8 := jR_fr g i8 (fun a n0 _ => o8 a n0) (z8 13 (by decide)) (z8 14 (by decide)) (z8 82 (by decide)) (z8 84 (by decide))
  have w8 : wK S8 := wK_S (fun j => by rw [o8 4 (by decide)]) hw1
  refine D_bd (D_and (t_X8_plain S8 i8) (t2_plain S8)) (fun S9 _ h9 => ?_)
  obtain ⟨⟨i9, a9⟩, y16, y17, y18, y19, y46, y36, y0, yo⟩ := h9
  have b6 : 0 ≤ (S9 0 6).toInt ∧ (S9 0 6).toInt ≤ 700 := i9 0 6
  have l0 : (0 : Int32).toInt = 0 := by decide
  have w9 : wK S9 := wK_S (fun j => by rw [yo 4 (by decide) (by decide) (by decide) (by decide) (by decide) (by decide)]) w8
  refine D_bd (t_X8_token S9 i9 w9 (by rw [y0 7 (by decide), z7, l0]; exact b6.1)) (fun S12 _ h12 => ?_)
  obtain ⟨i12, a12, k12⟩ := h12
  have n12 : ∀ k, nodeOK S12 k := fun k => nodeOK_eq (j8.2.1.1 k) (by rw [a12 39 k rfl, yo 39 (by decide) (by decide) (by decide) (by decide) (by decide) (by decide)]) (by rw [a12 40 k rfl, yo 40 (by decide) (by decide) (by decide) (by decide) (by decide) (by decide)]) (by rw [a12 41 k rfl, yo 41 (by decide) (by decide) (by decide) (by decide) (by decide) (by decide)])
  have aP12 : aP S8 S12 := aP_tr a9 (fun a j hf => aN_K a12 a j (Wn_p hf))
  have j12 : jR S12 := jR_P j8 i12 aP12 n12
  have r12 : rP 3 S12 S12 := by
    refine ⟨i12, aP_rfl, wK_K a12 w9, k12, ⟨fun i _ hl => ?_, fun p _ hl => ?_, n12, fun w hw1 _ hl => ?_, fun _ => ?_⟩, Int.le_refl _⟩
    · rw [a12 0 18 rfl, y18, l0] at hl; omega
    · rw [a12 0 17 rfl, y17, l0] at hl; omega
    · rw [a12 36 _ rfl, y36 w hw1] at hl; exact absurd rfl hl
    · rw [a12 0 19 rfl, a12 0 46 rfl, y19, y46]
  have e01 : S12 0 1 = 0 := by rw [aP12 0 1 rfl, z1]
  have mu0 : 0 ≤ mu S12 := by
    have f1 := flg_b (S12 22 0)
    have f2 := flg_b (S12 22 1)
    have f3 := flg_b (S12 22 2)
    have f4 := flg_b (S12 36 3)
    have f5 := flg_b (S12 36 4)
    have f6 := flg_b (S12 36 5)
    have b16 : 0 ≤ (S12 0 16).toInt ∧ (S12 0 16).toInt ≤ 5 := i12 0 16
    have b17 : 0 ≤ (S12 0 17).toInt ∧ (S12 0 17).toInt ≤ 6 := i12 0 17
    have b18 : 0 ≤ (S12 0 18).toInt ∧ (S12 0 18).toInt ≤ 10 := i12 0 18
    have b20 : 0 ≤ (S12 0 20).toInt ∧ (S12 0 20).toInt ≤ 10 := i12 0 20
    unfold mu; omega
  refine D_mono (r_L55 L j12 2000 0 S12 r12 (by omega)) (fun q hq => ⟨hq.1, fun _ => hq.2.1.trans e01, fun q => absurd ⟨k, k2⟩ q, fun j => by rw [hq.2.2 j, aP12 4 j rfl, o8 4 (by decide), e1, st_oth (by decide)]⟩)
/-! the tape grows -/
theorem r_f23 (S : Tr) (x1 x2 x3 x4 x5 : Int32) (h0 : 0 ≤ (S 0 1).toInt ∧ (S 0 1).toInt ≤ 680) (N : Nat) : ∀ (x6 : Int32) (T : Tr), 0 ≤ x6.toInt → x6.toInt ≤ 20 → 30 - x6.toInt < (N : Int) → (∀ a, ¬ a = 1 → T a = S a) → D (lpF (fun _ _ => none) (fB_X8_feed_L23 x1 x2 x3 x4 x5) N x6 T) (fun q => (q.1 = q.2 0 1 ∧ (q.2 0 1).toInt = (S 0 1).toInt + 20) ∧ (∀ a, ¬ a = 0 → ¬ a = 1 → q.2 a = S a) ∧ (∀ j, ¬ j = 1 → q.2 0 j = S 0 j)) := by
  induction N with
  | zero => intro x6 T h1 h2 h3; omega
  | succ N ih =>
    intro x6 T h1 h2 h3 h4
    show D (fB_X8_feed_L23 x1 x2 x3 x4 x5 (lpF (fun _ _ => none) (fB_X8_feed_L23 x1 x2 x3 x4 x5) N) x6 T) _
    generalize lpF (fun _ _ => none) (fB_X8_feed_L23 x1 x2 x3 x4 x5) N = k at ih ⊢
    unfold fB_X8_feed_L23
    have z := h4 0 (by decide)
    have f20 : (S 0 1 + 20).toInt = (S 0 1).toInt + 20 := i_addK rfl (by decide) (by omega) (by omega)
    have hJ : ¬ 20 ≤ x6 → ∀ s0 : Int32, D (fJ_X8_feed_J76 k x1 x2 x3 x4 x5 x6 s0 T) (fun q => (q.1 = q.2 0 1 ∧ (q.2 0 1).toInt = (S 0 1).toInt + 20) ∧ (∀ a, ¬ a = 0 → ¬ a = 1 → q.2 a = S a) ∧ (∀ j, ¬ j = 1 → q.2 0 j = S 0 j)) := by
      intro c s0
      have k1 := tq_len (x := (20 : Int32)) (y := x6) (a := 20) (by decide) rfl c
      unfold fJ_X8_feed_J76
      have e1 : (T 0 1 + x6).toInt = (S 0 1).toInt + x6.toInt := i_addK (by rw [z]) rfl (by omega) (by omega)
      refine D_ck (okI_of (by omega) (by omega)) (D_lt (fun T1 e => D_lt (fun y ey => ?_)))
      have e2 : y.toInt = x6.toInt + 1 := by rw [ey]; exact i_addK rfl (by decide) (by omega) (by omega)
      exact ih y T1 (by omega) (by omega) (by omega) (fun a ha => by rw [e, st_oth ha, h4 a ha])
    refine D_ite (fun c => ?_) (fun c => D_ite (fun _ => D_ite (fun _ => D_ite (fun _ => D_ite (fun _ => hJ c _) (fun _ => hJ c _)) (fun _ => hJ c _)) (fun _ => hJ c _)) (fun _ => hJ c _))
    unfold fJ_X8_feed_J113
    refine D_lt (fun T1 e => D_some ⟨⟨rfl, ?_⟩, fun a n0 n1 => ?_, fun j hj => ?_⟩)
    · show (T1 0 1).toInt = _
      rw [e, st_same, z]; exact f20
    · show T1 a = S a
      rw [e, st_oth n0, h4 a n1]
    · show T1 0 j = S 0 j
      rw [e, st_ne hj, z]
theorem R_feed (S : Tr) (x1 x2 x3 x4 x5 : Int32) (h : jX S) : D (f_X8_feed S x1 x2 x3 x4 x5) (fun q => jX q.2 ∧ ((S 0 1).toInt + 20 ≤ 700 → q.1 = q.2 0 1 ∧ (q.2 0 1).toInt = (S 0 1).toInt + 20) ∧ (¬ (S 0 1).toInt + 20 ≤ 700 → q.1 = -1 ∧ q.2 0 1 = S 0 1) ∧ ∀ j, q.2 4 j = S 4 j) := by
  obtain ⟨h, hw⟩ := h
  have g := jR_thr (v := 0) h
  have b1 : 0 ≤ (S 0 1).toInt ∧ (S 0 1).toInt ≤ 700 := h.1 0 1
  unfold f_X8_feed
  refine D_lt (fun S1 e1 => ?_)
  rw [← e1] at g
  have hw1 : wK S1 := wK_S (fun j => by rw [e1, st_oth (by decide)]) hw
  have t1 : S1 0 1 = S 0 1 := by rw [e1, st_ne (by decide)]
  have f20 : (S1 0 1 + 20).toInt = (S 0 1).toInt + 20 := by rw [t1]; exact i_addK rfl (by decide) (by omega) (by omega)
  refine D_ite (fun c => ?_) (fun c => ?_)
  · have k := tq_le (x := S1 0 1 + 20) (y := (700 : Int32)) f20 (b := 700) (by decide) c
    refine D_mono (r_f23 S1 x1 x2 x3 x4 x5 (by rw [t1]; omega) 2000 0 S1 (by decide) (by decide) (by decide) (fun _ _ => rfl)) (fun q hq => ?_)
    obtain ⟨⟨q0, q1⟩, qo, qz⟩ := hq
    rw [t1] at q1
    have iq : iR BM q.2 := fun a j => by
      by_cases ha : a = 0
      · subst ha
        by_cases hj : j = 1
        · subst hj
          refine ⟨?_, ?_⟩
          · show (0 : Int) ≤ _; omega
          · show _ ≤ (700 : Int); omega
        · rw [qz j hj]; exact g.1 0 j
      · by_cases ha1 : a = 1
        · subst ha1
          have r := i_rng (q.2 1 j)
          refine ⟨?_, ?_⟩
          · show (-2147483648 : Int) ≤ _; omega
          · show _ ≤ (2147483647 : Int); omega
        · rw [qo a ha ha1]; exact g.1 a j
    exact ⟨⟨jR_fr g iq qo (qz 13 (by decide)) (qz 14 (by decide)) (qz 82 (by decide)) (qz 84 (by decide)), wK_S (fun j => by rw [qo 4 (by decide) (by decide)]) hw1⟩, fun _ => ⟨q0, q1⟩, fun hz => absurd k hz, fun j => by rw [qo 4 (by decide) (by decide), e1, st_oth (by decide)]⟩
  · have k := tq_len (x := S1 0 1 + 20) (y := (700 : Int32)) f20 (b := 700) (by decide) c
    exact D_some ⟨⟨g, hw1⟩, fun hz => by omega, fun _ => ⟨rfl, t1⟩, fun j => by show S1 4 j = S 4 j; rw [e1, st_oth (by decide)]⟩
-- 62.x
/-! what a function answers, if it answers -/
def Ep {ρ : Type} (x : Option ρ) (Q : ρ → Prop) : Prop := ∀ r, x = some r → Q r
section
variable {ρ α : Type} {Q : ρ → Prop}
theorem Ep_some {r : ρ} (h : Q r) : Ep (some r) Q := fun _ e => by cases e; exact h
theorem Ep_none : Ep (none : Option ρ) Q := fun _ e => by cases e
theorem Ep_ite {c : Prop} {d : Decidable c} {a b : Option ρ} (h1 : c → Ep a Q) (h2 : ¬ c → Ep b Q) : Ep (@ite (Option ρ) c d a b) Q := by
  by_cases hc : c
  · rw [if_pos hc]; exact h1 hc
  · rw [if_neg hc]; exact h2 hc
theorem Ep_ck {g : Bool} {k : Option ρ} (h : Ep k Q) : Ep (ck g k) Q := fun r e => h r (tx_ck e).2
theorem Ep_lt {v : α} {k : α → Option ρ} (h : ∀ y, y = v → Ep (k y) Q) : Ep (lt v k) Q := h v rfl
theorem Ep_bd {x : Option α} {k : α → Option ρ} {Q1 : α → Prop} (h1 : Ep x Q1) (h : ∀ a, Q1 a → Ep (k a) Q) : Ep (bd x k) Q := fun r e => by
  obtain ⟨a, ha, hk⟩ := tx_bd e
  exact h a (h1 a ha) r hk
theorem Ep_any {x : Option α} {k : α → Option ρ} (h : ∀ a, Ep (k a) Q) : Ep (bd x k) Q := fun r e => by
  obtain ⟨a, _, hk⟩ := tx_bd e
  exact h a r hk
theorem D_Ep {x : Option ρ} {Q1 : ρ → Prop} (h : D x Q) (h1 : Ep x Q1) : D x (fun r => Q r ∧ Q1 r) := by
  obtain ⟨r, e, hq⟩ := h
  exact ⟨r, e, hq, h1 r e⟩
end
/-! which row of the whole object stays -/
theorem e_listComing (pa qa : Nat → Nat) (X P Tn : Tr) (q4 : Nat) : Ep (f_X7_listComing pa qa X P Tn q4) (fun q => q.2 0 = X 0) := by
  have main : ∀ (N : Nat) (x1 x2 : Int32) (Y : Tr), Y 0 = X 0 → Ep (lpF (fun _ _ _ => none) (fB_X7_listComing_L4 pa qa P Tn q4) N x1 x2 Y) (fun q => q.2 0 = X 0) := by
    intro N
    induction N with
    | zero => intro x1 x2 Y _; exact Ep_none
    | succ N ih =>
      intro x1 x2 Y hY
      show Ep (fB_X7_listComing_L4 pa qa P Tn q4 (lpF (fun _ _ _ => none) (fB_X7_listComing_L4 pa qa P Tn q4) N) x1 x2 Y) _
      generalize lpF (fun _ _ _ => none) (fB_X7_listComing_L4 pa qa P Tn q4) N = k at ih ⊢
      unfold fB_X7_listComing_L4
      refine Ep_ck (Ep_ite (fun _ => Ep_some hY) (fun _ => Ep_any (fun r => Ep_ite (fun _ => Ep_lt (fun y _ => ih _ _ _ hY)) (fun _ => Ep_ck (Ep_lt (fun Y1 e => Ep_lt (fun y1 _ => Ep_lt (fun y2 _ => ih _ _ _ ?_))))))))
      rw [e, st_oth (by decide)]; exact hY
  exact main 2000 0 0 X rfl
theorem e_work (pa qa : Nat → Nat) (X P : Tr) (L : Lo) (Tn Tu : Tr) (q0 q2 q4 : Nat) (x1 x2 : Int32) : Ep (f_X7_workOutCosts pa qa X P L Tn Tu q0 q2 q4 x1 x2) (fun q => q.1 0 = X 0) := by
  have inner : ∀ (k2 : Int32 → Tr → Lo → Tr → Nat → Option (Tr × Lo × Tr × Nat)), (∀ (y : Int32) (Y : Tr) (L : Lo) (T : Tr) (q : Nat), Y 0 = X 0 → Ep (k2 y Y L T q) (fun q => q.1 0 = X 0)) → ∀ (q4 : Nat) (x3 : Int32) (N : Nat) (x4 : Int32) (Y : Tr) (L : Lo) (T : Tr) (q2 : Nat), Y 0 = X 0 → Ep (lpF (fun _ _ _ _ _ => none) (fB_X7_workOutCosts_L16 k2 pa qa P Tn q0 q4 x1 x2 x3) N x4 Y L T q2) (fun q => q.1 0 = X 0) := by
    intro k2 hk2 q4 x3 N
    induction N with
    | zero => intro x4 Y L T q2 _; exact Ep_none
    | succ N ih =>
      intro x4 Y L T q2 hY
      show Ep (fB_X7_workOutCosts_L16 k2 pa qa P Tn q0 q4 x1 x2 x3 (lpF (fun _ _ _ _ _ => none) (fB_X7_workOutCosts_L16 k2 pa qa P Tn q0 q4 x1 x2 x3) N) x4 Y L T q2) _
      generalize lpF (fun _ _ _ _ _ => none) (fB_X7_workOutCosts_L16 k2 pa qa P Tn q0 q4 x1 x2 x3) N = k at ih ⊢
      unfold fB_X7_workOutCosts_L16
      refine Ep_ck (Ep_ite (fun _ => Ep_lt (fun y _ => hk2 _ _ _ _ _ hY)) (fun _ => Ep_any (fun r => Ep_lt (fun _ _ => Ep_lt (fun _ _ => Ep_ck (Ep_lt (fun _ _ => Ep_ck (Ep_lt (fun _ _ => Ep_ck (Ep_any (fun r => Ep_lt (fun _ _ => Ep_lt (fun _ _ => Ep_any (fun r => Ep_ck (Ep_lt (fun Y1 e1 => Ep_any (fun r => Ep_lt (fun Y2 e2 => Ep_lt (fun y _ => ih _ _ _ _ _ ?_)))))))))))))))))))
      rw [e2, st_oth (by decide), e1, st_oth (by decide)]; exact hY
  have outer : ∀ (N : Nat) (x3 : Int32) (Y : Tr) (L : Lo) (T : Tr) (q2 : Nat), Y 0 = X 0 → Ep (lpF (fun _ _ _ _ _ => none) (fB_X7_workOutCosts_L2 pa qa P Tn q0 q4 x1 x2) N x3 Y L T q2) (fun q => q.1 0 = X 0) := by
    intro N
    induction N with
    | zero => intro x3 Y L T q2 _; exact Ep_none
    | succ N ih =>
      intro x3 Y L T q2 hY
      show Ep (fB_X7_workOutCosts_L2 pa qa P Tn q0 q4 x1 x2 (lpF (fun _ _ _ _ _ => none) (fB_X7_workOutCosts_L2 pa qa P Tn q0 q4 x1 x2) N) x3 Y L T q2) _
      generalize lpF (fun _ _ _ _ _ => none) (fB_X7_workOutCosts_L2 pa qa P Tn q0 q4 x1 x2) N = k at ih ⊢
      unfold fB_X7_workOutCosts_L2
      exact Ep_ck (Ep_ite (fun _ => Ep_some hY) (fun _ => inner k ih _ _ 2000 _ _ _ _ _ hY))
  exact outer 2000 0 X L Tu q2 rfl
theorem e_rest (pa qa : Nat → Nat) (X P : Tr) (L : Lo) (Tn Tu : Tr) (q0 q2 q4 : Nat) (x1 x2 x3 : Int32) : Ep (f_X7_rest pa qa X P L Tn Tu q0 q2 q4 x1 x2 x3) (fun q => q.2.1 0 = X 0) := by
  have main : ∀ (Y : Tr) (L : Lo) (T : Tr) (q2 : Nat), Y 0 = X 0 → ∀ (N : Nat) (x4 x5 : Int32), Ep (lpF (fun _ _ => none) (fB_X7_rest_L27 pa qa Y P L Tn T q0 q2 q4 x3) N x4 x5) (fun q => q.2.1 0 = X 0) := by
    intro Y L T q2 hY N
    induction N with
    | zero => intro x4 x5; exact Ep_none
    | succ N ih =>
      intro x4 x5
      show Ep (fB_X7_rest_L27 pa qa Y P L Tn T q0 q2 q4 x3 (lpF (fun _ _ => none) (fB_X7_rest_L27 pa qa Y P L Tn T q0 q2 q4 x3) N) x4 x5) _
      generalize lpF (fun _ _ => none) (fB_X7_rest_L27 pa qa Y P L Tn T q0 q2 q4 x3) N = k at ih ⊢
      unfold fB_X7_rest_L27
      exact Ep_ite (fun _ => Ep_some hY) (fun _ => Ep_any (fun r => Ep_ite (fun _ => Ep_lt (fun _ _ => ih _ _)) (fun _ => Ep_ite (fun _ => Ep_some hY) (fun _ => Ep_lt (fun _ _ => Ep_lt (fun _ _ => ih _ _))))))
  unfold f_X7_rest
  refine Ep_ite (fun _ => Ep_some rfl) (fun _ => Ep_any (fun r => Ep_ite (fun _ => Ep_some rfl) (fun _ => Ep_bd (e_work pa qa X P L Tn Tu q0 q2 q4 x1 x2) (fun q hq => ?_))))
  exact main q.1 _ _ _ hq 2000 0 0
theorem e_rests (pa qa : Nat → Nat) (X P : Tr) (L : Lo) (Tn Tu : Tr) (q0 q2 q4 : Nat) (x1 x2 : Int32) : Ep (f_X7_rests pa qa X P L Tn Tu q0 q2 q4 x1 x2) (fun q => q.2.1 0 = X 0) := by
  have main : ∀ (Y : Tr) (L : Lo) (T : Tr) (q2 : Nat), Y 0 = X 0 → ∀ (N : Nat) (x4 x5 : Int32), Ep (lpF (fun _ _ => none) (fB_X7_rests_L22 pa qa Y P L Tn T q0 q2 q4) N x4 x5) (fun q => q.2.1 0 = X 0) := by
    intro Y L T q2 hY N
    induction N with
    | zero => intro x4 x5; exact Ep_none
    | succ N ih =>
      intro x4 x5
      show Ep (fB_X7_rests_L22 pa qa Y P L Tn T q0 q2 q4 (lpF (fun _ _ => none) (fB_X7_rests_L22 pa qa Y P L Tn T q0 q2 q4) N) x4 x5) _
      generalize lpF (fun _ _ => none) (fB_X7_rests_L22 pa qa Y P L Tn T q0 q2 q4) N = k at ih ⊢
      unfold fB_X7_rests_L22
      exact Ep_ite (fun _ => Ep_some hY) (fun _ => Ep_any (fun r => Ep_ite (fun _ => Ep_lt (fun _ _ => ih _ _)) (fun _ => Ep_lt (fun _ _ => Ep_lt (fun _ _ => ih _ _)))))
  unfold f_X7_rests
  refine Ep_any (fun r => Ep_ite (fun _ => Ep_some rfl) (fun _ => Ep_bd (e_work pa qa X P L Tn Tu q0 q2 q4 x1 x2) (fun q hq => ?_)))
  exact main q.1 _ _ _ hq 2000 0 0
theorem e_least (pa qa : Nat → Nat) (X P : Tr) (L : Lo) (Tn Tu Tv : Tr) (q0 q2 q3 q4 : Nat) (x1 : Int32) : Ep (f_X7_least pa qa X P L Tn Tu Tv q0 q2 q3 q4 x1) (fun q => q.2.1 0 = X 0) := by
  unfold f_X7_least
  refine Ep_ite (fun _ => Ep_some rfl) (fun _ => Ep_ite (fun _ => Ep_some rfl) (fun _ => Ep_ite (fun _ => ?_) (fun _ => Ep_some rfl)))
  refine Ep_bd (e_listComing pa qa X P Tn q4) (fun q hq => ?_)
  refine Ep_ite (fun _ => Ep_any (fun p => ?_)) (fun _ => Ep_some hq)
  exact Ep_ite (fun _ => Ep_ite (fun _ => Ep_some hq) (fun _ => Ep_ite (fun _ => Ep_any (fun _ => Ep_some hq)) (fun _ => Ep_some hq))) (fun _ => Ep_some hq)
/-! the class's tape grows alike -/
theorem e_append (pa qa : Nat → Nat) (x1 : Int32) (K : Tr) (h : 0 ≤ (K 0 0).toInt ∧ (K 0 0).toInt + 4 ≤ 700) : Ep (f_X5_append_x pa qa K x1) (fun q => (q 0 0).toInt = (K 0 0).toInt + 4) := by
  have main : ∀ (N n : Nat) (x2 : Int32) (T : Tr), n ≤ 4 → x2.toInt = 8 * (n : Int) - 8 → 0 ≤ (T 0 0).toInt → (T 0 0).toInt + n ≤ 700 → Ep (lpF (fun _ _ => none) (fB_X5_append_x_L3 pa qa x1) N x2 T) (fun q => (q 0 0).toInt = (T 0 0).toInt + n) := by
    intro N
    induction N with
    | zero => intro n x2 T _ _ _ _; exact Ep_none
    | succ N ih =>
      intro n x2 T h1 h2 h3 h4
      show Ep (fB_X5_append_x_L3 pa qa x1 (lpF (fun _ _ => none) (fB_X5_append_x_L3 pa qa x1) N) x2 T) _
      generalize lpF (fun _ _ => none) (fB_X5_append_x_L3 pa qa x1) N = k at ih ⊢
      unfold fB_X5_append_x_L3
      refine Ep_ite (fun c => ?_) (fun c => ?_)
      · have k1 := tq_lt (x := x2) (y := (0 : Int32)) rfl (b := 0) (by decide) c
        refine Ep_some ?_
        omega
      · have k1 := tq_ltn (x := x2) (y := (0 : Int32)) rfl (b := 0) (by decide) c
        refine Ep_ite (fun c2 => ?_) (fun _ => ?_)
        · have k2 := tq_le (x := (700 : Int32)) (y := T 0 0) (a := 700) (by decide) rfl c2
          omega
        refine Ep_ck (Ep_lt (fun T1 e1 => Ep_lt (fun T2 e2 => Ep_lt (fun y ey => ?_))))
        have t1 : T1 0 0 = T 0 0 := by rw [e1, st_oth (by decide)]
        have t2 : (T2 0 0).toInt = (T 0 0).toInt + 1 := by
          rw [e2, st_same, t1]; exact i_addK rfl (by decide) (by omega) (by omega)
        have ty : y.toInt = x2.toInt - 8 := by rw [ey]; exact (i_addK rfl (show (-8 : Int32).toInt = -8 by decide) (by omega) (by omega)).trans (by omega)
        obtain ⟨n', rfl⟩ : ∃ n', n = n' + 1 := ⟨n - 1, by omega⟩
        intro r hr
        have := ih n' y T2 (by omega) (by omega) (by omega) (by omega) r hr
        omega
  exact main 2000 4 24 K (by omega) (by decide) h.1 (by omega)
theorem e_feed (pa qa : Nat → Nat) (K : Tr) (x1 x2 x3 x4 x5 : Int32) (h : 0 ≤ (K 0 0).toInt ∧ (K 0 0).toInt ≤ 700) : Ep (f_X7_feed pa qa K x1 x2 x3 x4 x5) (fun q => ((K 0 0).toInt + 20 ≤ 700 → q.1 = q.2 0 0 ∧ (q.2 0 0).toInt = (K 0 0).toInt + 20) ∧ (¬ (K 0 0).toInt + 20 ≤ 700 → q.1 = -1 ∧ q.2 0 0 = K 0 0)) := by
  unfold f_X7_feed
  have f20 : (K 0 0 + 20).toInt = (K 0 0).toInt + 20 := i_addK rfl (by decide) (by omega) (by omega)
  refine Ep_ite (fun c => ?_) (fun c => ?_)
  · have k := tq_le (x := K 0 0 + 20) (y := (700 : Int32)) f20 (b := 700) (by decide) c
    refine Ep_bd (e_append pa qa x1 K ⟨h.1, by omega⟩) (fun K1 h1 => ?_)
    refine Ep_bd (e_append pa qa x2 K1 ⟨by omega, by omega⟩) (fun K2 h2 => ?_)
    refine Ep_bd (e_append pa qa x3 K2 ⟨by omega, by omega⟩) (fun K3 h3 => ?_)
    refine Ep_bd (e_append pa qa x4 K3 ⟨by omega, by omega⟩) (fun K4 h4 => ?_)
    refine Ep_bd (e_append pa qa x5 K4 ⟨by omega, by omega⟩) (fun K5 h5 => Ep_some ⟨fun _ => ⟨rfl, ?_⟩, fun hz => absurd k hz⟩)
    show (K5 0 0).toInt = _
    omega
  · have k := tq_len (x := K 0 0 + 20) (y := (700 : Int32)) f20 (b := 700) (by decide) c
    exact Ep_some ⟨fun hz => by omega, fun _ => ⟨rfl, rfl⟩⟩
-- 62.y.a1
theorem b255 {i : Nat} (hi : i < 32) (h8 : ¬ i < 8) : (255#32 : BitVec 32).getLsbD i = false := by
  have : ∀ j : Fin 32, ¬ j.val < 8 → (255#32 : BitVec 32).getLsbD j.val = false := by decide
  exact this ⟨i, hi⟩ h8
theorem by_b0 (x : Int32) : ((x.toUInt32 >>> ((0 : Int32).toUInt32 &&& Int32.toUInt32 31)).toInt32).toInt8.toInt32 &&& 255 = (x >>> ((0 : Int32) &&& 31)) &&& 255 := by
  apply Int32.toBitVec_inj.mp
  apply BitVec.eq_of_getLsbD_eq
  intro i hi
  by_cases h8 : i < 8
  · have e1 : (Int32.toUInt32 0 &&& Int32.toUInt32 31).toBitVec = 0#32 := by decide
    have e2 : ((0 : Int32) &&& 31).toBitVec = 0#32 := by decide
    have e3 : (0#32 : BitVec 32).smod 32 = 0#32 := by decide
    have e4 : (0#32 : BitVec 32) % 32#32 = 0#32 := by decide
    have h9 : 0 + i < 32 := by omega
    simp [BitVec.getLsbD_signExtend, BitVec.getLsbD_sshiftRight, h8, show i < 32 from hi, e1, e2, e3, e4, h9, Nat.not_le.mpr hi, -BitVec.getLsbD_eq_getElem]
  · simp [b255 hi h8]
theorem by_b8 (x : Int32) : ((x.toUInt32 >>> ((8 : Int32).toUInt32 &&& Int32.toUInt32 31)).toInt32).toInt8.toInt32 &&& 255 = (x >>> ((8 : Int32) &&& 31)) &&& 255 := by
  apply Int32.toBitVec_inj.mp
  apply BitVec.eq_of_getLsbD_eq
  intro i hi
  by_cases h8 : i < 8
  · have e1 : (Int32.toUInt32 8 &&& Int32.toUInt32 31).toBitVec = 8#32 := by decide
    have e2 : ((8 : Int32) &&& 31).toBitVec = 8#32 := by decide
    have e3 : (8#32 : BitVec 32).smod 32 = 8#32 := by decide
    have e4 : (8#32 : BitVec 32) % 32#32 = 8#32 := by decide
    have h9 : 8 + i < 32 := by omega
    simp [BitVec.getLsbD_signExtend, BitVec.getLsbD_sshiftRight, h8, show i < 32 from hi, e1, e2, e3, e4, h9, Nat.not_le.mpr hi, -BitVec.getLsbD_eq_getElem]
  · simp [b255 hi h8]
theorem by_b16 (x : Int32) : ((x.toUInt32 >>> ((16 : Int32).toUInt32 &&& Int32.toUInt32 31)).toInt32).toInt8.toInt32 &&& 255 = (x >>> ((16 : Int32) &&& 31)) &&& 255 := by
  apply Int32.toBitVec_inj.mp
  apply BitVec.eq_of_getLsbD_eq
  intro i hi
  by_cases h8 : i < 8
  · have e1 : (Int32.toUInt32 16 &&& Int32.toUInt32 31).toBitVec = 16#32 := by decide
    have e2 : ((16 : Int32) &&& 31).toBitVec = 16#32 := by decide
    have e3 : (16#32 : BitVec 32).smod 32 = 16#32 := by decide
    have e4 : (16#32 : BitVec 32) % 32#32 = 16#32 := by decide
    have h9 : 16 + i < 32 := by omega
    simp [BitVec.getLsbD_signExtend, BitVec.getLsbD_sshiftRight, h8, show i < 32 from hi, e1, e2, e3, e4, h9, Nat.not_le.mpr hi, -BitVec.getLsbD_eq_getElem]
  · simp [b255 hi h8]
theorem by_b24 (x : Int32) : ((x.toUInt32 >>> ((24 : Int32).toUInt32 &&& Int32.toUInt32 31)).toInt32).toInt8.toInt32 &&& 255 = (x >>> ((24 : Int32) &&& 31)) &&& 255 := by
  apply Int32.toBitVec_inj.mp
  apply BitVec.eq_of_getLsbD_eq
  intro i hi
  by_cases h8 : i < 8
  · have e1 : (Int32.toUInt32 24 &&& Int32.toUInt32 31).toBitVec = 24#32 := by decide
    have e2 : ((24 : Int32) &&& 31).toBitVec = 24#32 := by decide
    have e3 : (24#32 : BitVec 32).smod 32 = 24#32 := by decide
    have e4 : (24#32 : BitVec 32) % 32#32 = 24#32 := by decide
    have h9 : 24 + i < 32 := by omega
    simp [BitVec.getLsbD_signExtend, BitVec.getLsbD_sshiftRight, h8, show i < 32 from hi, e1, e2, e3, e4, h9, Nat.not_le.mpr hi, -BitVec.getLsbD_eq_getElem]
  · simp [b255 hi h8]
-- 62.y.a2
/-! the tape: what both put on it -/
def shB (m : Nat) : Int32 := bif Nat.beq m 0 then 0 else bif Nat.beq m 1 then 8 else bif Nat.beq m 2 then 16 else 24
def byteOf (x : Int32) (m : Nat) : Int32 := (x >>> (shB m &&& 31)) &&& 255
theorem nar_b (y : Int32) : vp_nar .byte (y.toInt8.toInt32) = y.toInt8.toInt32 := by
  show (y.toInt8.toInt32).toInt8.toInt32 = _
  simp
theorem byte_c (x : Int32) {m : Nat} (hm : m < 4) : vp_nar .byte (((x.toUInt32 >>> ((shB m : Int32).toUInt32 &&& Int32.toUInt32 31)).toInt32).toInt8.toInt32) &&& 255 = byteOf x m := by
  rw [nar_b]
  rcases (by omega : m = 0 ∨ m = 1 ∨ m = 2 ∨ m = 3) with e | e | e | e <;> subst e
  · exact by_b0 x
  · exact by_b8 x
  · exact by_b16 x
  · exact by_b24 x
theorem e_app2 (pa qa : Nat → Nat) (x1 : Int32) (K : Tr) (n0 : Nat) (h : (K 0 0).toInt = n0) (hn : n0 + 4 ≤ 700) : Ep (f_X5_append_x pa qa K x1) (fun q => (q 0 0).toInt = n0 + 4 ∧ (∀ j, j < n0 → q 5 j = K 5 j) ∧ (∀ i, i < 4 → q 5 (n0 + i) &&& 255 = byteOf x1 (3 - i)) ∧ (∀ j, ¬ j = 0 → q 0 j = K 0 j) ∧ (∀ a, ¬ a = 0 → ¬ a = 5 → q a = K a)) := by
  have main : ∀ (N n n1 : Nat) (x2 : Int32) (T : Tr), n ≤ 4 → (n = 0 → x2.toInt = -8) → (∀ m, n = m + 1 → x2 = shB m) → (T 0 0).toInt = n1 → n1 + n ≤ 700 → Ep (lpF (fun _ _ => none) (fB_X5_append_x_L3 pa qa x1) N x2 T) (fun q => (q 0 0).toInt = n1 + n ∧ (∀ j, j < n1 → q 5 j = T 5 j) ∧ (∀ i, i < n → q 5 (n1 + i) &&& 255 = byteOf x1 (n - 1 - i)) ∧ (∀ j, ¬ j = 0 → q 0 j = T 0 j) ∧ (∀ a, ¬ a = 0 → ¬ a = 5 → q a = T a)) := by
    intro N
    induction N with
    | zero => intro n n1 x2 T _ _ _ _ _; exact Ep_none
    | succ N ih =>
      intro n n1 x2 T g1 g2 g3 g4 g5
      show Ep (fB_X5_append_x_L3 pa qa x1 (lpF (fun _ _ => none) (fB_X5_append_x_L3 pa qa x1) N) x2 T) _
      generalize lpF (fun _ _ => none) (fB_X5_append_x_L3 pa qa x1) N = k at ih ⊢
      unfold fB_X5_append_x_L3
      refine Ep_ite (fun c => ?_) (fun c => ?_)
      · have k1 := tq_lt (x := x2) (y := (0 : Int32)) rfl (b := 0) (by decide) c
        have hn0 : n = 0 := by
          rcases n with _ | m
          · rfl
          · exfalso
            rw [g3 m rfl] at k1
            rcases (by omega : m = 0 ∨ m = 1 ∨ m = 2 ∨ m = 3) with e | e | e | e <;> subst e <;> exact absurd k1 (by decide)
        subst hn0
        exact Ep_some ⟨by omega, fun _ _ => rfl, fun i hi => by omega, fun _ _ => rfl, fun _ _ _ => rfl⟩
      · have k1 := tq_ltn (x := x2) (y := (0 : Int32)) rfl (b := 0) (by decide) c
        obtain ⟨m, rfl⟩ : ∃ m, n = m + 1 := by
          rcases n with _ | m
          · have := g2 rfl; omega
          · exact ⟨m, rfl⟩
        have ex := g3 m rfl
        refine Ep_ite (fun c2 => ?_) (fun _ => ?_)
        · have k2 := tq_le (x := (700 : Int32)) (y := T 0 0) (a := 700) (by decide) rfl c2
          omega
        refine Ep_ck (Ep_lt (fun T1 e1 => Ep_lt (fun T2 e2 => Ep_lt (fun y ey => ?_))))
        have c0 : (T 0 0).toNatClampNeg = n1 := by simp only [i_cl]; omega
        rw [c0] at e1
        have t1 : T1 0 0 = T 0 0 := by rw [e1, st_oth (by decide)]
        have t2 : (T2 0 0).toInt = ((n1 + 1 : Nat) : Int) := by
          rw [e2, st_same, t1]
          have : (T 0 0 + 1).toInt = (T 0 0).toInt + 1 := i_addK rfl (by decide) (by omega) (by omega)
          omega
        have T25 : T2 5 = T1 5 := by rw [e2, st_oth (by decide)]
        have hb : T2 5 n1 &&& 255 = byteOf x1 m := by
          rw [T25, e1, st_same, ex]; exact byte_c x1 (by omega)
        intro r hr
        have z := ih m (n1 + 1) y T2 (by omega) (fun hz => by rw [ey, ex, hz]; decide) (fun m' hm' => by
          rw [ey, ex, hm']
          rcases (by omega : m' = 0 ∨ m' = 1 ∨ m' = 2) with e | e | e <;> subst e <;> decide) t2 (by omega) r hr
        obtain ⟨z1, z2, z3, z4, z5⟩ := z
        refine ⟨by omega, fun j hj => ?_, fun i hi => ?_, fun j hj => ?_, fun a h0 h5 => ?_⟩
        · rw [z2 j (by omega), T25, e1, st_ne (by omega)]
        · rcases (by omega : i = 0 ∨ 1 ≤ i) with e | e
          · subst e
            rw [Nat.add_zero, z2 n1 (by omega)]; exact hb
          · have := z3 (i - 1) (by omega)
            rw [show n1 + 1 + (i - 1) = n1 + i by omega, show m - 1 - (i - 1) = m + 1 - 1 - i by omega] at this
            exact this
        · rw [z4 j hj, e2, st_ne hj, e1, st_oth (by decide)]
        · rw [z5 a h0 h5, e2, st_oth h0, e1, st_oth h5]
  intro r hr
  have z := main 2000 4 n0 24 K (by omega) (fun hz => by omega) (fun m hm => by rw [show m = 3 by omega]; decide) h (by omega) r hr
  exact ⟨z.1, z.2.1, fun i hi => z.2.2.1 i hi, z.2.2.2⟩
-- 62.y.a3
def pk5 (x1 x2 x3 x4 x5 : Int32) (i : Nat) : Int32 := if i < 4 then x1 else if i < 8 then x2 else if i < 12 then x3 else if i < 16 then x4 else x5
theorem e_feed2 (pa qa : Nat → Nat) (K : Tr) (x1 x2 x3 x4 x5 : Int32) (n0 : Nat) (h : (K 0 0).toInt = n0) (hn : n0 + 20 ≤ 700) : Ep (f_X7_feed pa qa K x1 x2 x3 x4 x5) (fun q => (q.2 0 0).toInt = n0 + 20 ∧ (∀ j, j < n0 → q.2 5 j = K 5 j) ∧ (∀ i, i < 20 → q.2 5 (n0 + i) &&& 255 = byteOf (pk5 x1 x2 x3 x4 x5 i) (3 - i % 4)) ∧ (∀ j, ¬ j = 0 → q.2 0 j = K 0 j) ∧ (∀ a, ¬ a = 0 → ¬ a = 5 → q.2 a = K a)) := by
  unfold f_X7_feed
  have f20 : (K 0 0 + 20).toInt = (K 0 0).toInt + 20 := i_addK rfl (by decide) (by omega) (by omega)
  refine Ep_ite (fun _ => ?_) (fun c => ?_)
  · refine Ep_bd (e_app2 pa qa x1 K n0 h (by omega)) (fun K1 h1 => ?_)
    refine Ep_bd (e_app2 pa qa x2 K1 (n0 + 4) (by have := h1.1; omega) (by omega)) (fun K2 h2 => ?_)
    refine Ep_bd (e_app2 pa qa x3 K2 (n0 + 8) (by have := h2.1; omega) (by omega)) (fun K3 h3 => ?_)
    refine Ep_bd (e_app2 pa qa x4 K3 (n0 + 12) (by have := h3.1; omega) (by omega)) (fun K4 h4 => ?_)
    refine Ep_bd (e_app2 pa qa x5 K4 (n0 + 16) (by have := h4.1; omega) (by omega)) (fun K5 h5 => ?_)
    refine Ep_some ⟨?_, fun j hj => ?_, fun i hi => ?_, fun j hj => ?_, fun a g0 g5 => ?_⟩
    · show (K5 0 0).toInt = _; have := h5.1; omega
    · show K5 5 j = K 5 j
      rw [h5.2.1 j (by omega), h4.2.1 j (by omega), h3.2.1 j (by omega), h2.2.1 j (by omega), h1.2.1 j hj]
    · show K5 5 (n0 + i) &&& 255 = _
      unfold pk5
      rcases (by omega : i < 4 ∨ (4 ≤ i ∧ i < 8) ∨ (8 ≤ i ∧ i < 12) ∨ (12 ≤ i ∧ i < 16) ∨ 16 ≤ i) with g | g | g | g | g
      · rw [if_pos g, h5.2.1 _ (by omega), h4.2.1 _ (by omega), h3.2.1 _ (by omega), h2.2.1 _ (by omega), h1.2.2.1 i g, show i % 4 = i by omega]
      · rw [if_neg (by omega), if_pos g.2, h5.2.1 _ (by omega), h4.2.1 _ (by omega), h3.2.1 _ (by omega)]
        have z := h2.2.2.1 (i - 4) (by omega)
        rw [show n0 + 4 + (i - 4) = n0 + i by omega] at z
        rw [z, show i % 4 = i - 4 by omega]
      · rw [if_neg (by omega), if_neg (by omega), if_pos g.2, h5.2.1 _ (by omega), h4.2.1 _ (by omega)]
        have z := h3.2.2.1 (i - 8) (by omega)
        rw [show n0 + 8 + (i - 8) = n0 + i by omega] at z
        rw [z, show i % 4 = i - 8 by omega]
      · rw [if_neg (by omega), if_neg (by omega), if_neg (by omega), if_pos g.2, h5.2.1 _ (by omega)]
        have z := h4.2.2.1 (i - 12) (by omega)
        rw [show n0 + 12 + (i - 12) = n0 + i by omega] at z
        rw [z, show i % 4 = i - 12 by omega]
      · rw [if_neg (by omega), if_neg (by omega), if_neg (by omega), if_neg (by omega)]
        have z := h5.2.2.1 (i - 16) (by omega)
        rw [show n0 + 16 + (i - 16) = n0 + i by omega] at z
        rw [z, show i % 4 = i - 16 by omega]
    · show K5 0 j = K 0 j
      rw [h5.2.2.2.1 j hj, h4.2.2.2.1 j hj, h3.2.2.2.1 j hj, h2.2.2.2.1 j hj, h1.2.2.2.1 j hj]
    · show K5 a = K a
      rw [h5.2.2.2.2 a g0 g5, h4.2.2.2.2 a g0 g5, h3.2.2.2.2 a g0 g5, h2.2.2.2.2 a g0 g5, h1.2.2.2.2 a g0 g5]
  · have k := tq_len (x := K 0 0 + 20) (y := (700 : Int32)) f20 (b := 700) (by decide) c
    omega
theorem sh_mod {x6 : Int32} (h1 : 0 ≤ x6.toInt) (h2 : x6.toInt < 20) : (24 : Int32) - (8 : Int32) * (x6 - x6 / 4 * 4) = shB (3 - x6.toInt.toNat % 4) := by
  obtain ⟨n, hn⟩ : ∃ n : Nat, x6.toInt = n := ⟨x6.toInt.toNat, by omega⟩
  have ex : x6 = Int32.ofNat n := Int32.toInt_inj.mp (by rw [Int32.toInt_ofNat_of_lt (by omega)]; exact hn)
  rw [ex]
  have hlt : n < 20 := by omega
  have key : ∀ k : Fin 20, (24 : Int32) - (8 : Int32) * (Int32.ofNat k.val - Int32.ofNat k.val / 4 * 4) = shB (3 - (Int32.ofNat k.val).toInt.toNat % 4) := by decide
  exact key ⟨n, hlt⟩
theorem r_g23 (S : Tr) (x1 x2 x3 x4 x5 : Int32) (n0 : Nat) (h0 : (S 0 1).toInt = n0) (hn : n0 + 20 ≤ 700) (N : Nat) : ∀ (n : Nat) (x6 : Int32) (T : Tr), x6.toInt = n → n ≤ 20 → (∀ a, ¬ a = 1 → T a = S a) → (∀ j, j < n0 → T 1 j = S 1 j) → (∀ i, i < n → T 1 (n0 + i) = byteOf (pk5 x1 x2 x3 x4 x5 i) (3 - i % 4)) → Ep (lpF (fun _ _ => none) (fB_X8_feed_L23 x1 x2 x3 x4 x5) N x6 T) (fun q => (∀ j, j < n0 → q.2 1 j = S 1 j) ∧ (∀ i, i < 20 → q.2 1 (n0 + i) = byteOf (pk5 x1 x2 x3 x4 x5 i) (3 - i % 4))) := by
  induction N with
  | zero => intro n x6 T _ _ _ _ _; exact Ep_none
  | succ N ih =>
    intro n x6 T g1 g2 g3 g4 g5
    show Ep (fB_X8_feed_L23 x1 x2 x3 x4 x5 (lpF (fun _ _ => none) (fB_X8_feed_L23 x1 x2 x3 x4 x5) N) x6 T) _
    generalize lpF (fun _ _ => none) (fB_X8_feed_L23 x1 x2 x3 x4 x5) N = k at ih ⊢
    unfold fB_X8_feed_L23
    have z0 := g3 0 (by decide)
    have hJ : n < 20 → ∀ s0 : Int32, s0 = pk5 x1 x2 x3 x4 x5 n → Ep (fJ_X8_feed_J76 k x1 x2 x3 x4 x5 x6 s0 T) (fun q => (∀ j, j < n0 → q.2 1 j = S 1 j) ∧ (∀ i, i < 20 → q.2 1 (n0 + i) = byteOf (pk5 x1 x2 x3 x4 x5 i) (3 - i % 4))) := by
      intro hl s0 hs
      unfold fJ_X8_feed_J76
      have ea : (T 0 1 + x6).toInt = ((n0 + n : Nat) : Int) := by
        rw [z0]
        have : (S 0 1 + x6).toInt = (S 0 1).toInt + x6.toInt := i_addK rfl rfl (by omega) (by omega)
        omega
      have ec : (T 0 1 + x6).toNatClampNeg = n0 + n := by simp only [i_cl]; omega
      refine Ep_ck (Ep_lt (fun T1 e1 => Ep_lt (fun y ey => ?_)))
      rw [ec, sh_mod (by omega) (by omega), hs] at e1
      have ey2 : y.toInt = ((n + 1 : Nat) : Int) := by
        rw [ey]
        have : (x6 + 1).toInt = x6.toInt + 1 := i_addK rfl (by decide) (by omega) (by omega)
        omega
      have em : x6.toInt.toNat = n := by omega
      rw [em] at e1
      refine ih (n + 1) y T1 ey2 (by omega) (fun a ha => by rw [e1, st_oth ha, g3 a ha]) (fun j hj => by rw [e1, st_ne (by omega), g4 j hj]) (fun i hi => ?_)
      rcases (by omega : i < n ∨ i = n) with e | e
      · rw [e1, st_ne (by omega)]; exact g5 i e
      · subst e; rw [e1, st_same]; rfl
    refine Ep_ite (fun c => ?_) (fun c => ?_)
    · have k1 := tq_le (x := (20 : Int32)) (y := x6) (a := 20) (by decide) rfl c
      unfold fJ_X8_feed_J113
      refine Ep_lt (fun T1 e1 => Ep_some ⟨fun j hj => ?_, fun i hi => ?_⟩)
      · show T1 1 j = S 1 j
        rw [e1, st_oth (by decide), g4 j hj]
      · show T1 1 (n0 + i) = _
        rw [e1, st_oth (by decide)]; exact g5 i (by omega)
    · have k1 := tq_len (x := (20 : Int32)) (y := x6) (a := 20) (by decide) rfl c
      have hl : n < 20 := by omega
      refine Ep_ite (fun c4 => Ep_ite (fun c8 => Ep_ite (fun c12 => Ep_ite (fun c16 => hJ hl _ ?_) (fun c16 => hJ hl _ ?_)) (fun c12 => hJ hl _ ?_)) (fun c8 => hJ hl _ ?_)) (fun c4 => hJ hl _ ?_)
      · have a1 := tq_le (x := (16 : Int32)) (y := x6) (a := 16) (by decide) rfl c16
        unfold pk5; rw [if_neg (by omega), if_neg (by omega), if_neg (by omega), if_neg (by omega)]
      · have a1 := tq_le (x := (12 : Int32)) (y := x6) (a := 12) (by decide) rfl c12
        have a2 := tq_len (x := (16 : Int32)) (y := x6) (a := 16) (by decide) rfl c16
        unfold pk5; rw [if_neg (by omega), if_neg (by omega), if_neg (by omega), if_pos (by omega)]
      · have a1 := tq_le (x := (8 : Int32)) (y := x6) (a := 8) (by decide) rfl c8
        have a2 := tq_len (x := (12 : Int32)) (y := x6) (a := 12) (by decide) rfl c12
        unfold pk5; rw [if_neg (by omega), if_neg (by omega), if_pos (by omega)]
      · have a1 := tq_le (x := (4 : Int32)) (y := x6) (a := 4) (by decide) rfl c4
        have a2 := tq_len (x := (8 : Int32)) (y := x6) (a := 8) (by decide) rfl c8
        unfold pk5; rw [if_neg (by omega), if_pos (by omega)]
      · have a2 := tq_len (x := (4 : Int32)) (y := x6) (a := 4) (by decide) rfl c4
        unfold pk5; rw [if_pos (by omega)]
/-- both tapes tell the same -/
def tR (K T : Tr) : Prop := K 0 0 = T 0 1 ∧ ∀ j : Nat, (j : Int) < (K 0 0).toInt → K 5 j &&& 255 = T 1 j
-- 62.y.b1
/-! the tokens: both read the same -/
theorem bd_some {α ρ : Type} {a : α} {k : α → Option ρ} : bd (some a) k = k a := rfl
theorem st_self {T : Tr} {a i : Nat} : st T a i (T a i) = T := by
  funext b j
  rcases st_or (S := T) (a := a) (i := i) (b := b) (j := j) (v := T a i) with g | ⟨g1, g2⟩
  · exact g
  · subst g1; subst g2; rw [st_same]
def kT (K T : Tr) : Prop := K 0 6 = T 0 6 ∧ K 0 7 = T 0 7 ∧ (0 ≤ (T 0 7).toInt ∧ (T 0 7).toInt ≤ (T 0 6).toInt ∧ (T 0 6).toInt ≤ 700) ∧ ∀ j : Nat, (j : Int) < (T 0 6).toInt → K 5 j &&& 255 = T 1 j
theorem kT_of {K T K1 T1 : Tr} (h : kT K T) (e6 : K1 0 6 = K 0 6) (f6 : T1 0 6 = T 0 6) (e7 : K1 0 7 = T1 0 7) (hb : 0 ≤ (T1 0 7).toInt ∧ (T1 0 7).toInt ≤ (T 0 6).toInt) (e5 : K1 5 = K 5) (f1 : T1 1 = T 1) : kT K1 T1 := by
  refine ⟨by rw [e6, f6]; exact h.1, e7, by rw [f6]; exact ⟨hb.1, hb.2, h.2.2.1.2.2⟩, fun j hj => ?_⟩
  rw [f6] at hj; rw [e5, f1]; exact h.2.2.2 j hj
theorem at_in {K T : Tr} (h : kT K T) {x : Int32} {n : Nat} (hx : x.toInt = n) (hn : (n : Int) < (T 0 6).toInt) : f_X5_at K x = some (T 1 n) := by
  have b := h.2.2.1
  unfold f_X5_at
  have c1 : ¬ x < 0 := fun q => by have := tq_lt (x := x) (y := (0 : Int32)) rfl (b := 0) (by decide) q; omega
  have c2 : ¬ (K 0 6) ≤ x := fun q => by have := tq_le (x := K 0 6) (y := x) rfl rfl q; rw [h.1] at this; omega
  have c3 : ¬ 700 ≤ x := fun q => by have := tq_le (x := (700 : Int32)) (y := x) (a := 700) (by decide) rfl q; omega
  have c4 : okI x 700 = true := okI_of (by omega) (by omega)
  have c5 : x.toNatClampNeg = n := by simp only [i_cl]; omega
  rw [if_neg c1, if_neg c2, if_neg c3, c4, c5, h.2.2.2 n hn]; rfl
theorem at_out {K T : Tr} (h : kT K T) {x : Int32} (hx : (T 0 6).toInt ≤ x.toInt) : f_X5_at K x = some (-1) := by
  unfold f_X5_at
  by_cases c1 : x < 0
  · rw [if_pos c1]
  · have c2 : (K 0 6) ≤ x := by rw [h.1]; exact Int32.le_iff_toInt_le.mpr hx
    rw [if_neg c1, if_pos c2]
theorem dg_in {K T : Tr} (h : kT K T) {x : Int32} {n : Nat} (hx : x.toInt = n) (hn : (n : Int) < (T 0 6).toInt) : f_X8_isDigit T x = f_X5_isDigit (T 1 n) := by
  have b := h.2.2.1
  unfold f_X8_isDigit f_X5_isDigit
  have c2 : ¬ (T 0 6) ≤ x := fun q => by have := tq_le (x := T 0 6) (y := x) rfl rfl q; omega
  have c4 : okI x 700 = true := okI_of (by omega) (by omega)
  have c5 : x.toNatClampNeg = n := by simp only [i_cl]; omega
  rw [if_neg c2, c4, c5]; rfl
theorem dg_out {T : Tr} {x : Int32} (hx : (T 0 6).toInt ≤ x.toInt) : f_X8_isDigit T x = some 0 := by
  unfold f_X8_isDigit
  rw [if_pos (Int32.le_iff_toInt_le.mpr hx)]
theorem sm_in {K T : Tr} (h : kT K T) {x : Int32} {n : Nat} (hx : x.toInt = n) (hn : (n : Int) < (T 0 6).toInt) : f_X8_isSmall T x = f_X5_isLetter (T 1 n) := by
  have b := h.2.2.1
  unfold f_X8_isSmall f_X5_isLetter
  have c2 : ¬ (T 0 6) ≤ x := fun q => by have := tq_le (x := T 0 6) (y := x) rfl rfl q; omega
  have c4 : okI x 700 = true := okI_of (by omega) (by omega)
  have c5 : x.toNatClampNeg = n := by simp only [i_cl]; omega
  rw [if_neg c2, c4, c5]; rfl
theorem sm_out {T : Tr} {x : Int32} (hx : (T 0 6).toInt ≤ x.toInt) : f_X8_isSmall T x = some 0 := by
  unfold f_X8_isSmall
  rw [if_pos (Int32.le_iff_toInt_le.mpr hx)]
theorem dg_val (c : Int32) : (f_X5_isDigit c = some 0 ∧ ¬ (48 ≤ c.toInt ∧ c.toInt ≤ 57)) ∨ (f_X5_isDigit c = some 1 ∧ 48 ≤ c.toInt ∧ c.toInt ≤ 57) := by
  unfold f_X5_isDigit
  by_cases c1 : c < 48
  · have := tq_lt (x := c) (y := (48 : Int32)) rfl (b := 48) (by decide) c1
    rw [if_pos c1]; exact Or.inl ⟨rfl, by omega⟩
  · have k1 := tq_ltn (x := c) (y := (48 : Int32)) rfl (b := 48) (by decide) c1
    by_cases c2 : 57 < c
    · have := tq_lt (x := (57 : Int32)) (y := c) (a := 57) (by decide) rfl c2
      rw [if_neg c1, if_pos c2]; exact Or.inl ⟨rfl, by omega⟩
    · have k2 := tq_ltn (x := (57 : Int32)) (y := c) (a := 57) (by decide) rfl c2
      rw [if_neg c1, if_neg c2]; exact Or.inr ⟨rfl, k1, k2⟩
/-- a number as both hold it: alike, or beyond all limits in both -/
def nR (v w : Int32) : Prop := (v = w ∧ 0 ≤ w.toInt ∧ w.toInt ≤ 99999) ∨ (100000 ≤ v.toInt ∧ v.toInt ≤ 20000000 ∧ 100000 ≤ w.toInt ∧ w.toInt ≤ 1000000)
theorem num_eq (N : Nat) : ∀ K T : Tr, kT K T → nR (K 0 3) (T 0 9) → T 0 8 = 3 → 800 - (T 0 7).toInt < (N : Int) → ∃ K1 T1, lpF (fun _ => none) fB_X5_readNumber_L5 N K = some K1 ∧ lpF (fun _ => none) fB_X8_token_L213 N T = some T1 ∧ kT K1 T1 ∧ K1 0 1 = 42 ∧ T1 0 8 = 3 ∧ nR (K1 0 3) (T1 0 9) ∧ (∀ a j, ¬ (a = 0 ∧ (j = 1 ∨ j = 3 ∨ j = 7)) → K1 a j = K a j) ∧ (∀ a j, ¬ (a = 0 ∧ (j = 7 ∨ j = 9)) → T1 a j = T a j) := by
  induction N with
  | zero => intro K T h _ _ hn; have := h.2.2.1; omega
  | succ N ih =>
    intro K T h hv h8 hn
    show ∃ K1 T1, fB_X5_readNumber_L5 (lpF (fun _ => none) fB_X5_readNumber_L5 N) K = some K1 ∧ fB_X8_token_L213 (lpF (fun _ => none) fB_X8_token_L213 N) T = some T1 ∧ _
    generalize lpF (fun _ => none) fB_X5_readNumber_L5 N = k1 at ih ⊢
    generalize lpF (fun _ => none) fB_X8_token_L213 N = k2 at ih ⊢
    have b := h.2.2.1
    have hend : ∀ K1 : Tr, K1 = st K 0 1 42 → kT K1 T ∧ K1 0 1 = 42 ∧ nR (K1 0 3) (T 0 9) ∧ (∀ a j, ¬ (a = 0 ∧ (j = 1 ∨ j = 3 ∨ j = 7)) → K1 a j = K a j) := by
      intro K1 e
      refine ⟨kT_of h (by rw [e, st_ne (by decide)]) rfl (by rw [e, st_ne (by decide)]; exact h.2.1) ⟨b.1, b.2.1⟩ (by rw [e, st_oth (by decide)]) rfl, by rw [e, st_same], by rw [e, st_ne (by decide)]; exact hv, fun a j hq => ?_⟩
      rcases st_or (S := K) (a := 0) (i := 1) (b := a) (j := j) (v := 42) with g | ⟨g1, g2⟩
      · rw [e]; exact g
      · exact absurd ⟨g1, Or.inl g2⟩ hq
    obtain ⟨n, hx⟩ : ∃ n : Nat, (T 0 7).toInt = n := ⟨(T 0 7).toInt.toNat, by omega⟩
    unfold fB_X5_readNumber_L5 fB_X8_token_L213
    by_cases hl : (n : Int) < (T 0 6).toInt
    · have c1 : ¬ (K 0 6) ≤ (K 0 7) := fun q => by have := tq_le (x := K 0 6) (y := K 0 7) rfl rfl q; rw [h.1, h.2.1] at this; omega
      have ea : f_X5_at K (K 0 7) = some (T 1 n) := at_in h (by rw [h.2.1]; exact hx) hl
      rw [if_neg c1, ea, bd_some, dg_in h hx hl]
      rcases dg_val (T 1 n) with ⟨e0, _⟩ | ⟨e1, d1, d2⟩
      · have z := hend _ rfl
        exact ⟨st K 0 1 42, T, by rw [e0]; rfl, by rw [e0]; rfl, z.1, z.2.1, h8, z.2.2.1, z.2.2.2, fun _ _ _ => rfl⟩
      · rw [e1]
        have n10 : ¬ (1 : Int32) = 0 := by decide
        have hx7 : okI (T 0 7) 700 = true := okI_of (by omega) (by omega)
        have c5 : (T 0 7).toNatClampNeg = n := by simp only [i_cl]; omega
        have e7 : (T 0 7 + 1).toInt = (T 0 7).toInt + 1 := i_addK rfl (by decide) (by omega) (by omega)
        have go : ∀ v w : Int32, nR v w → ∃ K1 T1, k1 (st (st K 0 3 v) 0 7 (K 0 7 + 1)) = some K1 ∧ k2 (st (st T 0 9 w) 0 7 (T 0 7 + 1)) = some T1 ∧ kT K1 T1 ∧ K1 0 1 = 42 ∧ T1 0 8 = 3 ∧ nR (K1 0 3) (T1 0 9) ∧ (∀ a j, ¬ (a = 0 ∧ (j = 1 ∨ j = 3 ∨ j = 7)) → K1 a j = K a j) ∧ (∀ a j, ¬ (a = 0 ∧ (j = 7 ∨ j = 9)) → T1 a j = T a j) := by
          intro v w hvw
          obtain ⟨K1, T1, q1, q2, q3, q4, q5, q6, q7, q8⟩ := ih (st (st K 0 3 v) 0 7 (K 0 7 + 1)) (st (st T 0 9 w) 0 7 (T 0 7 + 1)) (kT_of h (by rw [st_ne (by decide), st_ne (by decide)]) (by rw [st_ne (by decide), st_ne (by decide)]) (by rw [st_same, st_same, h.2.1]) (by rw [st_same]; omega) (by rw [st_oth (by decide), st_oth (by decide)]) (by rw [st_oth (by decide), st_oth (by decide)])) (by rw [st_ne (by decide), st_same, st_ne (by decide), st_same]; exact hvw) (by rw [st_ne (by decide), st_ne (by decide)]; exact h8) (by rw [st_same]; omega)
          refine ⟨K1, T1, q1, q2, q3, q4, q5, q6, fun a j hq => ?_, fun a j hq => ?_⟩
          · rw [q7 a j hq]
            rcases st_or (S := st K 0 3 v) (a := 0) (i := 7) (b := a) (j := j) (v := K 0 7 + 1) with g | ⟨g1, g2⟩
            · rw [g]
              rcases st_or (S := K) (a := 0) (i := 3) (b := a) (j := j) (v := v) with g | ⟨g1, g2⟩
              · exact g
              · exact absurd ⟨g1, Or.inr (Or.inl g2)⟩ hq
            · exact absurd ⟨g1, Or.inr (Or.inr g2)⟩ hq
          · rw [q8 a j hq]
            rcases st_or (S := st T 0 9 w) (a := 0) (i := 7) (b := a) (j := j) (v := T 0 7 + 1) with g | ⟨g1, g2⟩
            · rw [g]
              rcases st_or (S := T) (a := 0) (i := 9) (b := a) (j := j) (v := w) with g | ⟨g1, g2⟩
              · exact g
              · exact absurd ⟨g1, Or.inr g2⟩ hq
            · exact absurd ⟨g1, Or.inl g2⟩ hq
        have keepK : st K 0 7 (K 0 7 + 1) = st (st K 0 3 (K 0 3)) 0 7 (K 0 7 + 1) := by rw [st_self]
        have keepT : st T 0 7 (T 0 7 + 1) = st (st T 0 9 (T 0 9)) 0 7 (T 0 7 + 1) := by rw [st_self]
        show ∃ K1 T1, (if (1 : Int32) = 0 then fJ_X5_readNumber_J75 K else if 1000000 ≤ K 0 3 then fJ_X5_readNumber_J62 k1 K else bd (some (T 1 n)) fun r13 => lt (st K 0 3 (K 0 3 * 10 + r13 - 48)) fun K_16 => fJ_X5_readNumber_J62 k1 K_16) = some K1 ∧ (if (1 : Int32) = 0 then some T else if T 0 9 ≤ 99999 then ck (okI (T 0 7) 700) (fJ_X8_token_J261 k2 ((10 : Int32) * T 0 9 + T 1 (T 0 7).toNatClampNeg - 48) T) else fJ_X8_token_J261 k2 (T 0 9) T) = some T1 ∧ _
        rw [if_neg n10, if_neg n10, hx7, c5]
        rcases hv with ⟨ev, w0, w1⟩ | ⟨v0, v1, w0, w1⟩
        · have cv : ¬ 1000000 ≤ K 0 3 := fun q => by have := tq_le (x := (1000000 : Int32)) (y := K 0 3) (a := 1000000) (by decide) rfl q; rw [ev] at this; omega
          have cw : T 0 9 ≤ 99999 := Int32.le_iff_toInt_le.mpr (by rw [show (99999 : Int32).toInt = 99999 by decide]; exact w1)
          rw [if_neg cv, if_pos cw]
          have m1 : ((10 : Int32) * T 0 9).toInt = 10 * (T 0 9).toInt := by
            rw [Int32.toInt_mul, show (10 : Int32).toInt = 10 by decide]; exact i_bm (by omega) (by omega)
          have m2 : ((10 : Int32) * T 0 9 + T 1 n).toInt = 10 * (T 0 9).toInt + (T 1 n).toInt := i_addK m1 rfl (by omega) (by omega)
          have m3 : ((10 : Int32) * T 0 9 + T 1 n - 48).toInt = 10 * (T 0 9).toInt + (T 1 n).toInt - 48 := i_subK m2 (by decide) (by omega) (by omega)
          have em : K 0 3 * 10 + T 1 n - 48 = (10 : Int32) * T 0 9 + T 1 n - 48 := by rw [ev, Int32.mul_comm]
          have := go (K 0 3 * 10 + T 1 n - 48) ((10 : Int32) * T 0 9 + T 1 n - 48) (by
            rw [em]
            rcases (by omega : 10 * (T 0 9).toInt + (T 1 n).toInt - 48 ≤ 99999 ∨ 100000 ≤ 10 * (T 0 9).toInt + (T 1 n).toInt - 48) with g | g
            · exact Or.inl ⟨rfl, by omega, by omega⟩
            · exact Or.inr ⟨by omega, by omega, by omega, by omega⟩)
          exact this
        · have cw : ¬ T 0 9 ≤ 99999 := fun q => by have := tq_le (x := T 0 9) (y := (99999 : Int32)) rfl (b := 99999) (by decide) q; omega
          rw [if_neg cw]
          by_cases cv : 1000000 ≤ K 0 3
          · rw [if_pos cv]
            have := go (K 0 3) (T 0 9) (Or.inr ⟨v0, v1, w0, w1⟩)
            show ∃ K1 T1, k1 (st K 0 7 (K 0 7 + 1)) = some K1 ∧ _
            rw [keepK]; exact this
          · have k3 := tq_len (x := (1000000 : Int32)) (y := K 0 3) (a := 1000000) (by decide) rfl cv
            rw [if_neg cv]
            have m1 : (K 0 3 * 10).toInt = (K 0 3).toInt * 10 := by
              rw [Int32.toInt_mul, show (10 : Int32).toInt = 10 by decide]; exact i_bm (by omega) (by omega)
            have m2 : (K 0 3 * 10 + T 1 n).toInt = (K 0 3).toInt * 10 + (T 1 n).toInt := i_addK m1 rfl (by omega) (by omega)
            have m3 : (K 0 3 * 10 + T 1 n - 48).toInt = (K 0 3).toInt * 10 + (T 1 n).toInt - 48 := i_subK m2 (by decide) (by omega) (by omega)
            exact go (K 0 3 * 10 + T 1 n - 48) (T 0 9) (Or.inr ⟨by omega, by omega, w0, w1⟩)
    · have c1 : (K 0 6) ≤ (K 0 7) := by rw [h.1, h.2.1]; exact Int32.le_iff_toInt_le.mpr (by omega)
      rw [if_pos c1, dg_out (by omega)]
      have z := hend _ rfl
      exact ⟨_, _, rfl, rfl, z.1, z.2.1, h8, z.2.2.1, z.2.2.2, fun _ _ _ => rfl⟩
-- 62.y.c1
/-! two functions side by side: if both answer, the answers belong together -/
def E2 {α β : Type} (x : Option α) (y : Option β) (Q : α → β → Prop) : Prop := ∀ a b, x = some a → y = some b → Q a b
section
variable {α β γ δ : Type} {Q : α → β → Prop}
theorem E2_some {a : α} {b : β} (h : Q a b) : E2 (some a) (some b) Q := fun _ _ e1 e2 => by cases e1; cases e2; exact h
theorem E2_nl {y : Option β} : E2 (none : Option α) y Q := fun _ _ e _ => by cases e
theorem E2_nr {x : Option α} : E2 x (none : Option β) Q := fun _ _ _ e => by cases e
theorem E2_itl {c : Prop} {d : Decidable c} {a b : Option α} {y : Option β} (h1 : c → E2 a y Q) (h2 : ¬ c → E2 b y Q) : E2 (@ite (Option α) c d a b) y Q := by
  by_cases hc : c
  · rw [if_pos hc]; exact h1 hc
  · rw [if_neg hc]; exact h2 hc
theorem E2_itr {c : Prop} {d : Decidable c} {a b : Option β} {x : Option α} (h1 : c → E2 x a Q) (h2 : ¬ c → E2 x b Q) : E2 x (@ite (Option β) c d a b) Q := by
  by_cases hc : c
  · rw [if_pos hc]; exact h1 hc
  · rw [if_neg hc]; exact h2 hc
theorem E2_it {c c' : Prop} {d : Decidable c} {d' : Decidable c'} {a b : Option α} {a' b' : Option β} (hi : c ↔ c') (h1 : c → c' → E2 a a' Q) (h2 : ¬ c → ¬ c' → E2 b b' Q) : E2 (@ite (Option α) c d a b) (@ite (Option β) c' d' a' b') Q :=
  E2_itl (fun h => E2_itr (fun h' => h1 h h') (fun h' => absurd (hi.mp h) h')) (fun h => E2_itr (fun h' => absurd (hi.mpr h') h) (fun h' => h2 h h'))
theorem E2_pl {c : Prop} {d : Decidable c} {a b : Option α} {y : Option β} (hc : c) (h : E2 a y Q) : E2 (@ite (Option α) c d a b) y Q := by rw [if_pos hc]; exact h
theorem E2_ql {c : Prop} {d : Decidable c} {a b : Option α} {y : Option β} (hc : ¬ c) (h : E2 b y Q) : E2 (@ite (Option α) c d a b) y Q := by rw [if_neg hc]; exact h
theorem E2_pr {c : Prop} {d : Decidable c} {a b : Option β} {x : Option α} (hc : c) (h : E2 x a Q) : E2 x (@ite (Option β) c d a b) Q := by rw [if_pos hc]; exact h
theorem E2_qr {c : Prop} {d : Decidable c} {a b : Option β} {x : Option α} (hc : ¬ c) (h : E2 x b Q) : E2 x (@ite (Option β) c d a b) Q := by rw [if_neg hc]; exact h
theorem E2_ckl {g : Bool} {k : Option α} {y : Option β} (h : g = true → E2 k y Q) : E2 (ck g k) y Q := fun a b e1 e2 => h (tx_ck e1).1 a b (tx_ck e1).2 e2
theorem E2_ckr {g : Bool} {k : Option β} {x : Option α} (h : g = true → E2 x k Q) : E2 x (ck g k) Q := fun a b e1 e2 => h (tx_ck e2).1 a b e1 (tx_ck e2).2
theorem E2_ltl {v : γ} {k : γ → Option α} {y : Option β} (h : ∀ z, z = v → E2 (k z) y Q) : E2 (lt v k) y Q := h v rfl
theorem E2_ltr {v : γ} {k : γ → Option β} {x : Option α} (h : ∀ z, z = v → E2 x (k z) Q) : E2 x (lt v k) Q := h v rfl
theorem E2_bd {x : Option γ} {y : Option δ} {k : γ → Option α} {k' : δ → Option β} {R : γ → δ → Prop} (h1 : E2 x y R) (h : ∀ a b, R a b → E2 (k a) (k' b) Q) : E2 (bd x k) (bd y k') Q := fun a b e1 e2 => by
  obtain ⟨c, hc, hk⟩ := tx_bd e1
  obtain ⟨d, hd, hk'⟩ := tx_bd e2
  exact h c d (h1 c d hc hd) a b hk hk'
theorem E2_bl {x : Option γ} {k : γ → Option α} {y : Option β} {R : γ → Prop} (h1 : Ep x R) (h : ∀ a, R a → E2 (k a) y Q) : E2 (bd x k) y Q := fun a b e1 e2 => by
  obtain ⟨c, hc, hk⟩ := tx_bd e1
  exact h c (h1 c hc) a b hk e2
theorem E2_br {x : Option α} {y : Option δ} {k' : δ → Option β} {R : δ → Prop} (h1 : Ep y R) (h : ∀ b, R b → E2 x (k' b) Q) : E2 x (bd y k') Q := fun a b e1 e2 => by
  obtain ⟨d, hd, hk'⟩ := tx_bd e2
  exact h d (h1 d hd) a b e1 hk'
theorem E2_mono {x : Option α} {y : Option β} {R : α → β → Prop} (h1 : E2 x y R) (h : ∀ a b, R a b → Q a b) : E2 x y Q := fun a b e1 e2 => h a b (h1 a b e1 e2)
theorem E2_ep {x : Option α} {y : Option β} {R : α → Prop} {R' : β → Prop} (h1 : Ep x R) (h2 : Ep y R') (h : ∀ a b, R a → R' b → Q a b) : E2 x y Q := fun a b e1 e2 => h a b (h1 a e1) (h2 b e2)
theorem E2_and {x : Option α} {y : Option β} {R : α → Prop} {R' : β → Prop} (h1 : Ep x R) (h2 : Ep y R') (h : E2 x y Q) : E2 x y (fun a b => Q a b ∧ R a ∧ R' b) := fun a b e1 e2 => ⟨h a b e1 e2, h1 a e1, h2 b e2⟩
theorem Ep_mono {ρ : Type} {x : Option ρ} {Q1 Q2 : ρ → Prop} (h1 : Ep x Q1) (h : ∀ r, Q1 r → Q2 r) : Ep x Q2 := fun r e => h r (h1 r e)
theorem Ep_and {ρ : Type} {x : Option ρ} {Q1 Q2 : ρ → Prop} (h1 : Ep x Q1) (h2 : Ep x Q2) : Ep x (fun r => Q1 r ∧ Q2 r) := fun r e => ⟨h1 r e, h2 r e⟩
theorem D_to {ρ : Type} {x : Option ρ} {Q1 : ρ → Prop} (h : D x Q1) : Ep x Q1 := fun r e => by
  obtain ⟨r1, e1, h1⟩ := h
  rw [e] at e1; cases e1; exact h1
end
/-- kinds of tokens: the class's, the reference's, and which of its kind the reference's is -/
def kI (c k w : Int) : Prop := (c = 45 ∧ k = 0) ∨ (k = 1 ∧ 0 ≤ w ∧ w ≤ 28 ∧ ((w = 19 ∧ c = 20) ∨ (w = 20 ∧ c = 19) ∨ (w ≠ 19 ∧ w ≠ 20 ∧ c = w))) ∨ (c = 43 ∧ k = 2) ∨ (c = 42 ∧ k = 3) ∨ (k = 5 ∧ 0 ≤ w ∧ w ≤ 5 ∧ c = 29 + w) ∨ (k = 4 ∧ ((w = 59 ∧ c = 41) ∨ (w = 40 ∧ c = 39) ∨ (w = 41 ∧ c = 40) ∨ (w = 43 ∧ c = 35) ∨ (w = 45 ∧ c = 36) ∨ (w = 42 ∧ c = 37) ∨ (w = 47 ∧ c = 38) ∨ (w = 37 ∧ c = 44))) ∨ (c = 44 ∧ k = 6)
/-- what the class tells of a sign -/
def sgC (c d r : Int) : Prop := (c = 40 ∧ r = 39) ∨ (c = 41 ∧ r = 40) ∨ (c = 42 ∧ r = 37) ∨ (c = 43 ∧ r = 35) ∨ (c = 45 ∧ r = 36) ∨ (c = 47 ∧ r = 38) ∨ (c = 59 ∧ r = 41) ∨ (c = 60 ∧ ((d = 61 ∧ r = 30) ∨ (d = 62 ∧ r = 32) ∨ (d ≠ 61 ∧ d ≠ 62 ∧ r = 29))) ∨ (c = 61 ∧ r = 31) ∨ (c = 62 ∧ ((d = 61 ∧ r = 33) ∨ (d ≠ 61 ∧ r = 34))) ∨ (c ≠ 40 ∧ c ≠ 41 ∧ c ≠ 42 ∧ c ≠ 43 ∧ c ≠ 45 ∧ c ≠ 47 ∧ c ≠ 59 ∧ c ≠ 60 ∧ c ≠ 61 ∧ c ≠ 62 ∧ r = 44)
theorem i_is {x y : Int32} {k : Int} (hk : y.toInt = k) (h : x = y) : x.toInt = k := by rw [h]; exact hk
theorem i_isn {x y : Int32} {k : Int} (hk : y.toInt = k) (h : ¬ x = y) : ¬ x.toInt = k := fun e => h (Int32.toInt_inj.mp (e.trans hk.symm))
theorem e_sign (c d : Int32) : Ep (f_X5_sign c d) (fun r => sgC c.toInt d.toInt r.toInt) := by
  unfold f_X5_sign sgC
  refine Ep_ite (fun c1 => Ep_some ?_) (fun c1 => Ep_ite (fun c2 => Ep_some ?_) (fun c2 => Ep_ite (fun c3 => Ep_some ?_) (fun c3 => Ep_ite (fun c4 => Ep_some ?_) (fun c4 => Ep_ite (fun c5 => Ep_some ?_) (fun c5 => Ep_ite (fun c6 => Ep_some ?_) (fun c6 => Ep_ite (fun c7 => Ep_some ?_) (fun c7 => Ep_ite (fun c8 => Ep_ite (fun c9 => Ep_some ?_) (fun c9 => Ep_ite (fun c10 => Ep_some ?_) (fun c10 => Ep_some ?_))) (fun c8 => Ep_ite (fun c9 => Ep_some ?_) (fun c9 => Ep_ite (fun c10 => Ep_ite (fun c11 => Ep_some ?_) (fun c11 => Ep_some ?_)) (fun c10 => Ep_some ?_))))))))))
  all_goals ((try simp only [Int32.le_iff_toInt_le, Int32.lt_iff_toInt_lt, ← Int32.toInt_inj, Int32.reduceToInt, and_true, true_and, true_or, or_true, and_false, false_and, or_false, false_or, Int.reduceEq, Int.reduceLE, Int.reduceLT, not_true_eq_false, not_false_eq_true, ne_eq] at *) <;> omega)
-- 62.y.c2
/-- what the reference tells of a sign: kind, which, how far -/
def sgR (c d k w m : Int) : Prop := (c = 60 ∧ k = 5 ∧ ((d = 61 ∧ w = 1 ∧ m = 2) ∨ (d = 62 ∧ w = 3 ∧ m = 2) ∨ (d ≠ 61 ∧ d ≠ 62 ∧ w = 0 ∧ m = 1))) ∨ (c = 62 ∧ k = 5 ∧ ((d = 61 ∧ w = 4 ∧ m = 2) ∨ (d ≠ 61 ∧ w = 5 ∧ m = 1))) ∨ (c = 61 ∧ k = 5 ∧ w = 2 ∧ m = 1) ∨ ((c = 59 ∨ c = 40 ∨ c = 41 ∨ c = 43 ∨ c = 45 ∨ c = 42 ∨ c = 47 ∨ c = 37) ∧ k = 4 ∧ w = c ∧ m = 1) ∨ (c ≠ 60 ∧ c ≠ 62 ∧ c ≠ 61 ∧ c ≠ 59 ∧ c ≠ 40 ∧ c ≠ 41 ∧ c ≠ 43 ∧ c ≠ 45 ∧ c ≠ 42 ∧ c ≠ 47 ∧ c ≠ 37 ∧ k = 6 ∧ m = 1)
theorem e_J135 (T : Tr) (x2 x3 : Int32) : Ep (fJ_X8_signToken_J135 x2 x3 T) (fun q => q 0 7 = T 0 7 ∧ (q 0 8).toInt = 5 ∧ ((T 0 9).toInt = 61 → (q 0 9).toInt = 2) ∧ ((T 0 9).toInt = 60 → ¬ x2 = 0 → (q 0 9).toInt = 1) ∧ ((T 0 9).toInt = 60 → x2 = 0 → ¬ x3 = 0 → (q 0 9).toInt = 3) ∧ ((T 0 9).toInt = 60 → x2 = 0 → x3 = 0 → (q 0 9).toInt = 0) ∧ (¬ (T 0 9).toInt = 61 → ¬ (T 0 9).toInt = 60 → ¬ x2 = 0 → (q 0 9).toInt = 4) ∧ (¬ (T 0 9).toInt = 61 → ¬ (T 0 9).toInt = 60 → x2 = 0 → (q 0 9).toInt = 5)) := by
  unfold fJ_X8_signToken_J135
  refine Ep_lt (fun S1 e1 => ?_)
  have f9 : S1 0 9 = T 0 9 := by rw [e1, st_ne (by decide)]
  have f7 : S1 0 7 = T 0 7 := by rw [e1, st_ne (by decide)]
  have f8 : S1 0 8 = 5 := by rw [e1, st_same]
  have go : ∀ s0 : Int32, Ep (fJ_X8_signToken_J192 s0 S1) (fun q => q 0 7 = T 0 7 ∧ (q 0 8).toInt = 5 ∧ q 0 9 = s0) := by
    intro s0
    unfold fJ_X8_signToken_J192
    refine Ep_lt (fun S2 e2 => Ep_some ⟨by rw [e2, st_ne (by decide), f7], by rw [e2, st_ne (by decide), f8]; decide, by rw [e2, st_same]⟩)
  rw [f9]
  refine Ep_ite (fun c1 => Ep_mono (go _) ?_) (fun c1 => Ep_ite (fun c2 => Ep_ite (fun c3 => Ep_ite (fun c4 => Ep_mono (go _) ?_) (fun c4 => Ep_mono (go _) ?_)) (fun c3 => Ep_mono (go _) ?_)) (fun c2 => Ep_ite (fun c3 => Ep_mono (go _) ?_) (fun c3 => Ep_mono (go _) ?_)))
  all_goals
    intro q ⟨g1, g2, g3⟩
    refine ⟨g1, g2, ?_⟩
    rw [g3]
    first
      | (have k1 := i_is (k := 61) (by decide) c1; refine ⟨fun _ => by decide, fun h => absurd h (by omega), fun h => absurd h (by omega), fun h => absurd h (by omega), fun h => absurd k1 h, fun h => absurd k1 h⟩)
      | (have k1 := i_isn (k := 61) (by decide) c1
         have k2 := i_is (k := 60) (by decide) c2
         refine ⟨fun h => absurd h k1, fun _ h => ?_, fun _ h h' => ?_, fun _ h h' => ?_, fun _ h => absurd k2 h, fun _ h => absurd k2 h⟩ <;> first | exact absurd c3 h | exact absurd h c3 | exact absurd c4 h' | exact absurd h' c4 | decide)
      | (have k1 := i_isn (k := 61) (by decide) c1
         have k2 := i_isn (k := 60) (by decide) c2
         refine ⟨fun h => absurd h k1, fun h => absurd h k2, fun h => absurd h k2, fun h => absurd h k2, fun _ _ h => ?_, fun _ _ h => ?_⟩ <;> first | exact absurd c3 h | exact absurd h c3 | decide)
theorem e_J74 (T : Tr) (d : Int32) (hb : 0 ≤ (T 0 7).toInt ∧ (T 0 7).toInt ≤ 700) (hc : (T 0 9).toInt = 60 ∨ (T 0 9).toInt = 61 ∨ (T 0 9).toInt = 62) : Ep (fJ_X8_signToken_J74 d T) (fun q => ∃ m, sgR (T 0 9).toInt d.toInt (q 0 8).toInt (q 0 9).toInt m ∧ (q 0 7).toInt = (T 0 7).toInt + (m - 1)) := by
  have e7 : (T 0 7 + 1).toInt = (T 0 7).toInt + 1 := i_addK rfl (by decide) (by omega) (by omega)
  have g116 : ∀ x2 s0 : Int32, Ep (fJ_X8_signToken_J116 x2 s0 T) (fun q => (((x2 = 0 ∧ s0 = 0) ∧ (q 0 7).toInt = (T 0 7).toInt) ∨ (¬ (x2 = 0 ∧ s0 = 0) ∧ (q 0 7).toInt = (T 0 7).toInt + 1)) ∧ (q 0 8).toInt = 5 ∧ ((T 0 9).toInt = 61 → (q 0 9).toInt = 2) ∧ ((T 0 9).toInt = 60 → ¬ x2 = 0 → (q 0 9).toInt = 1) ∧ ((T 0 9).toInt = 60 → x2 = 0 → ¬ s0 = 0 → (q 0 9).toInt = 3) ∧ ((T 0 9).toInt = 60 → x2 = 0 → s0 = 0 → (q 0 9).toInt = 0) ∧ (¬ (T 0 9).toInt = 61 → ¬ (T 0 9).toInt = 60 → ¬ x2 = 0 → (q 0 9).toInt = 4) ∧ (¬ (T 0 9).toInt = 61 → ¬ (T 0 9).toInt = 60 → x2 = 0 → (q 0 9).toInt = 5)) := by
    intro x2 s0
    have g125 : Ep (fJ_X8_signToken_J125 x2 s0 T) (fun q => (q 0 7).toInt = (T 0 7).toInt + 1 ∧ (q 0 8).toInt = 5 ∧ ((T 0 9).toInt = 61 → (q 0 9).toInt = 2) ∧ ((T 0 9).toInt = 60 → ¬ x2 = 0 → (q 0 9).toInt = 1) ∧ ((T 0 9).toInt = 60 → x2 = 0 → ¬ s0 = 0 → (q 0 9).toInt = 3) ∧ ((T 0 9).toInt = 60 → x2 = 0 → s0 = 0 → (q 0 9).toInt = 0) ∧ (¬ (T 0 9).toInt = 61 → ¬ (T 0 9).toInt = 60 → ¬ x2 = 0 → (q 0 9).toInt = 4) ∧ (¬ (T 0 9).toInt = 61 → ¬ (T 0 9).toInt = 60 → x2 = 0 → (q 0 9).toInt = 5)) := by
      unfold fJ_X8_signToken_J125
      refine Ep_lt (fun S1 e1 => Ep_mono (e_J135 S1 x2 s0) (fun q hq => ?_))
      have f9 : S1 0 9 = T 0 9 := by rw [e1, st_ne (by decide)]
      have f7 : S1 0 7 = T 0 7 + 1 := by rw [e1, st_same]
      rw [f9, f7] at hq
      exact ⟨by rw [hq.1]; exact e7, hq.2⟩
    unfold fJ_X8_signToken_J116
    refine Ep_ite (fun c1 => Ep_ite (fun c2 => Ep_mono (e_J135 T x2 s0) (fun q hq => ?_)) (fun c2 => Ep_mono g125 (fun q hq => ?_))) (fun c1 => Ep_mono g125 (fun q hq => ?_))
    · exact ⟨Or.inl ⟨⟨c1, c2⟩, by rw [hq.1]⟩, hq.2⟩
    · exact ⟨Or.inr ⟨fun h => c2 h.2, hq.1⟩, hq.2⟩
    · exact ⟨Or.inr ⟨fun h => c1 h.1, hq.1⟩, hq.2⟩
  have g95 : ∀ s0 : Int32, Ep (fJ_X8_signToken_J95 d s0 T) (fun q => (s0 = 0 ∧ ¬ (T 0 9).toInt = 60 → (q 0 7).toInt = (T 0 7).toInt ∧ ((T 0 9).toInt = 61 → (q 0 9).toInt = 2) ∧ (¬ (T 0 9).toInt = 61 → (q 0 9).toInt = 5)) ∧ (s0 = 0 ∧ (T 0 9).toInt = 60 ∧ d.toInt = 62 → (q 0 7).toInt = (T 0 7).toInt + 1 ∧ (q 0 9).toInt = 3) ∧ (s0 = 0 ∧ (T 0 9).toInt = 60 ∧ ¬ d.toInt = 62 → (q 0 7).toInt = (T 0 7).toInt ∧ (q 0 9).toInt = 0) ∧ (¬ s0 = 0 → (q 0 7).toInt = (T 0 7).toInt + 1 ∧ ((T 0 9).toInt = 60 → (q 0 9).toInt = 1) ∧ ((T 0 9).toInt = 62 → (q 0 9).toInt = 4)) ∧ (q 0 8).toInt = 5) := by
    intro s0
    unfold fJ_X8_signToken_J95 fJ_X8_signToken_J115
    have z1 : ¬ (1 : Int32) = 0 := by decide
    refine Ep_ite (fun c1 => ?_) (fun c1 => ?_)
    · have k1 := i_is (k := 60) (by decide) c1
      refine Ep_ite (fun c2 => Ep_mono (g116 _ _) (fun q hq => ?_)) (fun c2 => Ep_mono (g116 _ _) (fun q hq => ?_))
      · have k2 := i_is (k := 62) (by decide) c2
        obtain ⟨a1, a2, a3, a4, a5, a6, a7, a8⟩ := hq
        refine ⟨fun h => absurd k1 h.2, fun h => ⟨?_, a5 k1 h.1 z1⟩, fun h => absurd k2 h.2.2, fun h => ⟨?_, fun _ => a4 k1 h, fun h' => by omega⟩, a2⟩
        · rcases a1 with ⟨g, _⟩ | ⟨_, g⟩
          · exact absurd g.2 z1
          · exact g
        · rcases a1 with ⟨g, _⟩ | ⟨_, g⟩
          · exact absurd g.2 z1
          · exact g
      · have k2 := i_isn (k := 62) (by decide) c2
        obtain ⟨a1, a2, a3, a4, a5, a6, a7, a8⟩ := hq
        refine ⟨fun h => absurd k1 h.2, fun h => absurd h.2.2 k2, fun h => ⟨?_, a6 k1 h.1 rfl⟩, fun h => ⟨?_, fun _ => a4 k1 h, fun h' => by omega⟩, a2⟩
        · rcases a1 with ⟨_, g⟩ | ⟨g, _⟩
          · exact g
          · exact absurd ⟨h.1, rfl⟩ g
        · rcases a1 with ⟨g, _⟩ | ⟨_, g⟩
          · exact absurd g.1 h
          · exact g
    · have k1 := i_isn (k := 60) (by decide) c1
      refine Ep_mono (g116 _ _) (fun q hq => ?_)
      obtain ⟨a1, a2, a3, a4, a5, a6, a7, a8⟩ := hq
      refine ⟨fun h => ⟨?_, a3, fun h' => a8 h' k1 h.1⟩, fun h => absurd h.2.1 k1, fun h => absurd h.2.1 k1, fun h => ⟨?_, fun h' => absurd h' k1, fun h' => a7 (by omega) k1 h⟩, a2⟩
      · rcases a1 with ⟨_, g⟩ | ⟨g, _⟩
        · exact g
        · exact absurd ⟨h.1, rfl⟩ g
      · rcases a1 with ⟨g, _⟩ | ⟨_, g⟩
        · exact absurd g.1 h
        · exact g
  unfold fJ_X8_signToken_J74 fJ_X8_signToken_J94
  have z1 : ¬ (1 : Int32) = 0 := by decide
  refine Ep_ite (fun c1 => Ep_mono (g95 _) (fun q hq => ?_)) (fun c1 => Ep_ite (fun c2 => Ep_mono (g95 _) (fun q hq => ?_)) (fun c2 => Ep_mono (g95 _) (fun q hq => ?_)))
  · have k1 := i_is (k := 61) (by decide) c1
    obtain ⟨a1, a2, a3, a4, a5⟩ := hq
    have b := a1 ⟨rfl, by omega⟩
    exact ⟨1, Or.inr (Or.inr (Or.inl ⟨k1, a5, b.2.1 k1, rfl⟩)), by omega⟩
  · have k1 := i_isn (k := 61) (by decide) c1
    have k2 := i_is (k := 61) (by decide) c2
    obtain ⟨a1, a2, a3, a4, a5⟩ := hq
    have b := a4 z1
    rcases hc with g | g | g
    · exact ⟨2, Or.inl ⟨g, a5, Or.inl ⟨k2, b.2.1 g, rfl⟩⟩, by omega⟩
    · exact absurd g k1
    · exact ⟨2, Or.inr (Or.inl ⟨g, a5, Or.inl ⟨k2, b.2.2 g, rfl⟩⟩), by omega⟩
  · have k1 := i_isn (k := 61) (by decide) c1
    have k2 := i_isn (k := 61) (by decide) c2
    obtain ⟨a1, a2, a3, a4, a5⟩ := hq
    rcases hc with g | g | g
    · by_cases k3 : d.toInt = 62
      · have b := a2 ⟨rfl, g, k3⟩
        exact ⟨2, Or.inl ⟨g, a5, Or.inr (Or.inl ⟨k3, b.2, rfl⟩)⟩, by omega⟩
      · have b := a3 ⟨rfl, g, k3⟩
        exact ⟨1, Or.inl ⟨g, a5, Or.inr (Or.inr ⟨k2, k3, b.2, rfl⟩)⟩, by omega⟩
    · exact absurd g k1
    · have b := a1 ⟨rfl, by omega⟩
      exact ⟨1, Or.inr (Or.inl ⟨g, a5, Or.inr ⟨k2, b.2.2 k1, rfl⟩⟩), by omega⟩
theorem e_signT {S : Tr} {n : Nat} (hx : (S 0 7).toInt = n) (hl : (n : Int) < (S 0 6).toInt) (h6 : (S 0 6).toInt ≤ 700) : Ep (f_X8_signToken S) (fun q => ∃ m d, sgR (S 1 n).toInt d (q 0 8).toInt (q 0 9).toInt m ∧ (q 0 7).toInt = n + m ∧ (((n : Int) + 1 < (S 0 6).toInt ∧ d = (S 1 (n + 1)).toInt) ∨ ((S 0 6).toInt ≤ (n : Int) + 1 ∧ d = 0))) := by
  unfold f_X8_signToken
  have c0 : (S 0 7).toNatClampNeg = n := by simp only [i_cl]; omega
  refine Ep_ck (Ep_lt (fun S2 e2 => Ep_lt (fun S3 e3 => ?_)))
  rw [c0] at e2
  have f9 : S3 0 9 = S 1 n := by rw [e3, st_ne (by decide), e2, st_same]
  have f7 : (S3 0 7).toInt = n + 1 := by
    rw [e3, st_same, e2, st_ne (by decide)]
    have : (S 0 7 + 1).toInt = (S 0 7).toInt + 1 := i_addK rfl (by decide) (by omega) (by omega)
    omega
  have f6 : S3 0 6 = S 0 6 := by rw [e3, st_ne (by decide), e2, st_ne (by decide)]
  have f1 : S3 1 = S 1 := by rw [e3, st_oth (by decide), e2, st_oth (by decide)]
  have f8 : ∀ k : Int32, Ep (fJ_X8_signToken_J287 k S3) (fun q => q 0 8 = k ∧ q 0 9 = S 1 n ∧ (q 0 7).toInt = n + 1) := by
    intro k
    unfold fJ_X8_signToken_J287
    refine Ep_lt (fun S4 e4 => Ep_some ⟨by rw [e4, st_same], by rw [e4, st_ne (by decide), f9], by rw [e4, st_ne (by decide), f7]⟩)
  have dd : ∃ d : Int, (((n : Int) + 1 < (S 0 6).toInt ∧ d = (S 1 (n + 1)).toInt) ∨ ((S 0 6).toInt ≤ (n : Int) + 1 ∧ d = 0)) := by
    by_cases h : (n : Int) + 1 < (S 0 6).toInt
    · exact ⟨_, Or.inl ⟨h, rfl⟩⟩
    · exact ⟨0, Or.inr ⟨by omega, rfl⟩⟩
  have j50 : (S3 0 9).toInt = 60 ∨ (S3 0 9).toInt = 61 ∨ (S3 0 9).toInt = 62 → Ep (fJ_X8_signToken_J50 S3) (fun q => ∃ m d, sgR (S 1 n).toInt d (q 0 8).toInt (q 0 9).toInt m ∧ (q 0 7).toInt = n + m ∧ (((n : Int) + 1 < (S 0 6).toInt ∧ d = (S 1 (n + 1)).toInt) ∨ ((S 0 6).toInt ≤ (n : Int) + 1 ∧ d = 0))) := by
    intro hc
    unfold fJ_X8_signToken_J50
    have c7 : (S3 0 7).toNatClampNeg = n + 1 := by simp only [i_cl]; omega
    refine Ep_ite (fun c => ?_) (fun c => ?_)
    · have k := tq_le (x := S3 0 6) (y := S3 0 7) rfl rfl c
      rw [f6] at k
      refine Ep_mono (e_J74 S3 0 (by omega) hc) (fun q hq => ?_)
      obtain ⟨m, q1, q2⟩ := hq
      rw [f9] at q1
      exact ⟨m, _, q1, by omega, Or.inr ⟨by omega, by decide⟩⟩
    · have k := tq_len (x := S3 0 6) (y := S3 0 7) rfl rfl c
      rw [f6] at k
      refine Ep_ck ?_
      rw [c7, f1]
      refine Ep_mono (e_J74 S3 _ (by omega) hc) (fun q hq => ?_)
      obtain ⟨m, q1, q2⟩ := hq
      rw [f9] at q1
      exact ⟨m, _, q1, by omega, Or.inl ⟨by omega, rfl⟩⟩
  obtain ⟨d, hd⟩ := dd
  have j270 : ((S 1 n).toInt = 59 ∨ (S 1 n).toInt = 40 ∨ (S 1 n).toInt = 41 ∨ (S 1 n).toInt = 43 ∨ (S 1 n).toInt = 45 ∨ (S 1 n).toInt = 42 ∨ (S 1 n).toInt = 47 ∨ (S 1 n).toInt = 37) → Ep (fJ_X8_signToken_J270 S3) (fun q => ∃ m d, sgR (S 1 n).toInt d (q 0 8).toInt (q 0 9).toInt m ∧ (q 0 7).toInt = n + m ∧ (((n : Int) + 1 < (S 0 6).toInt ∧ d = (S 1 (n + 1)).toInt) ∨ ((S 0 6).toInt ≤ (n : Int) + 1 ∧ d = 0))) := by
    intro hc
    unfold fJ_X8_signToken_J270 fJ_X8_signToken_J275
    rw [if_neg (by decide)]
    refine Ep_mono (f8 4) (fun q hq => ⟨1, d, Or.inr (Or.inr (Or.inr (Or.inl ⟨hc, by rw [hq.1]; decide, by rw [hq.2.1], rfl⟩))), hq.2.2, hd⟩)
  rw [f9]
  rw [f9] at j50
  refine Ep_ite (fun c1 => j50 (Or.inl (i_is (by decide) c1))) (fun c1 => Ep_ite (fun c2 => j50 (Or.inr (Or.inr (i_is (by decide) c2)))) (fun c2 => Ep_ite (fun c3 => j50 (Or.inr (Or.inl (i_is (by decide) c3)))) (fun c3 => Ep_ite (fun c4 => j270 (by have := i_is (k := 59) (by decide) c4; omega)) (fun c4 => Ep_ite (fun c5 => j270 (by have := i_is (k := 40) (by decide) c5; omega)) (fun c5 => Ep_ite (fun c6 => j270 (by have := i_is (k := 41) (by decide) c6; omega)) (fun c6 => Ep_ite (fun c7 => j270 (by have := i_is (k := 43) (by decide) c7; omega)) (fun c7 => Ep_ite (fun c8 => j270 (by have := i_is (k := 45) (by decide) c8; omega)) (fun c8 => Ep_ite (fun c9 => j270 (by have := i_is (k := 42) (by decide) c9; omega)) (fun c9 => Ep_ite (fun c10 => j270 (by have := i_is (k := 47) (by decide) c10; omega)) (fun c10 => Ep_ite (fun c11 => j270 (by have := i_is (k := 37) (by decide) c11; omega)) (fun c11 => ?_)))))))))))
  unfold fJ_X8_signToken_J275
  rw [if_pos rfl]
  refine Ep_mono (f8 6) (fun q hq => ⟨1, d, Or.inr (Or.inr (Or.inr (Or.inr ⟨i_isn (by decide) c1, i_isn (by decide) c2, i_isn (by decide) c3, i_isn (by decide) c4, i_isn (by decide) c5, i_isn (by decide) c6, i_isn (by decide) c7, i_isn (by decide) c8, i_isn (by decide) c9, i_isn (by decide) c10, i_isn (by decide) c11, by rw [hq.1]; decide, rfl⟩))), hq.2.2, hd⟩)
-- 62.y.c3
theorem e_149 {K : Tr} : Ep (fJ_X5_advance_J149 K) (fun q => q 0 7 = K 0 7 + 1 ∧ q 0 1 = K 0 1) := by
  unfold fJ_X5_advance_J149
  exact Ep_lt (fun K1 e1 => Ep_some ⟨by rw [e1, st_same], by rw [e1, st_ne (by decide)]⟩)
theorem e_signC {K T : Tr} (h : kT K T) {n : Nat} (hx : (T 0 7).toInt = n) (hl : (n : Int) < (T 0 6).toInt) (c : Int32) : Ep (lt (st K 0 7 ((K 0 7) + 1)) fun K_15 => bd (f_X5_at K_15 (K_15 0 7)) fun r16 => bd (f_X5_sign c r16) fun r19 => lt (st K_15 0 1 r19) fun K_22 => if (K_22 0 1) = 30 then (fJ_X5_advance_J149  K_22) else (if (K_22 0 1) = 32 then (fJ_X5_advance_J149  K_22) else (if (K_22 0 1) = 33 then (fJ_X5_advance_J149  K_22) else (some K_22)))) (fun q => ∃ d, sgC c.toInt d (q 0 1).toInt ∧ ((((q 0 1).toInt = 30 ∨ (q 0 1).toInt = 32 ∨ (q 0 1).toInt = 33) ∧ (q 0 7).toInt = n + 2) ∨ ((¬ ((q 0 1).toInt = 30 ∨ (q 0 1).toInt = 32 ∨ (q 0 1).toInt = 33)) ∧ (q 0 7).toInt = n + 1)) ∧ (((n : Int) + 1 < (T 0 6).toInt ∧ d = (T 1 (n + 1)).toInt) ∨ ((T 0 6).toInt ≤ (n : Int) + 1 ∧ d = -1))) := by
  have b := h.2.2.1
  refine Ep_lt (fun K1 e1 => ?_)
  have e7 : (K1 0 7).toInt = n + 1 := by
    rw [e1, st_same, h.2.1]
    have : (T 0 7 + 1).toInt = (T 0 7).toInt + 1 := i_addK rfl (by decide) (by omega) (by omega)
    omega
  have hat : ∃ d : Int32, f_X5_at K1 (K1 0 7) = some d ∧ (((n : Int) + 1 < (T 0 6).toInt ∧ d.toInt = (T 1 (n + 1)).toInt) ∨ ((T 0 6).toInt ≤ (n : Int) + 1 ∧ d.toInt = -1)) := by
    by_cases hq : (n : Int) + 1 < (T 0 6).toInt
    · have h1 : kT K1 (st T 0 7 (T 0 7 + 1)) := kT_of h (by rw [e1, st_ne (by decide)]) (by rw [st_ne (by decide)]) (by rw [e1, st_same, st_same, h.2.1]) (by
        rw [st_same]
        have : (T 0 7 + 1).toInt = (T 0 7).toInt + 1 := i_addK rfl (by decide) (by omega) (by omega)
        omega) (by rw [e1, st_oth (by decide)]) (by rw [st_oth (by decide)])
      have := at_in h1 (x := K1 0 7) (n := n + 1) (by omega) (by rw [st_ne (by decide)]; omega)
      rw [st_oth (by decide)] at this
      exact ⟨_, this, Or.inl ⟨hq, rfl⟩⟩
    · have h1 : kT K1 (st T 0 7 (T 0 7 + 1)) := kT_of h (by rw [e1, st_ne (by decide)]) (by rw [st_ne (by decide)]) (by rw [e1, st_same, st_same, h.2.1]) (by
        rw [st_same]
        have : (T 0 7 + 1).toInt = (T 0 7).toInt + 1 := i_addK rfl (by decide) (by omega) (by omega)
        omega) (by rw [e1, st_oth (by decide)]) (by rw [st_oth (by decide)])
      have := at_out h1 (x := K1 0 7) (by rw [st_ne (by decide)]; omega)
      exact ⟨_, this, Or.inr ⟨by omega, by decide⟩⟩
  obtain ⟨d, hd, hd2⟩ := hat
  rw [hd]
  show Ep (bd (f_X5_sign c d) _) _
  refine Ep_bd (e_sign c d) (fun r hr => Ep_lt (fun K2 e2 => ?_))
  have f1 : K2 0 1 = r := by rw [e2, st_same]
  have f7 : K2 0 7 = K1 0 7 := by rw [e2, st_ne (by decide)]
  have f8 : (K2 0 7 + 1).toInt = n + 2 := by
    rw [f7]
    have : (K1 0 7 + 1).toInt = (K1 0 7).toInt + 1 := i_addK rfl (by decide) (by omega) (by omega)
    omega
  have j : (K2 0 1).toInt = 30 ∨ (K2 0 1).toInt = 32 ∨ (K2 0 1).toInt = 33 → Ep (fJ_X5_advance_J149 K2) (fun q => ∃ d, sgC c.toInt d (q 0 1).toInt ∧ ((((q 0 1).toInt = 30 ∨ (q 0 1).toInt = 32 ∨ (q 0 1).toInt = 33) ∧ (q 0 7).toInt = n + 2) ∨ ((¬ ((q 0 1).toInt = 30 ∨ (q 0 1).toInt = 32 ∨ (q 0 1).toInt = 33)) ∧ (q 0 7).toInt = n + 1)) ∧ (((n : Int) + 1 < (T 0 6).toInt ∧ d = (T 1 (n + 1)).toInt) ∨ ((T 0 6).toInt ≤ (n : Int) + 1 ∧ d = -1))) := by
    intro hk
    refine Ep_mono e_149 (fun q hq => ?_)
    rw [← f1] at hr
    exact ⟨_, by rw [hq.2]; exact hr, Or.inl ⟨by rw [hq.2]; exact hk, by rw [hq.1]; exact f8⟩, hd2⟩
  refine Ep_ite (fun c1 => j (Or.inl (i_is (by decide) c1))) (fun c1 => Ep_ite (fun c2 => j (Or.inr (Or.inl (i_is (by decide) c2)))) (fun c2 => Ep_ite (fun c3 => j (Or.inr (Or.inr (i_is (by decide) c3)))) (fun c3 => Ep_some ?_)))
  have k1 := i_isn (k := 30) (by decide) c1
  have k2 := i_isn (k := 32) (by decide) c2
  have k3 := i_isn (k := 33) (by decide) c3
  exact ⟨_, by rw [f1]; exact hr, Or.inr ⟨by omega, by rw [f7]; exact e7⟩, hd2⟩
theorem sg_join {c d d' r k w m : Int} (a : sgC c d r) (b : sgR c d' k w m) (hd : d = d' ∨ (d = -1 ∧ d' = 0)) : kI r k w ∧ 4 ≤ k ∧ (((r = 30 ∨ r = 32 ∨ r = 33) ∧ m = 2) ∨ (¬ (r = 30 ∨ r = 32 ∨ r = 33) ∧ m = 1)) := by
  unfold sgR at b
  rcases b with ⟨rfl, rfl, b⟩ | ⟨rfl, rfl, b⟩ | ⟨rfl, rfl, rfl, rfl⟩ | ⟨b0, rfl, rfl, rfl⟩ | b
  · simp [sgC] at a
    rcases a with ⟨a, rfl⟩ | ⟨a, rfl⟩ | ⟨a, a2, rfl⟩ <;> rcases b with ⟨b, rfl, rfl⟩ | ⟨b, rfl, rfl⟩ | ⟨b, b2, rfl, rfl⟩ <;> first | (exfalso; omega) | simp [kI]
  · simp [sgC] at a
    rcases a with ⟨a, rfl⟩ | ⟨a, rfl⟩ <;> rcases b with ⟨b, rfl, rfl⟩ | ⟨b, rfl, rfl⟩ <;> first | (exfalso; omega) | simp [kI]
  · simp [sgC] at a
    subst a
    simp [kI]
  · rcases b0 with rfl | rfl | rfl | rfl | rfl | rfl | rfl | rfl <;> simp [sgC] at a <;> subst a <;> simp [kI]
  · obtain ⟨b1, b2, b3, b4, b5, b6, b7, b8, b9, b10, b11, rfl, rfl⟩ := b
    simp [sgC, b1, b2, b3, b4, b5, b6, b7, b8, b9, b10] at a
    subst a
    simp [kI]
/-- what a token's reading leaves: next, kind and value -/
def tkQ (T K1 T1 : Tr) : Prop := K1 0 7 = T1 0 7 ∧ kI (K1 0 1).toInt (T1 0 8).toInt (T1 0 9).toInt ∧ ((T1 0 8).toInt = 2 → K1 0 3 = T1 0 9) ∧ ((T1 0 8).toInt = 3 → nR (K1 0 3) (T1 0 9)) ∧ ((T 0 7).toInt < (T1 0 7).toInt ∧ (T1 0 7).toInt ≤ (T 0 6).toInt)
theorem q_sign {K T : Tr} (h : kT K T) {n : Nat} (hx : (T 0 7).toInt = n) (hl : (n : Int) < (T 0 6).toInt) {x : Option Tr} {c : Int32} (hc : c = T 1 n) (hx2 : x = (lt (st K 0 7 ((K 0 7) + 1)) fun K_15 => bd (f_X5_at K_15 (K_15 0 7)) fun r16 => bd (f_X5_sign c r16) fun r19 => lt (st K_15 0 1 r19) fun K_22 => if (K_22 0 1) = 30 then (fJ_X5_advance_J149  K_22) else (if (K_22 0 1) = 32 then (fJ_X5_advance_J149  K_22) else (if (K_22 0 1) = 33 then (fJ_X5_advance_J149  K_22) else (some K_22))))) : E2 x (f_X8_signToken T) (tkQ T) := by
  rw [hx2]
  refine E2_ep (e_signC h hx hl c) (e_signT hx hl h.2.2.1.2.2) (fun K1 T1 h1 h2 => ?_)
  obtain ⟨d, a1, a2, a3⟩ := h1
  obtain ⟨m, d', b1, b2, b3⟩ := h2
  rw [hc] at a1
  obtain ⟨c1, c2, c3⟩ := sg_join a1 b1 (by rcases a3 with ⟨g1, g2⟩ | ⟨g1, g2⟩ <;> rcases b3 with ⟨g3, g4⟩ | ⟨g3, g4⟩ <;> omega)
  have e7 : (K1 0 7).toInt = (T1 0 7).toInt := by
    rcases a2 with ⟨g1, g2⟩ | ⟨g1, g2⟩ <;> rcases c3 with ⟨g3, g4⟩ | ⟨g3, g4⟩
    · omega
    · exact absurd g1 g3
    · exact absurd g3 g1
    · omega
  have e8 : m = 1 ∨ (m = 2 ∧ (n : Int) + 1 < (T 0 6).toInt) := by
    rcases b3 with ⟨g3, g4⟩ | ⟨g3, g4⟩
    · rcases c3 with ⟨g5, g6⟩ | ⟨g5, g6⟩
      · exact Or.inr ⟨g6, g3⟩
      · exact Or.inl g6
    · left
      unfold sgR at b1
      rcases b1 with ⟨_, _, b1⟩ | ⟨_, _, b1⟩ | ⟨_, _, _, b1⟩ | ⟨_, _, _, b1⟩ | b1
      · rcases b1 with ⟨b, _⟩ | ⟨b, _⟩ | ⟨_, _, _, b⟩
        · exfalso; omega
        · exfalso; omega
        · exact b
      · rcases b1 with ⟨b, _⟩ | ⟨_, _, b⟩
        · exfalso; omega
        · exact b
      · exact b1
      · exact b1
      · exact b1.2.2.2.2.2.2.2.2.2.2.2.2
  exact ⟨Int32.toInt_inj.mp e7, c1, fun g => by omega, fun g => by omega, by omega, by omega⟩
-- 62.y.d1
/-! words: packed alike -/
theorem i_nn {x : Int32} (h : 0 ≤ x.toInt) : x.toInt = (x.toBitVec.toNat : Int) ∧ x.toBitVec.toNat < 2147483648 := by
  have e : x.toInt = x.toBitVec.toInt := rfl
  have hl := x.toBitVec.isLt
  rw [e, BitVec.toInt_eq_toNat_cond] at h ⊢
  split at h <;> rename_i g
  · rw [if_pos g]; exact ⟨rfl, by omega⟩
  · exfalso; omega
theorem i_of {x : Int32} {n : Nat} (h : x.toBitVec.toNat = n) (hn : n < 2147483648) : x.toInt = n := by
  have e : x.toInt = x.toBitVec.toInt := rfl
  rw [e, BitVec.toInt_eq_toNat_cond, h, if_pos (by omega)]
theorem shN {x s : Int32} {k : Nat} (hs : s.toBitVec.smod 32 = BitVec.ofNat 32 k) (hk : k < 32) : (x <<< s).toBitVec = x.toBitVec <<< k := by
  rw [Int32.toBitVec_shiftLeft, hs]
  apply BitVec.eq_of_toNat_eq
  simp only [BitVec.shiftLeft_eq', BitVec.toNat_shiftLeft, BitVec.toNat_ofNat]
  rw [Nat.mod_eq_of_lt (show k < 2 ^ 32 by omega)]
theorem shT {x s : Int32} {k : Nat} (hs : s.toBitVec.smod 32 = BitVec.ofNat 32 k) (hk : k < 32) (hx : 0 ≤ x.toInt) (hb : x.toInt * (2 ^ k : Nat) < 2147483648) : (x <<< s).toInt = x.toInt * (2 ^ k : Nat) := by
  obtain ⟨e1, e2⟩ := i_nn hx
  have e3 : x.toBitVec.toNat * 2 ^ k < 2147483648 := by
    rw [e1, ← Int.natCast_mul] at hb; omega
  have e4 : (x <<< s).toBitVec.toNat = x.toBitVec.toNat * 2 ^ k := by
    rw [shN hs hk, BitVec.toNat_shiftLeft, Nat.shiftLeft_eq, Nat.mod_eq_of_lt (by omega)]
  rw [i_of e4 e3, e1, Int.natCast_mul]
theorem sh5 {x v : Int32} (hx : 0 ≤ x.toInt ∧ x.toInt < 33554432) (hv : 0 ≤ v.toInt ∧ v.toInt < 32) : ((x <<< ((5 : Int32) &&& 31)) ||| v).toInt = x.toInt * 32 + v.toInt := by
  obtain ⟨e1, e2⟩ := i_nn hx.1
  obtain ⟨f1, f2⟩ := i_nn hv.1
  have e3 : (x <<< ((5 : Int32) &&& 31)).toBitVec.toNat = x.toBitVec.toNat <<< 5 := by
    rw [shN (k := 5) (by decide) (by decide), BitVec.toNat_shiftLeft, Nat.mod_eq_of_lt (by rw [Nat.shiftLeft_eq]; omega)]
  have e4 : ((x <<< ((5 : Int32) &&& 31)) ||| v).toBitVec.toNat = x.toBitVec.toNat * 32 + v.toBitVec.toNat := by
    rw [Int32.toBitVec_or, BitVec.toNat_or, e3, ← Nat.shiftLeft_add_eq_or_of_lt (by omega), Nat.shiftLeft_eq]
  rw [i_of e4 (by omega), e1, f1]
  omega
def pkL (f : Nat → Int) : Nat → Int
  | 0 => 0
  | n + 1 => pkL f n * 32 + f n
theorem pkL_cg {f g : Nat → Int} : ∀ {n : Nat}, (∀ i, i < n → f i = g i) → pkL f n = pkL g n
  | 0, _ => rfl
  | n + 1, h => by
    show pkL f n * 32 + f n = pkL g n * 32 + g n
    rw [pkL_cg (fun i hi => h i (Nat.lt_succ_of_lt hi)), h n (Nat.lt_succ_self n)]
theorem pkL_inj {f g : Nat → Int} : ∀ {n : Nat}, (∀ i, i < n → 0 ≤ f i ∧ f i < 32) → (∀ i, i < n → 0 ≤ g i ∧ g i < 32) → pkL f n = pkL g n → ∀ i, i < n → f i = g i
  | 0, _, _, _, i, hi => absurd hi (Nat.not_lt_zero i)
  | n + 1, hf, hg, e, i, hi => by
    have e : pkL f n * 32 + f n = pkL g n * 32 + g n := e
    have h1 := hf n (Nat.lt_succ_self n)
    have h2 := hg n (Nat.lt_succ_self n)
    rcases Nat.lt_succ_iff_lt_or_eq.mp hi with q | q
    · exact pkL_inj (fun i hi => hf i (Nat.lt_succ_of_lt hi)) (fun i hi => hg i (Nat.lt_succ_of_lt hi)) (by omega) i q
    · subst q; omega
theorem pkL_bd {f : Nat → Int} : ∀ {n : Nat}, (∀ i, i < n → 0 ≤ f i ∧ f i < 32) → 0 ≤ pkL f n ∧ pkL f n < 32 ^ n
  | 0, _ => ⟨Int.le_refl 0, by show (0 : Int) < 32 ^ 0; decide⟩
  | n + 1, h => by
    have h1 := pkL_bd (f := f) (n := n) (fun i hi => h i (Nat.lt_succ_of_lt hi))
    have h2 := h n (Nat.lt_succ_self n)
    show 0 ≤ pkL f n * 32 + f n ∧ pkL f n * 32 + f n < 32 ^ (n + 1)
    rw [Int.pow_succ]
    constructor <;> omega
/-- the letters of the word that begins at a and has n letters, behind them noughts -/
def ltr (T : Tr) (a n i : Nat) : Int := if i < n then (T 1 (a + i)).toInt - 96 else 0
theorem pk_pad {f : Nat → Int} {n : Nat} (hn : n ≤ 6) (h : ∀ i, n ≤ i → f i = 0) : pkL f 6 = pkL f n * (2 ^ (5 * (6 - n)) : Nat) := by
  have : n = 0 ∨ n = 1 ∨ n = 2 ∨ n = 3 ∨ n = 4 ∨ n = 5 ∨ n = 6 := by omega
  rcases this with rfl | rfl | rfl | rfl | rfl | rfl | rfl
  · simp [pkL, h 0 (by omega), h 1 (by omega), h 2 (by omega), h 3 (by omega), h 4 (by omega), h 5 (by omega)]
  · simp [pkL, h 1 (by omega), h 2 (by omega), h 3 (by omega), h 4 (by omega), h 5 (by omega)]; omega
  · simp [pkL, h 2 (by omega), h 3 (by omega), h 4 (by omega), h 5 (by omega)]; omega
  · simp [pkL, h 3 (by omega), h 4 (by omega), h 5 (by omega)]; omega
  · simp [pkL, h 4 (by omega), h 5 (by omega)]; omega
  · simp [pkL, h 5 (by omega)]
  · simp
-- 62.y.d2
/-! the words of the language, as the reference lays them, and as the class packs them -/
def wr (j : Nat) : Int32 := List.getD [112, 108, 97, 99, 101, 32, 112, 101, 114, 115, 111, 110, 32, 112, 105, 101, 99, 101, 32, 119, 97, 105, 116, 32, 114, 117, 108, 101, 32, 99, 117, 114, 118, 101, 32, 115, 101, 101, 100, 32, 108, 97, 119, 32, 110, 101, 116, 32, 115, 104, 101, 108, 102, 32, 102, 108, 111, 111, 114, 32, 115, 101, 97, 116, 32, 104, 97, 108, 108, 32, 102, 105, 114, 115, 116, 32, 108, 105, 103, 104, 116, 32, 108, 97, 115, 116, 32, 108, 105, 102, 116, 32, 102, 97, 108, 108, 32, 115, 116, 101, 97, 108, 32, 97, 110, 100, 32, 111, 114, 32, 110, 111, 116, 32, 104, 101, 97, 118, 121, 32, 102, 114, 97, 105, 108, 32, 97, 98, 111, 118, 101, 32, 107, 105, 110, 100, 32, 97, 98, 108, 101, 32, 115, 116, 111, 112, 32, 98, 101, 97, 114, 115, 32] j 0
def wst (k : Nat) : Nat := List.getD [0, 6, 13, 19, 24, 29, 35, 40, 44, 48, 54, 60, 65, 70, 76, 82, 87, 92, 97, 103, 107, 110, 114, 120, 126, 132, 137, 142, 147, 153] k 0
def wln (k : Nat) : Nat := List.getD [5, 6, 5, 4, 4, 5, 4, 3, 3, 5, 5, 4, 4, 5, 5, 4, 4, 4, 5, 3, 2, 3, 5, 5, 5, 4, 4, 4, 5] k 0
def wv (k : Nat) : Int32 := List.getD [549489824, 542723566, 546475168, 773115904, 626398208, 123295904, 642945024, 404455424, 475660288, 646099136, 214416960, 642830336, 269889536, 211373696, 412328576, 404344832, 412307456, 202780672, 658670976, 522190848, 48365568, 486146048, 273734432, 220243328, 36165792, 378998784, 36049920, 659013632, 72403552] k 0
def cOf (k : Nat) : Nat := if k = 19 then 20 else if k = 20 then 19 else k
def wT (T : Tr) : Prop := ∀ j, j < 153 → T 4 j = wr j
def wm (T : Tr) (a n k : Nat) : Prop := wln k = n ∧ ∀ i, i < n → T 1 (a + i) = wr (wst k + i)
theorem w_st : ∀ k, k < 29 → wst (k + 1) = wst k + wln k + 1 ∧ wst k + wln k < 153 ∧ 1 ≤ wln k ∧ wln k ≤ 6 := by decide +kernel
theorem w_bl : ∀ k, k < 29 → wr (wst k + wln k) = 32 := by decide +kernel
theorem w_nb : ∀ k, k < 29 → ∀ i, i < wln k → ¬ wr (wst k + i) = 32 := by decide +kernel
theorem w_lt : ∀ k, k < 29 → ∀ i, i < wln k → 97 ≤ (wr (wst k + i)).toInt ∧ (wr (wst k + i)).toInt ≤ 122 := by decide +kernel
theorem w_in {k : Nat} (hk : k < 29) {i : Nat} (hi : i ≤ wln k) : wst k + i < 153 := by have := w_st k hk; omega
def wQ (T : Tr) (a n : Nat) (r : Int32) : Prop := (∃ k : Nat, k < 29 ∧ r.toInt = (k : Int) ∧ wm T a n k) ∨ (r.toInt = -1 ∧ ∀ k : Nat, k < 29 → ¬ wm T a n k)
theorem e_wordAt {T : Tr} (hw : wT T) {a n : Nat} {x1 x2 : Int32} (hx1 : x1.toInt = a) (hx2 : x2.toInt = a + n) (han : a + n ≤ 700) : Ep (f_X8_wordAt T x1 x2) (wQ T a n) := by
  unfold f_X8_wordAt fL_X8_wordAt_L5
  have main : ∀ (N k : Nat) (x3 x4 : Int32), k ≤ 29 → x3.toInt = k → x4.toInt = wst k → (∀ j, j < k → ¬ wm T a n j) → Ep (lpF (fun _ _ => none) (fB_X8_wordAt_L5 T x1 x2) N x3 x4) (wQ T a n) := by
    intro N
    induction N with
    | zero => intro k x3 x4 _ _ _ _; exact Ep_none
    | succ N ih =>
      intro k x3 x4 hk h3 h4 hno
      show Ep (fB_X8_wordAt_L5 T x1 x2 (lpF (fun _ _ => none) (fB_X8_wordAt_L5 T x1 x2) N) x3 x4) _
      generalize lpF (fun _ _ => none) (fB_X8_wordAt_L5 T x1 x2) N = k5 at ih ⊢
      unfold fB_X8_wordAt_L5
      refine Ep_ite (fun c => Ep_some ?_) (fun c => ?_)
      · have c := tq_le (a := 153) (by decide) h4 c
        right
        refine ⟨by decide, fun j hj => ?_⟩
        rcases Nat.lt_or_ge k 29 with q | q
        · have := w_st k q; omega
        · exact hno j (by omega)
      · have c := tq_len (a := 153) (by decide) h4 c
        have hk : k < 29 := by
          rcases Nat.lt_or_ge k 29 with q | q
          · exact q
          · have : k = 29 := by omega
            subst this
            have : wst 29 = 153 := by decide
            omega
        obtain ⟨s1, s2, s3, s4⟩ := w_st k hk
        have nxt : ∀ x5 : Int32, x5.toInt = wln k → ¬ wm T a n k → Ep (lt (x4 + (x5 + 1)) fun y7 => lt (x3 + 1) fun y8 => k5 y8 y7) (wQ T a n) := by
          intro x5 h5 hm
          refine Ep_lt (fun y7 e7 => Ep_lt (fun y8 e8 => ih (k + 1) y8 y7 (by omega) ?_ ?_ ?_))
          · rw [e8, i_addK h3 (y := 1) (by decide) (by omega) (by omega)]; omega
          · have q1 : (x5 + 1).toInt = wln k + 1 := i_addK h5 (by decide) (by omega) (by omega)
            have q2 : (x4 + (x5 + 1)).toInt = wst k + (wln k + 1) := i_addK h4 q1 (by omega) (by omega)
            rw [e7, q2, s1]; omega
          · intro j hj
            rcases Nat.lt_succ_iff_lt_or_eq.mp hj with q | q
            · exact hno j q
            · rw [q]; exact hm
        have cmp : ∀ (M j : Nat) (x5 x6 x7 : Int32), x5.toInt = wln k → j ≤ wln k → x7.toInt = j → ((x6 = 1 ∧ wln k = n ∧ ∀ i, i < j → T 1 (a + i) = wr (wst k + i)) ∨ (x6 = 0 ∧ ¬ wm T a n k)) → Ep (lpF (fun _ _ => none) (fB_X8_wordAt_L57 k5 T x1 x2 x3 x4 x5) M x6 x7) (wQ T a n) := by
          intro M
          induction M with
          | zero => intro j x5 x6 x7 _ _ _ _; exact Ep_none
          | succ M ihM =>
            intro j x5 x6 x7 h5 hj h7 h6
            show Ep (fB_X8_wordAt_L57 k5 T x1 x2 x3 x4 x5 (lpF (fun _ _ => none) (fB_X8_wordAt_L57 k5 T x1 x2 x3 x4 x5) M) x6 x7) _
            have ihM := ihM (x5 := x5)
            generalize lpF (fun _ _ => none) (fB_X8_wordAt_L57 k5 T x1 x2 x3 x4 x5) M = k57 at ihM ⊢
            unfold fB_X8_wordAt_L57
            refine Ep_ite (fun c1 => ?_) (fun c1 => ?_)
            · have c1 := tq_le h5 h7 c1
              unfold fJ_X8_wordAt_J104
              refine Ep_ite (fun c2 => ?_) (fun c2 => Ep_some ?_)
              · rcases h6 with ⟨g, _⟩ | ⟨_, g⟩
                · rw [g] at c2; exact absurd c2 (by decide)
                · exact nxt x5 h5 g
              · rcases h6 with ⟨_, g1, g2⟩ | ⟨g, _⟩
                · exact Or.inl ⟨k, hk, h3, g1, fun i hi => g2 i (by omega)⟩
                · exact absurd g c2
            · have c1 := tq_len h5 h7 c1
              refine Ep_ite (fun c2 => ?_) (fun c2 => ?_)
              · unfold fJ_X8_wordAt_J104
                rw [if_pos c2]
                rcases h6 with ⟨g, _⟩ | ⟨_, g⟩
                · rw [g] at c2; exact absurd c2 (by decide)
                · exact nxt x5 h5 g
              · rcases h6 with ⟨_, g1, g2⟩ | ⟨g, _⟩
                · have q1 : (x4 + x7).toInt = wst k + j := i_addK h4 h7 (by omega) (by omega)
                  have q2 : (x1 + x7).toInt = a + j := i_addK hx1 h7 (by omega) (by omega)
                  have q3 : (x4 + x7).toNatClampNeg = wst k + j := by simp only [i_cl]; omega
                  have q4 : (x1 + x7).toNatClampNeg = a + j := by simp only [i_cl]; omega
                  rw [q3, q4, hw (wst k + j) (w_in hk hj)]
                  have q5 : (x7 + 1).toInt = ((j + 1 : Nat) : Int) := by rw [i_addK h7 (y := 1) (by decide) (by omega) (by omega)]; omega
                  refine Ep_ck (Ep_ck (Ep_ite (fun c3 => Ep_lt (fun y e => ihM (j + 1) 1 y h5 (by omega) (by rw [e]; exact q5) (Or.inl ⟨rfl, g1, fun i hi => ?_⟩))) (fun c3 => Ep_lt (fun y e => ihM (j + 1) 0 y h5 (by omega) (by rw [e]; exact q5) (Or.inr ⟨rfl, fun g => c3 (g.2 j (by omega)).symm⟩)))))
                  rcases Nat.lt_succ_iff_lt_or_eq.mp hi with q | q
                  · exact g2 i q
                  · rw [q]; exact c3.symm
                · exact absurd g c2
        have fnd : ∀ (M i : Nat) (x5 : Int32), i ≤ wln k → x5.toInt = i → Ep (lpF (fun _ => none) (fB_X8_wordAt_L18 k5 T x1 x2 x3 x4) M x5) (wQ T a n) := by
          intro M
          induction M with
          | zero => intro i x5 _ _; exact Ep_none
          | succ M ihM =>
            intro i x5 hi h5
            show Ep (fB_X8_wordAt_L18 k5 T x1 x2 x3 x4 (lpF (fun _ => none) (fB_X8_wordAt_L18 k5 T x1 x2 x3 x4) M) x5) _
            generalize lpF (fun _ => none) (fB_X8_wordAt_L18 k5 T x1 x2 x3 x4) M = k18 at ihM ⊢
            unfold fB_X8_wordAt_L18
            have q1 : (x4 + x5).toInt = wst k + i := i_addK h4 h5 (by omega) (by omega)
            have q3 : (x4 + x5).toNatClampNeg = wst k + i := by simp only [i_cl]; omega
            rw [q3, hw (wst k + i) (w_in hk hi)]
            refine Ep_ck (Ep_ite (fun c1 => ?_) (fun c1 => Ep_lt (fun y e => ihM (i + 1) y ?_ (by rw [e, i_addK h5 (y := 1) (by decide) (by omega) (by omega)]; omega))))
            · have hi2 : i = wln k := by
                rcases Nat.lt_or_eq_of_le hi with q | q
                · exact absurd c1 (w_nb k hk i q)
                · exact q
              subst hi2
              unfold fJ_X8_wordAt_J39 fL_X8_wordAt_L57
              have q6 : (x2 - x1).toInt = n := by rw [i_subK hx2 hx1 (by omega) (by omega)]; omega
              refine Ep_ite (fun c2 => cmp 2000 0 x5 1 0 h5 (by omega) (by decide) (Or.inl ⟨rfl, ?_, fun i hi => absurd hi (Nat.not_lt_zero i)⟩)) (fun c2 => cmp 2000 0 x5 0 0 h5 (by omega) (by decide) (Or.inr ⟨rfl, fun g => c2 (Int32.toInt_inj.mp ?_)⟩))
              · rw [c2, q6] at h5; omega
              · rw [q6, h5, g.1]
            · rcases Nat.lt_or_eq_of_le hi with q | q
              · exact q
              · rw [q] at c1; exact absurd (w_bl k hk) c1
        unfold fL_X8_wordAt_L18
        exact fnd 2000 0 0 (by omega) (by decide)
  exact main 2000 0 0 0 (by omega) (by decide) (by decide) (fun j hj => absurd hj (Nat.not_lt_zero j))
-- 62.y.d3
/-! a word, packed by both -/
def ltt (T : Tr) (a n : Nat) : Prop := ∀ i, i < n → 97 ≤ (T 1 (a + i)).toInt ∧ (T 1 (a + i)).toInt ≤ 122
theorem ltr_bd {T : Tr} {a n : Nat} (h : ltt T a n) (i : Nat) : 0 ≤ ltr T a n i ∧ ltr T a n i < 32 := by
  unfold ltr
  by_cases c : i < n
  · rw [if_pos c]; have := h i c; omega
  · rw [if_neg c]; omega
theorem pk6 {f : Nat → Int} (h : ∀ i, 0 ≤ f i ∧ f i < 32) {i : Nat} (hi : i < 6) : 0 ≤ pkL f i ∧ pkL f i < 33554432 := by
  have h1 := pkL_bd (f := f) (n := i) (fun i _ => h i)
  refine ⟨h1.1, ?_⟩
  have : i = 0 ∨ i = 1 ∨ i = 2 ∨ i = 3 ∨ i = 4 ∨ i = 5 := by omega
  rcases this with rfl | rfl | rfl | rfl | rfl | rfl <;> (have := h1.2; omega)
theorem e_packed {T : Tr} {a n : Nat} {x1 x2 : Int32} (hx1 : x1.toInt = a) (hx2 : x2.toInt = a + n) (han : a + n ≤ 700) (hl : ltt T a n) : Ep (f_X8_packed T x1 x2) (fun r => r.toInt = pkL (ltr T a n) 6) := by
  unfold f_X8_packed fL_X8_packed_L5
  have main : ∀ (N i : Nat) (x3 x4 : Int32), i ≤ 6 → x4.toInt = a + i → x3.toInt = pkL (ltr T a n) i → Ep (lpF (fun _ _ => none) (fB_X8_packed_L5 T x1 x2) N x3 x4) (fun r => r.toInt = pkL (ltr T a n) 6) := by
    intro N
    induction N with
    | zero => intro i x3 x4 _ _ _; exact Ep_none
    | succ N ih =>
      intro i x3 x4 hi h4 h3
      show Ep (fB_X8_packed_L5 T x1 x2 (lpF (fun _ _ => none) (fB_X8_packed_L5 T x1 x2) N) x3 x4) _
      generalize lpF (fun _ _ => none) (fB_X8_packed_L5 T x1 x2) N = k5 at ih ⊢
      unfold fB_X8_packed_L5
      have q6 : (x1 + 6).toInt = a + 6 := i_addK hx1 (by decide) (by omega) (by omega)
      refine Ep_ite (fun c => Ep_some ?_) (fun c => ?_)
      · have c := tq_le q6 h4 c
        have : i = 6 := by omega
        rw [h3, this]
      · have c := tq_len q6 h4 c
        have hi : i < 6 := by omega
        have p6 := pk6 (ltr_bd hl) hi
        have q1 : (x4 + 1).toInt = a + ((i + 1 : Nat) : Int) := by rw [i_addK h4 (y := 1) (by decide) (by omega) (by omega)]; omega
        refine Ep_ite (fun c2 => Ep_lt (fun y e => Ep_lt (fun z f => ih (i + 1) y z (by omega) (by rw [f]; exact q1) ?_))) (fun c2 => Ep_ck (Ep_lt (fun y e => Ep_lt (fun z f => ih (i + 1) y z (by omega) (by rw [f]; exact q1) ?_))))
        · have c2 := tq_le hx2 h4 c2
          rw [e, sh5 (by rw [h3]; exact p6) (by decide), h3]
          show pkL (ltr T a n) i * 32 + 0 = pkL (ltr T a n) i * 32 + ltr T a n i
          rw [show ltr T a n i = 0 from if_neg (by omega)]
        · have c2 := tq_len hx2 h4 c2
          have q3 : x4.toNatClampNeg = a + i := by simp only [i_cl]; omega
          have q4 := hl i (by omega)
          have q5 : (T 1 (a + i) - 96).toInt = (T 1 (a + i)).toInt - 96 := i_subK rfl (by decide) (by omega) (by omega)
          rw [e, q3, sh5 (by rw [h3]; exact p6) (by rw [q5]; omega), h3, q5]
          show pkL (ltr T a n) i * 32 + ((T 1 (a + i)).toInt - 96) = pkL (ltr T a n) i * 32 + ltr T a n i
          rw [show ltr T a n i = (T 1 (a + i)).toInt - 96 from if_pos (by omega)]
  exact main 2000 0 0 x1 (by omega) (by omega) (by show (0 : Int32).toInt = 0; decide)
def wg (k i : Nat) : Int := if i < wln k then (wr (wst k + i)).toInt - 96 else 0
theorem wg_bd {k : Nat} (hk : k < 29) (i : Nat) : 0 ≤ wg k i ∧ wg k i < 32 := by
  unfold wg
  by_cases c : i < wln k
  · rw [if_pos c]; have := w_lt k hk i c; omega
  · rw [if_neg c]; omega
theorem w_pk : ∀ k, k < 29 → (wv (cOf k)).toInt = pkL (wg k) 6 := by decide +kernel
theorem w_ne : ∀ k, k < 29 → ∀ j, j < 29 → wv k = wv j → k = j := by decide +kernel
theorem w_key {T : Tr} {a n k : Nat} (hl : ltt T a n) (hn : n ≤ 6) (hk : k < 29) : wm T a n k ↔ (wv (cOf k)).toInt = pkL (ltr T a n) 6 := by
  rw [w_pk k hk]
  constructor
  · rintro ⟨h1, h2⟩
    refine pkL_cg (fun i _ => ?_)
    unfold wg ltr
    rw [h1]
    by_cases c : i < n
    · rw [if_pos c, if_pos c, h2 i c]
    · rw [if_neg c, if_neg c]
  · intro e
    have e := pkL_inj (fun i _ => wg_bd hk i) (fun i _ => ltr_bd hl i) e
    have h4 := w_st k hk
    have e1 : wln k = n := by
      rcases Nat.lt_trichotomy (wln k) n with q | q | q
      · have e := e (wln k) (by omega)
        have e1 : wg k (wln k) = 0 := if_neg (by omega)
        have e2 : ltr T a n (wln k) = (T 1 (a + wln k)).toInt - 96 := if_pos q
        have := hl (wln k) q
        omega
      · exact q
      · have e := e n (by omega)
        have e1 : wg k n = (wr (wst k + n)).toInt - 96 := if_pos q
        have e2 : ltr T a n n = 0 := if_neg (by omega)
        have := w_lt k hk n q
        omega
    refine ⟨e1, fun i hi => Int32.toInt_inj.mp ?_⟩
    have e := e i (by omega)
    have e2 : wg k i = (wr (wst k + i)).toInt - 96 := if_pos (by omega)
    have e3 : ltr T a n i = (T 1 (a + i)).toInt - 96 := if_pos hi
    omega
def wC (K : Tr) : Prop := ∀ j, j < 29 → K 6 j = wv j
theorem e_L115 {K0 : Tr} (hw : wC K0) (M : Nat) : ∀ (w : Nat) (x3 : Int32) (K : Tr), w ≤ 29 → x3.toInt = w → (∀ a j, ¬ (a = 0 ∧ j = 1) → K a j = K0 a j) → (((K 0 1).toInt = 43 ∧ ∀ v, v < w → ¬ wv v = K0 0 3) ∨ (∃ v, v < 29 ∧ (K 0 1).toInt = (v : Nat) ∧ wv v = K0 0 3)) → Ep (lpF (fun _ _ => none) fB_X5_readWord_L115 M x3 K) (fun q => (∀ a j, ¬ (a = 0 ∧ j = 1) → q a j = K0 a j) ∧ (((q 0 1).toInt = 43 ∧ ∀ v, v < 29 → ¬ wv v = K0 0 3) ∨ (∃ v, v < 29 ∧ (q 0 1).toInt = (v : Nat) ∧ wv v = K0 0 3))) := by
  induction M with
  | zero => intro w x3 K _ _ _ _; exact Ep_none
  | succ M ih =>
    intro w x3 K hw1 h3 hf hi
    show Ep (fB_X5_readWord_L115 (lpF (fun _ _ => none) fB_X5_readWord_L115 M) x3 K) _
    generalize lpF (fun _ _ => none) fB_X5_readWord_L115 M = k5 at ih ⊢
    unfold fB_X5_readWord_L115
    refine Ep_ite (fun c => Ep_some ⟨hf, ?_⟩) (fun c => ?_)
    · have c := tq_le (a := 29) (by decide) h3 c
      rcases hi with ⟨g1, g2⟩ | g
      · exact Or.inl ⟨g1, fun v hv => g2 v (by omega)⟩
      · exact Or.inr g
    · have c := tq_len (a := 29) (by decide) h3 c
      have q3 : x3.toNatClampNeg = w := by simp only [i_cl]; omega
      have q1 : (x3 + 1).toInt = ((w + 1 : Nat) : Int) := by rw [i_addK h3 (y := 1) (by decide) (by omega) (by omega)]; omega
      rw [q3, hf 6 w (by omega), hf 0 3 (by omega), hw w (by omega)]
      refine Ep_ck (Ep_ite (fun c2 => Ep_lt (fun K1 e1 => Ep_lt (fun y e => ih (w + 1) y K1 (by omega) (by rw [e]; exact q1) ?_ ?_))) (fun c2 => Ep_lt (fun y e => ih (w + 1) y K (by omega) (by rw [e]; exact q1) hf ?_)))
      · intro b j hb
        rw [e1]
        rcases st_or (S := K) (a := 0) (i := 1) (b := b) (j := j) (v := x3) with g | g
        · rw [g]; exact hf b j hb
        · exact absurd g hb
      · exact Or.inr ⟨w, by omega, by rw [e1, st_same]; exact h3, c2⟩
      · rcases hi with ⟨g1, g2⟩ | g
        · refine Or.inl ⟨g1, fun v hv => ?_⟩
          rcases Nat.lt_succ_iff_lt_or_eq.mp hv with q | q
          · exact g2 v q
          · rw [q]; exact c2
        · exact Or.inr g
-- 62.y.d4
/-! a word, read by both -/
theorem sm_val (c : Int32) : (f_X5_isLetter c = some 0 ∧ ¬ (97 ≤ c.toInt ∧ c.toInt ≤ 122)) ∨ (f_X5_isLetter c = some 1 ∧ 97 ≤ c.toInt ∧ c.toInt ≤ 122) := by
  unfold f_X5_isLetter
  by_cases c1 : c < 97
  · have := tq_lt (x := c) (y := (97 : Int32)) rfl (b := 97) (by decide) c1
    rw [if_pos c1]; exact Or.inl ⟨rfl, by omega⟩
  · have k1 := tq_ltn (x := c) (y := (97 : Int32)) rfl (b := 97) (by decide) c1
    by_cases c2 : 122 < c
    · have := tq_lt (x := (122 : Int32)) (y := c) (a := 122) (by decide) rfl c2
      rw [if_neg c1, if_pos c2]; exact Or.inl ⟨rfl, by omega⟩
    · have k2 := tq_ltn (x := (122 : Int32)) (y := c) (a := 122) (by decide) rfl c2
      rw [if_neg c1, if_neg c2]; exact Or.inr ⟨rfl, k1, k2⟩
theorem E2_sl {α β γ : Type} {Q : α → β → Prop} {a : γ} {k : γ → Option α} {y : Option β} (h : E2 (k a) y Q) : E2 (bd (some a) k) y Q := h
theorem E2_sr {α β γ : Type} {Q : α → β → Prop} {a : γ} {k : γ → Option β} {x : Option α} (h : E2 x (k a) Q) : E2 x (bd (some a) k) Q := h
def min6 (n : Nat) : Nat := if n ≤ 6 then n else 6
/-- what reading a word, a number or a sign leaves: next, where it begins, kind and value -/
def tkW (K T K1 T1 : Tr) : Prop := kI (K1 0 1).toInt (T1 0 8).toInt (T1 0 9).toInt ∧ ((T1 0 8).toInt = 2 → K1 0 3 = T1 0 9) ∧ ((T1 0 8).toInt = 3 → nR (K1 0 3) (T1 0 9))
theorem shv {x y : Int32} {n : Nat} (hy : y.toInt = n) (h1 : 1 ≤ n) (h6 : n ≤ 6) (hx : 0 ≤ x.toInt) (hb : x.toInt < 32 ^ n) : (x <<< (((5 : Int32) * ((6 : Int32) - y)) &&& 31)).toInt = x.toInt * (2 ^ (5 * (6 - n)) : Nat) := by
  have : n = 1 ∨ n = 2 ∨ n = 3 ∨ n = 4 ∨ n = 5 ∨ n = 6 := by omega
  rcases this with rfl | rfl | rfl | rfl | rfl | rfl
  · have e : y = 1 := Int32.toInt_inj.mp (by rw [hy]; decide)
    subst e
    exact shT (k := 25) (by decide) (by decide) hx (by omega)
  · have e : y = 2 := Int32.toInt_inj.mp (by rw [hy]; decide)
    subst e
    exact shT (k := 20) (by decide) (by decide) hx (by omega)
  · have e : y = 3 := Int32.toInt_inj.mp (by rw [hy]; decide)
    subst e
    exact shT (k := 15) (by decide) (by decide) hx (by omega)
  · have e : y = 4 := Int32.toInt_inj.mp (by rw [hy]; decide)
    subst e
    exact shT (k := 10) (by decide) (by decide) hx (by omega)
  · have e : y = 5 := Int32.toInt_inj.mp (by rw [hy]; decide)
    subst e
    exact shT (k := 5) (by decide) (by decide) hx (by omega)
  · have e : y = 6 := Int32.toInt_inj.mp (by rw [hy]; decide)
    subst e
    exact shT (k := 0) (by decide) (by decide) hx (by omega)
theorem e_word_end {K T : Tr} (hC : wC K) (hT : wT T) {a n : Nat} {x1 : Int32} (h7 : K 0 7 = T 0 7) (h2 : (K 0 2).toInt = a) (h10 : (T 0 10).toInt = a) (ht7 : (T 0 7).toInt = a + n) (han : a + n ≤ 700) (hn : 1 ≤ n) (hl : ltt T a n) (hx : n ≤ 6 → x1.toInt = pkL (ltr T a n) n) : E2 (fJ_X5_readWord_J72 x1 K) (fJ_X8_token_J114 T) (fun K1 T1 => tkW K T K1 T1 ∧ K1 0 7 = T1 0 7 ∧ T1 0 7 = T 0 7 ∧ K1 0 2 = K 0 2 ∧ T1 0 10 = T 0 10) := by
  unfold fJ_X5_readWord_J72 fJ_X8_token_J114
  refine E2_ltl (fun y2 e2 => ?_)
  have ey : y2.toInt = n := by rw [e2, h7, i_subK ht7 h2 (by omega) (by omega)]; omega
  refine E2_br (e_wordAt hT h10 ht7 han) (fun r hr => E2_ltr (fun S1 f1 => ?_))
  have f9 : S1 0 9 = r := by rw [f1, st_same]
  have f7 : S1 0 7 = T 0 7 := by rw [f1, st_ne (by decide)]
  have f10 : S1 0 10 = T 0 10 := by rw [f1, st_ne (by decide)]
  have f1t : S1 1 = T 1 := by rw [f1]; rfl
  have fs : (S1 0 7 - S1 0 10).toInt = n := by rw [f7, f10, i_subK ht7 h10 (by omega) (by omega)]; omega
  by_cases c6 : n ≤ 6
  · refine E2_pl (Int32.le_iff_toInt_le.mpr (by rw [ey]; show (n : Int) ≤ 6; omega)) (E2_ltl (fun K4 e4 => E2_ltl (fun K5 e5 => ?_)))
    have hxx := hx c6
    have hbd := pkL_bd (f := ltr T a n) (n := n) (fun i _ => ltr_bd hl i)
    have hv : (K5 0 3).toInt = pkL (ltr T a n) 6 := by
      rw [e5, st_ne (by decide), e4, st_same, shv ey hn c6 (by rw [hxx]; exact hbd.1) (by rw [hxx]; exact hbd.2), hxx, pk_pad (f := ltr T a n) c6 (fun i hi => if_neg (Nat.not_lt.mpr hi))]
    have hC5 : wC K5 := fun j hj => by rw [e5, e4]; exact hC j hj
    have hk5 : (K5 0 1).toInt = 43 := by rw [e5, st_same]; decide
    have g7 : K5 0 7 = K 0 7 := by rw [e5, st_ne (by decide), e4, st_ne (by decide)]
    have g2 : K5 0 2 = K 0 2 := by rw [e5, st_ne (by decide), e4, st_ne (by decide)]
    have hL := e_L115 hC5 2000 0 0 K5 (by omega) (by decide) (fun _ _ _ => rfl) (Or.inl ⟨hk5, fun v hv => absurd hv (Nat.not_lt_zero v)⟩)
    unfold fL_X5_readWord_L115
    rcases hr with ⟨k, hk, hrk, hm⟩ | ⟨hr, hno⟩
    · refine E2_qr (fun q => by have := tq_lt (x := S1 0 9) (y := (0 : Int32)) (a := k) (b := 0) (by rw [f9]; exact hrk) (by decide) q; omega) ?_
      unfold fJ_X8_token_J162
      refine E2_ltr (fun S2 f2 => E2_qr (by rw [f2, st_same]; decide) ?_)
      refine E2_ep hL (Ep_some (r := S2) (Q := fun q => q = S2) rfl) (fun K1 T1 hK hT1 => ?_)
      subst hT1
      obtain ⟨fr, hK⟩ := hK
      have hw := (w_key hl c6 hk).mp hm
      rw [← hv] at hw
      have hw := Int32.toInt_inj.mp hw
      have hkk : cOf k < 29 ∧ ((k = 19 ∧ cOf k = 20) ∨ (k = 20 ∧ cOf k = 19) ∨ (k ≠ 19 ∧ k ≠ 20 ∧ cOf k = k)) := by
        unfold cOf
        split
        · omega
        · split
          · omega
          · omega
      have hc : (K1 0 1).toInt = cOf k := by
        rcases hK with ⟨_, g⟩ | ⟨v, hv1, hv2, hv3⟩
        · exact absurd hw (g (cOf k) hkk.1)
        · rw [hv2, w_ne v hv1 (cOf k) hkk.1 (hv3.trans hw.symm)]
      have t8 : (T1 0 8).toInt = 1 := by rw [f2, st_same]; decide
      have t9 : (T1 0 9).toInt = k := by rw [f2, st_ne (by decide), f9]; exact hrk
      refine ⟨⟨?_, fun g => by omega, fun g => by omega⟩, by rw [fr 0 7 (by omega), g7, h7, f2, st_ne (by decide), f7], by rw [f2, st_ne (by decide), f7], by rw [fr 0 2 (by omega), g2], by rw [f2, st_ne (by decide), f10]⟩
      unfold kI
      rw [hc, t8, t9]
      right; left
      omega
    · refine E2_pr (Int32.lt_iff_toInt_lt.mpr (by rw [f9, hr]; decide)) (E2_pr (Int32.le_iff_toInt_le.mpr (by rw [fs]; show (n : Int) ≤ 6; omega)) ?_)
      unfold fJ_X8_token_J162
      refine E2_ltr (fun S2 f2 => E2_pr (by rw [f2, st_same]) ?_)
      have s10 : S2 0 10 = T 0 10 := by rw [f2, st_ne (by decide), f10]
      have s7 : S2 0 7 = T 0 7 := by rw [f2, st_ne (by decide), f7]
      have s1 : S2 1 = T 1 := by rw [f2]; exact f1t
      have hl2 : ltt S2 a n := fun i hi => by rw [s1]; exact hl i hi
      have hlr : ltr S2 a n = ltr T a n := by funext i; unfold ltr; rw [s1]
      refine E2_ep (R' := fun q => (q 0 9).toInt = pkL (ltr T a n) 6 ∧ q 0 8 = S2 0 8 ∧ q 0 7 = S2 0 7 ∧ q 0 10 = S2 0 10) hL (Ep_bd (e_packed (T := S2) (a := a) (n := n) (by rw [s10]; exact h10) (by rw [s7]; exact ht7) han hl2) (fun r5 h5 => Ep_lt (fun S3 f3 => Ep_some ⟨by rw [f3, st_same, h5, hlr], by rw [f3, st_ne (by decide)], by rw [f3, st_ne (by decide)], by rw [f3, st_ne (by decide)]⟩))) (fun K1 T1 hK hT1 => ?_)
      obtain ⟨fr, hK⟩ := hK
      obtain ⟨u9, u8, u7, u10⟩ := hT1
      have t8 : (T1 0 8).toInt = 2 := by rw [u8, f2, st_same]; decide
      have hc : (K1 0 1).toInt = 43 := by
        rcases hK with ⟨g, _⟩ | ⟨v, hv1, hv2, hv3⟩
        · exact g
        · exfalso
          have hcc : cOf v < 29 ∧ cOf (cOf v) = v := by
            have : ∀ v, v < 29 → cOf v < 29 ∧ cOf (cOf v) = v := by decide +kernel
            exact this v hv1
          refine hno (cOf v) hcc.1 ((w_key hl c6 hcc.1).mpr ?_)
          rw [hcc.2, hv3, hv]
      refine ⟨⟨?_, fun g => Int32.toInt_inj.mp ?_, fun g => by omega⟩, by rw [fr 0 7 (by omega), g7, h7, u7, s7], by rw [u7, s7], by rw [fr 0 2 (by omega), g2], by rw [u10, s10]⟩
      · unfold kI
        rw [hc, t8]
        right; right; left
        exact ⟨rfl, rfl⟩
      · rw [fr 0 3 (by omega), hv, u9]
  · have k1 : ¬ y2 ≤ 6 := fun q => by have := tq_le (y := (6 : Int32)) (b := 6) ey (by decide) q; omega
    refine E2_ql k1 (E2_ltl (fun K2 e2 => ?_))
    rcases hr with ⟨k, hk, hrk, hm⟩ | ⟨hr, hno⟩
    · exfalso
      have := w_st k hk
      have := hm.1
      omega
    · refine E2_pr (Int32.lt_iff_toInt_lt.mpr (by rw [f9, hr]; decide)) (E2_qr (fun q => by have := tq_le (y := (6 : Int32)) (b := 6) fs (by decide) q; omega) ?_)
      unfold fJ_X8_token_J162
      refine E2_ltr (fun S2 f2 => E2_qr (by rw [f2, st_same]; decide) (E2_some ?_))
      have t8 : (S2 0 8).toInt = 6 := by rw [f2, st_same]; decide
      have hc : (K2 0 1).toInt = 44 := by rw [e2, st_same]; decide
      refine ⟨⟨?_, fun g => by omega, fun g => by omega⟩, by rw [e2, st_ne (by decide), h7, f2, st_ne (by decide), f7], by rw [f2, st_ne (by decide), f7], by rw [e2, st_ne (by decide)], by rw [f2, st_ne (by decide), f10]⟩
      unfold kI
      rw [hc, t8]
      right; right; right; right; right; right
      exact ⟨rfl, rfl⟩
theorem e_word (N : Nat) : ∀ (n : Nat) (x1 : Int32) (K T : Tr) (a : Nat), wC K → wT T → kT K T → (K 0 2).toInt = a → (T 0 10).toInt = a → (T 0 7).toInt = a + n → ltt T a n → x1.toInt = pkL (fun i => (T 1 (a + i)).toInt - 96) (min6 n) → (n = 0 → 97 ≤ (T 1 a).toInt ∧ (T 1 a).toInt ≤ 122 ∧ (a : Int) < (T 0 6).toInt) → E2 (lpF (fun _ _ => none) fB_X5_readWord_L2 N x1 K) (lpF (fun _ => none) fB_X8_token_L90 N T) (fun K1 T1 => tkW K T K1 T1 ∧ K1 0 7 = T1 0 7 ∧ a < (T1 0 7).toInt ∧ (T1 0 7).toInt ≤ (T 0 6).toInt ∧ K1 0 2 = K 0 2 ∧ T1 0 10 = T 0 10) := by
  induction N with
  | zero => intro n x1 K T a _ _ _ _ _ _ _ _ _; exact E2_nl
  | succ N ih =>
    intro n x1 K T a hC hT h h2 h10 h7 hl hx h0
    show E2 (fB_X5_readWord_L2 (lpF (fun _ _ => none) fB_X5_readWord_L2 N) x1 K) (fB_X8_token_L90 (lpF (fun _ => none) fB_X8_token_L90 N) T) _
    generalize lpF (fun _ _ => none) fB_X5_readWord_L2 N = k1 at ih ⊢
    generalize lpF (fun _ => none) fB_X8_token_L90 N = k2 at ih ⊢
    have b := h.2.2.1
    have hK7 : (K 0 7).toInt = a + n := by rw [h.2.1]; exact h7
    have fin : 1 ≤ n → E2 (fJ_X5_readWord_J72 x1 K) (fJ_X8_token_J114 T) (fun K1 T1 => tkW K T K1 T1 ∧ K1 0 7 = T1 0 7 ∧ a < (T1 0 7).toInt ∧ (T1 0 7).toInt ≤ (T 0 6).toInt ∧ K1 0 2 = K 0 2 ∧ T1 0 10 = T 0 10) := by
      intro hn
      refine E2_mono (e_word_end hC hT h.2.1 h2 h10 h7 (by omega) hn hl (fun c6 => ?_)) (fun K1 T1 q => ⟨q.1, q.2.1, by rw [q.2.2.1]; omega, by rw [q.2.2.1]; omega, q.2.2.2⟩)
      rw [hx, show min6 n = n from if_pos c6]
      exact pkL_cg (fun i hi => (show ltr T a n i = (T 1 (a + i)).toInt - 96 from if_pos hi).symm)
    unfold fB_X5_readWord_L2 fB_X8_token_L90
    by_cases c : (T 0 6).toInt ≤ (T 0 7).toInt
    · rw [sm_out c, bd_some, if_pos rfl]
      refine E2_pl (by rw [h.1, h.2.1]; exact Int32.le_iff_toInt_le.mpr c) (fin ?_)
      rcases Nat.eq_zero_or_pos n with q | q
      · have := h0 q; omega
      · exact q
    · have e7 : (T 0 7).toInt = ((a + n : Nat) : Int) := by omega
      have e7K : (K 0 7).toInt = ((a + n : Nat) : Int) := by omega
      rw [sm_in h e7 (by omega), at_in h e7K (by omega), bd_some]
      refine E2_ql (by rw [h.1, h.2.1]; exact fun q => c (Int32.le_iff_toInt_le.mp q)) ?_
      rcases sm_val (T 1 (a + n)) with ⟨g, g2⟩ | ⟨g, g2⟩
      · rw [g]
        refine E2_sl (E2_sr (E2_pl rfl (E2_pr rfl (fin ?_))))
        rcases Nat.eq_zero_or_pos n with q | q
        · have := h0 q; subst q; exact absurd ⟨this.1, this.2.1⟩ g2
        · exact q
      · rw [g]
        refine E2_sl (E2_sr (E2_ql (by decide) (E2_qr (by decide) (E2_ltr (fun T1 f1 => ?_)))))
        have hl1 : ltt T a (n + 1) := fun i hi => by
          rcases Nat.lt_succ_iff_lt_or_eq.mp hi with q | q
          · exact hl i q
          · rw [q]; exact g2
        have t1 : T1 1 = T 1 := by rw [f1]; rfl
        have t7 : (T1 0 7).toInt = a + ((n + 1 : Nat) : Int) := by rw [f1, st_same, i_addK h7 (y := 1) (by decide) (by omega) (by omega)]; omega
        have step : ∀ y : Int32, y.toInt = pkL (fun i => (T 1 (a + i)).toInt - 96) (min6 (n + 1)) → E2 (fJ_X5_readWord_J59 k1 y K) (k2 T1) (fun K1 T1 => tkW K T K1 T1 ∧ K1 0 7 = T1 0 7 ∧ a < (T1 0 7).toInt ∧ (T1 0 7).toInt ≤ (T 0 6).toInt ∧ K1 0 2 = K 0 2 ∧ T1 0 10 = T 0 10) := by
          intro y hy
          unfold fJ_X5_readWord_J59
          refine E2_ltl (fun K2 e2 => ?_)
          have k6 : K2 0 6 = K 0 6 := by rw [e2, st_ne (by decide)]
          have k5 : K2 5 = K 5 := by rw [e2]; rfl
          have t6 : T1 0 6 = T 0 6 := by rw [f1, st_ne (by decide)]
          have k02 : K2 0 2 = K 0 2 := by rw [e2, st_ne (by decide)]
          have t10 : T1 0 10 = T 0 10 := by rw [f1, st_ne (by decide)]
          refine E2_mono (ih (n + 1) y K2 T1 a (fun j hj => by rw [e2]; exact hC j hj) (fun j hj => by rw [f1]; exact hT j hj) (kT_of h k6 t6 (by rw [e2, f1, st_same, st_same, h.2.1]) ⟨by omega, by omega⟩ k5 t1) (by rw [k02]; exact h2) (by rw [t10]; exact h10) t7 (fun i hi => by rw [t1]; exact hl1 i hi) (by rw [t1]; exact hy) (fun q => by omega)) (fun K3 T3 q => ⟨q.1, q.2.1, q.2.2.1, by rw [← t6]; exact q.2.2.2.1, by rw [q.2.2.2.2.1, k02], by rw [q.2.2.2.2.2, t10]⟩)
        have es : (K 0 7 - K 0 2).toInt = n := by rw [i_subK hK7 h2 (by omega) (by omega)]; omega
        refine E2_itl (fun c3 => ?_) (fun c3 => ?_)
        · have c3 := tq_le (a := 6) (by decide) es c3
          refine step x1 ?_
          rw [hx]
          have e1 : min6 n = 6 := by unfold min6; split <;> omega
          have e2 : min6 (n + 1) = 6 := if_neg (by omega)
          rw [e1, e2]
        · have c3 := tq_len (a := 6) (by decide) es c3
          refine E2_sl (E2_ltl (fun y ey => step y ?_))
          have e1 : min6 n = n := if_pos (by omega)
          have e2 : min6 (n + 1) = n + 1 := if_pos (by omega)
          rw [e2]
          rw [e1] at hx
          have hxx : x1.toInt = pkL (ltr T a n) n := by rw [hx]; exact pkL_cg (fun i hi => (show ltr T a n i = (T 1 (a + i)).toInt - 96 from if_pos hi).symm)
          have p6 := pk6 (ltr_bd hl) (i := n) (by omega)
          have q4 := g2
          have q5 : (T 1 (a + n) - 97).toInt = (T 1 (a + n)).toInt - 97 := i_subK rfl (by decide) (by omega) (by omega)
          have q6 : (T 1 (a + n) - 97 + 1).toInt = (T 1 (a + n)).toInt - 96 := by rw [i_addK q5 (y := 1) (by decide) (by omega) (by omega)]; omega
          rw [ey, sh5 (by rw [hxx]; exact p6) (by rw [q6]; omega), q6, hx]
          rfl
-- 62.y.d5
/-! a token, read by both -/
theorem a255 (x : Int32) : 0 ≤ (x &&& 255).toInt ∧ (x &&& 255).toInt ≤ 255 := by
  have e : (x &&& 255).toBitVec.toNat ≤ 255 := by
    rw [Int32.toBitVec_and, BitVec.toNat_and]
    exact Nat.le_trans Nat.and_le_right (by decide)
  rw [i_of rfl (by omega)]
  omega
def frK (K q : Tr) : Prop := ∀ a j, ¬ (a = 0 ∧ (j = 1 ∨ j = 2 ∨ j = 3 ∨ j = 7)) → q a j = K a j
theorem frK_s {K q : Tr} (h : frK K q) {j : Nat} {v : Int32} (hj : j = 1 ∨ j = 2 ∨ j = 3 ∨ j = 7) : frK K (st q 0 j v) := fun a i hn => by
  rcases st_or (S := q) (a := 0) (i := j) (b := a) (j := i) (v := v) with g | g
  · rw [g]; exact h a i hn
  · exact absurd ⟨g.1, by rw [g.2]; exact hj⟩ hn
theorem frK_t {K q r : Tr} (h1 : frK K q) (h2 : frK q r) : frK K r := fun a j hn => (h2 a j hn).trans (h1 a j hn)
theorem frK_L115 {K : Tr} (M : Nat) : ∀ (x3 : Int32) (q : Tr), frK K q → Ep (lpF (fun _ _ => none) fB_X5_readWord_L115 M x3 q) (frK K) := by
  induction M with
  | zero => intro x3 q _; exact Ep_none
  | succ M ih =>
    intro x3 q h
    show Ep (fB_X5_readWord_L115 (lpF (fun _ _ => none) fB_X5_readWord_L115 M) x3 q) _
    unfold fB_X5_readWord_L115
    exact Ep_ite (fun _ => Ep_some h) (fun _ => Ep_ck (Ep_ite (fun _ => Ep_lt (fun y e => Ep_lt (fun z f => ih _ _ (by rw [e]; exact frK_s h (by omega))))) (fun _ => Ep_lt (fun z f => ih _ _ h))))
theorem frK_72 {K q : Tr} (x : Int32) (h : frK K q) : Ep (fJ_X5_readWord_J72 x q) (frK K) := by
  unfold fJ_X5_readWord_J72
  exact Ep_lt (fun y e => Ep_ite (fun _ => Ep_lt (fun z f => Ep_lt (fun u g => frK_L115 2000 _ _ (by rw [g, f]; exact frK_s (frK_s h (by omega)) (by omega))))) (fun _ => Ep_lt (fun z f => Ep_some (by rw [f]; exact frK_s h (by omega)))))
theorem frK_L2 {K : Tr} (M : Nat) : ∀ (x1 : Int32) (q : Tr), frK K q → Ep (lpF (fun _ _ => none) fB_X5_readWord_L2 M x1 q) (frK K) := by
  induction M with
  | zero => intro x1 q _; exact Ep_none
  | succ M ih =>
    intro x1 q h
    show Ep (fB_X5_readWord_L2 (lpF (fun _ _ => none) fB_X5_readWord_L2 M) x1 q) _
    have h59 : ∀ y, Ep (fJ_X5_readWord_J59 (lpF (fun _ _ => none) fB_X5_readWord_L2 M) y q) (frK K) := fun y => by
      unfold fJ_X5_readWord_J59
      exact Ep_lt (fun z e => ih _ _ (by rw [e]; exact frK_s h (by omega)))
    unfold fB_X5_readWord_L2
    exact Ep_ite (fun _ => frK_72 _ h) (fun _ => Ep_any (fun _ => Ep_any (fun _ => Ep_ite (fun _ => frK_72 _ h) (fun _ => Ep_ite (fun _ => h59 _) (fun _ => Ep_any (fun _ => Ep_lt (fun y _ => h59 _)))))))
theorem frK_L5 {K : Tr} (M : Nat) : ∀ (q : Tr), frK K q → Ep (lpF (fun _ => none) fB_X5_readNumber_L5 M q) (frK K) := by
  induction M with
  | zero => intro q _; exact Ep_none
  | succ M ih =>
    intro q h
    show Ep (fB_X5_readNumber_L5 (lpF (fun _ => none) fB_X5_readNumber_L5 M) q) _
    have h62 : ∀ q, frK K q → Ep (fJ_X5_readNumber_J62 (lpF (fun _ => none) fB_X5_readNumber_L5 M) q) (frK K) := fun q h => by
      unfold fJ_X5_readNumber_J62
      exact Ep_lt (fun z e => ih _ (by rw [e]; exact frK_s h (by omega)))
    have h75 : Ep (fJ_X5_readNumber_J75 q) (frK K) := by
      unfold fJ_X5_readNumber_J75
      exact Ep_lt (fun z e => Ep_some (by rw [e]; exact frK_s h (by omega)))
    unfold fB_X5_readNumber_L5
    exact Ep_ite (fun _ => h75) (fun _ => Ep_any (fun _ => Ep_any (fun _ => Ep_ite (fun _ => h75) (fun _ => Ep_ite (fun _ => h62 _ h) (fun _ => Ep_any (fun _ => Ep_lt (fun y e => h62 _ (by rw [e]; exact frK_s h (by omega)))))))))
theorem frK_38 {K q : Tr} (h : frK K q) : Ep (fJ_X5_advance_J38 q) (frK K) := by
  unfold fJ_X5_advance_J38
  refine Ep_lt (fun q2 e => ?_)
  have h2 : frK K q2 := by rw [e]; exact frK_s h (by omega)
  have h149 : ∀ q, frK K q → Ep (fJ_X5_advance_J149 q) (frK K) := fun q h => by
    unfold fJ_X5_advance_J149
    exact Ep_lt (fun z e => Ep_some (by rw [e]; exact frK_s h (by omega)))
  refine Ep_any (fun r3 => Ep_ite (fun _ => Ep_any (fun r7 => Ep_ite (fun _ => Ep_any (fun r11 => Ep_ite (fun _ => ?_) (fun _ => ?_))) (fun _ => ?_))) (fun _ => ?_))
  · refine Ep_lt (fun q3 e3 => Ep_any (fun _ => Ep_any (fun _ => Ep_lt (fun q4 e4 => ?_))))
    have h4 : frK K q4 := by rw [e4, e3]; exact frK_s (frK_s h2 (by omega)) (by omega)
    exact Ep_ite (fun _ => h149 _ h4) (fun _ => Ep_ite (fun _ => h149 _ h4) (fun _ => Ep_ite (fun _ => h149 _ h4) (fun _ => Ep_some h4)))
  · unfold f_X5_readNumber fL_X5_readNumber_L5
    exact Ep_bd (Ep_lt (fun z f => frK_L5 2000 z (by rw [f]; exact frK_s h2 (by omega)))) (fun _ g => Ep_some g)
  · unfold f_X5_readWord fL_X5_readWord_L2
    exact Ep_bd (frK_L2 2000 _ _ h2) (fun _ g => Ep_some g)
  · exact Ep_lt (fun z f => Ep_some (by rw [f]; exact frK_s h2 (by omega)))
theorem frK_L0 {K : Tr} (M : Nat) : ∀ (q : Tr), frK K q → Ep (lpF (fun _ => none) fB_X5_advance_L0 M q) (frK K) := by
  induction M with
  | zero => intro q _; exact Ep_none
  | succ M ih =>
    intro q h
    show Ep (fB_X5_advance_L0 (lpF (fun _ => none) fB_X5_advance_L0 M) q) _
    unfold fB_X5_advance_L0
    exact Ep_ite (fun _ => frK_38 h) (fun _ => Ep_any (fun _ => Ep_any (fun _ => Ep_ite (fun _ => frK_38 h) (fun _ => Ep_lt (fun z e => ih _ (by rw [e]; exact frK_s h (by omega)))))))
theorem frK_adv {K : Tr} : Ep (f_X5_advance K) (frK K) := by
  unfold f_X5_advance fL_X5_advance_L0
  exact frK_L0 2000 K (fun _ _ _ => rfl)
def e10 (T q : Tr) : Prop := q 0 10 = T 0 10
theorem e10_s {T q : Tr} (h : e10 T q) {j : Nat} {v : Int32} (hj : 10 ≠ j) : e10 T (st q 0 j v) := by unfold e10; rw [st_ne hj]; exact h
theorem e10_135 {T q : Tr} (x2 x3 : Int32) (h : e10 T q) : Ep (fJ_X8_signToken_J135 x2 x3 q) (e10 T) := by
  have h192 : ∀ v q, e10 T q → Ep (fJ_X8_signToken_J192 v q) (e10 T) := fun v q h => by
    unfold fJ_X8_signToken_J192
    exact Ep_lt (fun z e => Ep_some (by rw [e]; exact e10_s h (by decide)))
  unfold fJ_X8_signToken_J135
  refine Ep_lt (fun z e => ?_)
  have h2 : e10 T z := by rw [e]; exact e10_s h (by decide)
  exact Ep_ite (fun _ => h192 _ _ h2) (fun _ => Ep_ite (fun _ => Ep_ite (fun _ => Ep_ite (fun _ => h192 _ _ h2) (fun _ => h192 _ _ h2)) (fun _ => h192 _ _ h2)) (fun _ => Ep_ite (fun _ => h192 _ _ h2) (fun _ => h192 _ _ h2)))
theorem e10_116 {T q : Tr} (x2 x3 : Int32) (h : e10 T q) : Ep (fJ_X8_signToken_J116 x2 x3 q) (e10 T) := by
  have h125 : Ep (fJ_X8_signToken_J125 x2 x3 q) (e10 T) := by
    unfold fJ_X8_signToken_J125
    exact Ep_lt (fun z e => e10_135 _ _ (by rw [e]; exact e10_s h (by decide)))
  unfold fJ_X8_signToken_J116
  exact Ep_ite (fun _ => Ep_ite (fun _ => e10_135 _ _ h) (fun _ => h125)) (fun _ => h125)
theorem e10_74 {T q : Tr} (x : Int32) (h : e10 T q) : Ep (fJ_X8_signToken_J74 x q) (e10 T) := by
  unfold fJ_X8_signToken_J74 fJ_X8_signToken_J94 fJ_X8_signToken_J95 fJ_X8_signToken_J115
  exact Ep_ite (fun _ => Ep_ite (fun _ => Ep_ite (fun _ => e10_116 _ _ h) (fun _ => e10_116 _ _ h)) (fun _ => e10_116 _ _ h)) (fun _ => Ep_ite (fun _ => Ep_ite (fun _ => Ep_ite (fun _ => e10_116 _ _ h) (fun _ => e10_116 _ _ h)) (fun _ => e10_116 _ _ h)) (fun _ => Ep_ite (fun _ => Ep_ite (fun _ => e10_116 _ _ h) (fun _ => e10_116 _ _ h)) (fun _ => e10_116 _ _ h)))
theorem e10_sg {T : Tr} : Ep (f_X8_signToken T) (e10 T) := by
  unfold f_X8_signToken
  refine Ep_ck (Ep_lt (fun q2 e2 => Ep_lt (fun q e => ?_)))
  have h : e10 T q := by rw [e, e2]; exact e10_s (e10_s rfl (by decide)) (by decide)
  have h50 : Ep (fJ_X8_signToken_J50 q) (e10 T) := by
    unfold fJ_X8_signToken_J50
    exact Ep_ite (fun _ => e10_74 _ h) (fun _ => Ep_ck (e10_74 _ h))
  have h275 : ∀ v, Ep (fJ_X8_signToken_J275 v q) (e10 T) := fun v => by
    unfold fJ_X8_signToken_J275 fJ_X8_signToken_J287
    exact Ep_ite (fun _ => Ep_lt (fun z e => Ep_some (by rw [e]; exact e10_s h (by decide)))) (fun _ => Ep_lt (fun z e => Ep_some (by rw [e]; exact e10_s h (by decide))))
  unfold fJ_X8_signToken_J270
  exact Ep_ite (fun _ => h50) (fun _ => Ep_ite (fun _ => h50) (fun _ => Ep_ite (fun _ => h50) (fun _ => Ep_ite (fun _ => h275 _) (fun _ => Ep_ite (fun _ => h275 _) (fun _ => Ep_ite (fun _ => h275 _) (fun _ => Ep_ite (fun _ => h275 _) (fun _ => Ep_ite (fun _ => h275 _) (fun _ => Ep_ite (fun _ => h275 _) (fun _ => Ep_ite (fun _ => h275 _) (fun _ => Ep_ite (fun _ => h275 _) (fun _ => h275 _)))))))))))
-- 62.y.d6
/-- what a token leaves in both -/
def tkEq (T K1 T1 : Tr) : Prop := K1 0 7 = T1 0 7 ∧ 0 ≤ (T1 0 7).toInt ∧ (T1 0 7).toInt ≤ (T 0 6).toInt ∧ K1 0 2 = T1 0 10 ∧ kI (K1 0 1).toInt (T1 0 8).toInt (T1 0 9).toInt ∧ ((T1 0 8).toInt = 2 → K1 0 3 = T1 0 9) ∧ ((T1 0 8).toInt = 3 → nR (K1 0 3) (T1 0 9))
theorem tape_nn {K T : Tr} (h : kT K T) {n : Nat} (hn : (n : Int) < (T 0 6).toInt) : 0 ≤ (T 1 n).toInt := by
  rw [← h.2.2.2 n hn]; exact (a255 _).1
theorem e_tok1 {K T : Tr} (hC : wC K) (hT : wT T) (h : kT K T) : E2 (fJ_X5_advance_J38 K) (fJ_X8_token_J52 T) (tkEq T) := by
  unfold fJ_X5_advance_J38 fJ_X8_token_J52
  refine E2_ltl (fun K2 e2 => E2_ltr (fun T2 f2 => ?_))
  have b := h.2.2.1
  have k7 : K2 0 7 = K 0 7 := by rw [e2, st_ne (by decide)]
  have k6 : K2 0 6 = K 0 6 := by rw [e2, st_ne (by decide)]
  have k2 : K2 0 2 = K 0 7 := by rw [e2, st_same]
  have k5 : K2 5 = K 5 := by rw [e2]; rfl
  have t7 : T2 0 7 = T 0 7 := by rw [f2, st_ne (by decide)]
  have t6 : T2 0 6 = T 0 6 := by rw [f2, st_ne (by decide)]
  have t10 : T2 0 10 = T 0 7 := by rw [f2, st_same]
  have t1 : T2 1 = T 1 := by rw [f2]; rfl
  have h2 : kT K2 T2 := kT_of h k6 t6 (by rw [k7, t7]; exact h.2.1) (by rw [t7]; exact ⟨b.1, b.2.1⟩) k5 t1
  have hC2 : wC K2 := fun j hj => by rw [e2]; exact hC j hj
  have hT2 : wT T2 := fun j hj => by rw [f2]; exact hT j hj
  have b2 := h2.2.2.1
  by_cases c : (T2 0 6).toInt ≤ (T2 0 7).toInt
  · rw [at_out h2 (by rw [h2.2.1]; exact c)]
    refine E2_sl (E2_ql (by decide) (E2_ltl (fun K3 e3 => E2_pr (Int32.toInt_inj.mp (by omega)) (E2_ltr (fun T3 f3 => E2_some ?_)))))
    refine ⟨by rw [e3, f3, st_ne (by decide), st_ne (by decide), h2.2.1], by rw [f3, st_ne (by decide)]; exact b2.1, by rw [f3, st_ne (by decide), ← t6]; exact b2.2.1, by rw [e3, f3, st_ne (by decide), st_ne (by decide), k2, t10, h.2.1], ?_, fun g => ?_, fun g => ?_⟩
    · rw [e3, f3, st_same, st_same]
      exact Or.inl ⟨by decide, by decide⟩
    · rw [f3, st_same] at g; exact absurd g (by decide)
    · rw [f3, st_same] at g; exact absurd g (by decide)
  · obtain ⟨n, hn⟩ : ∃ n : Nat, (T2 0 7).toInt = n := ⟨(T2 0 7).toInt.toNat, by omega⟩
    have hl : (n : Int) < (T2 0 6).toInt := by omega
    have hK7 : (K2 0 7).toInt = n := by rw [h2.2.1]; exact hn
    have nn := tape_nn h2 hl
    rw [at_in h2 hK7 hl, sm_in h2 hn hl, dg_in h2 hn hl]
    refine E2_sl (E2_pl (Int32.le_iff_toInt_le.mpr (by show (0 : Int) ≤ _; exact nn)) (E2_qr (fun q => c (by rw [q]; exact Int.le_refl _)) ?_))
    rcases sm_val (T2 1 n) with ⟨g, g2⟩ | ⟨g, g2⟩
    · rw [g]
      refine E2_sl (E2_sr (E2_pl rfl (E2_pr rfl ?_)))
      rcases dg_val (T2 1 n) with ⟨g3, g4⟩ | ⟨g3, g4⟩
      · rw [g3]
        refine E2_sl (E2_sr (E2_pl rfl (E2_pr rfl ?_)))
        have hq := q_sign h2 hn hl (c := T2 1 n) rfl rfl
        have hk2 : Ep (lt (st K2 0 7 ((K2 0 7) + 1)) fun K_15 => bd (f_X5_at K_15 (K_15 0 7)) fun r16 => bd (f_X5_sign (T2 1 n) r16) fun r19 => lt (st K_15 0 1 r19) fun K_22 => if (K_22 0 1) = 30 then (fJ_X5_advance_J149  K_22) else (if (K_22 0 1) = 32 then (fJ_X5_advance_J149  K_22) else (if (K_22 0 1) = 33 then (fJ_X5_advance_J149  K_22) else (some K_22)))) (fun q => q 0 2 = K2 0 2) := by
          have h149 : ∀ q : Tr, q 0 2 = K2 0 2 → Ep (fJ_X5_advance_J149 q) (fun q => q 0 2 = K2 0 2) := fun q hq => by
            unfold fJ_X5_advance_J149
            exact Ep_lt (fun z e => Ep_some (by rw [e, st_ne (by decide)]; exact hq))
          refine Ep_lt (fun q3 e3 => Ep_any (fun _ => Ep_any (fun _ => Ep_lt (fun q4 e4 => ?_))))
          have h4 : q4 0 2 = K2 0 2 := by rw [e4, st_ne (by decide), e3, st_ne (by decide)]
          exact Ep_ite (fun _ => h149 _ h4) (fun _ => Ep_ite (fun _ => h149 _ h4) (fun _ => Ep_ite (fun _ => h149 _ h4) (fun _ => Ep_some h4)))
        have hj := E2_and hk2 (e10_sg (T := T2)) hq
        intro K1 T1 x1 x2
        obtain ⟨T3, y1, y2⟩ := tx_bd x2
        have y2 := tx_1 y2
        subst y2
        obtain ⟨⟨r1, r2, r3, r4, r5⟩, r6, r7⟩ := hj K1 T3 x1 y1
        unfold e10 at r7
        exact ⟨r1, by omega, by rw [← t6]; omega, by rw [r6, r7, k2, t10, h.2.1], r2, r3, r4⟩
      · rw [g3]
        refine E2_sl (E2_sr (E2_ql (by decide) (E2_qr (by decide) ?_)))
        unfold f_X5_readNumber fL_X5_readNumber_L5 fL_X8_token_L213
        intro K1 T1 x1 x2
        obtain ⟨K4, z1, z2⟩ := tx_bd x1
        have z2 := tx_1 z2
        subst z2
        obtain ⟨K3, e3, z3⟩ := tx_lt z1
        obtain ⟨T3, f3, x2⟩ := tx_lt x2
        obtain ⟨T4, f4, x2⟩ := tx_lt x2
        have f3 := f3.symm
        have f4 := f4.symm
        have e3 := e3.symm
        have hk : kT K3 T4 := kT_of h2 (by rw [e3, st_ne (by decide)]) (by rw [f4, st_ne (by decide), f3, st_ne (by decide)]) (by rw [e3, st_ne (by decide), f4, st_ne (by decide), f3, st_ne (by decide)]; exact h2.2.1) (by rw [f4, st_ne (by decide), f3, st_ne (by decide)]; exact ⟨b2.1, b2.2.1⟩) (by rw [e3]; rfl) (by rw [f4, f3]; rfl)
        obtain ⟨K5, T5, w1, w2, w3, w4, w5, w6, w7, w8⟩ := num_eq 2000 K3 T4 hk (by rw [e3, f4, st_same, st_same]; exact Or.inl ⟨rfl, by decide, by decide⟩) (by rw [f4, st_ne (by decide), f3, st_same]) (by have := hk.2.2.1; omega)
        rw [z3] at w1
        rw [x2] at w2
        have w1 := tx_1 w1
        have w2 := tx_1 w2
        subst w1
        subst w2
        have b5 := w3.2.2.1
        have s6 : T1 0 6 = T 0 6 := by rw [w8 0 6 (by omega), f4, st_ne (by decide), f3, st_ne (by decide), t6]
        refine ⟨w3.2.1, b5.1, by rw [← s6]; exact b5.2.1, ?_, ?_, fun q => ?_, fun q => w6⟩
        · rw [w7 0 2 (by omega), w8 0 10 (by omega), e3, f4, st_ne (by decide), st_ne (by decide), f3, st_ne (by decide), k2, t10, h.2.1]
        · rw [w4, w5]
          right; right; right; left
          exact ⟨by decide, by decide⟩
        · rw [w5] at q; exact absurd q (by decide)
    · rw [g]
      refine E2_sl (E2_sr (E2_ql (by decide) (E2_qr (by decide) ?_)))
      unfold f_X5_readWord fL_X5_readWord_L2 fL_X8_token_L90
      have hw := e_word 2000 0 0 K2 T2 n hC2 hT2 h2 (by rw [k2, h.2.1, ← t7]; exact hn) (by rw [t10, ← t7]; exact hn) (by rw [hn]; omega) (fun i hi => absurd hi (Nat.not_lt_zero i)) (by show (0 : Int32).toInt = 0; decide) (fun _ => ⟨g2.1, g2.2, hl⟩)
      intro K1 T1 x1 x2
      obtain ⟨K4, z1, z2⟩ := tx_bd x1
      have z2 := tx_1 z2
      subst z2
      obtain ⟨⟨r1, r2, r3⟩, r4, r5, r6, r7, r8⟩ := hw K4 T1 z1 x2
      exact ⟨r4, by omega, by rw [← t6]; exact r6, by rw [r7, r8, k2, t10, h.2.1], r1, r2, r3⟩
theorem e_tok0 (N : Nat) : ∀ (K T : Tr), wC K → wT T → kT K T → E2 (lpF (fun _ => none) fB_X5_advance_L0 N K) (lpF (fun _ => none) fB_X8_token_L0 N T) (tkEq T) := by
  induction N with
  | zero => intro K T _ _ _; exact E2_nl
  | succ N ih =>
    intro K T hC hT h
    show E2 (fB_X5_advance_L0 (lpF (fun _ => none) fB_X5_advance_L0 N) K) (fB_X8_token_L0 (lpF (fun _ => none) fB_X8_token_L0 N) T) _
    generalize lpF (fun _ => none) fB_X5_advance_L0 N = k1 at ih ⊢
    generalize lpF (fun _ => none) fB_X8_token_L0 N = k2 at ih ⊢
    have b := h.2.2.1
    unfold fB_X5_advance_L0 fB_X8_token_L0
    by_cases c : (T 0 6).toInt ≤ (T 0 7).toInt
    · exact E2_pl (by rw [h.1, h.2.1]; exact Int32.le_iff_toInt_le.mpr c) (E2_pr (Int32.le_iff_toInt_le.mpr c) (e_tok1 hC hT h))
    · obtain ⟨n, hn⟩ : ∃ n : Nat, (T 0 7).toInt = n := ⟨(T 0 7).toInt.toNat, by omega⟩
      have hl : (n : Int) < (T 0 6).toInt := by omega
      have hK7 : (K 0 7).toInt = n := by rw [h.2.1]; exact hn
      have hc : (T 0 7).toNatClampNeg = n := by simp only [i_cl]; omega
      refine E2_ql (by rw [h.1, h.2.1]; exact fun q => c (Int32.le_iff_toInt_le.mp q)) (E2_qr (fun q => c (Int32.le_iff_toInt_le.mp q)) ?_)
      rw [at_in h hK7 hl, hc]
      unfold fJ_X8_token_J39
      refine E2_sl (E2_ckr (fun _ => ?_))
      have nxt : E2 (lt (st K 0 7 ((K 0 7) + 1)) fun K_41 => k1 K_41) (lt (st T 0 7 ((T 0 7) + 1)) fun S_45 => k2 S_45) (tkEq T) := by
        refine E2_ltl (fun K2 e2 => E2_ltr (fun T2 f2 => ?_))
        have t6 : T2 0 6 = T 0 6 := by rw [f2, st_ne (by decide)]
        have t7 : (T2 0 7).toInt = n + 1 := by rw [f2, st_same]; exact i_addK hn (by decide) (by omega) (by omega)
        refine E2_mono (ih K2 T2 (fun j hj => by rw [e2]; exact hC j hj) (fun j hj => by rw [f2]; exact hT j hj) (kT_of h (by rw [e2, st_ne (by decide)]) t6 (by rw [e2, f2, st_same, st_same, h.2.1]) ⟨by omega, by omega⟩ (by rw [e2]; rfl) (by rw [f2]; rfl))) (fun K1 T1 q => ?_)
        unfold tkEq at q ⊢
        rw [t6] at q
        exact q
      unfold f_X5_isBlank
      by_cases c1 : T 1 n = 10
      · rw [if_pos c1, if_pos c1]
        exact E2_sl (E2_ql (by decide) nxt)
      · rw [if_neg c1, if_neg c1]
        by_cases c2 : T 1 n = 32
        · rw [if_pos c2, if_pos c2]
          exact E2_sl (E2_ql (by decide) nxt)
        · rw [if_neg c2, if_neg c2]
          exact E2_sl (E2_pl rfl (e_tok1 hC hT h))
theorem e_tok {K T : Tr} (hC : wC K) (hT : wT T) (h : kT K T) : E2 (f_X5_advance K) (f_X8_token T) (fun K1 T1 => tkEq T K1 T1 ∧ frK K K1) := by
  have h1 := e_tok0 2000 K T hC hT h
  exact fun a b e1 e2 => ⟨h1 a b e1 e2, frK_adv a e1⟩
-- 62.y.d7
/-! each token but the end takes a byte at least -/
def pBd (T : Tr) : Prop := 0 ≤ (T 0 7).toInt ∧ (T 0 7).toInt ≤ (T 0 6).toInt ∧ (T 0 6).toInt ≤ 700
theorem pr_114 {T : Tr} : Ep (fJ_X8_token_J114 T) (fun q => q 0 7 = T 0 7 ∧ q 0 10 = T 0 10) := by
  have h162 : ∀ (v : Int32) (S : Tr), S 0 7 = T 0 7 → S 0 10 = T 0 10 → Ep (fJ_X8_token_J162 v S) (fun q => q 0 7 = T 0 7 ∧ q 0 10 = T 0 10) := fun v S a1 a2 => by
    unfold fJ_X8_token_J162
    refine Ep_lt (fun z e => ?_)
    have h7 : z 0 7 = T 0 7 := by rw [e, st_ne (by decide)]; exact a1
    have h10 : z 0 10 = T 0 10 := by rw [e, st_ne (by decide)]; exact a2
    exact Ep_ite (fun _ => Ep_any (fun _ => Ep_lt (fun y f => Ep_some ⟨by rw [f, st_ne (by decide)]; exact h7, by rw [f, st_ne (by decide)]; exact h10⟩))) (fun _ => Ep_some ⟨h7, h10⟩)
  unfold fJ_X8_token_J114
  refine Ep_any (fun r => Ep_lt (fun z e => ?_))
  have h7 : z 0 7 = T 0 7 := by rw [e, st_ne (by decide)]
  have h10 : z 0 10 = T 0 10 := by rw [e, st_ne (by decide)]
  exact Ep_ite (fun _ => Ep_ite (fun _ => h162 _ _ h7 h10) (fun _ => h162 _ _ h7 h10)) (fun _ => h162 _ _ h7 h10)
theorem small_lt {T : Tr} {x r : Int32} (h : f_X8_isSmall T x = some r) (hr : ¬ r = 0) : x.toInt < (T 0 6).toInt := by
  unfold f_X8_isSmall at h
  by_cases c : (T 0 6) ≤ x
  · rw [if_pos c] at h
    exact absurd (tx_1 h).symm hr
  · exact tq_len rfl rfl c
theorem digit_lt {T : Tr} {x r : Int32} (h : f_X8_isDigit T x = some r) (hr : ¬ r = 0) : x.toInt < (T 0 6).toInt := by
  unfold f_X8_isDigit at h
  by_cases c : (T 0 6) ≤ x
  · rw [if_pos c] at h
    exact absurd (tx_1 h).symm hr
  · exact tq_len rfl rfl c
theorem pr_90 (N : Nat) : ∀ T : Tr, pBd T → Ep (lpF (fun _ => none) fB_X8_token_L90 N T) (fun q => (T 0 7).toInt ≤ (q 0 7).toInt ∧ q 0 10 = T 0 10) := by
  induction N with
  | zero => intro T _; exact Ep_none
  | succ N ih =>
    intro T b
    show Ep (fB_X8_token_L90 (lpF (fun _ => none) fB_X8_token_L90 N) T) _
    unfold fB_X8_token_L90
    refine Ep_bd (Q1 := fun r => f_X8_isSmall T (T 0 7) = some r) (fun r e => e) (fun r hr => Ep_ite (fun _ => Ep_mono pr_114 (fun q h => ⟨by rw [h.1]; exact Int.le_refl _, h.2⟩)) (fun c => Ep_lt (fun z e => ?_)))
    have hl := small_lt hr c
    have b1 := b.1
    have b2 := b.2.2
    have z7 : (z 0 7).toInt = (T 0 7).toInt + 1 := by rw [e, st_same]; exact i_addK rfl (by decide) (by omega) (by omega)
    have z6 : z 0 6 = T 0 6 := by rw [e, st_ne (by decide)]
    refine Ep_mono (ih z ⟨by omega, by rw [z6]; omega, by rw [z6]; exact b2⟩) (fun q h => ⟨by omega, by rw [h.2, e, st_ne (by decide)]⟩)
theorem pr_90s {N : Nat} {T : Tr} (b : pBd T) {r : Int32} (hr : f_X8_isSmall T (T 0 7) = some r) (c : ¬ r = 0) : Ep (lpF (fun _ => none) fB_X8_token_L90 N T) (fun q => (T 0 7).toInt < (q 0 7).toInt ∧ q 0 10 = T 0 10) := by
  cases N with
  | zero => exact Ep_none
  | succ N =>
    show Ep (fB_X8_token_L90 (lpF (fun _ => none) fB_X8_token_L90 N) T) _
    unfold fB_X8_token_L90
    rw [hr]
    show Ep (if r = 0 then _ else lt (st T 0 7 ((T 0 7) + 1)) fun S_41 => (lpF (fun _ => none) fB_X8_token_L90 N) S_41) _
    rw [if_neg c]
    refine Ep_lt (fun z e => ?_)
    have hl := small_lt hr c
    have b1 := b.1
    have b2 := b.2.2
    have z7 : (z 0 7).toInt = (T 0 7).toInt + 1 := by rw [e, st_same]; exact i_addK rfl (by decide) (by omega) (by omega)
    have z6 : z 0 6 = T 0 6 := by rw [e, st_ne (by decide)]
    refine Ep_mono (pr_90 N z ⟨by omega, by rw [z6]; omega, by rw [z6]; exact b2⟩) (fun q h => ⟨by omega, by rw [h.2, e, st_ne (by decide)]⟩)
theorem pr_213 (N : Nat) : ∀ T : Tr, pBd T → Ep (lpF (fun _ => none) fB_X8_token_L213 N T) (fun q => (T 0 7).toInt ≤ (q 0 7).toInt ∧ q 0 10 = T 0 10) ∧ (∀ r, f_X8_isDigit T (T 0 7) = some r → ¬ r = 0 → Ep (lpF (fun _ => none) fB_X8_token_L213 N T) (fun q => (T 0 7).toInt < (q 0 7).toInt ∧ q 0 10 = T 0 10)) := by
  induction N with
  | zero => intro T _; exact ⟨Ep_none, fun _ _ _ => Ep_none⟩
  | succ N ih =>
    intro T b
    have b1 := b.1
    have b2 := b.2.2
    have step : ∀ r, f_X8_isDigit T (T 0 7) = some r → ¬ r = 0 → ∀ v, Ep (fJ_X8_token_J261 (lpF (fun _ => none) fB_X8_token_L213 N) v T) (fun q => (T 0 7).toInt < (q 0 7).toInt ∧ q 0 10 = T 0 10) := by
      intro r hr c v
      have hl := digit_lt hr c
      unfold fJ_X8_token_J261
      refine Ep_lt (fun y f => Ep_lt (fun z e => ?_))
      have z7 : (z 0 7).toInt = (T 0 7).toInt + 1 := by rw [e, st_same, f, st_ne (by decide)]; exact i_addK rfl (by decide) (by omega) (by omega)
      have z6 : z 0 6 = T 0 6 := by rw [e, st_ne (by decide), f, st_ne (by decide)]
      refine Ep_mono (ih z ⟨by omega, by rw [z6]; omega, by rw [z6]; exact b2⟩).1 (fun q h => ⟨by omega, by rw [h.2, e, st_ne (by decide), f, st_ne (by decide)]⟩)
    constructor
    · show Ep (fB_X8_token_L213 (lpF (fun _ => none) fB_X8_token_L213 N) T) _
      unfold fB_X8_token_L213
      exact Ep_bd (Q1 := fun r => f_X8_isDigit T (T 0 7) = some r) (fun r e => e) (fun r hr => Ep_ite (fun _ => Ep_some ⟨Int.le_refl _, rfl⟩) (fun c => Ep_ite (fun _ => Ep_ck (Ep_mono (step r hr c _) (fun q h => ⟨Int.le_of_lt h.1, h.2⟩))) (fun _ => Ep_mono (step r hr c _) (fun q h => ⟨Int.le_of_lt h.1, h.2⟩))))
    · intro r0 hr0 c0
      show Ep (fB_X8_token_L213 (lpF (fun _ => none) fB_X8_token_L213 N) T) _
      unfold fB_X8_token_L213
      exact Ep_bd (Q1 := fun r => f_X8_isDigit T (T 0 7) = some r) (fun r e => e) (fun r hr => Ep_ite (fun c => by rw [hr0] at hr; exact absurd ((tx_1 hr).trans c) c0) (fun c => Ep_ite (fun _ => Ep_ck (step r hr c _)) (fun _ => step r hr c _)))
def tkP (T q : Tr) : Prop := (T 0 7).toInt ≤ (q 0 10).toInt ∧ ((q 0 8 = 0 ∧ (q 0 10).toInt = (q 0 7).toInt) ∨ (q 0 10).toInt < (q 0 7).toInt)
theorem pr_52 {T : Tr} (b : pBd T) : Ep (fJ_X8_token_J52 T) (tkP T) := by
  unfold fJ_X8_token_J52
  refine Ep_lt (fun S e => ?_)
  have s7 : S 0 7 = T 0 7 := by rw [e, st_ne (by decide)]
  have s6 : S 0 6 = T 0 6 := by rw [e, st_ne (by decide)]
  have s10 : S 0 10 = T 0 7 := by rw [e, st_same]
  have bS : pBd S := by unfold pBd; rw [s7, s6]; exact b
  have b1 := bS.1
  have b2 := bS.2.1
  have b3 := bS.2.2
  have use : ∀ q : Tr, (S 0 7).toInt < (q 0 7).toInt → q 0 10 = S 0 10 → tkP T q := fun q h1 h2 => by
    unfold tkP
    rw [h2, s10, ← s7]
    exact ⟨Int.le_refl _, Or.inr h1⟩
  refine Ep_ite (fun c => Ep_lt (fun z f => Ep_some ?_)) (fun c => Ep_bd (Q1 := fun r => f_X8_isSmall S (S 0 7) = some r) (fun r e => e) (fun r hr => Ep_ite (fun c2 => Ep_bd (Q1 := fun r => f_X8_isDigit S (S 0 7) = some r) (fun r e => e) (fun r2 hr2 => Ep_ite (fun c3 => ?_) (fun c3 => ?_))) (fun c2 => ?_)))
  · unfold tkP
    rw [f, st_same, st_ne (by decide), st_ne (by decide), s10, s7]
    exact ⟨Int.le_refl _, Or.inl ⟨rfl, rfl⟩⟩
  · have hl : ((S 0 7).toInt.toNat : Int) < (S 0 6).toInt := by
      have : ¬ (S 0 7).toInt = (S 0 6).toInt := fun q => c (Int32.toInt_inj.mp q)
      omega
    refine Ep_bd (Ep_and (e_signT (S := S) (n := (S 0 7).toInt.toNat) (by omega) hl b3) (e10_sg (T := S))) (fun q h => Ep_some ?_)
    obtain ⟨⟨m, d, h1, h2, _⟩, h4⟩ := h
    have hm : 1 ≤ m := by
      unfold sgR at h1
      rcases h1 with ⟨_, _, h1⟩ | ⟨_, _, h1⟩ | ⟨_, _, _, h1⟩ | ⟨_, _, _, h1⟩ | h1
      · rcases h1 with ⟨_, _, h⟩ | ⟨_, _, h⟩ | ⟨_, _, _, h⟩ <;> omega
      · rcases h1 with ⟨_, _, h⟩ | ⟨_, _, h⟩ <;> omega
      · omega
      · omega
      · have := h1.2.2.2.2.2.2.2.2.2.2.2.2; omega
    exact use q (by omega) h4
  · refine Ep_lt (fun y f => Ep_lt (fun z g => ?_))
    have z7 : z 0 7 = S 0 7 := by rw [g, st_ne (by decide), f, st_ne (by decide)]
    have z6 : z 0 6 = S 0 6 := by rw [g, st_ne (by decide), f, st_ne (by decide)]
    have z10 : z 0 10 = S 0 10 := by rw [g, st_ne (by decide), f, st_ne (by decide)]
    have z1 : f_X8_isDigit z (z 0 7) = some r2 := by
      rw [z7, ← hr2]; unfold f_X8_isDigit; rw [z6]; rw [g, f]; rfl
    unfold fL_X8_token_L213
    refine Ep_mono ((pr_213 2000 z (by unfold pBd; rw [z7, z6]; exact bS)).2 r2 z1 c3) (fun q h => use q (by rw [← z7]; exact h.1) (by rw [h.2, z10]))
  · unfold fL_X8_token_L90
    exact Ep_mono (pr_90s bS hr c2) (fun q h => use q h.1 h.2)
theorem pr_0 (N : Nat) : ∀ T : Tr, pBd T → Ep (lpF (fun _ => none) fB_X8_token_L0 N T) (tkP T) := by
  induction N with
  | zero => intro T _; exact Ep_none
  | succ N ih =>
    intro T b
    show Ep (fB_X8_token_L0 (lpF (fun _ => none) fB_X8_token_L0 N) T) _
    unfold fB_X8_token_L0
    refine Ep_ite (fun _ => pr_52 b) (fun c => ?_)
    have c := tq_len rfl rfl c
    have b1 := b.1
    have b2 := b.2.2
    have h39 : Ep (fJ_X8_token_J39 (lpF (fun _ => none) fB_X8_token_L0 N) T) (tkP T) := by
      unfold fJ_X8_token_J39
      refine Ep_lt (fun z e => ?_)
      have z7 : (z 0 7).toInt = (T 0 7).toInt + 1 := by rw [e, st_same]; exact i_addK rfl (by decide) (by omega) (by omega)
      have z6 : z 0 6 = T 0 6 := by rw [e, st_ne (by decide)]
      exact Ep_mono (ih z ⟨by omega, by rw [z6]; omega, by rw [z6]; exact b2⟩) (fun q h => ⟨by have := h.1; omega, h.2⟩)
    exact Ep_ck (Ep_ite (fun _ => h39) (fun _ => Ep_ite (fun _ => h39) (fun _ => pr_52 b)))
theorem pr_tok {T : Tr} (b : pBd T) : Ep (f_X8_token T) (tkP T) := by
  unfold f_X8_token fL_X8_token_L0
  exact pr_0 2000 T b
-- 62.y.e1
/-! what a token leaves alone in the reference; both readers' tokens stand alike -/
def frT (T q : Tr) : Prop := ∀ a j, ¬ (a = 0 ∧ 7 ≤ j ∧ j ≤ 10) → q a j = T a j
theorem frT_r {T : Tr} : frT T T := fun _ _ _ => rfl
theorem frT_s {T q : Tr} (h : frT T q) {j : Nat} {v : Int32} (hj : 7 ≤ j ∧ j ≤ 10) : frT T (st q 0 j v) := fun a i hn => by
  rcases st_or (S := q) (a := 0) (i := j) (b := a) (j := i) (v := v) with g | g
  · rw [g]; exact h a i hn
  · exact absurd ⟨g.1, by rw [g.2]; exact hj⟩ hn
theorem frT_135 {T q : Tr} (x2 x3 : Int32) (h : frT T q) : Ep (fJ_X8_signToken_J135 x2 x3 q) (frT T) := by
  have h192 : ∀ v q, frT T q → Ep (fJ_X8_signToken_J192 v q) (frT T) := fun v q h => by
    unfold fJ_X8_signToken_J192
    exact Ep_lt (fun z e => Ep_some (by rw [e]; exact frT_s h (by omega)))
  unfold fJ_X8_signToken_J135
  refine Ep_lt (fun z e => ?_)
  have h2 : frT T z := by rw [e]; exact frT_s h (by omega)
  exact Ep_ite (fun _ => h192 _ _ h2) (fun _ => Ep_ite (fun _ => Ep_ite (fun _ => Ep_ite (fun _ => h192 _ _ h2) (fun _ => h192 _ _ h2)) (fun _ => h192 _ _ h2)) (fun _ => Ep_ite (fun _ => h192 _ _ h2) (fun _ => h192 _ _ h2)))
theorem frT_116 {T q : Tr} (x2 x3 : Int32) (h : frT T q) : Ep (fJ_X8_signToken_J116 x2 x3 q) (frT T) := by
  have h125 : Ep (fJ_X8_signToken_J125 x2 x3 q) (frT T) := by
    unfold fJ_X8_signToken_J125
    exact Ep_lt (fun z e => frT_135 _ _ (by rw [e]; exact frT_s h (by omega)))
  unfold fJ_X8_signToken_J116
  exact Ep_ite (fun _ => Ep_ite (fun _ => frT_135 _ _ h) (fun _ => h125)) (fun _ => h125)
theorem frT_74 {T q : Tr} (x : Int32) (h : frT T q) : Ep (fJ_X8_signToken_J74 x q) (frT T) := by
  unfold fJ_X8_signToken_J74 fJ_X8_signToken_J94 fJ_X8_signToken_J95 fJ_X8_signToken_J115
  exact Ep_ite (fun _ => Ep_ite (fun _ => Ep_ite (fun _ => frT_116 _ _ h) (fun _ => frT_116 _ _ h)) (fun _ => frT_116 _ _ h)) (fun _ => Ep_ite (fun _ => Ep_ite (fun _ => Ep_ite (fun _ => frT_116 _ _ h) (fun _ => frT_116 _ _ h)) (fun _ => frT_116 _ _ h)) (fun _ => Ep_ite (fun _ => Ep_ite (fun _ => frT_116 _ _ h) (fun _ => frT_116 _ _ h)) (fun _ => frT_116 _ _ h)))
theorem frT_sg {T q2 : Tr} (h0 : frT T q2) : Ep (f_X8_signToken q2) (frT T) := by
  unfold f_X8_signToken
  refine Ep_ck (Ep_lt (fun q3 e2 => Ep_lt (fun q e => ?_)))
  have h : frT T q := by rw [e, e2]; exact frT_s (frT_s h0 (by omega)) (by omega)
  have h50 : Ep (fJ_X8_signToken_J50 q) (frT T) := by
    unfold fJ_X8_signToken_J50
    exact Ep_ite (fun _ => frT_74 _ h) (fun _ => Ep_ck (frT_74 _ h))
  have h275 : ∀ v, Ep (fJ_X8_signToken_J275 v q) (frT T) := fun v => by
    unfold fJ_X8_signToken_J275 fJ_X8_signToken_J287
    exact Ep_ite (fun _ => Ep_lt (fun z e => Ep_some (by rw [e]; exact frT_s h (by omega)))) (fun _ => Ep_lt (fun z e => Ep_some (by rw [e]; exact frT_s h (by omega))))
  unfold fJ_X8_signToken_J270
  exact Ep_ite (fun _ => h50) (fun _ => Ep_ite (fun _ => h50) (fun _ => Ep_ite (fun _ => h50) (fun _ => Ep_ite (fun _ => h275 _) (fun _ => Ep_ite (fun _ => h275 _) (fun _ => Ep_ite (fun _ => h275 _) (fun _ => Ep_ite (fun _ => h275 _) (fun _ => Ep_ite (fun _ => h275 _) (fun _ => Ep_ite (fun _ => h275 _) (fun _ => Ep_ite (fun _ => h275 _) (fun _ => Ep_ite (fun _ => h275 _) (fun _ => h275 _)))))))))))
theorem frT_114 {T q : Tr} (h : frT T q) : Ep (fJ_X8_token_J114 q) (frT T) := by
  have h162 : ∀ v q, frT T q → Ep (fJ_X8_token_J162 v q) (frT T) := fun v q h => by
    unfold fJ_X8_token_J162
    refine Ep_lt (fun z e => ?_)
    have h2 : frT T z := by rw [e]; exact frT_s h (by omega)
    exact Ep_ite (fun _ => Ep_any (fun _ => Ep_lt (fun y f => Ep_some (by rw [f]; exact frT_s h2 (by omega))))) (fun _ => Ep_some h2)
  unfold fJ_X8_token_J114
  refine Ep_any (fun r => Ep_lt (fun z e => ?_))
  have h2 : frT T z := by rw [e]; exact frT_s h (by omega)
  exact Ep_ite (fun _ => Ep_ite (fun _ => h162 _ _ h2) (fun _ => h162 _ _ h2)) (fun _ => h162 _ _ h2)
theorem frT_90 {T : Tr} (N : Nat) : ∀ q, frT T q → Ep (lpF (fun _ => none) fB_X8_token_L90 N q) (frT T) := by
  induction N with
  | zero => intro q _; exact Ep_none
  | succ N ih =>
    intro q h
    show Ep (fB_X8_token_L90 (lpF (fun _ => none) fB_X8_token_L90 N) q) _
    unfold fB_X8_token_L90
    exact Ep_any (fun _ => Ep_ite (fun _ => frT_114 h) (fun _ => Ep_lt (fun z e => ih _ (by rw [e]; exact frT_s h (by omega)))))
theorem frT_213 {T : Tr} (N : Nat) : ∀ q, frT T q → Ep (lpF (fun _ => none) fB_X8_token_L213 N q) (frT T) := by
  induction N with
  | zero => intro q _; exact Ep_none
  | succ N ih =>
    intro q h
    show Ep (fB_X8_token_L213 (lpF (fun _ => none) fB_X8_token_L213 N) q) _
    have h261 : ∀ v, Ep (fJ_X8_token_J261 (lpF (fun _ => none) fB_X8_token_L213 N) v q) (frT T) := fun v => by
      unfold fJ_X8_token_J261
      exact Ep_lt (fun y f => Ep_lt (fun z e => ih _ (by rw [e, f]; exact frT_s (frT_s h (by omega)) (by omega))))
    unfold fB_X8_token_L213
    exact Ep_any (fun _ => Ep_ite (fun _ => Ep_some h) (fun _ => Ep_ite (fun _ => Ep_ck (h261 _)) (fun _ => h261 _)))
theorem frT_52 {T q : Tr} (h0 : frT T q) : Ep (fJ_X8_token_J52 q) (frT T) := by
  unfold fJ_X8_token_J52 fL_X8_token_L213 fL_X8_token_L90
  refine Ep_lt (fun z e => ?_)
  have h : frT T z := by rw [e]; exact frT_s h0 (by omega)
  exact Ep_ite (fun _ => Ep_lt (fun y f => Ep_some (by rw [f]; exact frT_s h (by omega)))) (fun _ => Ep_any (fun _ => Ep_ite (fun _ => Ep_any (fun _ => Ep_ite (fun _ => Ep_bd (frT_sg h) (fun _ g => Ep_some g)) (fun _ => Ep_lt (fun y f => Ep_lt (fun u g => frT_213 2000 _ (by rw [g, f]; exact frT_s (frT_s h (by omega)) (by omega))))))) (fun _ => frT_90 2000 _ h)))
theorem frT_0 {T : Tr} (N : Nat) : ∀ q, frT T q → Ep (lpF (fun _ => none) fB_X8_token_L0 N q) (frT T) := by
  induction N with
  | zero => intro q _; exact Ep_none
  | succ N ih =>
    intro q h
    show Ep (fB_X8_token_L0 (lpF (fun _ => none) fB_X8_token_L0 N) q) _
    have h39 : Ep (fJ_X8_token_J39 (lpF (fun _ => none) fB_X8_token_L0 N) q) (frT T) := by
      unfold fJ_X8_token_J39
      exact Ep_lt (fun z e => ih _ (by rw [e]; exact frT_s h (by omega)))
    unfold fB_X8_token_L0
    exact Ep_ite (fun _ => frT_52 h) (fun _ => Ep_ck (Ep_ite (fun _ => h39) (fun _ => Ep_ite (fun _ => h39) (fun _ => frT_52 h))))
theorem frT_tok {T : Tr} : Ep (f_X8_token T) (frT T) := by
  unfold f_X8_token fL_X8_token_L0
  exact frT_0 2000 T frT_r
/-- both stand behind the same token -/
def tkS (K T : Tr) : Prop := kT K T ∧ wC K ∧ wT T ∧ K 0 2 = T 0 10 ∧ kI (K 0 1).toInt (T 0 8).toInt (T 0 9).toInt ∧ ((T 0 8).toInt = 2 → K 0 3 = T 0 9) ∧ ((T 0 8).toInt = 3 → nR (K 0 3) (T 0 9)) ∧ 0 ≤ (T 0 10).toInt ∧ ((T 0 8 = 0 ∧ (T 0 10).toInt = (T 0 7).toInt) ∨ (T 0 10).toInt < (T 0 7).toInt)
theorem e_adv {K T : Tr} (hC : wC K) (hT : wT T) (h : kT K T) : E2 (f_X5_advance K) (f_X8_token T) (fun K1 T1 => tkS K1 T1 ∧ frK K K1 ∧ frT T T1 ∧ (T 0 7).toInt ≤ (T1 0 10).toInt) := by
  have b := h.2.2.1
  intro K1 T1 e1 e2
  obtain ⟨⟨a1, a2, a3, a4, a5, a6, a7⟩, f1⟩ := e_tok hC hT h K1 T1 e1 e2
  have f2 := frT_tok T1 e2
  obtain ⟨p1, p2⟩ := pr_tok (T := T) b T1 e2
  have t6 : T1 0 6 = T 0 6 := f2 0 6 (by omega)
  refine ⟨⟨?_, fun j hj => ?_, fun j hj => ?_, a4, a5, a6, a7, by omega, p2⟩, f1, f2, p1⟩
  · exact kT_of h (f1 0 6 (by omega)) t6 a1 ⟨a2, a3⟩ (funext fun j => f1 5 j (by omega)) (funext fun j => f2 1 j (by omega))
  · rw [f1 6 j (by omega)]; exact hC j hj
  · rw [f2 4 j (by omega)]; exact hT j hj
theorem e_advS {K T : Tr} (h : tkS K T) : E2 (f_X5_advance K) (f_X8_token T) (fun K1 T1 => tkS K1 T1 ∧ frK K K1 ∧ frT T T1 ∧ (T 0 7).toInt ≤ (T1 0 10).toInt) := e_adv h.2.1 h.2.2.1 h.1
/-- the two stand alike, and nothing but cells of reading and of the text read has changed -/
theorem tkS_T {K T T1 : Tr} (h : tkS K T) (e : ∀ j, 6 ≤ j → j ≤ 10 → T1 0 j = T 0 j) (e1 : T1 1 = T 1) (e4 : T1 4 = T 4) : tkS K T1 := by
  obtain ⟨⟨a1, a2, a3, a4⟩, b, c, d, f, g, i, j, k⟩ := h
  have e6 := e 6 (by omega) (by omega)
  have e7 := e 7 (by omega) (by omega)
  have e8 := e 8 (by omega) (by omega)
  have e9 := e 9 (by omega) (by omega)
  have e10 := e 10 (by omega) (by omega)
  unfold tkS kT
  rw [e6, e7, e8, e9, e10, e1]
  refine ⟨⟨a1, a2, a3, a4⟩, b, fun j hj => ?_, d, f, g, i, j, k⟩
  rw [e4]; exact c j hj
-- 62.y.e2
/-! numbers with their bounds; faults -/
theorem k_num {c k w : Int} (h : kI c k w) : c = 42 ↔ k = 3 := by unfold kI at h; omega
theorem k_name {c k w : Int} (h : kI c k w) : c = 43 ↔ k = 2 := by unfold kI at h; omega
theorem k_end {c k w : Int} (h : kI c k w) : c = 45 ↔ k = 0 := by unfold kI at h; omega
theorem k_word {c k w : Int} (h : kI c k w) {a b : Int} (ha : 0 ≤ a) (hb : b ≤ 18) : (a ≤ c ∧ c ≤ b) ↔ (k = 1 ∧ a ≤ w ∧ w ≤ b) := by unfold kI at h; omega
theorem k_weq {c k w : Int} (h : kI c k w) (hk : k = 1) (hw : w ≤ 18) : c = w := by unfold kI at h; omega
theorem k_semi {c k w : Int} (h : kI c k w) : c = 41 ↔ (k = 4 ∧ w = 59) := by unfold kI at h; omega
def flt (R T : Tr) : Prop := R 0 1 = T 0 4 ∧ R 0 2 = T 0 5 ∧ ¬ R 0 1 = 0
def frR (T q : Tr) : Prop := ∀ a j, ¬ (a = 0 ∧ 7 ≤ j ∧ j ≤ 11) → q a j = T a j
theorem frR_T {T q : Tr} (h : frT T q) : frR T q := fun a j hn => h a j (fun g => hn ⟨g.1, g.2.1, by omega⟩)
theorem frR_t {T q r : Tr} (h1 : frR T q) (h2 : frR q r) : frR T r := fun a j hn => (h2 a j hn).trans (h1 a j hn)
theorem ex0 {K R : Tr} {c : Int32} : f_X3_expect K R 0 c = some (0, st (st R 0 1 c) 0 2 (K 0 2)) := rfl
theorem ex1 {K R : Tr} {c : Int32} : f_X3_expect K R 1 c = some (1, R) := rfl
theorem wr0 {T : Tr} {c : Int32} : f_X8_wrong T c = some (0, st (st T 0 4 c) 0 5 (T 0 10)) := by
  show some ((0 : Int32), st (st T 0 4 c) 0 5 ((st T 0 4 c) 0 10)) = _
  rw [st_ne (by decide)]
theorem flt_of {K R T : Tr} {c : Int32} (h : K 0 2 = T 0 10) (hc : ¬ c = 0) : flt (st (st R 0 1 c) 0 2 (K 0 2)) (st (st T 0 4 c) 0 5 (T 0 10)) := by
  refine ⟨?_, ?_, ?_⟩
  · rw [st_ne (by decide), st_same, st_ne (by decide), st_same]
  · rw [st_same, st_same, h]
  · rw [st_ne (by decide), st_same]; exact hc
theorem wrE {T : Tr} {c : Int32} : (bd (f_X8_wrong T c) fun q => lt q.1 fun r3 => lt q.2 fun S_4 => ck (okB r3) (some (r3, S_4))) = some (0, st (st T 0 4 c) 0 5 (T 0 10)) := by
  rw [wr0]; rfl
section
variable {α β γ δ ε ζ : Type} {Q : α → β → Prop} {a : γ} {b : δ} {c : ε} {d : ζ} {x : Option α} {y : Option β}
theorem E2_p2l {k : γ → δ → Option α} (h : E2 (k a b) y Q) : E2 (bd (some (a, b)) fun q => lt q.1 fun r => lt q.2 fun s => k r s) y Q := h
theorem E2_p2r {k : γ → δ → Option β} (h : E2 x (k a b) Q) : E2 x (bd (some (a, b)) fun q => lt q.1 fun r => lt q.2 fun s => k r s) Q := h
theorem E2_v2l {k : γ → δ → Option α} (h : E2 (k a b) y Q) : E2 (lt (a, b).1 fun r => lt (a, b).2 fun s => k r s) y Q := h
theorem E2_v2r {k : γ → δ → Option β} (h : E2 x (k a b) Q) : E2 x (lt (a, b).1 fun r => lt (a, b).2 fun s => k r s) Q := h
theorem E2_v3l {k : γ → δ → ε → Option α} (h : E2 (k a b c) y Q) : E2 (lt (a, b, c).1 fun r => lt (a, b, c).2.1 fun s => lt (a, b, c).2.2 fun t => k r s t) y Q := h
theorem E2_v4l {k : γ → δ → ε → ζ → Option α} (h : E2 (k a b c d) y Q) : E2 (lt (a, b, c, d).1 fun r => lt (a, b, c, d).2.1 fun s => lt (a, b, c, d).2.2.1 fun t => lt (a, b, c, d).2.2.2 fun u => k r s t u) y Q := h
end
def nmQ (K R T : Tr) (lo hi : Int32) (q : Int32 × Tr × Tr) (q' : Int32 × Tr) : Prop := (q.1 = -1 ∧ q'.1 = 0 ∧ flt q.2.2 q'.2) ∨ (q'.1 = 1 ∧ lo.toInt ≤ q.1.toInt ∧ q.1.toInt ≤ hi.toInt ∧ q'.2 0 11 = q.1 ∧ tkS q.2.1 q'.2 ∧ q.2.2 = R ∧ frK K q.2.1 ∧ frR T q'.2 ∧ (T 0 7).toInt ≤ (q'.2 0 10).toInt)
theorem e_num {K R T : Tr} {lo hi : Int32} (h : tkS K T) (hlo : 0 ≤ lo.toInt) (hhi : hi.toInt ≤ 99999) : E2 (f_X3_takeNumber K R lo hi) (f_X8_number T lo hi) (nmQ K R T lo hi) := by
  unfold f_X3_takeNumber f_X8_number
  refine E2_ltl (fun y ey => ?_)
  have hk := k_num h.2.2.2.2.1
  by_cases c : (T 0 8).toInt = 3
  · have c8 : T 0 8 = 3 := Int32.toInt_inj.mp (by rw [c]; decide)
    have c1 : K 0 1 = 42 := Int32.toInt_inj.mp (by rw [hk.mpr c]; decide)
    rw [if_pos c1, if_pos c8]
    unfold fJ_X3_takeNumber_J26
    rw [ex1]
    refine E2_p2l (E2_ql (by decide) ?_)
    have nr := h.2.2.2.2.2.2.1 c
    have fail : E2 (fJ_X3_takeNumber_J48 y K R) (bd (f_X8_wrong T (2 : Int32)) fun q => lt q.1 fun r10 => lt q.2 fun S_11 => ck (okB r10) (some (r10, S_11))) (nmQ K R T lo hi) := by
      unfold fJ_X3_takeNumber_J48 fJ_X3_takeNumber_J49
      rw [ex0, wrE]
      exact E2_p2l (E2_pl rfl (E2_some (Or.inl ⟨rfl, rfl, flt_of h.2.2.2.1 (by decide)⟩)))
    have good : lo.toInt ≤ y.toInt → y.toInt ≤ hi.toInt → E2 (fJ_X3_takeNumber_J49 y 1 K R) (lt (st T 0 11 (T 0 9)) fun S_6 => bd (f_X8_token S_6) fun S_7 => some (1, S_7)) (nmQ K R T lo hi) := by
      intro g1 g2
      unfold fJ_X3_takeNumber_J49
      rw [ex1]
      refine E2_p2l (E2_ltr (fun T2 f2 => E2_ql (by decide) ?_))
      have h2 : tkS K T2 := tkS_T h (fun j h1 h2 => by rw [f2, st_ne (by omega)]) (by rw [f2]; rfl) (by rw [f2]; rfl)
      refine E2_bd (e_advS h2) (fun K1 T1 hq => E2_some (Or.inr ⟨rfl, g1, g2, ?_, hq.1, rfl, hq.2.1, ?_, ?_⟩))
      · show T1 0 11 = y
        rw [hq.2.2.1 0 11 (by omega), f2, st_same]
        rcases nr with ⟨n1, _⟩ | ⟨n1, _⟩
        · rw [← n1, ey]
        · rw [← ey] at n1; omega
      · intro a j hn
        show T1 a j = T a j
        rw [hq.2.2.1 a j (fun g => hn ⟨g.1, g.2.1, by omega⟩), f2]
        rcases st_or (S := T) (a := 0) (i := 11) (b := a) (j := j) (v := T 0 9) with g | g
        · exact g
        · exact absurd ⟨g.1, by omega⟩ hn
      · show (T 0 7).toInt ≤ (T1 0 10).toInt
        have := hq.2.2.2
        rw [f2, st_ne (by decide)] at this
        exact this
    unfold f_X8_isIn
    rcases nr with ⟨n1, n2, n3⟩ | ⟨n1, n2, n3, n4⟩
    · rw [← n1, ← ey]
      by_cases d1 : y < lo
      · rw [if_pos d1, if_pos d1]
        exact E2_sr (E2_pr rfl fail)
      · rw [if_neg d1, if_neg d1]
        by_cases d2 : hi < y
        · rw [if_pos d2, if_pos d2]
          exact E2_sr (E2_pr rfl fail)
        · rw [if_neg d2, if_neg d2]
          have g := good (tq_ltn rfl rfl d1) (tq_ltn rfl rfl d2)
          rw [← n1, ← ey] at g
          exact E2_sr (E2_qr (by decide) g)
    · have d1 : ¬ y < lo ∨ hi < lo := by
        by_cases q : hi < lo
        · exact Or.inr q
        · left
          intro q2
          have := tq_lt rfl rfl q2
          have := tq_ltn rfl rfl q
          rw [← ey] at n1
          omega
      have d2 : hi < y := Int32.lt_iff_toInt_lt.mpr (by rw [ey]; omega)
      have d3 : hi < (T 0 9) := Int32.lt_iff_toInt_lt.mpr (by omega)
      rw [if_pos d2, if_pos d3]
      refine E2_itl (fun _ => ?_) (fun _ => ?_)
      · by_cases d4 : T 0 9 < lo
        · rw [if_pos d4]; exact E2_sr (E2_pr rfl fail)
        · rw [if_neg d4]; exact E2_sr (E2_pr rfl fail)
      · by_cases d4 : T 0 9 < lo
        · rw [if_pos d4]; exact E2_sr (E2_pr rfl fail)
        · rw [if_neg d4]; exact E2_sr (E2_pr rfl fail)
  · have c8 : ¬ T 0 8 = 3 := fun q => c (by rw [q]; decide)
    have c1 : ¬ K 0 1 = 42 := fun q => c (hk.mp (by rw [q]; decide))
    rw [if_neg c1, if_neg c8]
    unfold fJ_X3_takeNumber_J26
    rw [ex0, wrE]
    exact E2_p2l (E2_pl rfl (E2_some (Or.inl ⟨rfl, rfl, flt_of h.2.2.2.1 (by decide)⟩)))
-- 62.y.f1
/-! what has been read is alike: places, persons, pieces, waits, what stands once, laws -/
theorem st_no {S : Tr} {a i : Nat} {v : Int32} {b j : Nat} (h : ¬ (b = a ∧ j = i)) : st S a i v b j = S b j := by
  rcases st_or (S := S) (a := a) (i := i) (b := b) (j := j) (v := v) with g | g
  · exact g
  · exact absurd g h
def rPl (P T : Tr) : Prop := P 0 0 = T 0 16 ∧ (0 ≤ (T 0 16).toInt ∧ (T 0 16).toInt ≤ 5) ∧ ∀ i : Nat, (i : Int) < (T 0 16).toInt → P 8 i = T 24 (5 + i) ∧ P 9 i = T 25 (5 + i)
def rPe (P T : Tr) : Prop := P 0 1 = T 0 17 ∧ (0 ≤ (T 0 17).toInt ∧ (T 0 17).toInt ≤ 6) ∧ ∀ i : Nat, (i : Int) < (T 0 17).toInt → P 10 i = T 26 (6 + i) ∧ P 11 i = T 27 (6 + i) ∧ P 12 i = T 28 (6 + i) ∧ P 13 i = T 29 (6 + i)
def rPi (P T : Tr) : Prop := P 0 2 = T 0 18 ∧ (0 ≤ (T 0 18).toInt ∧ (T 0 18).toInt ≤ 10) ∧ ∀ i : Nat, (i : Int) < (T 0 18).toInt → P 14 i = T 30 (10 + i) ∧ P 15 i = T 31 (10 + i) ∧ P 16 i = T 32 (10 + i) ∧ P 17 i = T 33 (10 + i)
def bcN (x : Int32) : Int := match f_J6_bitCount_0f7a4 x with | some r => r.toInt | none => 0
def rW (R P T : Tr) : Prop := (0 ≤ (R 0 6).toInt ∧ (R 0 6).toInt < 1048576) ∧ bcN (R 0 6) = (T 0 20).toInt ∧ (0 ≤ (T 0 20).toInt ∧ (T 0 20).toInt ≤ 10) ∧ (∀ t : Nat, t < 20 → (T 35 t = 0 ↔ ((R 0 6) >>> ((Int32.ofNat t) &&& 31)) &&& 1 = 0)) ∧ ∀ t : Nat, t < 21 → P 18 t = T 34 (21 + t)
def rO (R P T : Tr) : Prop := (0 ≤ (R 0 5).toInt ∧ (R 0 5).toInt < 8) ∧ (T 22 0 = 0 ↔ (R 0 5) &&& 1 = 0) ∧ (T 22 1 = 0 ↔ (R 0 5) &&& 2 = 0) ∧ (T 22 2 = 0 ↔ (R 0 5) &&& 4 = 0) ∧ P 0 4 = T 23 3 ∧ P 0 5 = T 23 4 ∧ P 0 6 = T 23 5
/-- the knots that are held behind i knots of a law -/
def hs (g : Nat → Int32) : Nat → List Nat
  | 0 => []
  | i + 1 => bif decide ((g i).toInt < 10000) || decide (10022 ≤ (g i).toInt ∧ (g i).toInt ≤ 10028) then i :: hs g i else bif decide ((g i).toInt = 10021) then i :: (hs g i).drop 1 else i :: (hs g i).drop 2
/-- a sign: the class's kind, the reference's knot -/
def sg2 (c k : Int) : Prop := (c = 39 ∧ k = 0) ∨ (c = 21 ∧ k = 2) ∨ (c = 20 ∧ k = 3) ∨ (c = 19 ∧ k = 4) ∨ (29 ≤ c ∧ c ≤ 38 ∧ k = c - 24)
/-- knot i of a law whose first is f: class and reference -/
def nd (g kn pa ot : Nat → Int32) (f i : Nat) : Prop :=
  (0 ≤ (g i).toInt ∧ (g i).toInt < 10000 ∧ (kn (f + i)).toInt = 0 ∧ pa (f + i) = g i) ∨
  (∃ m : Nat, m ≤ 6 ∧ (g i).toInt = 10022 + (m : Int) ∧ (kn (f + i)).toInt = 1 ∧ (pa (f + i)).toInt = m) ∨
  (∃ a r, (g i).toInt = 10021 ∧ (kn (f + i)).toInt = 2 ∧ hs g i = a :: r ∧ (pa (f + i)).toInt = f + a) ∨
  (∃ a b r, sg2 ((g i).toInt - 10000) (kn (f + i)).toInt ∧ 3 ≤ (kn (f + i)).toInt ∧ hs g i = b :: a :: r ∧ (pa (f + i)).toInt = f + a ∧ (ot (f + i)).toInt = f + b)
def sh64 (u : Nat → Int32) (i : Nat) : Int32 := u (64 + i)
/-- a law that has been read -/
def lwR (P T : Tr) (k : Nat) : Prop := (P (30 + 3 * k) 1 = 0 ∧ T 36 (3 + k) = 0) ∨ (T 36 (3 + k) = 1 ∧ ∃ f s : Nat, 1 ≤ s ∧ (P (30 + 3 * k) 1).toInt = s ∧ (T 37 (3 + k)).toInt = f ∧ (T 38 (3 + k)).toInt = f + s ∧ (f : Int) + s ≤ (T 0 19).toInt ∧ (hs (P (31 + 3 * k)) s).length = 1 ∧ ∀ i, i < s → nd (P (31 + 3 * k)) (sh64 (T 39)) (sh64 (T 40)) (sh64 (T 41)) f i)
def rL (P T : Tr) : Prop := P 0 3 = T 0 46 ∧ T 0 19 = T 0 46 ∧ (0 ≤ (T 0 46).toInt ∧ (T 0 46).toInt ≤ 64) ∧ lwR P T 0 ∧ lwR P T 1 ∧ lwR P T 2
section
variable {P T P1 T1 R R1 : Tr}
theorem rPl_of (h : rPl P T) (e : ∀ a j, (a = 0 ∧ j = 0) ∨ a = 8 ∨ a = 9 → P1 a j = P a j) (f : ∀ a j, (a = 0 ∧ j = 16) ∨ a = 24 ∨ a = 25 → T1 a j = T a j) : rPl P1 T1 := by
  unfold rPl at h ⊢
  rw [e 0 0 (by omega), f 0 16 (by omega)]
  refine ⟨h.1, h.2.1, fun i hi => ?_⟩
  rw [e 8 i (by omega), e 9 i (by omega), f 24 _ (by omega), f 25 _ (by omega)]
  exact h.2.2 i hi
theorem rPe_of (h : rPe P T) (e : ∀ a j, (a = 0 ∧ j = 1) ∨ (10 ≤ a ∧ a ≤ 13) → P1 a j = P a j) (f : ∀ a j, (a = 0 ∧ j = 17) ∨ (26 ≤ a ∧ a ≤ 29) → T1 a j = T a j) : rPe P1 T1 := by
  unfold rPe at h ⊢
  rw [e 0 1 (by omega), f 0 17 (by omega)]
  refine ⟨h.1, h.2.1, fun i hi => ?_⟩
  rw [e 10 i (by omega), e 11 i (by omega), e 12 i (by omega), e 13 i (by omega), f 26 _ (by omega), f 27 _ (by omega), f 28 _ (by omega), f 29 _ (by omega)]
  exact h.2.2 i hi
theorem rPi_of (h : rPi P T) (e : ∀ a j, (a = 0 ∧ j = 2) ∨ (14 ≤ a ∧ a ≤ 17) → P1 a j = P a j) (f : ∀ a j, (a = 0 ∧ j = 18) ∨ (30 ≤ a ∧ a ≤ 33) → T1 a j = T a j) : rPi P1 T1 := by
  unfold rPi at h ⊢
  rw [e 0 2 (by omega), f 0 18 (by omega)]
  refine ⟨h.1, h.2.1, fun i hi => ?_⟩
  rw [e 14 i (by omega), e 15 i (by omega), e 16 i (by omega), e 17 i (by omega), f 30 _ (by omega), f 31 _ (by omega), f 32 _ (by omega), f 33 _ (by omega)]
  exact h.2.2 i hi
theorem rW_of (h : rW R P T) (r : R1 0 6 = R 0 6) (e : ∀ j, P1 18 j = P 18 j) (f : ∀ a j, (a = 0 ∧ j = 20) ∨ a = 34 ∨ a = 35 → T1 a j = T a j) : rW R1 P1 T1 := by
  unfold rW at h ⊢
  rw [r, f 0 20 (by omega)]
  refine ⟨h.1, h.2.1, h.2.2.1, fun t ht => ?_, fun t ht => ?_⟩
  · rw [f 35 _ (by omega)]; exact h.2.2.2.1 t ht
  · rw [e t, f 34 _ (by omega)]; exact h.2.2.2.2 t ht
theorem rO_of (h : rO R P T) (r : R1 0 5 = R 0 5) (e : ∀ j, 4 ≤ j → j ≤ 6 → P1 0 j = P 0 j) (f : ∀ a j, a = 22 ∨ a = 23 → T1 a j = T a j) : rO R1 P1 T1 := by
  unfold rO at h ⊢
  rw [r, e 4 (by omega) (by omega), e 5 (by omega) (by omega), e 6 (by omega) (by omega), f 22 0 (by omega), f 22 1 (by omega), f 22 2 (by omega), f 23 3 (by omega), f 23 4 (by omega), f 23 5 (by omega)]
  exact h
theorem hs_cg {g g1 : Nat → Int32} : ∀ {n : Nat}, (∀ i, i < n → g1 i = g i) → hs g1 n = hs g n
  | 0, _ => rfl
  | n + 1, h => by
    unfold hs
    rw [hs_cg (fun i hi => h i (by omega)), h n (by omega)]
theorem nd_of {g kn pa ot g1 kn1 pa1 ot1 : Nat → Int32} {f i : Nat} (h : nd g kn pa ot f i) (e : ∀ j, j ≤ i → g1 j = g j) (e1 : kn1 (f + i) = kn (f + i)) (e2 : pa1 (f + i) = pa (f + i)) (e3 : ot1 (f + i) = ot (f + i)) : nd g1 kn1 pa1 ot1 f i := by
  unfold nd at h ⊢
  rw [e i (by omega), e1, e2, e3, hs_cg (fun j hj => e j (by omega))]
  exact h
theorem lwR_of {k : Nat} (h : lwR P T k) (e : ∀ j, P1 (30 + 3 * k) j = P (30 + 3 * k) j) (e1 : ∀ j, P1 (31 + 3 * k) j = P (31 + 3 * k) j) (f : ∀ a, (36 ≤ a ∧ a ≤ 38) → T1 a (3 + k) = T a (3 + k)) (m : (T 0 19).toInt ≤ (T1 0 19).toInt) (g : ∀ a j : Nat, (39 ≤ a ∧ a ≤ 41) → (j : Int) < 64 + (T 0 19).toInt → T1 a j = T a j) : lwR P1 T1 k := by
  unfold lwR at h ⊢
  rw [e 1, f 36 (by omega), f 37 (by omega), f 38 (by omega), show P1 (31 + 3 * k) = P (31 + 3 * k) from funext e1]
  rcases h with h | ⟨h0, F, s, h1, h2, h3, h4, h5, h6, h7⟩
  · exact Or.inl h
  · refine Or.inr ⟨h0, F, s, h1, h2, h3, h4, by omega, h6, fun i hi => nd_of (h7 i hi) (fun _ _ => rfl) ?_ ?_ ?_⟩ <;> (unfold sh64; exact g _ _ (by omega) (by omega))
theorem rL_of (h : rL P T) (e : ∀ a j, (a = 0 ∧ j = 3) ∨ (30 ≤ a ∧ a ≤ 38) → P1 a j = P a j) (f : ∀ a j, (a = 0 ∧ (j = 46 ∨ j = 19)) ∨ (36 ≤ a ∧ a ≤ 41) → T1 a j = T a j) : rL P1 T1 := by
  have m : (T 0 19).toInt ≤ (T1 0 19).toInt := by rw [f 0 19 (by omega)]; exact Int.le_refl _
  refine ⟨by rw [e 0 3 (by omega), f 0 46 (by omega)]; exact h.1, by rw [f 0 19 (by omega), f 0 46 (by omega)]; exact h.2.1, by rw [f 0 46 (by omega)]; exact h.2.2.1, ?_, ?_, ?_⟩
  · exact lwR_of h.2.2.2.1 (fun j => e _ j (by omega)) (fun j => e _ j (by omega)) (fun a ha => f a _ (by omega)) m (fun a j ha _ => f a j (by omega))
  · exact lwR_of h.2.2.2.2.1 (fun j => e _ j (by omega)) (fun j => e _ j (by omega)) (fun a ha => f a _ (by omega)) m (fun a j ha _ => f a j (by omega))
  · exact lwR_of h.2.2.2.2.2 (fun j => e _ j (by omega)) (fun j => e _ j (by omega)) (fun a ha => f a _ (by omega)) m (fun a j ha _ => f a j (by omega))
end
/-- all that has been read is alike -/
def RD (R P T : Tr) : Prop := rPl P T ∧ rPe P T ∧ rPi P T ∧ rW R P T ∧ rO R P T ∧ rL P T
/-- what stays of the reader at a fault -/
def frF (R q : Tr) : Prop := ∀ a j, ¬ (a = 0 ∧ (j = 1 ∨ j = 2)) → q a j = R a j
theorem RD_of {R P T R1 T1 : Tr} (h : RD R P T) (r5 : R1 0 5 = R 0 5) (r6 : R1 0 6 = R 0 6) (f : ∀ a j, ¬ (a = 0 ∧ 4 ≤ j ∧ j ≤ 11) → T1 a j = T a j) : RD R1 P T1 :=
  ⟨rPl_of h.1 (fun _ _ _ => rfl) (fun a j g => f a j (by omega)), rPe_of h.2.1 (fun _ _ _ => rfl) (fun a j g => f a j (by omega)), rPi_of h.2.2.1 (fun _ _ _ => rfl) (fun a j g => f a j (by omega)), rW_of h.2.2.2.1 r6 (fun _ => rfl) (fun a j g => f a j (by omega)), rO_of h.2.2.2.2.1 r5 (fun _ _ _ => rfl) (fun a j g => f a j (by omega)), rL_of h.2.2.2.2.2 (fun _ _ _ => rfl) (fun a j g => f a j (by omega))⟩
/-- how a line comes back from both -/
def lnQ (K R T : Tr) (q : Int32 × Tr × Tr × Tr) (q' : Int32 × Tr) : Prop := (q.1 = 0 ∧ q'.1 = 0 ∧ flt q.2.2.1 q'.2 ∧ frK K q.2.1) ∨ (q.1 = 1 ∧ q'.1 = 1 ∧ tkS q.2.1 q'.2 ∧ RD q.2.2.1 q.2.2.2 q'.2 ∧ q.2.2.1 0 1 = 0 ∧ q.2.2.1 0 3 = R 0 3 ∧ frK K q.2.1 ∧ (T 0 7).toInt ≤ (q'.2 0 10).toInt)
theorem frK_r {K : Tr} : frK K K := fun _ _ _ => rfl
theorem ln_fail {K R T K1 P1 R1 T1 : Tr} {c : Int32} (h : K1 0 2 = T1 0 10) (hc : ¬ c = 0) (hf : frK K K1) : E2 (some ((0 : Int32), K1, st (st R1 0 1 c) 0 2 (K1 0 2), P1)) (some ((0 : Int32), st (st T1 0 4 c) 0 5 (T1 0 10))) (lnQ K R T) :=
  E2_some (Or.inl ⟨rfl, rfl, flt_of h hc, hf⟩)
theorem frK_num {K R : Tr} {lo hi : Int32} : Ep (f_X3_takeNumber K R lo hi) (fun q => frK K q.2.1) := by
  have h49 : ∀ (x s : Int32) (R : Tr), Ep (fJ_X3_takeNumber_J49 x s K R) (fun q => frK K q.2.1) := fun x s R => by
    unfold fJ_X3_takeNumber_J49
    exact Ep_any (fun q => Ep_lt (fun _ _ => Ep_lt (fun _ _ => Ep_ite (fun _ => Ep_some frK_r) (fun _ => Ep_bd frK_adv (fun _ g => Ep_some g)))))
  have h26 : ∀ (x1 x2 x s : Int32) (R : Tr), Ep (fJ_X3_takeNumber_J26 x1 x2 x s K R) (fun q => frK K q.2.1) := fun x1 x2 x s R => by
    unfold fJ_X3_takeNumber_J26 fJ_X3_takeNumber_J48
    exact Ep_any (fun q => Ep_lt (fun _ _ => Ep_lt (fun _ _ => Ep_ite (fun _ => Ep_some frK_r) (fun _ => Ep_ite (fun _ => h49 _ _ _) (fun _ => Ep_ite (fun _ => h49 _ _ _) (fun _ => h49 _ _ _))))))
  unfold f_X3_takeNumber
  exact Ep_lt (fun _ _ => Ep_ite (fun _ => h26 _ _ _ _ _) (fun _ => h26 _ _ _ _ _))
/-- a number comes back from both -/
def nqQ (K R T : Tr) (lo hi : Int32) (q : Int32 × Tr × Tr) (q' : Int32 × Tr) : Prop := (q.1 = -1 ∧ q'.1 = 0 ∧ flt q.2.2 q'.2 ∧ frK K q.2.1) ∨ (q'.1 = 1 ∧ lo.toInt ≤ q.1.toInt ∧ q.1.toInt ≤ hi.toInt ∧ q'.2 0 11 = q.1 ∧ tkS q.2.1 q'.2 ∧ q.2.2 = R ∧ frK K q.2.1 ∧ frR T q'.2 ∧ (T 0 7).toInt ≤ (q'.2 0 10).toInt)
theorem e_nq {K R T : Tr} {lo hi : Int32} (h : tkS K T) (hlo : 0 ≤ lo.toInt) (hhi : hi.toInt ≤ 99999) : E2 (f_X3_takeNumber K R lo hi) (f_X8_number T lo hi) (nqQ K R T lo hi) := fun a b e1 e2 => by
  have h1 := e_num h hlo hhi a b e1 e2
  have h2 := frK_num a e1
  rcases h1 with ⟨g1, g2, g3⟩ | g
  · exact Or.inl ⟨g1, g2, g3, h2⟩
  · exact Or.inr g
/-- after a token the one at hand stands further on -/
theorem tk_on {K T : Tr} (h : tkS K T) : (T 0 10).toInt ≤ (T 0 7).toInt := by
  rcases h.2.2.2.2.2.2.2.2 with g | g
  · rw [g.2]; exact Int.le_refl _
  · exact Int.le_of_lt g
theorem tkS_st {K T : Tr} {a i : Nat} {v : Int32} (h : tkS K T) (ha : ¬ (a = 0 ∧ 6 ≤ i ∧ i ≤ 10) ∧ a ≠ 1 ∧ a ≠ 4) : tkS K (st T a i v) :=
  tkS_T h (fun j h1 h2 => st_no (by omega)) (funext fun j => st_no (by omega)) (funext fun j => st_no (by omega))
/-- a word of those from .. to -/
theorem tw_yes {K R : Tr} {lo hi : Int32} (h1 : lo.toInt ≤ (K 0 1).toInt) (h2 : (K 0 1).toInt ≤ hi.toInt) : f_X3_takeWord K R lo hi = bd (f_X5_advance K) fun K8 => some (K 0 1 - lo, K8, R) := by
  unfold f_X3_takeWord fJ_X3_takeWord_J23 fJ_X3_takeWord_J24
  show (if K 0 1 < lo then _ else _) = _
  rw [if_neg (fun q => by have := tq_lt rfl rfl q; omega), if_neg (fun q => by have := tq_lt rfl rfl q; omega), ex1]
  rfl
theorem tw_no {K R : Tr} {lo hi : Int32} (h : ¬ (lo.toInt ≤ (K 0 1).toInt ∧ (K 0 1).toInt ≤ hi.toInt)) : f_X3_takeWord K R lo hi = some (-1, K, st (st R 0 1 1) 0 2 (K 0 2)) := by
  unfold f_X3_takeWord fJ_X3_takeWord_J23 fJ_X3_takeWord_J24
  show (if K 0 1 < lo then _ else _) = _
  by_cases c : K 0 1 < lo
  · rw [if_pos c, ex0]; rfl
  · rw [if_neg c]
    have c1 := tq_ltn rfl rfl c
    rw [if_pos (Int32.lt_iff_toInt_lt.mpr (by omega)), ex0]; rfl
-- 62.y.f2
/-! a line of a place, a line of a person: read by both -/
theorem bd_bd {α β γ : Type} {x : Option α} {f : α → Option β} {g : β → Option γ} : bd (bd x f) g = bd x (fun a => bd (f a) g) := by
  cases x <;> rfl
theorem i_cn {x : Int32} {n : Nat} (h : x.toInt = n) : x.toNatClampNeg = n := by simp only [i_cl]; omega
theorem i_z {x : Int32} {k : Int32} (h : x.toInt = k.toInt) : x = k := Int32.toInt_inj.mp h
theorem n_le {k : Int32} (hk : k.toInt = -1) : ¬ (0 : Int32) ≤ k := fun q => by have := tq_le (a := 0) (by decide) hk q; omega
theorem e_place {K R P T : Tr} (h : tkS K T) (hr : RD R P T) (h0 : R 0 1 = 0) : E2 (f_X3_readPlace K R P) (f_X8_placeLine T) (lnQ K R T) := by
  unfold f_X3_readPlace f_X8_placeLine
  obtain ⟨g1, g2, g3, g4, g5, g6⟩ := hr
  obtain ⟨p1, p2, p3⟩ := g1
  refine E2_ltl (fun y ey => ?_)
  obtain ⟨n, hn⟩ : ∃ n : Nat, (T 0 16).toInt = n := ⟨(T 0 16).toInt.toNat, by omega⟩
  have hy : y.toInt = n := by rw [ey, p1]; exact hn
  by_cases c : n = 5
  · rw [if_pos (show T 0 16 = 5 from i_z (by rw [hn, c]; decide)), if_pos (show 5 ≤ y from Int32.le_iff_toInt_le.mpr (by rw [hy, c]; decide))]
    unfold fJ_X3_readPlace_J19
    rw [ex0, wrE]
    exact E2_p2l (E2_pl rfl (ln_fail h.2.2.2.1 (by decide) frK_r))
  · rw [if_neg (show ¬ T 0 16 = 5 from fun q => c (by rw [q] at hn; have : (5 : Int32).toInt = 5 := by decide
                                                      omega)), if_neg (show ¬ 5 ≤ y from fun q => by have := tq_le (a := 5) (by decide) hy q; omega)]
    unfold fJ_X3_readPlace_J19
    rw [ex1]
    refine E2_p2l (E2_ql (by decide) (E2_bd (e_advS h) (fun K2 T2 h2 => ?_)))
    obtain ⟨k2, k2f, t2f, k2p⟩ := h2
    have kk := k2.2.2.2.2.1
    have kw := k_word kk (a := 8) (b := 12) (by omega) (by omega)
    have nofit : ¬ (8 ≤ (K2 0 1).toInt ∧ (K2 0 1).toInt ≤ 12) → E2 (bd (f_X3_takeWord K2 R (8 : Int32) (12 : Int32)) fun q => lt q.1 fun r11 => lt q.2.1 fun K_12 => lt q.2.2 fun R_13 => if 0 ≤ r11 then (bd (f_X3_takeNumber K_12 R_13 (0 : Int32) (999 : Int32)) fun q => lt q.1 fun r17 => lt q.2.1 fun K_18 => lt q.2.2 fun R_19 => fJ_X3_readPlace_J60  y r11 r17 K_18 R_19 P) else (fJ_X3_readPlace_J60  y r11 (-1) K_12 R_13 P)) (fJ_X8_placeLine_J44 T2) (lnQ K R T) := by
      intro hno
      unfold fJ_X8_placeLine_J44
      rw [tw_no (lo := 8) (hi := 12) hno, wrE]
      refine E2_sl (E2_v3l (E2_ql (by decide) ?_))
      unfold fJ_X3_readPlace_J60
      exact E2_ql (by decide) (ln_fail k2.2.2.2.1 (by decide) k2f)
    by_cases d1 : (T2 0 8).toInt = 1
    · rw [if_pos (show T2 0 8 = 1 from i_z (by rw [d1]; decide))]
      by_cases d2 : (T2 0 9).toInt < 8
      · rw [if_pos (show T2 0 9 < 8 from Int32.lt_iff_toInt_lt.mpr (by show _ < (8 : Int); exact d2))]
        exact nofit (by omega)
      · rw [if_neg (show ¬ T2 0 9 < 8 from fun q => d2 (tq_lt rfl (b := 8) (by decide) q))]
        by_cases d3 : (T2 0 9).toInt ≤ 12
        · rw [if_pos (show T2 0 9 ≤ 12 from Int32.le_iff_toInt_le.mpr (by show _ ≤ (12 : Int); exact d3))]
          have kq := kw.mpr ⟨d1, by omega, d3⟩
          have kv : K2 0 1 = T2 0 9 := i_z (k_weq kk d1 (by omega))
          rw [tw_yes (show (8 : Int32).toInt ≤ _ from kq.1) (show _ ≤ (12 : Int32).toInt from kq.2), bd_bd]
          refine E2_ckr (fun _ => E2_ltr (fun T3 f3 => ?_))
          have t216 : T2 0 16 = T 0 16 := t2f 0 16 (by omega)
          have i5 : ((5 : Int32) + T2 0 16).toInt = 5 + n := by rw [t216]; exact i_addK (by decide) hn (by omega) (by omega)
          have c5 : ((5 : Int32) + T2 0 16).toNatClampNeg = 5 + n := i_cn (by omega)
          rw [c5] at f3
          have k3 : tkS K2 T3 := by rw [f3]; exact tkS_st k2 (by omega)
          refine E2_bd (e_advS k3) (fun K4 T4 h4 => ?_)
          obtain ⟨k4, k4f, t4f, k4p⟩ := h4
          have e8 : (K2 0 1 - 8).toInt = (K2 0 1).toInt - 8 := i_subK rfl (by decide) (by omega) (by omega)
          refine E2_sl (E2_v3l (E2_pl (Int32.le_iff_toInt_le.mpr (by rw [e8]; show (0 : Int) ≤ _; omega)) ?_))
          refine E2_bd (e_nq k4 (lo := 0) (hi := 999) (by decide) (by decide)) (fun q q' hq => ?_)
          obtain ⟨r, K5, R5⟩ := q
          obtain ⟨r', T5⟩ := q'
          refine E2_v3l (E2_v2r ?_)
          unfold fJ_X3_readPlace_J60
          rcases hq with ⟨q1, q2, q3, q4⟩ | ⟨q1, q2, q3, q4, q5, q6, q7, q8, q9⟩
          · have q1 : r = -1 := q1
            have q2 : r' = 0 := q2
            subst q1; subst q2
            exact E2_ql (by decide) (E2_pr rfl (E2_some (Or.inl ⟨rfl, rfl, q3, frK_t (frK_t k2f k4f) q4⟩)))
          · have q1 : r' = 1 := q1
            have q6 : R5 = R := q6
            subst q1; subst q6
            have q2 : 0 ≤ r.toInt := q2
            have q4 : T5 0 11 = r := q4
            have q5 : tkS K5 T5 := q5
            have q8 : frR T4 T5 := q8
            have q9 : (T4 0 7).toInt ≤ (T5 0 10).toInt := q9
            refine E2_pl (Int32.le_iff_toInt_le.mpr (by show (0 : Int) ≤ _; exact q2)) (E2_qr (by decide) (E2_ckl (fun _ => E2_ckr (fun _ => E2_ltl (fun P1 e1 => E2_ltl (fun P2 e2 => E2_ltl (fun P3 e3 => E2_ltr (fun T6 f6 => E2_ltr (fun T7 f7 => E2_some ?_)))))))))
            have yn : y.toNatClampNeg = n := i_cn hy
            rw [yn] at e1 e2
            have t516 : T5 0 16 = T 0 16 := by rw [q8 0 16 (by omega), t4f 0 16 (by omega), f3, st_no (by omega), t216]
            have c6 : ((5 : Int32) + T5 0 16).toNatClampNeg = 5 + n := by rw [t516, ← t216]; exact c5
            rw [c6] at f6
            have fr : ∀ a j, ¬ ((a = 0 ∧ (4 ≤ j ∧ j ≤ 11 ∨ j = 16)) ∨ a = 24 ∨ a = 25) → T7 a j = T a j := fun a j hn => by
              rw [f7, st_no (by omega), f6, st_no (by omega), q8 a j (by omega), t4f a j (by omega), f3, st_no (by omega), t2f a j (by omega)]
            have frP : ∀ a j, ¬ ((a = 0 ∧ j = 0) ∨ a = 8 ∨ a = 9) → P3 a j = P a j := fun a j hn => by
              rw [e3, st_no (by omega), e2, st_no (by omega), e1, st_no (by omega)]
            have s16 : T7 0 16 = T 0 16 + 1 := by rw [f7, st_same, f6, st_no (by omega), t516]
            have s16i : (T7 0 16).toInt = n + 1 := by rw [s16]; exact i_addK hn (by decide) (by omega) (by omega)
            refine Or.inr ⟨rfl, rfl, ?_, ⟨⟨?_, ?_, fun i hi => ?_⟩, ?_, ?_, ?_, ?_, ?_⟩, h0, rfl, frK_t (frK_t k2f k4f) q7, ?_⟩
            · show tkS K5 T7
              rw [f7, f6]; exact tkS_st (tkS_st q5 (by omega)) (by omega)
            · show P3 0 0 = T7 0 16
              rw [s16, e3, st_same, e2, st_no (by omega), e1, st_no (by omega), p1]
            · show 0 ≤ (T7 0 16).toInt ∧ (T7 0 16).toInt ≤ 5
              omega
            · have hi : (i : Int) < (T7 0 16).toInt := hi
              show P3 8 i = T7 24 (5 + i) ∧ P3 9 i = T7 25 (5 + i)
              by_cases e : i = n
              · subst e
                constructor
                · rw [e3, st_no (by omega), e2, st_no (by omega), e1, st_same, f7, st_no (by omega), f6, st_no (by omega), q8 _ _ (by omega), t4f _ _ (by omega), f3, st_same, kv]
                · rw [e3, st_no (by omega), e2, st_same, f7, st_no (by omega), f6, st_same, q4]
              · have p := p3 i (by omega)
                constructor
                · rw [e3, st_no (by omega), e2, st_no (by omega), e1, st_no (by omega), f7, st_no (by omega), f6, st_no (by omega), q8 _ _ (by omega), t4f _ _ (by omega), f3, st_no (by omega), t2f _ _ (by omega)]
                  exact p.1
                · rw [e3, st_no (by omega), e2, st_no (by omega), e1, st_no (by omega), f7, st_no (by omega), f6, st_no (by omega), q8 _ _ (by omega), t4f _ _ (by omega), f3, st_no (by omega), t2f _ _ (by omega)]
                  exact p.2
            · exact rPe_of g2 (fun a j g => frP a j (by omega)) (fun a j g => fr a j (by omega))
            · exact rPi_of g3 (fun a j g => frP a j (by omega)) (fun a j g => fr a j (by omega))
            · exact rW_of g4 rfl (fun j => frP 18 j (by omega)) (fun a j g => fr a j (by omega))
            · exact rO_of g5 rfl (fun j _ _ => frP 0 j (by omega)) (fun a j g => fr a j (by omega))
            · exact rL_of g6 (fun a j g => frP a j (by omega)) (fun a j g => fr a j (by omega))
            · show (T 0 7).toInt ≤ (T7 0 10).toInt
              have x1 := tk_on k2
              have x2 := tk_on k4
              have x3 : T3 0 7 = T2 0 7 := by rw [f3, st_no (by omega)]
              rw [x3] at k4p
              rw [f7, st_no (by omega), f6, st_no (by omega)]
              omega
        · rw [if_neg (show ¬ T2 0 9 ≤ 12 from fun q => d3 (tq_le rfl (b := 12) (by decide) q))]
          exact nofit (by omega)
    · rw [if_neg (show ¬ T2 0 8 = 1 from fun q => d1 (by rw [q]; decide))]
      exact nofit (by omega)
theorem e_find {P T : Tr} (h : rPe P T) {x x' : Int32} (hx : x = x') : E2 (f_X2_personNamed P x) (f_X8_find_26 T 6 (T 0 17) x') (fun r r' => r = r' ∧ (r.toInt = -1 ∨ (0 ≤ r.toInt ∧ r.toInt < (T 0 17).toInt))) := by
  subst hx
  unfold f_X2_personNamed fL_X2_personNamed_L2 f_X8_find_26 fL_X8_find_26_L3
  obtain ⟨p1, p2, p3⟩ := h
  have main : ∀ (N n : Nat) (y : Int32), y.toInt = n → n ≤ 6 → E2 (lpF (fun _ => none) (fB_X2_personNamed_L2 P x) N y) (lpF (fun _ => none) (fB_X8_find_26_L3 T 6 (T 0 17) x) N y) (fun r r' => r = r' ∧ (r.toInt = -1 ∨ (0 ≤ r.toInt ∧ r.toInt < (T 0 17).toInt))) := by
    intro N
    induction N with
    | zero => intro n y _ _; exact E2_nl
    | succ N ih =>
      intro n y hy hn
      show E2 (fB_X2_personNamed_L2 P x (lpF (fun _ => none) (fB_X2_personNamed_L2 P x) N) y) (fB_X8_find_26_L3 T 6 (T 0 17) x (lpF (fun _ => none) (fB_X8_find_26_L3 T 6 (T 0 17) x) N) y) _
      generalize lpF (fun _ => none) (fB_X2_personNamed_L2 P x) N = k1 at ih ⊢
      generalize lpF (fun _ => none) (fB_X8_find_26_L3 T 6 (T 0 17) x) N = k2 at ih ⊢
      unfold fB_X2_personNamed_L2 fB_X8_find_26_L3
      rw [p1]
      by_cases c : T 0 17 ≤ y
      · rw [if_pos c, if_pos c]
        exact E2_some ⟨rfl, Or.inl (by decide)⟩
      · rw [if_neg c, if_neg c]
        have c1 := tq_len rfl hy c
        have e6 : ((6 : Int32) + y).toNatClampNeg = 6 + n := i_cn (by rw [i_addK (x := 6) (y := n) (by decide) hy (by omega) (by omega)]; omega)
        rw [i_cn hy, e6, (p3 n c1).1]
        refine E2_ckl (fun _ => E2_ckr (fun _ => E2_it Iff.rfl (fun _ _ => E2_some ⟨rfl, Or.inr ⟨by omega, by omega⟩⟩) (fun _ _ => E2_ltl (fun z ez => E2_ltr (fun z' ez' => ?_)))))
        rw [ez', ← ez]
        exact ih (n + 1) z (by rw [ez, i_addK hy (y := 1) (by decide) (by omega) (by omega)]; omega) (by omega)
  exact main 2000 0 0 (by decide) (by omega)
-- 62.y.f3
theorem nq_cs {K R T K1 R1 T1 : Tr} {lo hi r r' : Int32} {l u : Int} (hq : nqQ K R T lo hi (r, K1, R1) (r', T1)) (hl : lo.toInt = l) (hu : hi.toInt = u) : (r = -1 ∧ r' = 0 ∧ flt R1 T1 ∧ frK K K1) ∨ (r' = 1 ∧ l ≤ r.toInt ∧ r.toInt ≤ u ∧ T1 0 11 = r ∧ tkS K1 T1 ∧ R1 = R ∧ frK K K1 ∧ frR T T1 ∧ (T 0 7).toInt ≤ (T1 0 10).toInt) := by
  subst hl; subst hu; exact hq
theorem e_person {K R P T : Tr} (h : tkS K T) (hr : RD R P T) (h0 : R 0 1 = 0) : E2 (f_X3_readPerson K R P) (f_X8_personLine T) (lnQ K R T) := by
  unfold f_X3_readPerson f_X8_personLine
  obtain ⟨g1, g2, g3, g4, g5, g6⟩ := hr
  have hpe := g2
  obtain ⟨p1, p2, p3⟩ := g2
  refine E2_ltl (fun y ey => ?_)
  obtain ⟨n, hn⟩ : ∃ n : Nat, (T 0 17).toInt = n := ⟨(T 0 17).toInt.toNat, by omega⟩
  have hy : y.toInt = n := by rw [ey, p1]; exact hn
  by_cases c : n = 6
  · rw [if_pos (show T 0 17 = 6 from i_z (by rw [hn, c]; decide)), if_pos (show 6 ≤ y from Int32.le_iff_toInt_le.mpr (by rw [hy, c]; decide))]
    unfold fJ_X3_readPerson_J20
    rw [ex0, wrE]
    exact E2_p2l (E2_pl rfl (ln_fail h.2.2.2.1 (by decide) frK_r))
  · rw [if_neg (show ¬ T 0 17 = 6 from fun q => c (by rw [q] at hn; have : (6 : Int32).toInt = 6 := by decide
                                                      omega)), if_neg (show ¬ 6 ≤ y from fun q => by have := tq_le (a := 6) (by decide) hy q; omega)]
    unfold fJ_X3_readPerson_J20
    rw [ex1]
    refine E2_p2l (E2_ql (by decide) (E2_bd (e_advS h) (fun K2 T2 h2 => E2_ltl (fun x2 ex2 => ?_))))
    obtain ⟨k2, k2f, t2f, k2p⟩ := h2
    have kk := k_name k2.2.2.2.2.1
    by_cases d1 : (T2 0 8).toInt = 2
    · rw [if_pos (show T2 0 8 = 2 from i_z (by rw [d1]; decide)), if_pos (show K2 0 1 = 43 from i_z (by rw [kk.mpr d1]; decide))]
      unfold fJ_X3_readPerson_J62
      rw [ex1]
      have nv := k2.2.2.2.2.2.1 d1
      have t217 : T2 0 17 = T 0 17 := t2f 0 17 (by omega)
      have hpe2 : rPe P T2 := rPe_of hpe (fun _ _ _ => rfl) (fun a j g => t2f a j (by omega))
      refine E2_p2l (E2_ql (by decide) (E2_bd (e_find hpe2 (ex2.trans nv)) (fun r r' hrr => ?_)))
      obtain ⟨er, hrr⟩ := hrr
      subst er
      unfold fJ_X3_readPerson_J86
      rcases hrr with hm | hm
      · rw [if_neg (n_le hm), if_pos (show r < 0 from Int32.lt_iff_toInt_lt.mpr (by rw [hm]; decide)), ex1]
        refine E2_p2l (E2_ql (by decide) (E2_ltr (fun y10 ey10 => E2_ckr (fun _ => E2_ltr (fun T3 f3 => ?_)))))
        have i6 : y10.toInt = 6 + n := by rw [ey10, t217]; exact i_addK (by decide) hn (by omega) (by omega)
        have c6 : y10.toNatClampNeg = 6 + n := i_cn (by omega)
        rw [c6] at f3 ⊢
        have k3 : tkS K2 T3 := by rw [f3]; exact tkS_st k2 (by omega)
        refine E2_bd (e_advS k3) (fun K4 T4 h4 => ?_)
        obtain ⟨k4, k4f, t4f, k4p⟩ := h4
        refine E2_bd (e_nq k4 (lo := 0) (hi := 19) (by decide) (by decide)) (fun q q' hq => ?_)
        obtain ⟨r1, K5, R5⟩ := q
        obtain ⟨r1', T5⟩ := q'
        refine E2_v3l (E2_v2r ?_)
        have fail : ∀ (K' R' T' : Tr) (a b c : Int32), flt R' T' → frK K K' → E2 (fJ_X3_readPerson_J127 y a b (-1) K' R' P) (some ((0 : Int32), T')) (lnQ K R T) := fun K' R' T' a b c hf hk => by
          unfold fJ_X3_readPerson_J127 fJ_X3_readPerson_J145
          exact E2_ql (by decide) (E2_ql (by decide) (E2_some (Or.inl ⟨rfl, rfl, hf, hk⟩)))
        have k24 := frK_t k2f k4f
        rcases nq_cs hq (by decide : (0 : Int32).toInt = 0) (by decide : (19 : Int32).toInt = 19) with ⟨rfl, rfl, q3, q4⟩ | ⟨rfl, q2, q3, q4, q5, rfl, q7, q8, q9⟩
        · exact E2_ql (by decide) (E2_pr rfl (fail _ _ _ _ _ 0 q3 (frK_t k24 q4)))
        · have k25 := frK_t k24 q7
          have p11 : (r1 + 1).toInt = r1.toInt + 1 := i_addK rfl (by decide) (by omega) (by omega)
          refine E2_pl (Int32.le_iff_toInt_le.mpr (by show (0 : Int) ≤ _; exact q2)) (E2_qr (by decide) (E2_ltr (fun T6 f6 => ?_)))
          have k6 : tkS K5 T6 := by rw [f6]; exact tkS_st q5 (by omega)
          have v27 : T6 27 (6 + n) = r1 := by rw [f6, st_same, q4]
          rw [v27]
          refine E2_bd (e_nq k6 (lo := r1 + 1) (hi := 20) (by omega) (by decide)) (fun q q' hq => ?_)
          obtain ⟨r2, K7, R7⟩ := q
          obtain ⟨r2', T7⟩ := q'
          refine E2_v3l (E2_v2r ?_)
          rcases nq_cs hq p11 (by decide : (20 : Int32).toInt = 20) with ⟨rfl, rfl, s3, s4⟩ | ⟨rfl, s2, s3, s4, s5, rfl, s7, s8, s9⟩
          · exact E2_pr rfl (fail _ _ _ _ _ 0 s3 (frK_t k25 s4))
          · have k27 := frK_t k25 s7
            unfold fJ_X3_readPerson_J127
            refine E2_pl (Int32.le_iff_toInt_le.mpr (by show (0 : Int) ≤ _; omega)) (E2_qr (by decide) (E2_ltr (fun T8 f8 => ?_)))
            have k8 : tkS K7 T8 := by rw [f8]; exact tkS_st s5 (by omega)
            refine E2_bd (e_nq k8 (lo := 1) (hi := 99) (by decide) (by decide)) (fun q q' hq => ?_)
            obtain ⟨r3, K9, R9⟩ := q
            obtain ⟨r3', T9⟩ := q'
            refine E2_v3l (E2_v2r ?_)
            unfold fJ_X3_readPerson_J145
            rcases nq_cs hq (by decide : (1 : Int32).toInt = 1) (by decide : (99 : Int32).toInt = 99) with ⟨rfl, rfl, u3, u4⟩ | ⟨rfl, u2, u3, u4, u5, rfl, u7, u8, u9⟩
            · exact E2_ql (by decide) (E2_pr rfl (E2_some (Or.inl ⟨rfl, rfl, u3, frK_t k27 u4⟩)))
            · refine E2_pl (Int32.le_iff_toInt_le.mpr (by show (0 : Int) ≤ _; omega)) (E2_qr (by decide) (E2_ckl (fun _ => E2_ltl (fun P1 e1 => E2_ltl (fun P2 e2 => E2_ltl (fun P3 e3 => E2_ltl (fun P4 e4 => E2_ltl (fun P5 e5 => E2_ltr (fun TA fA => E2_ltr (fun TB fB => E2_some ?_))))))))))
              have yn : y.toNatClampNeg = n := i_cn hy
              rw [yn] at e1 e2 e3 e4
              have fr : ∀ a j, ¬ ((a = 0 ∧ (4 ≤ j ∧ j ≤ 11 ∨ j = 17)) ∨ (26 ≤ a ∧ a ≤ 29)) → TB a j = T a j := fun a j hn => by
                rw [fB, st_no (by omega), fA, st_no (by omega), u8 a j (by omega), f8, st_no (by omega), s8 a j (by omega), f6, st_no (by omega), q8 a j (by omega), t4f a j (by omega), f3, st_no (by omega), t2f a j (by omega)]
              have frP : ∀ a j, ¬ ((a = 0 ∧ j = 1) ∨ (10 ≤ a ∧ a ≤ 13)) → P5 a j = P a j := fun a j hn => by
                rw [e5, st_no (by omega), e4, st_no (by omega), e3, st_no (by omega), e2, st_no (by omega), e1, st_no (by omega)]
              have t917 : T9 0 17 = T 0 17 := by rw [u8 0 17 (by omega), f8, st_no (by omega), s8 0 17 (by omega), f6, st_no (by omega), q8 0 17 (by omega), t4f 0 17 (by omega), f3, st_no (by omega), t217]
              have s17 : TB 0 17 = T 0 17 + 1 := by rw [fB, st_same, fA, st_no (by omega), t917]
              have s17i : (TB 0 17).toInt = n + 1 := by rw [s17]; exact i_addK hn (by decide) (by omega) (by omega)
              have old : ∀ a j, (26 ≤ a ∧ a ≤ 29) → ¬ j = 6 + n → TB a j = T a j := fun a j ha hj => by
                rw [fB, st_no (by omega), fA, st_no (by omega), u8 a j (by omega), f8, st_no (by omega), s8 a j (by omega), f6, st_no (by omega), q8 a j (by omega), t4f a j (by omega), f3, st_no (by omega), t2f a j (by omega)]
              have oldP : ∀ a j, (10 ≤ a ∧ a ≤ 13) → ¬ j = n → P5 a j = P a j := fun a j ha hj => by
                rw [e5, st_no (by omega), e4, st_no (by omega), e3, st_no (by omega), e2, st_no (by omega), e1, st_no (by omega)]
              refine Or.inr ⟨rfl, rfl, ?_, ⟨?_, ⟨?_, ?_, fun i hi => ?_⟩, ?_, ?_, ?_, ?_⟩, h0, rfl, frK_t k27 u7, ?_⟩
              · show tkS K9 TB
                rw [fB, fA]; exact tkS_st (tkS_st u5 (by omega)) (by omega)
              · exact rPl_of g1 (fun a j g => frP a j (by omega)) (fun a j g => fr a j (by omega))
              · show P5 0 1 = TB 0 17
                rw [s17, e5, st_same, e4, st_no (by omega), e3, st_no (by omega), e2, st_no (by omega), e1, st_no (by omega), p1]
              · show 0 ≤ (TB 0 17).toInt ∧ (TB 0 17).toInt ≤ 6
                omega
              · have hi : (i : Int) < (TB 0 17).toInt := hi
                show P5 10 i = TB 26 (6 + i) ∧ P5 11 i = TB 27 (6 + i) ∧ P5 12 i = TB 28 (6 + i) ∧ P5 13 i = TB 29 (6 + i)
                by_cases e : i = n
                · subst e
                  refine ⟨?_, ?_, ?_, ?_⟩
                  · rw [e5, st_no (by omega), e4, st_no (by omega), e3, st_no (by omega), e2, st_no (by omega), e1, st_same, fB, st_no (by omega), fA, st_no (by omega), u8 _ _ (by omega), f8, st_no (by omega), s8 _ _ (by omega), f6, st_no (by omega), q8 _ _ (by omega), t4f _ _ (by omega), f3, st_same, ex2, nv]
                  · rw [e5, st_no (by omega), e4, st_no (by omega), e3, st_no (by omega), e2, st_same, fB, st_no (by omega), fA, st_no (by omega), u8 _ _ (by omega), f8, st_no (by omega), s8 _ _ (by omega), v27]
                  · rw [e5, st_no (by omega), e4, st_no (by omega), e3, st_same, fB, st_no (by omega), fA, st_no (by omega), u8 _ _ (by omega), f8, st_same, s4]
                  · rw [e5, st_no (by omega), e4, st_same, fB, st_no (by omega), fA, st_same, u4]
                · rw [oldP 10 i (by omega) e, oldP 11 i (by omega) e, oldP 12 i (by omega) e, oldP 13 i (by omega) e, old 26 _ (by omega) (by omega), old 27 _ (by omega) (by omega), old 28 _ (by omega) (by omega), old 29 _ (by omega) (by omega)]
                  exact p3 i (by omega)
              · exact rPi_of g3 (fun a j g => frP a j (by omega)) (fun a j g => fr a j (by omega))
              · exact rW_of g4 rfl (fun j => frP 18 j (by omega)) (fun a j g => fr a j (by omega))
              · exact rO_of g5 rfl (fun j _ _ => frP 0 j (by omega)) (fun a j g => fr a j (by omega))
              · exact rL_of g6 (fun a j g => frP a j (by omega)) (fun a j g => fr a j (by omega))
              · show (T 0 7).toInt ≤ (TB 0 10).toInt
                have x1 := tk_on k2
                have x2 := tk_on k4
                have x3 := tk_on q5
                have x4 := tk_on s5
                have y1 : T3 0 7 = T2 0 7 := by rw [f3, st_no (by omega)]
                have y2 : T6 0 7 = T5 0 7 := by rw [f6, st_no (by omega)]
                have y3 : T8 0 7 = T7 0 7 := by rw [f8, st_no (by omega)]
                rw [y1] at k4p
                rw [y2] at s9
                rw [y3] at u9
                rw [fB, st_no (by omega), fA, st_no (by omega)]
                omega
      · rw [if_pos (show (0 : Int32) ≤ r from Int32.le_iff_toInt_le.mpr (by show (0 : Int) ≤ _; exact hm.1)), if_neg (show ¬ r < 0 from fun q => by have := tq_lt (b := 0) rfl (by decide) q; omega), ex0, wrE]
        exact E2_p2l (E2_pl rfl (ln_fail k2.2.2.2.1 (by decide) k2f))
    · rw [if_neg (show ¬ T2 0 8 = 2 from fun q => d1 (by rw [q]; decide)), if_neg (show ¬ K2 0 1 = 43 from fun q => d1 (kk.mp (by rw [q]; decide)))]
      unfold fJ_X3_readPerson_J62
      rw [ex0, wrE]
      exact E2_p2l (E2_pl rfl (ln_fail k2.2.2.2.1 (by decide) k2f))
