-- 38.m
/-! remember -/
theorem BM_put {S : Tr} {A o : Nat} (hS : iR BM S) (hA : A = 84 ∨ A = 86) (ho : o % 61 = 0) : iR BM (putM S A o) := by
  have hu : ∀ j, BM A j = uB (j % 61) := fun j => by rcases hA with e | e <;> subst e <;> rfl
  intro a j
  by_cases h : a = A ∧ o ≤ j ∧ j < o + 61
  · obtain ⟨e, h1, h2⟩ := h
    subst e
    obtain ⟨t, ht⟩ : ∃ t, j = o + t := ⟨j - o, by omega⟩
    subst ht
    rw [hu]
    by_cases t1 : t < 50
    · rw [put_s t1, uB_s (by omega)]; exact BM55 hS t
    · by_cases t2 : t < 55
      · have := put_m (z := S) (A := a) (o := o) (j := t - 50) (by omega) (by omega)
        rw [show o + 50 + (t - 50) = o + t by omega] at this
        rw [this, uB_m (by omega) (by omega)]; exact BM56 hS _
      · rw [uB_a (by omega) (by omega)]; exact full_at _
  · rw [put_o h]; exact hS a j
theorem row_b {S : Tr} {A o : Nat} (hS : iR BM S) (hA : A = 84 ∨ A = 86) (ho : o % 61 = 0) {p : Nat} (hp : p < 5) : mnR S A o p ≤ 10 := by
  have hu : BM A (o + 50 + p) = uB ((o + 50 + p) % 61) := by rcases hA with e | e <;> subst e <;> rfl
  have h := hS A (o + 50 + p)
  rw [hu, uB_m (by omega) (by omega)] at h
  exact h.2
theorem rem_core (S : Tr) (hS : iR BM S) (hg : gI 0 S) (hu : uI S) (h19 : (S 0 82).toInt ≤ 19) : D (fJ_X8_remember_J49 S) (fun q => iR BM q ∧ uI q ∧ (∀ a j, a ≠ 84 → ¬ (a = 0 ∧ j = 82) → q a j = S a j)) := by
  have b : (0 : Int) ≤ (S 0 82).toInt ∧ (S 0 82).toInt ≤ 20 := hS 0 82
  have e1 := i_mulL (a := (61 : Int32)) (b := S 0 82) 61 (by decide) (by omega) (by omega)
  obtain ⟨u, hu1⟩ : ∃ u : Nat, (S 0 82).toInt = u := ⟨(S 0 82).toInt.toNat, by omega⟩
  have eo : ((61 : Int32) * (S 0 82)).toNatClampNeg = 61 * u := by rw [i_cl]; omega
  unfold fJ_X8_remember_J49
  refine D_bd (t_X8_put_84 S ((61 : Int32) * (S 0 82)) ⟨by omega, by omega⟩) (fun S2 _ h2 => ?_)
  rw [eo] at h2
  refine D_lt (fun S5 e5 => ?_)
  have h82 : S2 0 82 = S 0 82 := by rw [h2, put_o (by omega)]
  have f1 : (S2 0 82 + 1).toInt = (S 0 82).toInt + 1 := by rw [h82]; exact i_addK rfl (by decide) (by omega) (by omega)
  have hB2 : iR BM S2 := by rw [h2]; exact BM_put hS (Or.inl rfl) (by omega)
  have fr : ∀ a j, ¬ (a = 84 ∧ 61 * u ≤ j ∧ j < 61 * u + 61) → ¬ (a = 0 ∧ j = 82) → S5 a j = S a j := fun a j q1 q2 => by
    rw [e5]
    rcases st_or (S := S2) (a := 0) (i := 82) (b := a) (j := j) (v := S2 0 82 + 1) with w | w
    · rw [w, h2, put_o q1]
    · exact absurd w q2
  have f84 : ∀ j, S5 84 j = S2 84 j := fun j => by rw [e5, st_oth (by decide)]
  have n82 : (S5 0 82).toInt = u + 1 := by rw [e5, st_same, f1, hu1]
  refine D_some ⟨?_, fun r hr => ?_, fun a j q1 q2 => fr a j (fun z => q1 z.1) q2⟩
  · rw [e5]
    exact iR_set hB2 (show (0 : Int) ≤ _ by omega) (show _ ≤ (20 : Int) by omega)
  · rw [n82] at hr
    by_cases q : r = u
    · subst q
      refine row_put hS hg (fun j hj => ?_) (fun j hj => ?_) (fun j hj => ?_) (fr 0 13 (by omega) (by omega)) (fr 0 14 (by omega) (by omega)) (fun i hi => fr 53 i (by omega) (by omega))
      · rw [f84, h2, put_s hj]
      · rw [f84, h2, put_m (by decide) hj]
      · rw [f84, h2, put_a (by decide) hj]
    · refine row_eq (hu r (by omega)) (fun p hp => row_b hS (Or.inl rfl) (by omega) hp) (fun j hj => fr 84 _ (by omega) (by omega)) (fr 0 13 (by omega) (by omega)) (fr 0 14 (by omega) (by omega)) (fun i hi => fr 53 i (by omega) (by omega))
theorem dwn_o {z : Tr} {n a j : Nat} (h : ¬ (a = 84 ∧ j < n)) : dwn z n a j = z a j := by unfold dwn; rw [if_neg h]
theorem dwn_i {z : Tr} {n j : Nat} (h : j < n) : dwn z n 84 j = z 84 (j + 61) := by unfold dwn; rw [if_pos ⟨rfl, h⟩]
theorem t_X8_remember (S : Tr) (hS : iR BM S) (hg : gI 0 S) (hu : uI S) : D (f_X8_remember S) (fun q => iR BM q ∧ uI q ∧ (∀ a j, a ≠ 84 → ¬ (a = 0 ∧ j = 82) → q a j = S a j)) := by
  have b : (0 : Int) ≤ (S 0 82).toInt ∧ (S 0 82).toInt ≤ 20 := hS 0 82
  unfold f_X8_remember
  refine D_ite (fun c => ?_) (fun c => ?_)
  · have k := tq_eq (b := 20) rfl (by decide) c
    unfold fL_X8_remember_L11
    have last : D (fJ_X8_remember_J39 (dwn S 1159)) (fun q => iR BM q ∧ uI q ∧ (∀ a j, a ≠ 84 → ¬ (a = 0 ∧ j = 82) → q a j = S a j)) := by
      unfold fJ_X8_remember_J39
      refine D_lt (fun w ew => ?_)
      rw [dwn_o (by omega)] at ew
      have hd : iR BM (dwn S 1159) := fun a j => by
        by_cases q : a = 84 ∧ j < 1159
        · obtain ⟨q1, q2⟩ := q
          subst q1
          rw [dwn_i q2]
          have h := hS 84 (j + 61)
          have e1 : BM 84 (j + 61) = uB ((j + 61) % 61) := rfl
          have e2 : BM 84 j = uB (j % 61) := rfl
          rw [e1, show (j + 61) % 61 = j % 61 by omega] at h
          rw [e2]
          exact h
        · rw [dwn_o q]; exact hS a j
      have f1 : (S 0 82 - 1).toInt = 19 := by rw [c]; decide
      have hw : iR BM w := by rw [ew]; exact iR_set hd (show (0 : Int) ≤ _ by omega) (show _ ≤ (20 : Int) by omega)
      have fr : ∀ a j, ¬ (a = 84 ∧ j < 1159) → ¬ (a = 0 ∧ j = 82) → w a j = S a j := fun a j q1 q2 => by
        rw [ew]
        rcases st_or (S := dwn S 1159) (a := 0) (i := 82) (b := a) (j := j) (v := S 0 82 - 1) with z | z
        · rw [z, dwn_o q1]
        · exact absurd z q2
      have n82 : (w 0 82).toInt = 19 := by rw [ew, st_same]; exact f1
      have f84 : ∀ j, j < 1159 → w 84 j = S 84 (j + 61) := fun j hj => by rw [ew, st_oth (by decide), dwn_i hj]
      have hgw : gI 0 w := gI_fr hg (fun j => fr 53 j (by omega) (by omega)) (fun j => fr 54 j (by omega) (by omega)) (fun j => fr 55 j (by omega) (by omega)) (fun j => fr 56 j (by omega) (by omega)) (fun j => fr 58 j (by omega) (by omega)) (fr 0 13 (by omega) (by omega)) (fr 0 14 (by omega) (by omega))
      have huw : uI w := fun r hr => by
        rw [n82] at hr
        refine row_eq (hu (r + 1) (by omega)) (fun p hp => row_b hS (Or.inl rfl) (by omega) hp) (fun j hj => ?_) (fr 0 13 (by omega) (by omega)) (fr 0 14 (by omega) (by omega)) (fun i hi => fr 53 i (by omega) (by omega))
        rw [f84 _ (by omega), show 61 * r + j + 61 = 61 * (r + 1) + j by omega]
      refine D_mono (rem_core w hw hgw huw (by omega)) (fun q hq => ⟨hq.1, hq.2.1, fun a j q1 q2 => (hq.2.2 a j q1 q2).trans (fr a j (fun z => q1 z.1) q2)⟩)
    have go : ∀ (n : Nat) (x1 : Int32) (T : Tr), 0 ≤ x1.toInt → x1.toInt ≤ 1159 → T = dwn S x1.toNatClampNeg → 1160 - x1.toInt < (n : Int) → D (lpF (fun _ _ => none) fB_X8_remember_L11 n x1 T) (fun q => iR BM q ∧ uI q ∧ (∀ a j, a ≠ 84 → ¬ (a = 0 ∧ j = 82) → q a j = S a j)) := by
      intro n
      induction n with
      | zero => intro x1 T a1 a2 a3 a4; exfalso; omega
      | succ n ih =>
        intro x1 T a1 a2 a3 a4
        show D (fB_X8_remember_L11 (lpF (fun _ _ => none) fB_X8_remember_L11 n) x1 T) _
        generalize lpF (fun _ _ => none) fB_X8_remember_L11 n = kk at ih ⊢
        unfold fB_X8_remember_L11
        refine D_ite (fun c => ?_) (fun c => ?_)
        · have k := tq_le (a := 1159) (by decide) rfl c
          have e : x1.toNatClampNeg = 1159 := by rw [i_cl]; omega
          rw [a3, e]
          exact last
        · have k := tq_len (a := 1159) (by decide) rfl c
          have f : (x1 + 61).toInt = x1.toInt + 61 := i_addK rfl (by decide) (by omega) (by omega)
          refine D_ck (okI_of (by omega) (by omega)) ?_
          refine D_ck (okI_of (by omega) (by omega)) ?_
          refine D_lt (fun S1 e1 => ?_)
          refine D_lt (fun y ey => ?_)
          have h1 : (x1 + 1).toInt = x1.toInt + 1 := i_addK rfl (by decide) (by omega) (by omega)
          exact ih y S1 (by rw [ey]; omega) (by rw [ey]; omega) (by rw [ey]; exact dwn_b a3 e1 rfl (by simp only [i_cl]; omega) (by simp only [i_cl]; omega)) (by rw [ey]; omega)
    exact go 2000 0 S (by decide) (by decide) dwn_0.symm (by decide)
  · have k := tq_eqn (b := 20) rfl (by decide) c
    exact rem_core S hS hg hu (by omega)
-- 39.m
/-! what a call of the journey may change -/
def Wg (a j : Nat) : Bool := Wb 0 a j || Wb 1 a j || Nat.beq a 84 || Nat.beq a 86 || Nat.beq a 87 || Nat.beq a 88 || Nat.beq a 81 || (Nat.beq a 0 && (Nat.beq j 78 || Nat.beq j 79 || Nat.beq j 82 || Nat.beq j 84 || Nat.beq j 88 || Nat.beq j 89))
def aW (S S1 : Tr) : Prop := ∀ a j, Wg a j = false → S1 a j = S a j
theorem aW_rfl {S : Tr} : aW S S := fun _ _ _ => rfl
theorem aW_tr {S S1 S2 : Tr} (h1 : aW S S1) (h2 : aW S1 S2) : aW S S2 := fun a j h => (h2 a j h).trans (h1 a j h)
theorem aW_set {z S : Tr} {a i : Nat} {v : Int32} (h : aW z S) (hw : Wg a i = true) : aW z (st S a i v) := fun c j hf => by
  rcases st_or (S := S) (a := a) (i := i) (b := c) (j := j) (v := v) with e | ⟨e1, e2⟩
  · rw [e]; exact h c j hf
  · subst e1; subst e2; rw [hw] at hf; cases hf
theorem Wg_f {a j : Nat} (h : Wg a j = false) : Wb 0 a j = false ∧ Wb 1 a j = false ∧ a ≠ 84 ∧ a ≠ 86 ∧ a ≠ 87 ∧ a ≠ 88 ∧ a ≠ 81 ∧ ¬ (a = 0 ∧ (j = 78 ∨ j = 79 ∨ j = 82 ∨ j = 84 ∨ j = 88 ∨ j = 89)) := by
  unfold Wg at h
  simp only [Bool.or_eq_false_iff] at h
  obtain ⟨⟨⟨⟨⟨⟨⟨h1, h2⟩, h3⟩, h4⟩, h5⟩, h6⟩, h7⟩, h8⟩ := h
  have nb : ∀ {x y : Nat}, Nat.beq x y = false → x ≠ y := fun {x y} e q => by subst q; rw [Nat.beq_refl] at e; cases e
  refine ⟨h1, h2, nb h3, nb h4, nb h5, nb h6, nb h7, fun q => ?_⟩
  obtain ⟨q1, q2⟩ := q
  subst q1
  rcases q2 with q | q | q | q | q | q <;> subst q <;> exact absurd h8 (by decide)
theorem aW_0 {S S1 : Tr} (h : aG 0 S S1) : aW S S1 := fun a j q => h a j (Wg_f q).1
theorem aW_1 {S S1 : Tr} (h : aG 1 S S1) : aW S S1 := fun a j q => h a j (Wg_f q).2.1
theorem aW_T {S S1 : Tr} (h : aT S S1) : aW S S1 := aW_0 (aT_G h)
theorem pI_aW {S S1 : Tr} (h : pI S) (a : aW S S1) : pI S1 := pI_fr h (fun j => a 39 j rfl) (fun j => a 40 j rfl) (fun j => a 41 j rfl) (fun j => a 36 j rfl) (fun j => a 38 j rfl) (fun j => a 30 j rfl) (fun j => a 29 j rfl) (a 0 13 rfl) (a 0 14 rfl)
/-! rows stay, where neither they nor the states change -/
theorem uI_fr {S S1 : Tr} (hS : iR BM S) (h : uI S) (e84 : ∀ j, S1 84 j = S 84 j) (e53 : ∀ i, i < 10 → S1 53 i = S 53 i) (e82 : (S1 0 82).toInt ≤ (S 0 82).toInt) (e13 : S1 0 13 = S 0 13) (e14 : S1 0 14 = S 0 14) : uI S1 := fun r hr =>
  row_eq (h r (by omega)) (fun p hp => row_b hS (Or.inl rfl) (by omega) hp) (fun j _ => e84 _) e13 e14 (fun i hi => e53 i hi)
theorem vI_fr {S S1 : Tr} (hS : iR BM S) (h : vI S) (e86 : ∀ j, S1 86 j = S 86 j) (e87 : ∀ j, S1 87 j = S 87 j) (e84 : S1 0 84 = S 0 84) (e13 : S1 0 13 = S 0 13) (e14 : S1 0 14 = S 0 14) : vI S1 := fun hz =>
  row_eq (h (by rw [← e84]; exact hz)) (fun p hp => row_b hS (Or.inr rfl) (by omega) hp) (fun j _ => e86 _) e13 e14 (fun i _ => e87 i)
theorem zI_fr {S S1 : Tr} (h : zI S) (e : ∀ j, S1 81 j = S 81 j) : zI S1 := fun k hk => by rw [e] at hk ⊢; exact h k hk
/-- all that holds of the reference between calls of a journey -/
def jR (S : Tr) : Prop := iR BM S ∧ pI S ∧ gI 0 S ∧ uI S ∧ vI S ∧ zI S
theorem jR_1 {S S1 : Tr} (h : jR S) (hB : iR BM S1) (a : aG 1 S S1) : jR S1 := by
  obtain ⟨h1, h2, h3, h4, h5, h6⟩ := h
  exact ⟨hB, pI_aG h2 a, gI0_G1 h1 h3 a, uI_fr h1 h4 (fun j => a 84 j rfl) (fun i hi => a 53 i (Wb_lo (n := 10) (by omega) hi)) (Int.le_of_eq (by rw [a 0 82 rfl])) (a 0 13 rfl) (a 0 14 rfl), vI_fr h1 h5 (fun j => a 86 j rfl) (fun j => a 87 j rfl) (a 0 84 rfl) (a 0 13 rfl) (a 0 14 rfl), zI_fr h6 (fun j => a 81 j rfl)⟩
theorem jR_T {S S1 : Tr} (h : jR S) (hB : iR BM S1) (a : aT S S1) : jR S1 := jR_1 h hB (aT_G a)
theorem thr_T {S : Tr} {v : Int32} : aT S (st S 0 2 v) := aT_set aT_rfl rfl
theorem jR_thr {S : Tr} {v : Int32} (h : jR S) : jR (st S 0 2 v) := jR_T h (iR_setU h.1 rfl) thr_T
/-- what is remembered changes nothing else -/
theorem jR_rem {S : Tr} (h : jR S) : D (f_X8_remember S) (fun q => jR q ∧ aW S q ∧ (∀ a j, a ≠ 84 → ¬ (a = 0 ∧ j = 82) → q a j = S a j)) := by
  obtain ⟨h1, h2, h3, h4, h5, h6⟩ := h
  refine D_mono (t_X8_remember S h1 h3 h4) (fun q hq => ?_)
  obtain ⟨q1, q2, q3⟩ := hq
  have o : ∀ a j, a ≠ 84 → a ≠ 0 → q a j = S a j := fun a j ha h0 => q3 a j ha (fun z => h0 z.1)
  have aw : aW S q := fun a j hf => q3 a j (Wg_f hf).2.2.1 (fun z => (Wg_f hf).2.2.2.2.2.2.2 ⟨z.1, by omega⟩)
  refine ⟨⟨q1, pI_aW h2 aw, ?_, q2, ?_, zI_fr h6 (fun j => o 81 j (by decide) (by decide))⟩, aw, q3⟩
  · exact gI_fr h3 (fun j => o 53 j (by decide) (by decide)) (fun j => o 54 j (by decide) (by decide)) (fun j => o 55 j (by decide) (by decide)) (fun j => o 56 j (by decide) (by decide)) (fun j => o 58 j (by decide) (by decide)) (q3 0 13 (by decide) (by decide)) (q3 0 14 (by decide) (by decide))
  · exact vI_fr h1 h5 (fun j => o 86 j (by decide) (by decide)) (fun j => o 87 j (by decide) (by decide)) (q3 0 84 (by decide) (by decide)) (q3 0 13 (by decide) (by decide)) (q3 0 14 (by decide) (by decide))
theorem R_undo (S : Tr) (h : jR S) : D (f_X8_undo S) (fun q => jR q.2 ∧ aW S q.2) := by
  have g1 := jR_thr (v := 0) h
  unfold f_X8_undo
  refine D_lt (fun S1 e1 => ?_)
  rw [← e1] at g1
  have a1 : aW S S1 := by rw [e1]; exact aW_T thr_T
  obtain ⟨h1, h2, h3, h4, h5, h6⟩ := g1
  have b : (0 : Int) ≤ (S1 0 82).toInt ∧ (S1 0 82).toInt ≤ 20 := h1 0 82
  refine D_ite (fun c => ?_) (fun c => ?_)
  · exact D_some ⟨⟨h1, h2, h3, h4, h5, h6⟩, a1⟩
  · have k := tq_eqn (b := 0) rfl (by decide) c
    have f1 : (S1 0 82 - 1).toInt = (S1 0 82).toInt - 1 := i_subK rfl (by decide) (by omega) (by omega)
    refine D_lt (fun S3 e3 => ?_)
    have fr : ∀ a j, ¬ (a = 0 ∧ j = 82) → S3 a j = S1 a j := fun a j q => by
      rw [e3]
      rcases st_or (S := S1) (a := 0) (i := 82) (b := a) (j := j) (v := S1 0 82 - 1) with z | z
      · exact z
      · exact absurd z q
    have n82 : (S3 0 82).toInt = (S1 0 82).toInt - 1 := by rw [e3, st_same]; exact f1
    have h3B : iR BM S3 := by rw [e3]; exact iR_set h1 (show (0 : Int) ≤ _ by omega) (show _ ≤ (20 : Int) by omega)
    have e61 := i_mulL (a := (61 : Int32)) (b := S3 0 82) 61 (by decide) (by omega) (by omega)
    obtain ⟨u, hu⟩ : ∃ u : Nat, (S3 0 82).toInt = u := ⟨(S3 0 82).toInt.toNat, by omega⟩
    have eo : ((61 : Int32) * (S3 0 82)).toNatClampNeg = 61 * u := by rw [i_cl]; omega
    have row : rowOK S3 84 ((61 : Int32) * (S3 0 82)).toNatClampNeg (fun i => S3 53 i) := by
      rw [eo]
      exact row_eq (h4 u (by omega)) (fun p hp => row_b h1 (Or.inl rfl) (by omega) hp) (fun j _ => fr 84 _ (by omega)) (fr 0 13 (by omega)) (fr 0 14 (by omega)) (fun i _ => fr 53 i (by omega))
    refine D_bd (t_X8_take_84 S3 _ (fun i => S3 53 i) h3B ⟨by omega, by omega⟩ (by rw [eo]; omega) row) (fun S4 _ q4 => ?_)
    obtain ⟨q1, q2, q3, q5, q6, q7⟩ := q4
    have o : ∀ a j, a ≠ 54 → a ≠ 55 → a ≠ 56 → a ≠ 58 → ¬ (a = 0 ∧ j = 82) → S4 a j = S1 a j := fun a j z1 z2 z3 z4 z5 => (q6 a j z1 z2 z3 z4).trans (fr a j z5)
    have a3 : aW S1 S3 := by rw [e3]; exact aW_set aW_rfl rfl
    have aw : aW S S4 := aW_tr a1 (aW_tr a3 (aW_0 q7))
    refine D_some (show jR S4 ∧ aW S S4 from ⟨?_, aw⟩)
    refine ⟨q1, pI_aW h2 (aW_tr a3 (aW_0 q7)), ⟨q2, fun i hi => ?_, q5⟩, ?_, ?_, zI_fr h6 (fun j => o 81 j (by decide) (by decide) (by decide) (by decide) (by omega))⟩
    · rw [show 10 * 0 + i = i by omega, q6 53 i (by decide) (by decide) (by decide) (by decide)]
      exact q3 i hi
    · exact uI_fr h1 h4 (fun j => o 84 j (by decide) (by decide) (by decide) (by decide) (by omega)) (fun i _ => o 53 i (by decide) (by decide) (by decide) (by decide) (by omega)) (by rw [q6 0 82 (by decide) (by decide) (by decide) (by decide)]; omega) (o 0 13 (by decide) (by decide) (by decide) (by decide) (by decide)) (o 0 14 (by decide) (by decide) (by decide) (by decide) (by decide))
    · exact vI_fr h1 h5 (fun j => o 86 j (by decide) (by decide) (by decide) (by decide) (by omega)) (fun j => o 87 j (by decide) (by decide) (by decide) (by decide) (by omega)) (o 0 84 (by decide) (by decide) (by decide) (by decide) (by decide)) (o 0 13 (by decide) (by decide) (by decide) (by decide) (by decide)) (o 0 14 (by decide) (by decide) (by decide) (by decide) (by decide))
theorem R_help (S : Tr) (x1 x2 : Int32) (h : jR S) : D (f_X8_help S x1 x2) (fun q => jR q.2 ∧ aW S q.2) := by
  have g1 := jR_thr (v := 0) h
  unfold f_X8_help
  refine D_lt (fun S1 e1 => ?_)
  rw [← e1] at g1
  have a1 : aW S S1 := by rw [e1]; exact aW_T thr_T
  have b13 : (0 : Int) ≤ (S1 0 13).toInt ∧ (S1 0 13).toInt ≤ 6 := g1.1 0 13
  refine D_bd (t_X8_isPerson S1 x1 g1.1) (fun r _ hr => ?_)
  refine D_ite (fun c => D_some ⟨g1, a1⟩) (fun c => ?_)
  have k := tq_eqn (b := 0) rfl (by decide) c
  refine D_bd (t_X8_isIn x2 1 99) (fun r2 _ hr2 => ?_)
  refine D_ite (fun c2 => D_some ⟨g1, a1⟩) (fun c2 => ?_)
  have k2 := tq_eqn (b := 0) rfl (by decide) c2
  have l1 : (1 : Int32).toInt = 1 := by decide
  obtain ⟨p1, p2⟩ := hr
  obtain ⟨p3, p4⟩ := hr2
  refine D_ck (okI_of (by omega) (by omega)) ?_
  refine D_ite (fun c3 => D_some ⟨g1, a1⟩) (fun c3 => ?_)
  refine D_bd (jR_rem g1) (fun S12 _ q12 => ?_)
  obtain ⟨j, aw, fr⟩ := q12
  obtain ⟨h1, h2, h3, h4, h5, h6⟩ := j
  refine D_lt (fun S15 e15 => ?_)
  have o : ∀ a i, a ≠ 58 → S15 a i = S12 a i := fun a i q => by rw [e15, st_oth q]
  have cx : x1.toNatClampNeg = x1.toInt.toNat := rfl
  have a15 : aW S12 S15 := by
    rw [e15]
    exact aW_set aW_rfl (by unfold Wg; rw [Wb_58 (inB_of (by omega) (by omega))]; rfl)
  refine D_some (show jR S15 ∧ aW S S15 from ⟨⟨by rw [e15]; exact iR_setU h1 rfl, pI_aW h2 a15, ⟨gS_fr h3.1 (fun i => o 54 i (by decide)) (fun i => o 55 i (by decide)) (fun i => o 56 i (by decide)) (by rw [o 0 14 (by decide)]), fun i hi => ?_, fun p hp hq => ?_⟩, uI_fr h1 h4 (fun i => o 84 i (by decide)) (fun i _ => o 53 i (by decide)) (Int.le_of_eq (by rw [o 0 82 (by decide)])) (o 0 13 (by decide)) (o 0 14 (by decide)), vI_fr h1 h5 (fun i => o 86 i (by decide)) (fun i => o 87 i (by decide)) (o 0 84 (by decide)) (o 0 13 (by decide)) (o 0 14 (by decide)), zI_fr h6 (fun i => o 81 i (by decide))⟩, aW_tr a1 (aW_tr aw a15)⟩)
  · unfold lyM
    rw [o 53 _ (by decide), o 54 _ (by decide)]
    exact h3.2.1 i hi
  · rw [o 0 13 (by decide)] at hq
    rw [e15]
    by_cases q : 6 * 0 + p = x1.toNatClampNeg
    · rw [q, st_same]; omega
    · rw [st_ne q]; exact h3.2.2 p hp hq
theorem R_turn (S : Tr) (x1 : Int32) (h : jR S) : D (f_X8_turn S x1) (fun q => jR q.2 ∧ aW S q.2) := by
  have g1 := jR_thr (v := 0) h
  unfold f_X8_turn
  refine D_lt (fun S1 e1 => ?_)
  rw [← e1] at g1
  have a1 : aW S S1 := by rw [e1]; exact aW_T thr_T
  have b12 : (0 : Int) ≤ (S1 0 12).toInt ∧ (S1 0 12).toInt ≤ 5 := g1.1 0 12
  refine D_bd (t_X8_isPlace S1 x1 g1.1) (fun r _ hr => ?_)
  refine D_ite (fun c => D_some ⟨g1, a1⟩) (fun c => ?_)
  have k := tq_eqn (b := 0) rfl (by decide) c
  obtain ⟨p1, p2⟩ := hr
  refine D_bd (t_X8_layTried S1 g1.1 g1.2.2.1 g1.2.1) (fun S6 _ q6 => ?_)
  obtain ⟨c1, c2, c3, c4, c5, c6⟩ := q6
  refine D_bd2 (t_X8_turns S6 1 x1 c1 c3 (by decide) ⟨by omega, by omega⟩) (fun r9 S10 _ q10 => ?_)
  refine D_lte (y := r9) rfl ?_
  refine D_lte (y := S10) rfl ?_
  obtain ⟨d1, d2, d3, d4, d5⟩ := q10
  have ag : aG 1 S1 S10 := aG_tr c2 d3
  have g10 : jR S10 := jR_1 g1 d1 ag
  refine D_ite (fun c => D_some ⟨g10, aW_tr a1 (aW_1 ag)⟩) (fun c => ?_)
  refine D_bd (jR_rem g10) (fun S14 _ q14 => ?_)
  obtain ⟨j, aw, fr⟩ := q14
  refine D_bd2 (t_X8_turns S14 0 x1 j.1 j.2.2.1 (by decide) ⟨by omega, by omega⟩) (fun r17 S18 _ q18 => ?_)
  refine D_lte (y := r17) rfl ?_
  refine D_lte (y := S18) rfl ?_
  obtain ⟨w1, w2, w3, w4, w5⟩ := q18
  have w3 : aG 0 S14 S18 := w3
  have w5 : ∀ a j, a ≠ 55 → a ≠ 74 → S18 a j = S14 a j := w5
  obtain ⟨h1, h2, h3, h4, h5, h6⟩ := j
  refine D_some (show jR S18 ∧ aW S S18 from ⟨⟨w1, pI_aG h2 w3, w2, uI_fr h1 h4 (fun i => w5 84 i (by decide) (by decide)) (fun i _ => w5 53 i (by decide) (by decide)) (Int.le_of_eq (by rw [w5 0 82 (by decide) (by decide)])) (w5 0 13 (by decide) (by decide)) (w5 0 14 (by decide) (by decide)), vI_fr h1 h5 (fun i => w5 86 i (by decide) (by decide)) (fun i => w5 87 i (by decide) (by decide)) (w5 0 84 (by decide) (by decide)) (w5 0 13 (by decide) (by decide)) (w5 0 14 (by decide) (by decide)), zI_fr h6 (fun i => w5 81 i (by decide) (by decide))⟩, aW_tr a1 (aW_tr (aW_1 ag) (aW_tr aw (aW_0 w3)))⟩)
theorem mv_core (S : Tr) (x1 x2 : Int32) (h : jR S) (hx1 : 0 ≤ x1.toInt ∧ x1.toInt < (S 0 14).toInt) (hx2 : 0 ≤ x2.toInt ∧ x2.toInt ≤ 4) (h53 : S 53 x1.toNatClampNeg = 1) : D (fJ_X8_move_J67 x1 x2 S) (fun q => jR q.2 ∧ aW S q.2) := by
  have b14 : (0 : Int) ≤ (S 0 14).toInt ∧ (S 0 14).toInt ≤ 10 := h.1 0 14
  unfold fJ_X8_move_J67
  refine D_bd (jR_rem h) (fun S1 _ q1 => ?_)
  obtain ⟨j, aw, fr⟩ := q1
  obtain ⟨h1, h2, h3, h4, h5, h6⟩ := j
  have f53 : S1 53 x1.toNatClampNeg = 1 := by rw [fr 53 _ (by decide) (by omega)]; exact h53
  have f14 : S1 0 14 = S 0 14 := fr 0 14 (by decide) (by decide)
  have cx : x1.toNatClampNeg = x1.toInt.toNat := rfl
  have e10 : ((10 : Int32) * 0 + x1) = x1 := by rw [show (10 : Int32) * 0 = 0 from by decide, Int32.zero_add]
  have hly : 0 ≤ (S1 54 ((10 : Int32) * 0 + x1).toNatClampNeg).toInt := ly_of (x1 := 0) h3 (by decide) ⟨by omega, by omega⟩ (by rw [e10]; exact f53)
  refine D_bd (t_X8_takes S1 0 x1 1 h1 (by decide) ⟨by omega, by omega⟩ (by decide) h3 hly) (fun S2 _ q2 => ?_)
  obtain ⟨pos, e2, t1, t2, t3, t4, t5, t6⟩ := q2
  have z0 : (0 : Int32).toNatClampNeg = 0 := rfl
  rw [z0] at e2 t2 t3 t4 t5 t6
  refine D_bd (t_X8_lays S2 0 x2 x1 t1 (by decide) hx2 ⟨by omega, by omega⟩ t2 t3 (by rw [z0, t4]; decide) (by rw [e2, tk_o (by decide) (by decide) (by decide) (by decide), f14]; exact hx1.2)) (fun S3 _ q3 => ?_)
  obtain ⟨e3, l1, l2, l3⟩ := q3
  rw [z0] at e3 l2 l3
  have o : ∀ a i, a ≠ 53 → a ≠ 54 → a ≠ 55 → a ≠ 56 → S3 a i = S1 a i := fun a i w1 w2 w3 w4 => by
    rw [e3, ls_o w1 w2 w3 w4, e2, tk_o w1 w2 w3 w4]
  have o53 : ∀ i, S3 53 i = S1 53 i := fun i => by
    rw [e3, ls_53]
    by_cases q : i = 10 * 0 + x1.toNatClampNeg
    · rw [if_pos q, q, show 10 * 0 + x1.toNatClampNeg = x1.toNatClampNeg by omega, f53]
    · rw [if_neg q, e2, tk_53, if_neg q]
  have ag : aG 0 S1 S3 := aG_tr t6 l3
  exact D_some (show jR S3 ∧ aW S S3 from ⟨⟨l1, pI_aG h2 ag, l2, uI_fr h1 h4 (fun i => o 84 i (by decide) (by decide) (by decide) (by decide)) (fun i _ => o53 i) (Int.le_of_eq (by rw [o 0 82 (by decide) (by decide) (by decide) (by decide)])) (o 0 13 (by decide) (by decide) (by decide) (by decide)) (o 0 14 (by decide) (by decide) (by decide) (by decide)), vI_fr h1 h5 (fun i => o 86 i (by decide) (by decide) (by decide) (by decide)) (fun i => o 87 i (by decide) (by decide) (by decide) (by decide)) (o 0 84 (by decide) (by decide) (by decide) (by decide)) (o 0 13 (by decide) (by decide) (by decide) (by decide)) (o 0 14 (by decide) (by decide) (by decide) (by decide)), zI_fr h6 (fun i => o 81 i (by decide) (by decide) (by decide) (by decide))⟩, aW_tr aw (aW_0 ag)⟩)
theorem R_move (S : Tr) (x1 x2 : Int32) (h : jR S) : D (f_X8_move S x1 x2) (fun q => jR q.2 ∧ aW S q.2) := by
  have g1 := jR_thr (v := 0) h
  unfold f_X8_move
  refine D_lt (fun S1 e1 => ?_)
  rw [← e1] at g1
  have a1 : aW S S1 := by rw [e1]; exact aW_T thr_T
  have b12 : (0 : Int) ≤ (S1 0 12).toInt ∧ (S1 0 12).toInt ≤ 5 := g1.1 0 12
  have b14 : (0 : Int) ≤ (S1 0 14).toInt ∧ (S1 0 14).toInt ≤ 10 := g1.1 0 14
  refine D_bd (t_X8_isPiece S1 x1 g1.1) (fun r _ hr => ?_)
  refine D_ite (fun c => D_some ⟨g1, a1⟩) (fun c => ?_)
  have k := tq_eqn (b := 0) rfl (by decide) c
  refine D_bd (t_X8_isPlace S1 x2 g1.1) (fun r2 _ hr2 => ?_)
  refine D_ite (fun c2 => D_some ⟨g1, a1⟩) (fun c2 => ?_)
  have k2 := tq_eqn (b := 0) rfl (by decide) c2
  obtain ⟨p1, p2⟩ := hr
  obtain ⟨p3, p4⟩ := hr2
  refine D_ck (okI_of (by omega) (by omega)) ?_
  refine D_ite (fun c3 => ?_) (fun c3 => D_some ⟨g1, a1⟩)
  have go : D (fJ_X8_move_J67 x1 x2 S1) (fun q => jR q.2 ∧ aW S q.2) := D_mono (mv_core S1 x1 x2 g1 ⟨by omega, by omega⟩ ⟨by omega, by omega⟩ c3) (fun q hq => ⟨hq.1, aW_tr a1 hq.2⟩)
  refine D_ite (fun c4 => ?_) (fun c4 => ?_)
  · refine D_bd (t_X8_aboveOf S1 0 x1 g1.1 (by decide) ⟨by omega, by omega⟩ g1.2.2.1.1) (fun r26 _ _ => ?_)
    exact D_ite (fun _ => D_some ⟨g1, a1⟩) (fun _ => go)
  · refine D_bd (t_X8_doesHold S1 0 x2 x1 g1.1 (by decide) ⟨by omega, by omega⟩ ⟨by omega, by omega⟩) (fun r13 _ _ => ?_)
    exact D_ite (fun _ => D_some ⟨g1, a1⟩) (fun _ => go)
theorem b81 {j : Nat} (h : j % 4 ≠ 1) : BM 81 j = fullB := by
  show (bif Nat.beq (j % 4) 1 then ((0 : Int), (23 : Int)) else fullB) = fullB
  cases q : Nat.beq (j % 4) 1 with
  | false => rfl
  | true => exact absurd (Nat.eq_of_beq_eq_true q) h
theorem b81p {j : Nat} (h : j % 4 = 1) : BM 81 j = (0, 23) := by
  show (bif Nat.beq (j % 4) 1 then ((0 : Int), (23 : Int)) else fullB) = _
  rw [h]
  rfl
theorem R_noted (S : Tr) (x1 x2 x3 x4 : Int32) (h : jR S) (h78 : (S 0 78).toInt ≤ 23) (hx2 : 0 ≤ x2.toInt ∧ x2.toInt ≤ 23) (hz : 0 ≤ x1.toInt → x2.toInt ≤ 9) : D (f_X8_noted S x1 x2 x3 x4) (fun q => jR q.2 ∧ aW S q.2) := by
  obtain ⟨h1, h2, h3, h4, h5, h6⟩ := h
  have b : (0 : Int) ≤ (S 0 78).toInt ∧ (S 0 78).toInt ≤ 24 := h1 0 78
  obtain ⟨n, hn⟩ : ∃ n : Nat, (S 0 78).toInt = n := ⟨(S 0 78).toInt.toNat, by omega⟩
  have cn : (S 0 78).toNatClampNeg = n := by rw [i_cl]; omega
  have e4 := i_mulL (a := (4 : Int32)) (b := S 0 78) 4 (by decide) (by omega) (by omega)
  have q1 := ix4 (x := S 0 78) (c := 1) (k := 1) ⟨b.1, b.2⟩ (by decide) (by decide)
  have q2 := ix4 (x := S 0 78) (c := 2) (k := 2) ⟨b.1, b.2⟩ (by decide) (by decide)
  have q3 := ix4 (x := S 0 78) (c := 3) (k := 3) ⟨b.1, b.2⟩ (by decide) (by decide)
  have f1 : (((4 : Int32) * (S 0 78)) + 1).toInt = ((4 : Int32) * (S 0 78)).toInt + 1 := i_addK rfl (by decide) (by omega) (by omega)
  have f2 : (((4 : Int32) * (S 0 78)) + 2).toInt = ((4 : Int32) * (S 0 78)).toInt + 2 := i_addK rfl (by decide) (by omega) (by omega)
  have f3 : (((4 : Int32) * (S 0 78)) + 3).toInt = ((4 : Int32) * (S 0 78)).toInt + 3 := i_addK rfl (by decide) (by omega) (by omega)
  rw [cn] at q1 q2 q3
  unfold f_X8_noted
  refine D_ck (okI_of (by omega) (by omega)) ?_
  rw [q1.2]
  refine D_lt (fun S2 e2 => ?_)
  have k2 : S2 0 78 = S 0 78 := by rw [e2, st_oth (by decide)]
  rw [k2]
  refine D_ck (okI_of (by omega) (by omega)) ?_
  rw [q1.1]
  refine D_lt (fun S4 e4' => ?_)
  have k4 : S4 0 78 = S 0 78 := by rw [e4', st_oth (by decide), k2]
  rw [k4]
  refine D_ck (okI_of (by omega) (by omega)) ?_
  rw [q2.1]
  refine D_lt (fun S6 e6 => ?_)
  have k6 : S6 0 78 = S 0 78 := by rw [e6, st_oth (by decide), k4]
  rw [k6]
  refine D_ck (okI_of (by omega) (by omega)) ?_
  rw [q3.1]
  refine D_lt (fun S8 e8 => ?_)
  have k8 : S8 0 78 = S 0 78 := by rw [e8, st_oth (by decide), k6]
  rw [k8]
  refine D_lt (fun S9 e9 => ?_)
  have f9 : (S 0 78 + 1).toInt = (S 0 78).toInt + 1 := i_addK rfl (by decide) (by omega) (by omega)
  have B2 : iR BM S2 := by rw [e2]; exact iR_setU h1 (b81 (by omega))
  have B4 : iR BM S4 := by rw [e4']; exact iR_set B2 (by rw [b81p (by omega)]; exact hx2.1) (by rw [b81p (by omega)]; exact hx2.2)
  have B6 : iR BM S6 := by rw [e6]; exact iR_setU B4 (b81 (by omega))
  have B8 : iR BM S8 := by rw [e8]; exact iR_setU B6 (b81 (by omega))
  have B9 : iR BM S9 := by rw [e9]; exact iR_set B8 (show (0 : Int) ≤ _ by omega) (show _ ≤ (24 : Int) by omega)
  have o : ∀ a j, a ≠ 81 → ¬ (a = 0 ∧ j = 78) → S9 a j = S a j := fun a j z1 z2 => by
    rw [e9]
    rcases st_or (S := S8) (a := 0) (i := 78) (b := a) (j := j) (v := S 0 78 + 1) with z | z
    · rw [z, e8, st_oth z1, e6, st_oth z1, e4', st_oth z1, e2, st_oth z1]
    · exact absurd z z2
  have aw : aW S S9 := fun a j hf => o a j (Wg_f hf).2.2.2.2.2.2.1 (fun z => (Wg_f hf).2.2.2.2.2.2.2 ⟨z.1, by omega⟩)
  have c81 : ∀ j, S9 81 j = S8 81 j := fun j => by rw [e9, st_oth (by decide)]
  refine D_some (show jR S9 ∧ aW S S9 from ⟨⟨B9, pI_aW h2 aw, gI_fr h3 (fun j => o 53 j (by decide) (by omega)) (fun j => o 54 j (by decide) (by omega)) (fun j => o 55 j (by decide) (by omega)) (fun j => o 56 j (by decide) (by omega)) (fun j => o 58 j (by decide) (by omega)) (o 0 13 (by decide) (by omega)) (o 0 14 (by decide) (by omega)), uI_fr h1 h4 (fun j => o 84 j (by decide) (by omega)) (fun j _ => o 53 j (by decide) (by omega)) (Int.le_of_eq (by rw [o 0 82 (by decide) (by omega)])) (o 0 13 (by decide) (by omega)) (o 0 14 (by decide) (by omega)), vI_fr h1 h5 (fun j => o 86 j (by decide) (by omega)) (fun j => o 87 j (by decide) (by omega)) (o 0 84 (by decide) (by omega)) (o 0 13 (by decide) (by omega)) (o 0 14 (by decide) (by omega)), fun k hk => ?_⟩, aw⟩)
  rw [c81] at hk ⊢
  by_cases q : k = n
  · subst q
    have a0 : S8 81 (4 * k) = x1 := by rw [e8, st_ne (by omega), e6, st_ne (by omega), e4', st_ne (by omega), e2, st_same]
    have a1 : S8 81 (4 * k + 1) = x2 := by rw [e8, st_ne (by omega), e6, st_ne (by omega), e4', st_same]
    rw [a0] at hk
    rw [a1]
    exact hz hk
  · have a0 : S8 81 (4 * k) = S 81 (4 * k) := by rw [e8, st_ne (by omega), e6, st_ne (by omega), e4', st_ne (by omega), e2, st_ne (by omega)]
    have a1 : S8 81 (4 * k + 1) = S 81 (4 * k + 1) := by rw [e8, st_ne (by omega), e6, st_ne (by omega), e4', st_ne (by omega), e2, st_ne (by omega)]
    rw [a0] at hk
    rw [a1]
    exact h6 k hk
theorem R_strike (S : Tr) (x1 : Int32) (h : jR S) : D (f_X8_strike S x1) (fun q => jR q.2 ∧ aW S q.2) := by
  have g1 := jR_thr (v := 0) h
  unfold f_X8_strike
  refine D_lt (fun S1 e1 => ?_)
  rw [← e1] at g1
  have a1 : aW S S1 := by rw [e1]; exact aW_T thr_T
  have b : (0 : Int) ≤ (S1 0 78).toInt ∧ (S1 0 78).toInt ≤ 24 := g1.1 0 78
  refine D_ite (fun c => D_some ⟨g1, a1⟩) (fun c => ?_)
  have k := tq_eqn (b := 24) rfl (by decide) c
  refine D_ite (fun c2 => D_some ⟨g1, a1⟩) (fun c2 => ?_)
  have k2 := tq_ltn (b := 0) rfl (by decide) c2
  refine D_ite (fun c3 => ?_) (fun c3 => D_some ⟨g1, a1⟩)
  have k3 := tq_lt rfl rfl c3
  refine D_bd2 (R_noted S1 (-1) x1 0 0 g1 (by omega) ⟨by omega, by omega⟩ (fun q => absurd q (by decide))) (fun r5 S6 _ q6 => ?_)
  refine D_lte (y := r5) rfl ?_
  refine D_lte (y := S6) rfl ?_
  exact D_some ⟨q6.1, aW_tr a1 q6.2⟩
-- 40.m
theorem R_see (S : Tr) (x1 x2 x3 x4 : Int32) (h : jR S) : D (f_X8_see S x1 x2 x3 x4) (fun q => jR q.2 ∧ aW S q.2) := by
  have g1 := jR_thr (v := 0) h
  unfold f_X8_see
  refine D_lt (fun S1 e1 => ?_)
  rw [← e1] at g1
  have a1 : aW S S1 := by rw [e1]; exact aW_T thr_T
  have b : (0 : Int) ≤ (S1 0 78).toInt ∧ (S1 0 78).toInt ≤ 24 := g1.1 0 78
  have b14 : (0 : Int) ≤ (S1 0 14).toInt ∧ (S1 0 14).toInt ≤ 10 := g1.1 0 14
  refine D_ite (fun c => D_some ⟨g1, a1⟩) (fun c => ?_)
  have k := tq_eqn (b := 24) rfl (by decide) c
  refine D_bd (t_X8_isIn x1 0 19) (fun r3 _ hr3 => ?_)
  refine D_ite (fun c => D_some ⟨g1, a1⟩) (fun c3 => ?_)
  refine D_bd (t_X8_isPiece S1 x2 g1.1) (fun r7 _ hr7 => ?_)
  refine D_ite (fun c => D_some ⟨g1, a1⟩) (fun c7 => ?_)
  have k7 := tq_eqn (b := 0) rfl (by decide) c7
  refine D_bd (t_X8_isPlace S1 x3 g1.1) (fun r11 _ hr11 => ?_)
  refine D_ite (fun c => D_some ⟨g1, a1⟩) (fun c11 => ?_)
  obtain ⟨p1, p2⟩ := hr7
  have go : ∀ v : Int32, D (fJ_X8_see_J58 v x3 x2 x1 S1) (fun q => jR q.2 ∧ aW S q.2) := fun v => by
    unfold fJ_X8_see_J58
    refine D_bd2 (R_noted S1 x1 x2 x3 v g1 (by omega) ⟨by omega, by omega⟩ (fun _ => by omega)) (fun r S6 _ q6 => ?_)
    refine D_lte (y := r) rfl ?_
    refine D_lte (y := S6) rfl ?_
    exact D_some ⟨q6.1, aW_tr a1 q6.2⟩
  exact D_ite (fun _ => go 0) (fun _ => go 1)
theorem R_known (S : Tr) (x1 : Int32) (h : jR S) : D (f_X8_known S x1) (fun q => jR q.2 ∧ aW S q.2) := by
  have g1 := jR_thr (v := 0) h
  unfold f_X8_known
  refine D_lt (fun S1 e1 => ?_)
  rw [← e1] at g1
  have a1 : aW S S1 := by rw [e1]; exact aW_T thr_T
  have b : (0 : Int) ≤ (S1 0 78).toInt ∧ (S1 0 78).toInt ≤ 24 := g1.1 0 78
  refine D_bd (t_X8_isIn x1 (-1) (S1 0 78)) (fun r _ hr => ?_)
  refine D_ite (fun c => D_some ⟨g1, a1⟩) (fun c => ?_)
  have k := tq_eqn (b := 0) rfl (by decide) c
  obtain ⟨p1, p2⟩ := hr
  have lm : ((-1) : Int32).toInt = -1 := by decide
  refine D_lt (fun S6 e6 => ?_)
  obtain ⟨h1, h2, h3, h4, h5, h6⟩ := g1
  have o : ∀ a j, ¬ (a = 0 ∧ j = 79) → S6 a j = S1 a j := fun a j z => by
    rw [e6]
    rcases st_or (S := S1) (a := 0) (i := 79) (b := a) (j := j) (v := x1) with w | w
    · exact w
    · exact absurd w z
  have aw : aW S1 S6 := by rw [e6]; exact aW_set aW_rfl rfl
  exact D_some (show jR S6 ∧ aW S S6 from ⟨⟨by rw [e6]; exact iR_set h1 (show (-1 : Int) ≤ _ by omega) (show _ ≤ (24 : Int) by omega), pI_aW h2 aw, gI_fr h3 (fun j => o 53 j (by omega)) (fun j => o 54 j (by omega)) (fun j => o 55 j (by omega)) (fun j => o 56 j (by omega)) (fun j => o 58 j (by omega)) (o 0 13 (by omega)) (o 0 14 (by omega)), uI_fr h1 h4 (fun j => o 84 j (by omega)) (fun j _ => o 53 j (by omega)) (Int.le_of_eq (by rw [o 0 82 (by omega)])) (o 0 13 (by omega)) (o 0 14 (by omega)), vI_fr h1 h5 (fun j => o 86 j (by omega)) (fun j => o 87 j (by omega)) (o 0 84 (by omega)) (o 0 13 (by omega)) (o 0 14 (by omega)), zI_fr h6 (fun j => o 81 j (by omega))⟩, aW_tr a1 aw⟩)
/-! an image is kept -/
theorem R_keep (S : Tr) (L : Lo) (h : jR S) : D (f_X8_keep S L) (fun q => jR q.2.1 ∧ aW S q.2.1) := by
  have g1 := jR_thr (v := 0) h
  unfold f_X8_keep
  refine D_lt (fun S1 e1 => ?_)
  rw [← e1] at g1
  have a1 : aW S S1 := by rw [e1]; exact aW_T thr_T
  obtain ⟨h1, h2, h3, h4, h5, h6⟩ := g1
  refine D_lt (fun S2 e2 => ?_)
  refine D_bd (t_X8_put_86 S2 0 (by decide)) (fun S3 _ h3' => ?_)
  have h3' : S3 = putM S2 86 0 := h3'
  have o2 : ∀ a j, ¬ (a = 0 ∧ j = 84) → S2 a j = S1 a j := fun a j z => by
    rw [e2]
    rcases st_or (S := S1) (a := 0) (i := 84) (b := a) (j := j) (v := 1) with w | w
    · exact w
    · exact absurd w z
  have B2 : iR BM S2 := by rw [e2]; exact iR_setU h1 rfl
  have B3 : iR BM S3 := by rw [h3']; exact BM_put B2 (Or.inr rfl) (by decide)
  have o3 : ∀ a j, ¬ (a = 0 ∧ j = 84) → ¬ (a = 86 ∧ j < 61) → S3 a j = S1 a j := fun a j z1 z2 => by rw [h3', put_o (by omega), o2 a j z1]
  -- what holds while the rest is kept
  have fin : ∀ T : Tr, iR BM T → (∀ a j, ¬ (a = 0 ∧ (j = 84 ∨ j = 88 ∨ j = 89)) → a ≠ 87 → a ≠ 88 → ¬ (a = 86 ∧ j < 61) → T a j = S1 a j) → (∀ j, j < 61 → T 86 j = S3 86 j) → (∀ j, j < 10 → T 87 j = S1 53 j) → jR T ∧ aW S T := fun T B o r86 r87 => by
    have aw : aW S1 T := fun a j hf => by
      obtain ⟨-, -, w3, w4, w5, w6, w7, w8⟩ := Wg_f hf
      exact o a j (fun z => w8 ⟨z.1, by omega⟩) w5 w6 (fun z => w4 z.1)
    refine ⟨⟨B, pI_aW h2 aw, gI_fr h3 (fun j => o 53 j (by omega) (by omega) (by omega) (by omega)) (fun j => o 54 j (by omega) (by omega) (by omega) (by omega)) (fun j => o 55 j (by omega) (by omega) (by omega) (by omega)) (fun j => o 56 j (by omega) (by omega) (by omega) (by omega)) (fun j => o 58 j (by omega) (by omega) (by omega) (by omega)) (o 0 13 (by omega) (by omega) (by omega) (by omega)) (o 0 14 (by omega) (by omega) (by omega) (by omega)), uI_fr h1 h4 (fun j => o 84 j (by omega) (by omega) (by omega) (by omega)) (fun j _ => o 53 j (by omega) (by omega) (by omega) (by omega)) (Int.le_of_eq (by rw [o 0 82 (by omega) (by omega) (by omega) (by omega)])) (o 0 13 (by omega) (by omega) (by omega) (by omega)) (o 0 14 (by omega) (by omega) (by omega) (by omega)), fun _ => ?_, zI_fr h6 (fun j => o 81 j (by omega) (by omega) (by omega) (by omega))⟩, aW_tr a1 aw⟩
    refine row_put h1 h3 (fun j hj => ?_) (fun j hj => ?_) (fun j hj => ?_) (o 0 13 (by omega) (by omega) (by omega) (by omega)) (o 0 14 (by omega) (by omega) (by omega) (by omega)) (fun i hi => r87 i hi)
    · rw [r86 _ (by omega), h3', put_s hj, o2 _ _ (by omega)]
    · rw [r86 _ (by omega), h3', put_m (by decide) hj, o2 _ _ (by omega)]
    · rw [r86 _ (by omega), h3', put_a (by decide) hj, o2 _ _ (by omega)]
  have lp2 : ∀ (n : Nat) (x1 : Int32) (T : Tr), 0 ≤ x1.toInt → x1.toInt ≤ 6 → iR BM T → (∀ a j, a ≠ 87 → a ≠ 88 → T a j = S3 a j) → (∀ j, j < 10 → T 87 j = S1 53 j) → 100 - x1.toInt < (n : Int) → D (lpF (fun _ _ => none) (fB_X8_keep_L47 L) n x1 T) (fun q => jR q.2.1 ∧ aW S q.2.1) := by
    intro n
    induction n with
    | zero => intro x1 T a1 a2 a3 a4 a5 a6; exfalso; omega
    | succ n ih =>
      intro x1 T c1 c2 c3 c4 c5 c6
      show D (fB_X8_keep_L47 L (lpF (fun _ _ => none) (fB_X8_keep_L47 L) n) x1 T) _
      generalize lpF (fun _ _ => none) (fB_X8_keep_L47 L) n = kk at ih ⊢
      unfold fB_X8_keep_L47
      refine D_ite (fun c => ?_) (fun c => ?_)
      · unfold fJ_X8_keep_J86
        refine D_lt (fun S8 e8 => ?_)
        refine D_lt (fun S9 e9 => ?_)
        refine D_lt (fun L1 _ => ?_)
        have B8 : iR BM S8 := by rw [e8]; exact iR_setU c3 rfl
        have b62 : (0 : Int) ≤ (S8 62 0).toInt ∧ (S8 62 0).toInt ≤ 21 := B8 62 0
        have B9 : iR BM S9 := by rw [e9]; exact iR_set B8 b62.1 b62.2
        have o9 : ∀ a j, ¬ (a = 0 ∧ (j = 88 ∨ j = 89)) → S9 a j = T a j := fun a j z => by
          rw [e9]
          rcases st_or (S := S8) (a := 0) (i := 89) (b := a) (j := j) (v := S8 62 0) with w | w
          · rw [w, e8]
            rcases st_or (S := T) (a := 0) (i := 88) (b := a) (j := j) (v := T 61 0) with w | w
            · exact w
            · omega
          · omega
        exact D_some (fin S9 B9 (fun a j z1 z2 z3 z4 => by rw [o9 a j (by omega), c4 a j z2 z3, o3 a j (by omega) z4]) (fun j hj => by rw [o9 86 j (by omega), c4 86 j (by decide) (by decide)]) (fun j hj => by rw [o9 87 j (by omega), c5 j hj]))
      · have k := tq_len (a := 6) (by decide) rfl c
        have f6 : ((6 : Int32) + x1).toInt = 6 + x1.toInt := i_addK (by decide) rfl (by omega) (by omega)
        refine D_ck (okI_of (by omega) (by omega)) ?_
        refine D_lt (fun S12 e12 => ?_)
        refine D_ck (okI_of (by omega) (by omega)) ?_
        refine D_lt (fun S14 e14 => ?_)
        refine D_lt (fun y ey => ?_)
        have h1' : (x1 + 1).toInt = x1.toInt + 1 := i_addK rfl (by decide) (by omega) (by omega)
        refine ih y S14 (by rw [ey]; omega) (by rw [ey]; omega) (by rw [e14, e12]; exact iR_setU (iR_setU c3 rfl) rfl) (fun a j z1 z2 => by rw [e14, st_oth z2, e12, st_oth z2]; exact c4 a j z1 z2) (fun j hj => by rw [e14, st_oth (by decide), e12, st_oth (by decide)]; exact c5 j hj) (by rw [ey]; omega)
  have lp1 : ∀ (n : Nat) (x1 : Int32) (T : Tr), 0 ≤ x1.toInt → x1.toInt ≤ 10 → iR BM T → (∀ a j, a ≠ 87 → T a j = S3 a j) → (∀ j : Nat, (j : Int) < x1.toInt → T 87 j = S1 53 j) → 100 - x1.toInt < (n : Int) → D (lpF (fun _ _ => none) (fB_X8_keep_L21 L) n x1 T) (fun q => jR q.2.1 ∧ aW S q.2.1) := by
    intro n
    induction n with
    | zero => intro x1 T a1 a2 a3 a4 a5 a6; exfalso; omega
    | succ n ih =>
      intro x1 T c1 c2 c3 c4 c5 c6
      show D (fB_X8_keep_L21 L (lpF (fun _ _ => none) (fB_X8_keep_L21 L) n) x1 T) _
      generalize lpF (fun _ _ => none) (fB_X8_keep_L21 L) n = kk at ih ⊢
      unfold fB_X8_keep_L21
      refine D_ite (fun c => ?_) (fun c => ?_)
      · have k := tq_le (a := 10) (by decide) rfl c
        exact lp2 2000 0 T (by decide) (by decide) c3 (fun a j z _ => c4 a j z) (fun j hj => c5 j (by omega)) (by decide)
      · have k := tq_len (a := 10) (by decide) rfl c
        have cx : x1.toNatClampNeg = x1.toInt.toNat := rfl
        refine D_ck (okI_of (by omega) (by omega)) ?_
        refine D_ck (okI_of (by omega) (by omega)) ?_
        refine D_lt (fun S18 e18 => ?_)
        refine D_lt (fun y ey => ?_)
        have h1' : (x1 + 1).toInt = x1.toInt + 1 := i_addK rfl (by decide) (by omega) (by omega)
        have b53 := BM53 c3 x1.toNatClampNeg
        refine ih y S18 (by rw [ey]; omega) (by rw [ey]; omega) (by rw [e18]; exact iR_set c3 b53.1 b53.2) (fun a j z => by rw [e18, st_oth z]; exact c4 a j z) (fun j hj => ?_) (by rw [ey]; omega)
        rw [e18]
        by_cases q : j = x1.toNatClampNeg
        · rw [q, st_same, c4 53 _ (by decide), o3 53 _ (by omega) (by omega)]
        · rw [st_ne q]
          rw [ey, h1'] at hj
          exact c5 j (by omega)
  exact lp1 2000 0 S3 (by decide) (by decide) B3 (fun _ _ _ => rfl) (fun j hj => absurd hj (by show ¬ (j : Int) < 0; omega)) (by decide)
-- 41.m
/-! all is as in the image -/
theorem R_back (S : Tr) (L : Lo) (h : jR S) : D (f_X8_back S L) (fun q => jR q.2.1 ∧ aW S q.2.1) := by
  have g1 := jR_thr (v := 0) h
  unfold f_X8_back
  refine D_lt (fun S1 e1 => ?_)
  rw [← e1] at g1
  have a1 : aW S S1 := by rw [e1]; exact aW_T thr_T
  obtain ⟨h1, h2, h3, h4, h5, h6⟩ := g1
  refine D_ite (fun c => D_some ⟨⟨h1, h2, h3, h4, h5, h6⟩, a1⟩) (fun c => ?_)
  refine D_bd (t_X8_take_86 S1 0 (fun i => S1 87 i) h1 (by decide) (by decide) (h5 c)) (fun S3 _ q3 => ?_)
  obtain ⟨B3, gs, gl, ga, o3, ag⟩ := q3
  have lp2 : ∀ (n : Nat) (x1 : Int32) (T : Tr), 0 ≤ x1.toInt → x1.toInt ≤ 6 → iR BM T → (∀ a j, a ≠ 53 → a ≠ 59 → a ≠ 60 → T a j = S3 a j) → (∀ j, j < 10 → T 53 j = S1 87 j) → (∀ j, 10 ≤ j → T 53 j = S3 53 j) → (∀ a j, 6 ≤ j → a = 59 ∨ a = 60 → T a j = S3 a j) → 100 - x1.toInt < (n : Int) → D (lpF (fun _ _ => none) (fB_X8_back_L51 L) n x1 T) (fun q => jR q.2.1 ∧ aW S q.2.1) := by
    intro n
    induction n with
    | zero => intro x1 T a1 a2 a3 a4 a5 a6 a7 a8; exfalso; omega
    | succ n ih =>
      intro x1 T c1 c2 c3 c4 c5 c6 c7 c8
      show D (fB_X8_back_L51 L (lpF (fun _ _ => none) (fB_X8_back_L51 L) n) x1 T) _
      generalize lpF (fun _ _ => none) (fB_X8_back_L51 L) n = kk at ih ⊢
      unfold fB_X8_back_L51
      refine D_ite (fun c => ?_) (fun c => ?_)
      · unfold fJ_X8_back_J90
        refine D_lt (fun S8 e8 => ?_)
        refine D_lt (fun S9 e9 => ?_)
        refine D_lt (fun L1 _ => ?_)
        refine D_lt (fun S11 e11 => ?_)
        have B8 : iR BM S8 := by rw [e8]; exact iR_setU c3 rfl
        have b89 : (0 : Int) ≤ (S8 0 89).toInt ∧ (S8 0 89).toInt ≤ 21 := B8 0 89
        have B9 : iR BM S9 := by rw [e9]; exact iR_set B8 b89.1 b89.2
        have B11 : iR BM S11 := by rw [e11]; exact iR_set B9 (show (0 : Int) ≤ _ by decide) (show _ ≤ (20 : Int) by decide)
        have o11 : ∀ a j, a ≠ 61 → a ≠ 62 → ¬ (a = 0 ∧ j = 82) → S11 a j = T a j := fun a j z1 z2 z3 => by
          rw [e11]
          rcases st_or (S := S9) (a := 0) (i := 82) (b := a) (j := j) (v := 0) with w | w
          · rw [w, e9, st_oth z2, e8, st_oth z1]
          · exact absurd w z3
        have o : ∀ a j, a ≠ 53 → a ≠ 59 → a ≠ 60 → a ≠ 61 → a ≠ 62 → ¬ (a = 0 ∧ j = 82) → S11 a j = S3 a j := fun a j z1 z2 z3 z4 z5 z6 => by rw [o11 a j z4 z5 z6]; exact c4 a j z1 z2 z3
        have aw : aW S1 S11 := fun a j hf => by
          obtain ⟨w1, -, w3, w4, w5, w6, w7, w8⟩ := Wg_f hf
          have n61 : ¬ (a = 61 ∧ j = 0) := fun z => by rw [z.1, z.2] at w1; exact absurd w1 (by decide)
          have n62 : ¬ (a = 62 ∧ j = 0) := fun z => by rw [z.1, z.2] at w1; exact absurd w1 (by decide)
          have e1' : S11 a j = T a j := by
            rw [e11]
            rcases st_or (S := S9) (a := 0) (i := 82) (b := a) (j := j) (v := 0) with w | w
            · rw [w, e9]
              rcases st_or (S := S8) (a := 62) (i := 0) (b := a) (j := j) (v := S8 0 89) with w | w
              · rw [w, e8]
                rcases st_or (S := T) (a := 61) (i := 0) (b := a) (j := j) (v := T 0 88) with w | w
                · exact w
                · exact absurd w n61
              · exact absurd w n62
            · exact absurd ⟨w.1, Or.inr (Or.inr (Or.inl w.2))⟩ w8
          rw [e1', ← ag a j w1]
          have n53 := (Wb_f w1).1
          by_cases q : a = 53
          · subst q; exact c6 j (by have := n53 rfl; omega)
          · by_cases q2 : a = 59 ∨ a = 60
            · refine c7 a j ?_ q2
              by_cases q3 : 6 ≤ j
              · exact q3
              · exfalso
                rcases q2 with e | e <;> subst e
                · rw [Wb_59 (inB_of (by omega) (by omega))] at w1; cases w1
                · rw [Wb_60 (inB_of (by omega) (by omega))] at w1; cases w1
            · exact c4 a j q (by omega) (by omega)
        have e13 : S11 0 13 = S1 0 13 := aw 0 13 rfl
        have e14 : S11 0 14 = S1 0 14 := aw 0 14 rfl
        refine D_some (show jR S11 ∧ aW S S11 from ⟨⟨B11, pI_aW h2 aw, ⟨gS_fr gs (fun j => o 54 j (by decide) (by decide) (by decide) (by decide) (by decide) (by omega)) (fun j => o 55 j (by decide) (by decide) (by decide) (by decide) (by decide) (by omega)) (fun j => o 56 j (by decide) (by decide) (by decide) (by decide) (by decide) (by omega)) (o 0 14 (by decide) (by decide) (by decide) (by decide) (by decide) (by omega)), fun i hi => ?_, fun p hp hq => ?_⟩, fun r hr => ?_, ?_, zI_fr h6 (fun j => ?_)⟩, aW_tr a1 aw⟩)
        · have el : lyM S11 0 i = lyM S3 0 i := by unfold lyM; rw [o 54 _ (by decide) (by decide) (by decide) (by decide) (by decide) (by omega)]
          rw [el, show 10 * 0 + i = i by omega, o11 53 i (by decide) (by decide) (by omega), c5 i hi]
          exact gl i hi
        · rw [o 0 13 (by decide) (by decide) (by decide) (by decide) (by decide) (by omega)] at hq
          rw [o 58 _ (by decide) (by decide) (by decide) (by decide) (by decide) (by omega)]
          exact ga p hp hq
        · rw [e11, st_same] at hr; exact absurd hr (by show ¬ (r : Int) < 0; omega)
        · refine vI_fr h1 h5 (fun j => ?_) (fun j => ?_) ?_ e13 e14
          · rw [o 86 j (by decide) (by decide) (by decide) (by decide) (by decide) (by omega), o3 86 j (by decide) (by decide) (by decide) (by decide)]
          · rw [o 87 j (by decide) (by decide) (by decide) (by decide) (by decide) (by omega), o3 87 j (by decide) (by decide) (by decide) (by decide)]
          · rw [o 0 84 (by decide) (by decide) (by decide) (by decide) (by decide) (by omega), o3 0 84 (by decide) (by decide) (by decide) (by decide)]
        · rw [o 81 j (by decide) (by decide) (by decide) (by decide) (by decide) (by omega), o3 81 j (by decide) (by decide) (by decide) (by decide)]
      · have k := tq_len (a := 6) (by decide) rfl c
        have f6 : ((6 : Int32) + x1).toInt = 6 + x1.toInt := i_addK (by decide) rfl (by omega) (by omega)
        have cx : x1.toNatClampNeg = x1.toInt.toNat := rfl
        refine D_ck (okI_of (by omega) (by omega)) ?_
        refine D_lt (fun S13 e13 => ?_)
        refine D_ck (okI_of (by omega) (by omega)) ?_
        refine D_lt (fun S15 e15 => ?_)
        refine D_lt (fun y ey => ?_)
        have h1' : (x1 + 1).toInt = x1.toInt + 1 := i_addK rfl (by decide) (by omega) (by omega)
        refine ih y S15 (by rw [ey]; omega) (by rw [ey]; omega) (by rw [e15, e13]; exact iR_setU (iR_setU c3 rfl) rfl) (fun a j z1 z2 z3 => by rw [e15, st_oth z3, e13, st_oth z2]; exact c4 a j z1 z2 z3) (fun j hj => by rw [e15, st_oth (by decide), e13, st_oth (by decide)]; exact c5 j hj) (fun j hj => by rw [e15, st_oth (by decide), e13, st_oth (by decide)]; exact c6 j hj) (fun a j hj z => ?_) (by rw [ey]; omega)
        rcases z with e | e <;> subst e
        · rw [e15, st_oth (by decide), e13, st_ne (by omega)]; exact c7 59 j hj (Or.inl rfl)
        · rw [e15, st_ne (by omega), e13, st_oth (by decide)]; exact c7 60 j hj (Or.inr rfl)
  have lp1 : ∀ (n : Nat) (x1 : Int32) (T : Tr), 0 ≤ x1.toInt → x1.toInt ≤ 10 → iR BM T → (∀ a j, a ≠ 53 → T a j = S3 a j) → (∀ j : Nat, (j : Int) < x1.toInt → T 53 j = S1 87 j) → (∀ j, 10 ≤ j → T 53 j = S3 53 j) → 100 - x1.toInt < (n : Int) → D (lpF (fun _ _ => none) (fB_X8_back_L25 L) n x1 T) (fun q => jR q.2.1 ∧ aW S q.2.1) := by
    intro n
    induction n with
    | zero => intro x1 T a1 a2 a3 a4 a5 a6 a7; exfalso; omega
    | succ n ih =>
      intro x1 T c1 c2 c3 c4 c5 c6 c7
      show D (fB_X8_back_L25 L (lpF (fun _ _ => none) (fB_X8_back_L25 L) n) x1 T) _
      generalize lpF (fun _ _ => none) (fB_X8_back_L25 L) n = kk at ih ⊢
      unfold fB_X8_back_L25
      refine D_ite (fun c => ?_) (fun c => ?_)
      · have k := tq_le (a := 10) (by decide) rfl c
        exact lp2 2000 0 T (by decide) (by decide) c3 (fun a j z _ _ => c4 a j z) (fun j hj => c5 j (by omega)) c6 (fun a j _ z => c4 a j (by omega)) (by decide)
      · have k := tq_len (a := 10) (by decide) rfl c
        have cx : x1.toNatClampNeg = x1.toInt.toNat := rfl
        refine D_ck (okI_of (by omega) (by omega)) ?_
        refine D_ck (okI_of (by omega) (by omega)) ?_
        refine D_lt (fun S19 e19 => ?_)
        refine D_lt (fun y ey => ?_)
        have h1' : (x1 + 1).toInt = x1.toInt + 1 := i_addK rfl (by decide) (by omega) (by omega)
        have b87 : (0 : Int) ≤ (T 87 x1.toNatClampNeg).toInt ∧ (T 87 x1.toNatClampNeg).toInt ≤ 5 := c3 87 _
        refine ih y S19 (by rw [ey]; omega) (by rw [ey]; omega) (by rw [e19]; exact iR_set c3 b87.1 b87.2) (fun a j z => by rw [e19, st_oth z]; exact c4 a j z) (fun j hj => ?_) (fun j hj => by rw [e19, st_ne (by omega)]; exact c6 j hj) (by rw [ey]; omega)
        rw [e19]
        by_cases q : j = x1.toNatClampNeg
        · rw [q, st_same, c4 87 _ (by decide), o3 87 _ (by decide) (by decide) (by decide) (by decide)]
        · rw [st_ne q]
          rw [ey, h1'] at hj
          exact c5 j (by omega)
  exact lp1 2000 0 S3 (by decide) (by decide) B3 (fun _ _ _ => rfl) (fun j hj => absurd hj (by show ¬ (j : Int) < 0; omega)) (fun _ _ => rfl) (by decide)
-- 42.m
/-! stops go by -/
theorem R_go (S : Tr) (L : Lo) (x1 : Int32) (h : jR S) : D (f_X8_go S L x1) (fun q => jR q.2.1 ∧ aW S q.2.1) := by
  have g1 := jR_thr (v := 0) h
  unfold f_X8_go
  refine D_lt (fun S1 e1 => ?_)
  rw [← e1] at g1
  have a1 : aW S S1 := by rw [e1]; exact aW_T thr_T
  have b62 : (0 : Int) ≤ (S1 62 0).toInt ∧ (S1 62 0).toInt ≤ 21 := g1.1 62 0
  refine D_bd (t_X8_isIn x1 0 21) (fun r _ hr => ?_)
  refine D_ite (fun c => D_some ⟨g1, a1⟩) (fun c => ?_)
  have k := tq_eqn (b := 0) rfl (by decide) c
  obtain ⟨p1, p2⟩ := hr
  have l0 : (0 : Int32).toInt = 0 := by decide
  have l21 : (21 : Int32).toInt = 21 := by decide
  have f1 : (S1 62 0 + x1).toInt = (S1 62 0).toInt + x1.toInt := i_addK rfl rfl (by omega) (by omega)
  refine D_ite (fun c2 => ?_) (fun c2 => D_some ⟨g1, a1⟩)
  have k2 := tq_le (b := 21) rfl (by decide) c2
  refine D_bd (t_X8_plainTried S1 g1.1) (fun S7 _ q7 => ?_)
  obtain ⟨B7, t7⟩ := q7
  refine D_lt (fun S10 e10 => ?_)
  have t10 : aT S1 S10 := by rw [e10]; exact aT_set t7 rfl
  have B10 : iR BM S10 := by rw [e10]; exact iR_set B7 (show (0 : Int) ≤ _ by decide) (show _ ≤ (1 : Int) by decide)
  have g10 : jR S10 := jR_T g1 B10 t10
  have e62 : S10 62 0 = S1 62 0 := t10 62 0 rfl
  unfold fL_X8_go_L41
  have go : ∀ (n : Nat) (x2 : Int32) (T : Tr) (L : Lo), 0 ≤ x2.toInt → x2.toInt ≤ x1.toInt → iR BM T → pI T → gI 0 T → vI T → zI T → (x2.toInt = 0 → uI T) → aW S10 T → (T 62 0).toInt = (S1 62 0).toInt + x2.toInt → 100 - x2.toInt < (n : Int) → D (lpF (fun _ _ _ => none) (fB_X8_go_L41 x1) n x2 T L) (fun q => jR q.2.1 ∧ aW S q.2.1) := by
    intro n
    induction n with
    | zero => intro x2 T L a1 a2 a3 a4 a5 a6 a7 a8 a9 a10 a11; exfalso; omega
    | succ n ih =>
      intro x2 T L c1 c2 c3 c4 c5 c6 c7 c8 c9 c10 c11
      show D (fB_X8_go_L41 x1 (lpF (fun _ _ _ => none) (fB_X8_go_L41 x1) n) x2 T L) _
      generalize lpF (fun _ _ _ => none) (fB_X8_go_L41 x1) n = kk at ih ⊢
      unfold fB_X8_go_L41
      refine D_ite (fun c => ?_) (fun c => ?_)
      · have k3 := tq_le rfl rfl c
        unfold fJ_X8_go_J57
        refine D_lt (fun S12 e12 => ?_)
        have t12 : aT T S12 := by rw [e12]; exact aT_set aT_rfl rfl
        have B12 : iR BM S12 := by rw [e12]; exact iR_set c3 (show (0 : Int) ≤ _ by decide) (show _ ≤ (1 : Int) by decide)
        have fin : ∀ v : Int32, 0 ≤ v.toInt → v.toInt ≤ 20 → (v.toInt = 0 ∨ (x2.toInt = 0 ∧ v = S12 0 82)) → D (fJ_X8_go_J75 v S12 L) (fun q => jR q.2.1 ∧ aW S q.2.1) := fun v v1 v2 v3 => by
          unfold fJ_X8_go_J75
          refine D_lt (fun S14 e14 => ?_)
          have o : ∀ a j, ¬ (a = 0 ∧ j = 82) → S14 a j = S12 a j := fun a j z => by
            rw [e14]
            rcases st_or (S := S12) (a := 0) (i := 82) (b := a) (j := j) (v := v) with w | w
            · exact w
            · exact absurd w z
          have ot : ∀ a j, ¬ (a = 0 ∧ j = 82) → Wt a j = false → S14 a j = T a j := fun a j z hw => (o a j z).trans (t12 a j hw)
          have aw : aW T S14 := by rw [e14]; exact aW_set (aW_T t12) rfl
          refine D_some (show jR S14 ∧ aW S S14 from ⟨⟨by rw [e14]; exact iR_set B12 v1 v2, pI_aW c4 aw, gI_fr c5 (fun j => ot 53 j (by omega) rfl) (fun j => ot 54 j (by omega) rfl) (fun j => ot 55 j (by omega) rfl) (fun j => ot 56 j (by omega) rfl) (fun j => ot 58 j (by omega) rfl) (ot 0 13 (by omega) rfl) (ot 0 14 (by omega) rfl), ?_, vI_fr c3 c6 (fun j => ot 86 j (by omega) rfl) (fun j => ot 87 j (by omega) rfl) (ot 0 84 (by omega) rfl) (ot 0 13 (by omega) rfl) (ot 0 14 (by omega) rfl), zI_fr c7 (fun j => ot 81 j (by omega) rfl)⟩, aW_tr a1 (aW_tr (aW_T t10) (aW_tr c9 aw))⟩)
          rcases v3 with q | ⟨q1, q2⟩
          · intro r hr
            rw [e14, st_same, q] at hr
            exact absurd hr (by omega)
          · refine uI_fr c3 (c8 q1) (fun j => ot 84 j (by omega) rfl) (fun j _ => ot 53 j (by omega) rfl) (Int.le_of_eq ?_) (ot 0 13 (by omega) rfl) (ot 0 14 (by omega) rfl)
            rw [e14, st_same, q2, t12 0 82 rfl]
        have b82 : (0 : Int) ≤ (S12 0 82).toInt ∧ (S12 0 82).toInt ≤ 20 := B12 0 82
        refine D_ite (fun c4' => ?_) (fun c4' => ?_)
        · have k4 := tq_le (b := 0) rfl (by decide) c4'
          exact fin _ b82.1 b82.2 (Or.inr ⟨by omega, rfl⟩)
        · exact fin 0 (by decide) (by decide) (Or.inl (by decide))
      · have k3 := tq_len rfl rfl c
        refine D_bd2 (t_X8_goOn T L 0 c3 c4 c5 (by decide) (show (T 62 0).toInt ≤ 20 by omega)) (fun S15 L16 _ q15 => ?_)
        refine D_lte (y := S15) rfl ?_
        refine D_lte (y := L16) rfl ?_
        obtain ⟨d1, d2, d3, d4, d5⟩ := q15
        have d2 : aG 0 T S15 := d2
        have d5 : (S15 62 0).toInt = (T 62 0).toInt + 1 := d5
        have f2 : (x2 + 1).toInt = x2.toInt + 1 := i_addK rfl (by decide) (by omega) (by omega)
        refine D_lt (fun y ey => ?_)
        exact ih y S15 L16 (by rw [ey]; omega) (by rw [ey]; omega) d1 d3 d4 (vI_fr c3 c6 (fun j => d2 86 j rfl) (fun j => d2 87 j rfl) (d2 0 84 rfl) (d2 0 13 rfl) (d2 0 14 rfl)) (zI_fr c7 (fun j => d2 81 j rfl)) (fun q => by rw [ey] at q; omega) (aW_tr c9 (aW_0 d2)) (by rw [ey]; omega) (by rw [ey]; omega)
  obtain ⟨h1, h2, h3, h4, h5, h6⟩ := g10
  exact go 2000 0 S10 L (by decide) (by show (0 : Int) ≤ _; omega) h1 h2 h3 h5 h6 (fun _ => h4) aW_rfl (by rw [e62]; show _ = _ + (0 : Int); omega) (by decide)
-- 43.m
/-! which cells reading may change: scalars, and of each array the half that is read into -/
def Wp0 (j : Nat) : Bool := ((Nat.ble 4 j && Nat.ble j 11) || (Nat.ble 16 j && Nat.ble j 20) || (Nat.ble 43 j && Nat.ble j 48))
def Wp (a j : Nat) : Bool :=
  bif Nat.beq a 0 then Wp0 j else
  (Nat.beq a 22 || Nat.beq a 35 || Nat.beq a 42 || Nat.beq a 43 ||
   ((Nat.beq a 23 || Nat.beq a 36 || Nat.beq a 37 || Nat.beq a 38) && Nat.ble 3 j) ||
   ((Nat.beq a 24 || Nat.beq a 25) && Nat.ble 5 j) ||
   ((Nat.beq a 26 || Nat.beq a 27 || Nat.beq a 28 || Nat.beq a 29) && Nat.ble 6 j) ||
   ((Nat.beq a 30 || Nat.beq a 31 || Nat.beq a 32 || Nat.beq a 33) && Nat.ble 10 j) ||
   (Nat.beq a 34 && Nat.ble 21 j) ||
   ((Nat.beq a 39 || Nat.beq a 40 || Nat.beq a 41) && Nat.ble 64 j))
def aP (S S1 : Tr) : Prop := ∀ a j, Wp a j = false → S1 a j = S a j
theorem aP_rfl {S : Tr} : aP S S := fun _ _ _ => rfl
theorem aP_tr {S S1 S2 : Tr} (h1 : aP S S1) (h2 : aP S1 S2) : aP S S2 := fun a j h => (h2 a j h).trans (h1 a j h)
theorem aP_set {z S : Tr} {a i : Nat} {v : Int32} (h : aP z S) (hw : Wp a i = true) : aP z (st S a i v) := fun c j hf => by
  rcases st_or (S := S) (a := a) (i := i) (b := c) (j := j) (v := v) with e | ⟨e1, e2⟩
  · rw [e]; exact h c j hf
  · subst e1; subst e2; rw [hw] at hf; cases hf
theorem Wp_23 {j : Nat} (h : 3 ≤ j) : Wp 23 j = true := by show (_ : Bool) = true; unfold Wp; rw [Nat.ble_eq_true_of_le h]; simp; exact Or.inl rfl
theorem Wp_36 {j : Nat} (h : 3 ≤ j) : Wp 36 j = true := by show (_ : Bool) = true; unfold Wp; rw [Nat.ble_eq_true_of_le h]; simp; exact Or.inl rfl
theorem Wp_37 {j : Nat} (h : 3 ≤ j) : Wp 37 j = true := by show (_ : Bool) = true; unfold Wp; rw [Nat.ble_eq_true_of_le h]; simp; exact Or.inl rfl
theorem Wp_38 {j : Nat} (h : 3 ≤ j) : Wp 38 j = true := by show (_ : Bool) = true; unfold Wp; rw [Nat.ble_eq_true_of_le h]; simp; exact Or.inl rfl
theorem Wp_24 {j : Nat} (h : 5 ≤ j) : Wp 24 j = true := by show (_ : Bool) = true; unfold Wp; rw [Nat.ble_eq_true_of_le h]; simp; exact Or.inl rfl
theorem Wp_25 {j : Nat} (h : 5 ≤ j) : Wp 25 j = true := by show (_ : Bool) = true; unfold Wp; rw [Nat.ble_eq_true_of_le h]; simp; exact Or.inl rfl
theorem Wp_26 {j : Nat} (h : 6 ≤ j) : Wp 26 j = true := by show (_ : Bool) = true; unfold Wp; rw [Nat.ble_eq_true_of_le h]; simp; exact Or.inl rfl
theorem Wp_27 {j : Nat} (h : 6 ≤ j) : Wp 27 j = true := by show (_ : Bool) = true; unfold Wp; rw [Nat.ble_eq_true_of_le h]; simp; exact Or.inl rfl
theorem Wp_28 {j : Nat} (h : 6 ≤ j) : Wp 28 j = true := by show (_ : Bool) = true; unfold Wp; rw [Nat.ble_eq_true_of_le h]; simp; exact Or.inl rfl
theorem Wp_29 {j : Nat} (h : 6 ≤ j) : Wp 29 j = true := by show (_ : Bool) = true; unfold Wp; rw [Nat.ble_eq_true_of_le h]; simp; exact Or.inl rfl
theorem Wp_30 {j : Nat} (h : 10 ≤ j) : Wp 30 j = true := by show (_ : Bool) = true; unfold Wp; rw [Nat.ble_eq_true_of_le h]; simp; exact Or.inl rfl
theorem Wp_31 {j : Nat} (h : 10 ≤ j) : Wp 31 j = true := by show (_ : Bool) = true; unfold Wp; rw [Nat.ble_eq_true_of_le h]; simp; exact Or.inl rfl
theorem Wp_32 {j : Nat} (h : 10 ≤ j) : Wp 32 j = true := by show (_ : Bool) = true; unfold Wp; rw [Nat.ble_eq_true_of_le h]; simp; exact Or.inl rfl
theorem Wp_33 {j : Nat} (h : 10 ≤ j) : Wp 33 j = true := by show (_ : Bool) = true; unfold Wp; rw [Nat.ble_eq_true_of_le h]; simp; exact Or.inl rfl
theorem Wp_34 {j : Nat} (h : 21 ≤ j) : Wp 34 j = true := by show (_ : Bool) = true; unfold Wp; rw [Nat.ble_eq_true_of_le h]; simp; exact Or.inl rfl
theorem Wp_39 {j : Nat} (h : 64 ≤ j) : Wp 39 j = true := by show (_ : Bool) = true; unfold Wp; rw [Nat.ble_eq_true_of_le h]; simp; exact Or.inl rfl
theorem Wp_40 {j : Nat} (h : 64 ≤ j) : Wp 40 j = true := by show (_ : Bool) = true; unfold Wp; rw [Nat.ble_eq_true_of_le h]; simp; exact Or.inl rfl
theorem Wp_41 {j : Nat} (h : 64 ≤ j) : Wp 41 j = true := by show (_ : Bool) = true; unfold Wp; rw [Nat.ble_eq_true_of_le h]; simp; exact Or.inl rfl
theorem t_X8_wrong (S : Tr) (x1 : Int32) (hS : iR BM S) : D (f_X8_wrong S x1) (fun (q : Int32 × Tr) => q.1 = 0 ∧ iR BM q.2 ∧ aP S q.2 ∧ (∀ a j, ¬ (a = 0 ∧ (j = 4 ∨ j = 5)) → q.2 a j = S a j)) := by
  unfold f_X8_wrong
  refine D_some ⟨rfl, ?_, ?_, ?_⟩
  · have h1 := i_rng x1
    have h2 := i_rng ((st S 0 4 x1) 0 10)
    refine iR_set (a := 0) (i := 5) (iR_set (a := 0) (i := 4) hS ?_ ?_) ?_ ?_
    · show (-2147483648 : Int) ≤ _; exact h1.1
    · show _ ≤ (2147483647 : Int); omega
    · show (-2147483648 : Int) ≤ _; exact h2.1
    · show _ ≤ (2147483647 : Int); omega
  · exact aP_set (aP_set aP_rfl rfl) rfl
  · intro a j hn
    rcases st_or (S := st S 0 4 x1) (a := 0) (i := 5) (b := a) (j := j) (v := (st S 0 4 x1) 0 10) with e | ⟨e1, e2⟩
    · refine Eq.trans e ?_
      rcases st_or (S := S) (a := 0) (i := 4) (b := a) (j := j) (v := x1) with e | ⟨e1, e2⟩
      · exact e
      · exact absurd ⟨e1, Or.inl e2⟩ hn
    · exact absurd ⟨e1, Or.inr e2⟩ hn
set_option maxHeartbeats 1000000 in
set_option maxRecDepth 100000 in
theorem t_X8_isDigit (S : Tr) (x1 : Int32) (hS : iR BM S) (hx1 : 0 ≤ x1.toInt ∧ x1.toInt ≤ 700) : D (f_X8_isDigit S x1) (fun (q : Int32) => (0 ≤ q.toInt ∧ q.toInt ≤ 1) ∧ (q.toInt = 1 → x1.toInt < (S 0 6).toInt)) := by
  unfold f_X8_isDigit
  have n1 : 0 ≤ (S 0 6).toInt ∧ (S 0 6).toInt ≤ 700 := hS 0 6
  refine D_ite (fun c2 => ?_) (fun c2 => ?_)
  · have kc2 := tq_le (x := (S 0 6)) (y := x1) rfl rfl c2
    have l0 : (0 : Int32).toInt = 0 := by decide
    exact D_some (show (0 ≤ (0 : Int32).toInt ∧ (0 : Int32).toInt ≤ 1) ∧ ((0 : Int32).toInt = 1 → x1.toInt < (S 0 6).toInt) from ⟨⟨(by clear hx1 n1 kc2; omega), (by clear hx1 n1 kc2; omega)⟩, (by omega)⟩)
  · have kc2 := tq_len (x := (S 0 6)) (y := x1) rfl rfl c2
    refine D_ck (okI_of (by omega) (by omega)) ?_
    have n4 := i_rng (S 1 x1.toNatClampNeg)
    refine D_ite (fun c3 => ?_) (fun c3 => ?_)
    · have kc3 := tq_lt (x := (S 1 x1.toNatClampNeg)) (y := (48 : Int32)) rfl (b := 48) (by decide) c3
      have l0 : (0 : Int32).toInt = 0 := by decide
      exact D_some (show (0 ≤ (0 : Int32).toInt ∧ (0 : Int32).toInt ≤ 1) ∧ ((0 : Int32).toInt = 1 → x1.toInt < (S 0 6).toInt) from ⟨⟨(by clear hx1 n1 kc2 n4 kc3; omega), (by clear hx1 n1 kc2 n4 kc3; omega)⟩, (by omega)⟩)
    · have kc3 := tq_ltn (x := (S 1 x1.toNatClampNeg)) (y := (48 : Int32)) rfl (b := 48) (by decide) c3
      refine D_ite (fun c5 => ?_) (fun c5 => ?_)
      · have kc5 := tq_lt (x := (57 : Int32)) (y := (S 1 x1.toNatClampNeg)) (a := 57) (by decide) rfl c5
        have l0 : (0 : Int32).toInt = 0 := by decide
        exact D_some (show (0 ≤ (0 : Int32).toInt ∧ (0 : Int32).toInt ≤ 1) ∧ ((0 : Int32).toInt = 1 → x1.toInt < (S 0 6).toInt) from ⟨⟨(by clear hx1 n1 kc2 n4 kc3 kc5; omega), (by clear hx1 n1 kc2 n4 kc3 kc5; omega)⟩, (by clear n4 kc3 kc5; omega)⟩)
      · have kc5 := tq_ltn (x := (57 : Int32)) (y := (S 1 x1.toNatClampNeg)) (a := 57) (by decide) rfl c5
        have l1 : (1 : Int32).toInt = 1 := by decide
        exact D_some (show (0 ≤ (1 : Int32).toInt ∧ (1 : Int32).toInt ≤ 1) ∧ ((1 : Int32).toInt = 1 → x1.toInt < (S 0 6).toInt) from ⟨⟨(by clear hx1 n1 kc2 n4 kc3 kc5; omega), (by clear hx1 n1 kc2 n4 kc3 kc5; omega)⟩, (by clear n4 kc3 kc5; omega)⟩)
set_option maxHeartbeats 1000000 in
set_option maxRecDepth 100000 in
theorem t_X8_isKey (S : Tr) (x1 : Int32) (hS : iR BM S) : D (f_X8_isKey S x1) (fun (q : Int32) => (0 ≤ q.toInt ∧ q.toInt ≤ 1)) := by
  unfold f_X8_isKey
  have n2 : 0 ≤ (S 0 8).toInt ∧ (S 0 8).toInt ≤ 6 := hS 0 8
  refine D_ite (fun c1 => ?_) (fun c1 => ?_)
  · have kc1 := tq_eq (x := (S 0 8)) (y := (1 : Int32)) rfl (b := 1) (by decide) c1
    have n4 := i_rng (S 0 9)
    have n5 := i_rng x1
    refine D_ite (fun c3 => ?_) (fun c3 => ?_)
    · have kc3 := tq_eq (x := (S 0 9)) (y := x1) rfl rfl c3
      have l1 : (1 : Int32).toInt = 1 := by decide
      exact D_some (show (0 ≤ (1 : Int32).toInt ∧ (1 : Int32).toInt ≤ 1) from ⟨(by clear n2 kc1 n4 n5 kc3; omega), (by clear n2 kc1 n4 n5 kc3; omega)⟩)
    · skip
      have l0 : (0 : Int32).toInt = 0 := by decide
      exact D_some (show (0 ≤ (0 : Int32).toInt ∧ (0 : Int32).toInt ≤ 1) from ⟨(by clear n2 kc1 n4 n5; omega), (by clear n2 kc1 n4 n5; omega)⟩)
  · skip
    have l0 : (0 : Int32).toInt = 0 := by decide
    exact D_some (show (0 ≤ (0 : Int32).toInt ∧ (0 : Int32).toInt ≤ 1) from ⟨(by omega), (by omega)⟩)
set_option maxHeartbeats 1000000 in
set_option maxRecDepth 100000 in
theorem t_X8_isSmall (S : Tr) (x1 : Int32) (hS : iR BM S) (hx1 : 0 ≤ x1.toInt ∧ x1.toInt ≤ 700) : D (f_X8_isSmall S x1) (fun (q : Int32) => (0 ≤ q.toInt ∧ q.toInt ≤ 1) ∧ (q.toInt = 1 → x1.toInt < (S 0 6).toInt)) := by
  unfold f_X8_isSmall
  have n1 : 0 ≤ (S 0 6).toInt ∧ (S 0 6).toInt ≤ 700 := hS 0 6
  refine D_ite (fun c2 => ?_) (fun c2 => ?_)
  · have kc2 := tq_le (x := (S 0 6)) (y := x1) rfl rfl c2
    have l0 : (0 : Int32).toInt = 0 := by decide
    exact D_some (show (0 ≤ (0 : Int32).toInt ∧ (0 : Int32).toInt ≤ 1) ∧ ((0 : Int32).toInt = 1 → x1.toInt < (S 0 6).toInt) from ⟨⟨(by clear hx1 n1 kc2; omega), (by clear hx1 n1 kc2; omega)⟩, (by omega)⟩)
  · have kc2 := tq_len (x := (S 0 6)) (y := x1) rfl rfl c2
    refine D_ck (okI_of (by omega) (by omega)) ?_
    have n4 := i_rng (S 1 x1.toNatClampNeg)
    refine D_ite (fun c3 => ?_) (fun c3 => ?_)
    · have kc3 := tq_lt (x := (S 1 x1.toNatClampNeg)) (y := (97 : Int32)) rfl (b := 97) (by decide) c3
      have l0 : (0 : Int32).toInt = 0 := by decide
      exact D_some (show (0 ≤ (0 : Int32).toInt ∧ (0 : Int32).toInt ≤ 1) ∧ ((0 : Int32).toInt = 1 → x1.toInt < (S 0 6).toInt) from ⟨⟨(by clear hx1 n1 kc2 n4 kc3; omega), (by clear hx1 n1 kc2 n4 kc3; omega)⟩, (by omega)⟩)
    · have kc3 := tq_ltn (x := (S 1 x1.toNatClampNeg)) (y := (97 : Int32)) rfl (b := 97) (by decide) c3
      refine D_ite (fun c5 => ?_) (fun c5 => ?_)
      · have kc5 := tq_lt (x := (122 : Int32)) (y := (S 1 x1.toNatClampNeg)) (a := 122) (by decide) rfl c5
        have l0 : (0 : Int32).toInt = 0 := by decide
        exact D_some (show (0 ≤ (0 : Int32).toInt ∧ (0 : Int32).toInt ≤ 1) ∧ ((0 : Int32).toInt = 1 → x1.toInt < (S 0 6).toInt) from ⟨⟨(by clear hx1 n1 kc2 n4 kc3 kc5; omega), (by clear hx1 n1 kc2 n4 kc3 kc5; omega)⟩, (by clear n4 kc3 kc5; omega)⟩)
      · have kc5 := tq_ltn (x := (122 : Int32)) (y := (S 1 x1.toNatClampNeg)) (a := 122) (by decide) rfl c5
        have l1 : (1 : Int32).toInt = 1 := by decide
        exact D_some (show (0 ≤ (1 : Int32).toInt ∧ (1 : Int32).toInt ≤ 1) ∧ ((1 : Int32).toInt = 1 → x1.toInt < (S 0 6).toInt) from ⟨⟨(by clear hx1 n1 kc2 n4 kc3 kc5; omega), (by clear hx1 n1 kc2 n4 kc3 kc5; omega)⟩, (by clear n4 kc3 kc5; omega)⟩)
set_option maxHeartbeats 1000000 in
set_option maxRecDepth 100000 in
theorem tl_X8_packed_L5 (S : Tr) (x1 : Int32) (x2 : Int32) (hS : iR BM S) (hx1 : 0 ≤ x1.toInt ∧ x1.toInt ≤ 700) (hx2 : 0 ≤ x2.toInt ∧ x2.toInt ≤ 700)   (N : Nat) : ∀ (x3 : Int32) (x4 : Int32), 0 ≤ x4.toInt ∧ x4.toInt ≤ 706 → 1000 - x4.toInt < (N : Int) → D (lpF (fun _ _ => none) (fB_X8_packed_L5 S x1 x2) N x3 x4) (fun (q : Int32) => True) := by
  induction N with
  | zero =>
    intro x3 x4 hx4 hN
    exfalso
    omega
  | succ N5 ih =>
    intro x3 x4 hx4 hN
    have hk5 : ∀ (x3 : Int32) (x4 : Int32), 0 ≤ x4.toInt ∧ x4.toInt ≤ 706 → 1000 - x4.toInt < (N5 : Int) → D (lpF (fun _ _ => none) (fB_X8_packed_L5 S x1 x2) N5 x3 x4) (fun (q : Int32) => True) := ih
    show D (fB_X8_packed_L5 S x1 x2 (lpF (fun _ _ => none) (fB_X8_packed_L5 S x1 x2) N5) x3 x4) _
    generalize lpF (fun _ _ => none) (fB_X8_packed_L5 S x1 x2) N5 = k5 at hk5 ⊢
    have hN5 : 1000 - x4.toInt < (N5 : Int) + 1 := by omega
    clear ih
    unfold fB_X8_packed_L5
    have n2 : (x1 + 6).toInt = x1.toInt + 6 := i_addK rfl (by decide) (by clear hx2 hx4 hN5 hN; omega) (by clear hx2 hx4 hN5 hN; omega)
    refine D_ite (fun c1 => ?_) (fun c1 => ?_)
    · have kc1 := tq_le (x := (x1 + 6)) (y := x4) rfl rfl c1
      have n3 := i_rng x3
      exact D_some trivial
    · have kc1 := tq_len (x := (x1 + 6)) (y := x4) rfl rfl c1
      refine D_ite (fun c4 => ?_) (fun c4 => ?_)
      · have kc4 := tq_le (x := x2) (y := x4) rfl rfl c4
        refine D_lt (fun y5 ey5 => ?_)
        have n6 := i_rng ((x3 <<< (5 &&& 31)) ||| 0)
        have hy5 : y5.toInt = ((x3 <<< (5 &&& 31)) ||| 0).toInt := by rw [ey5]
        have n8 : (x4 + 1).toInt = x4.toInt + 1 := i_addK rfl (by decide) (by clear hN5 hN n6 hy5; omega) (by clear hN5 hN n6 hy5; omega)
        refine D_lt (fun y7 ey7 => ?_)
        have hy7 : y7.toInt = (x4 + 1 : Int32).toInt := by rw [ey7]
        exact hk5 y5 y7 ⟨(by clear hN5 hN n6 hy5; omega), (by clear hN5 hN n6 hy5; omega)⟩ (by omega)
      · have kc4 := tq_len (x := x2) (y := x4) rfl rfl c4
        refine D_ck (okI_of (by omega) (by omega)) ?_
        refine D_lt (fun y9 ey9 => ?_)
        have n10 := i_rng ((x3 <<< (5 &&& 31)) ||| ((S 1 x4.toNatClampNeg) - 96))
        have hy9 : y9.toInt = ((x3 <<< (5 &&& 31)) ||| ((S 1 x4.toNatClampNeg) - 96)).toInt := by rw [ey9]
        have n12 : (x4 + 1).toInt = x4.toInt + 1 := i_addK rfl (by decide) (by clear hN5 hN n10 hy9; omega) (by clear hN5 hN n10 hy9; omega)
        refine D_lt (fun y11 ey11 => ?_)
        have hy11 : y11.toInt = (x4 + 1 : Int32).toInt := by rw [ey11]
        exact hk5 y9 y11 ⟨(by clear hN5 hN n10 hy9; omega), (by clear hN5 hN n10 hy9; omega)⟩ (by omega)
set_option maxHeartbeats 1000000 in
set_option maxRecDepth 100000 in
theorem t_X8_packed (S : Tr) (x1 : Int32) (x2 : Int32) (hS : iR BM S) (hx1 : 0 ≤ x1.toInt ∧ x1.toInt ≤ 700) (hx2 : 0 ≤ x2.toInt ∧ x2.toInt ≤ 700) : D (f_X8_packed S x1 x2) (fun (q : Int32) => True) := by
  unfold f_X8_packed
  have l0 : (0 : Int32).toInt = 0 := by decide
  exact tl_X8_packed_L5 S x1 x2 hS ⟨(by omega), (by omega)⟩ ⟨(by omega), (by omega)⟩   2000 (0 : Int32) x1 ⟨(by omega), (by omega)⟩ (by omega)
set_option maxHeartbeats 1000000 in
set_option maxRecDepth 100000 in
theorem t_X8_isSign (S : Tr) (x1 : Int32) (hS : iR BM S) : D (f_X8_isSign S x1) (fun (q : Int32) => (0 ≤ q.toInt ∧ q.toInt ≤ 1)) := by
  unfold f_X8_isSign
  have n2 : 0 ≤ (S 0 8).toInt ∧ (S 0 8).toInt ≤ 6 := hS 0 8
  refine D_ite (fun c1 => ?_) (fun c1 => ?_)
  · have kc1 := tq_eq (x := (S 0 8)) (y := (4 : Int32)) rfl (b := 4) (by decide) c1
    have n4 := i_rng (S 0 9)
    have n5 := i_rng x1
    refine D_ite (fun c3 => ?_) (fun c3 => ?_)
    · have kc3 := tq_eq (x := (S 0 9)) (y := x1) rfl rfl c3
      have l1 : (1 : Int32).toInt = 1 := by decide
      exact D_some (show (0 ≤ (1 : Int32).toInt ∧ (1 : Int32).toInt ≤ 1) from ⟨(by clear n2 kc1 n4 n5 kc3; omega), (by clear n2 kc1 n4 n5 kc3; omega)⟩)
    · skip
      have l0 : (0 : Int32).toInt = 0 := by decide
      exact D_some (show (0 ≤ (0 : Int32).toInt ∧ (0 : Int32).toInt ≤ 1) from ⟨(by clear n2 kc1 n4 n5; omega), (by clear n2 kc1 n4 n5; omega)⟩)
  · skip
    have l0 : (0 : Int32).toInt = 0 := by decide
    exact D_some (show (0 ≤ (0 : Int32).toInt ∧ (0 : Int32).toInt ≤ 1) from ⟨(by omega), (by omega)⟩)
set_option maxHeartbeats 1000000 in
set_option maxRecDepth 100000 in
theorem tl_X8_plain_L70 (zaP : Tr)    (N : Nat) : ∀ (x1 : Int32) (S : Tr), aP zaP S → iR BM S → 0 ≤ x1.toInt ∧ x1.toInt ≤ 1000 → 1000 - x1.toInt < (N : Int) → D (lpF (fun _ _ => none) (fB_X8_plain_L70 ) N x1 S) (fun (q : Tr) => (iR BM q) ∧ (aP zaP q)) := by
  induction N with
  | zero =>
    intro x1 S daP hS hx1 hN
    exfalso
    omega
  | succ N70 ih =>
    intro x1 S daP hS hx1 hN
    have hk70 : ∀ (x1 : Int32) (S : Tr), aP zaP S → iR BM S → 0 ≤ x1.toInt ∧ x1.toInt ≤ 1000 → 1000 - x1.toInt < (N70 : Int) → D (lpF (fun _ _ => none) (fB_X8_plain_L70 ) N70 x1 S) (fun (q : Tr) => (iR BM q) ∧ (aP zaP q)) := ih
    show D (fB_X8_plain_L70  (lpF (fun _ _ => none) (fB_X8_plain_L70 ) N70) x1 S) _
    generalize lpF (fun _ _ => none) (fB_X8_plain_L70 ) N70 = k70 at hk70 ⊢
    have hN70 : 1000 - x1.toInt < (N70 : Int) + 1 := by omega
    clear ih
    unfold fB_X8_plain_L70
    refine D_ite (fun c35 => ?_) (fun c35 => ?_)
    · have kc35 := tq_le (x := (21 : Int32)) (y := x1) (a := 21) (by decide) rfl c35
      exact D_some (show (iR BM S) ∧ (aP zaP S) from ⟨hS, daP⟩)
    · have kc35 := tq_len (x := (21 : Int32)) (y := x1) (a := 21) (by decide) rfl c35
      have n36 : ((21 : Int32) + x1).toInt = 21 + x1.toInt := i_addK (by decide) rfl (by omega) (by omega)
      refine D_ck (okI_of (by omega) (by omega)) ?_
      refine D_lt (fun S_37 eS_37 => ?_)
      have hS_37 : iR BM S_37 := by rw [eS_37]; exact iR_setU hS rfl
      have kaP_t38 : aP zaP S_37 := (by rw [eS_37]; exact aP_set daP (Wp_34 (by simp only [i_cl]; omega)))
      refine D_ck (okI_of (by omega) (by omega)) ?_
      refine D_lt (fun S_39 eS_39 => ?_)
      have hS_39 : iR BM S_39 := by rw [eS_39]; exact iR_setU hS_37 rfl
      have kaP_t40 : aP zaP S_39 := (by rw [eS_39]; exact aP_set kaP_t38 rfl)
      have n42 : (x1 + 1).toInt = x1.toInt + 1 := i_addK rfl (by decide) (by omega) (by omega)
      refine D_lt (fun y41 ey41 => ?_)
      have hy41 : y41.toInt = (x1 + 1 : Int32).toInt := by rw [ey41]
      exact hk70 y41 S_39 kaP_t40 hS_39 ⟨(by omega), (by omega)⟩ (by omega)
set_option maxHeartbeats 1000000 in
set_option maxRecDepth 100000 in
theorem tl_X8_plain_L32 (zaP : Tr)    (N : Nat) : ∀ (x1 : Int32) (S : Tr), aP zaP S → iR BM S → 0 ≤ x1.toInt ∧ x1.toInt ≤ 1000 → 1000 - x1.toInt < (N : Int) → D (lpF (fun _ _ => none) (fB_X8_plain_L32 ) N x1 S) (fun (q : Tr) => (iR BM q) ∧ (aP zaP q)) := by
  induction N with
  | zero =>
    intro x1 S daP hS hx1 hN
    exfalso
    omega
  | succ N32 ih =>
    intro x1 S daP hS hx1 hN
    have hk32 : ∀ (x1 : Int32) (S : Tr), aP zaP S → iR BM S → 0 ≤ x1.toInt ∧ x1.toInt ≤ 1000 → 1000 - x1.toInt < (N32 : Int) → D (lpF (fun _ _ => none) (fB_X8_plain_L32 ) N32 x1 S) (fun (q : Tr) => (iR BM q) ∧ (aP zaP q)) := ih
    show D (fB_X8_plain_L32  (lpF (fun _ _ => none) (fB_X8_plain_L32 ) N32) x1 S) _
    generalize lpF (fun _ _ => none) (fB_X8_plain_L32 ) N32 = k32 at hk32 ⊢
    have hN32 : 1000 - x1.toInt < (N32 : Int) + 1 := by omega
    clear ih
    unfold fB_X8_plain_L32
    refine D_ite (fun c34 => ?_) (fun c34 => ?_)
    · have kc34 := tq_le (x := (3 : Int32)) (y := x1) (a := 3) (by decide) rfl c34
      have l0 : (0 : Int32).toInt = 0 := by decide
      exact tl_X8_plain_L70 zaP    2000 (0 : Int32) S daP hS ⟨(by clear hx1 hN32 hN kc34; omega), (by clear hx1 hN32 hN kc34; omega)⟩ (by clear hx1 hN32 hN kc34; omega)
    · have kc34 := tq_len (x := (3 : Int32)) (y := x1) (a := 3) (by decide) rfl c34
      refine D_ck (okI_of (by omega) (by omega)) ?_
      refine D_lt (fun S_43 eS_43 => ?_)
      have hS_43 : iR BM S_43 := by rw [eS_43]; exact iR_setU hS rfl
      have kaP_t44 : aP zaP S_43 := (by rw [eS_43]; exact aP_set daP rfl)
      have n45 : ((3 : Int32) + x1).toInt = 3 + x1.toInt := i_addK (by decide) rfl (by omega) (by omega)
      refine D_ck (okI_of (by omega) (by omega)) ?_
      refine D_lt (fun S_46 eS_46 => ?_)
      have hS_46 : iR BM S_46 := by rw [eS_46]; exact iR_setU hS_43 rfl
      have kaP_t47 : aP zaP S_46 := (by rw [eS_46]; exact aP_set kaP_t44 (Wp_23 (by simp only [i_cl]; omega)))
      refine D_lt (fun S_48 eS_48 => ?_)
      have hS_48 : iR BM S_48 := by rw [eS_48]; exact iR_setU hS_46 rfl
      have kaP_t49 : aP zaP S_48 := (by rw [eS_48]; exact aP_set kaP_t47 (Wp_36 (by simp only [i_cl]; omega)))
      have n51 : (x1 + 1).toInt = x1.toInt + 1 := i_addK rfl (by decide) (by omega) (by omega)
      refine D_lt (fun y50 ey50 => ?_)
      have hy50 : y50.toInt = (x1 + 1 : Int32).toInt := by rw [ey50]
      exact hk32 y50 S_48 kaP_t49 hS_48 ⟨(by omega), (by omega)⟩ (by omega)
set_option maxHeartbeats 1000000 in
set_option maxRecDepth 100000 in
theorem t_X8_plain (S : Tr) (hS : iR BM S) : D (f_X8_plain S) (fun (q : Tr) => (iR BM q) ∧ (aP S q)) := by
  unfold f_X8_plain
  have l0 : (0 : Int32).toInt = 0 := by decide
  refine D_lt (fun S_1 eS_1 => ?_)
  have hS_1 : iR BM S_1 := by rw [eS_1]; exact iR_set hS (show (0 : Int) ≤ _ from (by omega)) (show _ ≤ (5 : Int) from (by omega))
  have kaP_t2 : aP S S_1 := (by rw [eS_1]; exact aP_set aP_rfl rfl)
  have n3 : (S_1 0 16).toInt = (0 : Int32).toInt := by rw [eS_1]; rfl
  refine D_lt (fun S_4 eS_4 => ?_)
  have hS_4 : iR BM S_4 := by rw [eS_4]; exact iR_set hS_1 (show (0 : Int) ≤ _ from (by omega)) (show _ ≤ (6 : Int) from (by omega))
  have kaP_t5 : aP S S_4 := (by rw [eS_4]; exact aP_set kaP_t2 rfl)
  have n6 : (S_4 0 16).toInt = (S_1 0 16).toInt := by rw [eS_4]; rfl
  have n7 : (S_4 0 17).toInt = (0 : Int32).toInt := by rw [eS_4]; rfl
  refine D_lt (fun S_8 eS_8 => ?_)
  have hS_8 : iR BM S_8 := by rw [eS_8]; exact iR_set hS_4 (show (0 : Int) ≤ _ from (by clear n3 n6 n7; omega)) (show _ ≤ (10 : Int) from (by clear n3 n6 n7; omega))
  have kaP_t9 : aP S S_8 := (by rw [eS_8]; exact aP_set kaP_t5 rfl)
  have n10 : (S_8 0 17).toInt = (S_4 0 17).toInt := by rw [eS_8]; rfl
  have n11 : (S_8 0 16).toInt = (S_4 0 16).toInt := by rw [eS_8]; rfl
  have n12 : (S_8 0 18).toInt = (0 : Int32).toInt := by rw [eS_8]; rfl
  refine D_lt (fun S_13 eS_13 => ?_)
  have hS_13 : iR BM S_13 := by rw [eS_13]; exact iR_set hS_8 (show (0 : Int) ≤ _ from (by clear n3 n6 n7 n10 n11 n12; omega)) (show _ ≤ (64 : Int) from (by clear n3 n6 n7 n10 n11 n12; omega))
  have kaP_t14 : aP S S_13 := (by rw [eS_13]; exact aP_set kaP_t9 rfl)
  have n15 : (S_13 0 17).toInt = (S_8 0 17).toInt := by rw [eS_13]; rfl
  have n16 : (S_13 0 18).toInt = (S_8 0 18).toInt := by rw [eS_13]; rfl
  have n17 : (S_13 0 16).toInt = (S_8 0 16).toInt := by rw [eS_13]; rfl
  have n18 : (S_13 0 19).toInt = (0 : Int32).toInt := by rw [eS_13]; rfl
  refine D_lt (fun S_19 eS_19 => ?_)
  have hS_19 : iR BM S_19 := by rw [eS_19]; exact iR_set hS_13 (show (0 : Int) ≤ _ from (by clear n3 n6 n7 n10 n11 n12 n15 n16 n17 n18; omega)) (show _ ≤ (10 : Int) from (by clear n3 n6 n7 n10 n11 n12 n15 n16 n17 n18; omega))
  have kaP_t20 : aP S S_19 := (by rw [eS_19]; exact aP_set kaP_t14 rfl)
  have n21 : (S_19 0 19).toInt = (S_13 0 19).toInt := by rw [eS_19]; rfl
  have n22 : (S_19 0 17).toInt = (S_13 0 17).toInt := by rw [eS_19]; rfl
  have n23 : (S_19 0 18).toInt = (S_13 0 18).toInt := by rw [eS_19]; rfl
  have n24 : (S_19 0 16).toInt = (S_13 0 16).toInt := by rw [eS_19]; rfl
  have n25 : (S_19 0 20).toInt = (0 : Int32).toInt := by rw [eS_19]; rfl
  refine D_lt (fun S_26 eS_26 => ?_)
  have hS_26 : iR BM S_26 := by rw [eS_26]; exact iR_set hS_19 (show (0 : Int) ≤ _ from (by clear n3 n6 n7 n10 n11 n12 n15 n16 n17 n18 n21 n22 n23 n24 n25; omega)) (show _ ≤ (64 : Int) from (by clear n3 n6 n7 n10 n11 n12 n15 n16 n17 n18 n21 n22 n23 n24 n25; omega))
  have kaP_t27 : aP S S_26 := (by rw [eS_26]; exact aP_set kaP_t20 rfl)
  have n28 : (S_26 0 19).toInt = (S_19 0 19).toInt := by rw [eS_26]; rfl
  have n29 : (S_26 0 20).toInt = (S_19 0 20).toInt := by rw [eS_26]; rfl
  have n30 : (S_26 0 18).toInt = (S_19 0 18).toInt := by rw [eS_26]; rfl
  have n31 : (S_26 0 17).toInt = (S_19 0 17).toInt := by rw [eS_26]; rfl
  have n32 : (S_26 0 16).toInt = (S_19 0 16).toInt := by rw [eS_26]; rfl
  have n33 : (S_26 0 46).toInt = (0 : Int32).toInt := by rw [eS_26]; rfl
  exact tl_X8_plain_L32 S    2000 (0 : Int32) S_26 kaP_t27 hS_26 ⟨(by clear n3 n6 n7 n10 n11 n12 n15 n16 n17 n18 n21 n22 n23 n24 n25 n28 n29 n30 n31 n32 n33; omega), (by clear n3 n6 n7 n10 n11 n12 n15 n16 n17 n18 n21 n22 n23 n24 n25 n28 n29 n30 n31 n32 n33; omega)⟩ (by clear n3 n6 n7 n10 n11 n12 n15 n16 n17 n18 n21 n22 n23 n24 n25 n28 n29 n30 n31 n32 n33; omega)
-- 44.m
/-! a token: what it may change -/
def aK (S S1 : Tr) : Prop := ∀ a j, (bif Nat.beq a 0 then (Nat.ble 7 j && Nat.ble j 10) else false) = false → S1 a j = S a j
theorem aK_rfl {S : Tr} : aK S S := fun _ _ _ => rfl
theorem aK_tr {S S1 S2 : Tr} (h1 : aK S S1) (h2 : aK S1 S2) : aK S S2 := fun a j h => (h2 a j h).trans (h1 a j h)
theorem aK_set {z S : Tr} {a i : Nat} {v : Int32} (h : aK z S) (hw : (bif Nat.beq a 0 then (Nat.ble 7 i && Nat.ble i 10) else false) = true) : aK z (st S a i v) := fun c j hf => by
  rcases st_or (S := S) (a := a) (i := i) (b := c) (j := j) (v := v) with e | ⟨e1, e2⟩
  · rw [e]; exact h c j hf
  · subst e1; subst e2; rw [hw] at hf; cases hf
set_option maxHeartbeats 1000000 in
set_option maxRecDepth 100000 in
theorem t_X8_signToken (S : Tr) (hS : iR BM S) (h7 : (S 0 7).toInt < (S 0 6).toInt) : D (f_X8_signToken S) (fun (q : Tr) => (iR BM q) ∧ (aK S q) ∧ ((q 0 7).toInt ≤ (q 0 6).toInt) ∧ (4 ≤ (q 0 8).toInt)) := by
  unfold f_X8_signToken
  have n1 : 0 ≤ (S 0 6).toInt ∧ (S 0 6).toInt ≤ 700 := hS 0 6
  have n2 : 0 ≤ (S 0 7).toInt ∧ (S 0 7).toInt ≤ 700 := hS 0 7
  refine D_ck (okI_of (by omega) (by omega)) ?_
  refine D_lt (fun S_3 eS_3 => ?_)
  have hS_3 : iR BM S_3 := by rw [eS_3]; exact iR_setU hS rfl
  have kaK_t4 : aK S S_3 := (by rw [eS_3]; exact aK_set aK_rfl rfl)
  have n5 : (S_3 0 7).toInt = (S 0 7).toInt := by rw [eS_3]; rfl
  have n6 : (S_3 0 6).toInt = (S 0 6).toInt := by rw [eS_3]; rfl
  have n7 := i_rng (S 1 (S 0 7).toNatClampNeg)
  have n8 : (S_3 0 9).toInt = (S 1 (S 0 7).toNatClampNeg).toInt := by rw [eS_3]; rfl
  have n10 : ((S_3 0 7) + 1).toInt = (S_3 0 7).toInt + 1 := i_addK rfl (by decide) (by omega) (by omega)
  refine D_lt (fun S_9 eS_9 => ?_)
  have hS_9 : iR BM S_9 := by rw [eS_9]; exact iR_set hS_3 (show (0 : Int) ≤ _ from (by omega)) (show _ ≤ (700 : Int) from (by omega))
  have kaK_t11 : aK S S_9 := (by rw [eS_9]; exact aK_set kaK_t4 rfl)
  have n12 : (S_9 0 9).toInt = (S_3 0 9).toInt := by rw [eS_9]; rfl
  have n13 : (S_9 0 6).toInt = (S_3 0 6).toInt := by rw [eS_9]; rfl
  have n14 : (S_9 0 7).toInt = ((S_3 0 7) + 1).toInt := by rw [eS_9]; rfl
  refine D_ite (fun c15 => ?_) (fun c15 => ?_)
  · have kc15 := tq_eq (x := (S_9 0 9)) (y := (60 : Int32)) rfl (b := 60) (by decide) c15
    unfold fJ_X8_signToken_J50
    refine D_ite (fun c16 => ?_) (fun c16 => ?_)
    · have kc16 := tq_le (x := (S_9 0 6)) (y := (S_9 0 7)) rfl rfl c16
      unfold fJ_X8_signToken_J74
      refine D_ite (fun c17 => ?_) (fun c17 => ?_)
      · have kc17 := tq_eq (x := (S_9 0 9)) (y := (61 : Int32)) rfl (b := 61) (by decide) c17
        exfalso
        exact (by clear h7 n1 n2 n5 n6 n10 n13 n14 kc16; omega)
      · skip
        have l0 : (0 : Int32).toInt = 0 := by decide
        have l61 : (61 : Int32).toInt = 61 := by decide
        refine D_ite (fun c18 => ?_) (fun c18 => ?_)
        · have kc18 := tq_eq (x := (0 : Int32)) (y := (61 : Int32)) (a := 0) (by decide) (b := 61) (by decide) c18
          exfalso
          exact (by clear h7 n1 n2 n5 n6 n7 n8 n10 n12 n13 n14 kc15 kc16; omega)
        · skip
          unfold fJ_X8_signToken_J94
          unfold fJ_X8_signToken_J95
          refine D_ite (fun c19 => ?_) (fun c19 => ?_)
          · have kc19 := tq_eq (x := (S_9 0 9)) (y := (60 : Int32)) rfl (b := 60) (by decide) c19
            have l62 : (62 : Int32).toInt = 62 := by decide
            refine D_ite (fun c20 => ?_) (fun c20 => ?_)
            · have kc20 := tq_eq (x := (0 : Int32)) (y := (62 : Int32)) (a := 0) (by decide) (b := 62) (by decide) c20
              exfalso
              exact (by clear h7 n1 n2 n5 n6 n7 n8 n10 n12 n13 n14 kc15 kc16 kc19; omega)
            · skip
              unfold fJ_X8_signToken_J115
              unfold fJ_X8_signToken_J116
              refine D_ite (fun c21 => ?_) (fun c21 => ?_)
              · have kc21 := tq_eq (x := (0 : Int32)) (y := (0 : Int32)) rfl rfl c21
                refine D_ite (fun c22 => ?_) (fun c22 => ?_)
                · have kc22 := tq_eq (x := (0 : Int32)) (y := (0 : Int32)) rfl rfl c22
                  unfold fJ_X8_signToken_J135
                  have l5 : (5 : Int32).toInt = 5 := by decide
                  refine D_lt (fun S_23 eS_23 => ?_)
                  have hS_23 : iR BM S_23 := by rw [eS_23]; exact iR_set hS_9 (show (0 : Int) ≤ _ from (by clear h7 n1 n2 n5 n6 n7 n8 n10 n12 n13 n14 kc15 kc16 kc19; omega)) (show _ ≤ (6 : Int) from (by clear h7 n1 n2 n5 n6 n7 n8 n10 n12 n13 n14 kc15 kc16 kc19; omega))
                  have kaK_t24 : aK S S_23 := (by rw [eS_23]; exact aK_set kaK_t11 rfl)
                  have n25 : (S_23 0 9).toInt = (S_9 0 9).toInt := by rw [eS_23]; rfl
                  have n26 : (S_23 0 7).toInt = (S_9 0 7).toInt := by rw [eS_23]; rfl
                  have n27 : (S_23 0 6).toInt = (S_9 0 6).toInt := by rw [eS_23]; rfl
                  have n28 : (S_23 0 8).toInt = (5 : Int32).toInt := by rw [eS_23]; rfl
                  refine D_ite (fun c29 => ?_) (fun c29 => ?_)
                  · have kc29 := tq_eq (x := (S_23 0 9)) (y := (61 : Int32)) rfl (b := 61) (by decide) c29
                    exfalso
                    exact (by clear h7 n1 n2 n5 n6 n10 n13 n14 kc16 n26 n27 n28; omega)
                  · skip
                    refine D_ite (fun c30 => ?_) (fun c30 => ?_)
                    · have kc30 := tq_eq (x := (S_23 0 9)) (y := (60 : Int32)) rfl (b := 60) (by decide) c30
                      refine D_ite (fun c31 => ?_) (fun c31 => ?_)
                      · have kc31 := tq_eq (x := (0 : Int32)) (y := (0 : Int32)) rfl rfl c31
                        refine D_ite (fun c32 => ?_) (fun c32 => ?_)
                        · have kc32 := tq_eq (x := (0 : Int32)) (y := (0 : Int32)) rfl rfl c32
                          unfold fJ_X8_signToken_J192
                          refine D_lt (fun S_33 eS_33 => ?_)
                          have hS_33 : iR BM S_33 := by rw [eS_33]; exact iR_setU hS_23 rfl
                          have kaK_t34 : aK S S_33 := (by rw [eS_33]; exact aK_set kaK_t24 rfl)
                          have n35 : (S_33 0 7).toInt = (S_23 0 7).toInt := by rw [eS_33]; rfl
                          have n36 : (S_33 0 8).toInt = (S_23 0 8).toInt := by rw [eS_33]; rfl
                          have n37 : (S_33 0 6).toInt = (S_23 0 6).toInt := by rw [eS_33]; rfl
                          have n38 : (S_33 0 9).toInt = (0 : Int32).toInt := by rw [eS_33]; rfl
                          exact D_some (show (iR BM S_33) ∧ (aK S S_33) ∧ ((S_33 0 7).toInt ≤ (S_33 0 6).toInt) ∧ (4 ≤ (S_33 0 8).toInt) from ⟨hS_33, kaK_t34, (by clear n7 n8 n12 kc15 kc19 n25 n28 kc30 n36 n38; omega), (by clear h7 n1 n2 n5 n6 n7 n8 n10 n12 n13 n14 kc15 kc16 kc19 n25 n26 n27 kc30 n35 n37 n38; omega)⟩)
                        · have kc320 := tq_eqn (x := (0 : Int32)) (y := (0 : Int32)) rfl rfl c32
                          have kc32 : 1 ≤ (0 : Int32).toInt := (by clear h7 n1 n2 n5 n6 n7 n8 n10 n12 n13 n14 kc15 kc16 kc19 n25 n26 n27 n28 kc30; omega)
                          clear kc320
                          exfalso
                          exact (by clear h7 n1 n2 n5 n6 n7 n8 n10 n12 n13 n14 kc15 kc16 kc19 n25 n26 n27 n28 kc30; omega)
                      · have kc310 := tq_eqn (x := (0 : Int32)) (y := (0 : Int32)) rfl rfl c31
                        have kc31 : 1 ≤ (0 : Int32).toInt := (by clear h7 n1 n2 n5 n6 n7 n8 n10 n12 n13 n14 kc15 kc16 kc19 n25 n26 n27 n28 kc30; omega)
                        clear kc310
                        exfalso
                        exact (by clear h7 n1 n2 n5 n6 n7 n8 n10 n12 n13 n14 kc15 kc16 kc19 n25 n26 n27 n28 kc30; omega)
                    · have kc300 := tq_eqn (x := (S_23 0 9)) (y := (60 : Int32)) rfl (b := 60) (by decide) c30
                      have kc30 : 61 ≤ (S_23 0 9).toInt := (by clear h7 n1 n2 n5 n6 n10 n13 n14 kc16 n26 n27 n28; omega)
                      clear kc300
                      exfalso
                      exact (by clear h7 n1 n2 n5 n6 n10 n13 n14 kc16 n26 n27 n28; omega)
                · have kc220 := tq_eqn (x := (0 : Int32)) (y := (0 : Int32)) rfl rfl c22
                  have kc22 : 1 ≤ (0 : Int32).toInt := (by clear h7 n1 n2 n5 n6 n7 n8 n10 n12 n13 n14 kc15 kc16 kc19; omega)
                  clear kc220
                  exfalso
                  exact (by clear h7 n1 n2 n5 n6 n7 n8 n10 n12 n13 n14 kc15 kc16 kc19; omega)
              · have kc210 := tq_eqn (x := (0 : Int32)) (y := (0 : Int32)) rfl rfl c21
                have kc21 : 1 ≤ (0 : Int32).toInt := (by clear h7 n1 n2 n5 n6 n7 n8 n10 n12 n13 n14 kc15 kc16 kc19; omega)
                clear kc210
                exfalso
                exact (by clear h7 n1 n2 n5 n6 n7 n8 n10 n12 n13 n14 kc15 kc16 kc19; omega)
          · have kc190 := tq_eqn (x := (S_9 0 9)) (y := (60 : Int32)) rfl (b := 60) (by decide) c19
            have kc19 : 61 ≤ (S_9 0 9).toInt := (by clear h7 n1 n2 n5 n6 n10 n13 n14 kc16; omega)
            clear kc190
            exfalso
            exact (by clear h7 n1 n2 n5 n6 n10 n13 n14 kc16; omega)
    · have kc16 := tq_len (x := (S_9 0 6)) (y := (S_9 0 7)) rfl rfl c16
      refine D_ck (okI_of (by clear n7 n8 n12 kc15; omega) (by clear n7 n8 n12 kc15; omega)) ?_
      unfold fJ_X8_signToken_J74
      refine D_ite (fun c39 => ?_) (fun c39 => ?_)
      · have kc39 := tq_eq (x := (S_9 0 9)) (y := (61 : Int32)) rfl (b := 61) (by decide) c39
        exfalso
        exact (by clear h7 n1 n2 n5 n6 n10 n13 n14 kc16; omega)
      · skip
        have n41 := i_rng (S_9 1 (S_9 0 7).toNatClampNeg)
        refine D_ite (fun c40 => ?_) (fun c40 => ?_)
        · have kc40 := tq_eq (x := (S_9 1 (S_9 0 7).toNatClampNeg)) (y := (61 : Int32)) rfl (b := 61) (by decide) c40
          unfold fJ_X8_signToken_J95
          refine D_ite (fun c42 => ?_) (fun c42 => ?_)
          · have kc42 := tq_eq (x := (S_9 0 9)) (y := (60 : Int32)) rfl (b := 60) (by decide) c42
            refine D_ite (fun c43 => ?_) (fun c43 => ?_)
            · have kc43 := tq_eq (x := (S_9 1 (S_9 0 7).toNatClampNeg)) (y := (62 : Int32)) rfl (b := 62) (by decide) c43
              exfalso
              exact (by clear h7 n1 n2 n5 n6 n7 n8 n10 n12 n13 n14 kc15 kc16 kc42; omega)
            · skip
              unfold fJ_X8_signToken_J115
              unfold fJ_X8_signToken_J116
              have l1 : (1 : Int32).toInt = 1 := by decide
              have l0 : (0 : Int32).toInt = 0 := by decide
              refine D_ite (fun c44 => ?_) (fun c44 => ?_)
              · have kc44 := tq_eq (x := (1 : Int32)) (y := (0 : Int32)) (a := 1) (by decide) (b := 0) (by decide) c44
                exfalso
                exact (by clear h7 n1 n2 n5 n6 n7 n8 n10 n12 n13 n14 kc15 kc16 n41 kc40 kc42; omega)
              · skip
                unfold fJ_X8_signToken_J125
                have n46 : ((S_9 0 7) + 1).toInt = (S_9 0 7).toInt + 1 := i_addK rfl (by decide) (by clear n7 n8 n12 kc15 n41 kc40 kc42; omega) (by clear n7 n8 n12 kc15 n41 kc40 kc42; omega)
                refine D_lt (fun S_45 eS_45 => ?_)
                have hS_45 : iR BM S_45 := by rw [eS_45]; exact iR_set hS_9 (show (0 : Int) ≤ _ from (by clear n7 n8 n12 kc15 n41 kc40 kc42; omega)) (show _ ≤ (700 : Int) from (by clear n7 n8 n12 kc15 n41 kc40 kc42; omega))
                have kaK_t47 : aK S S_45 := (by rw [eS_45]; exact aK_set kaK_t11 rfl)
                have n48 : (S_45 0 9).toInt = (S_9 0 9).toInt := by rw [eS_45]; rfl
                have n49 : (S_45 0 6).toInt = (S_9 0 6).toInt := by rw [eS_45]; rfl
                have n50 : (S_45 0 7).toInt = ((S_9 0 7) + 1).toInt := by rw [eS_45]; rfl
                unfold fJ_X8_signToken_J135
                have l5 : (5 : Int32).toInt = 5 := by decide
                refine D_lt (fun S_51 eS_51 => ?_)
                have hS_51 : iR BM S_51 := by rw [eS_51]; exact iR_set hS_45 (show (0 : Int) ≤ _ from (by clear h7 n1 n2 n5 n6 n7 n8 n10 n12 n13 n14 kc15 kc16 n41 kc40 kc42 n46 n48 n49 n50; omega)) (show _ ≤ (6 : Int) from (by clear h7 n1 n2 n5 n6 n7 n8 n10 n12 n13 n14 kc15 kc16 n41 kc40 kc42 n46 n48 n49 n50; omega))
                have kaK_t52 : aK S S_51 := (by rw [eS_51]; exact aK_set kaK_t47 rfl)
                have n53 : (S_51 0 7).toInt = (S_45 0 7).toInt := by rw [eS_51]; rfl
                have n54 : (S_51 0 9).toInt = (S_45 0 9).toInt := by rw [eS_51]; rfl
                have n55 : (S_51 0 6).toInt = (S_45 0 6).toInt := by rw [eS_51]; rfl
                have n56 : (S_51 0 8).toInt = (5 : Int32).toInt := by rw [eS_51]; rfl
                refine D_ite (fun c57 => ?_) (fun c57 => ?_)
                · have kc57 := tq_eq (x := (S_51 0 9)) (y := (61 : Int32)) rfl (b := 61) (by decide) c57
                  exfalso
                  exact (by clear h7 n1 n2 n5 n6 n10 n13 n14 kc16 n41 kc40 n46 n49 n50 n53 n55 n56; omega)
                · skip
                  refine D_ite (fun c58 => ?_) (fun c58 => ?_)
                  · have kc58 := tq_eq (x := (S_51 0 9)) (y := (60 : Int32)) rfl (b := 60) (by decide) c58
                    refine D_ite (fun c59 => ?_) (fun c59 => ?_)
                    · have kc59 := tq_eq (x := (1 : Int32)) (y := (0 : Int32)) (a := 1) (by decide) (b := 0) (by decide) c59
                      exfalso
                      exact (by clear h7 n1 n2 n5 n6 n7 n8 n10 n12 n13 n14 kc15 kc16 n41 kc40 kc42 n46 n48 n49 n50 n53 n54 n55 n56 kc58; omega)
                    · skip
                      unfold fJ_X8_signToken_J192
                      refine D_lt (fun S_60 eS_60 => ?_)
                      have hS_60 : iR BM S_60 := by rw [eS_60]; exact iR_setU hS_51 rfl
                      have kaK_t61 : aK S S_60 := (by rw [eS_60]; exact aK_set kaK_t52 rfl)
                      have n62 : (S_60 0 8).toInt = (S_51 0 8).toInt := by rw [eS_60]; rfl
                      have n63 : (S_60 0 7).toInt = (S_51 0 7).toInt := by rw [eS_60]; rfl
                      have n64 : (S_60 0 6).toInt = (S_51 0 6).toInt := by rw [eS_60]; rfl
                      have n65 : (S_60 0 9).toInt = (1 : Int32).toInt := by rw [eS_60]; rfl
                      exact D_some (show (iR BM S_60) ∧ (aK S S_60) ∧ ((S_60 0 7).toInt ≤ (S_60 0 6).toInt) ∧ (4 ≤ (S_60 0 8).toInt) from ⟨hS_60, kaK_t61, (by clear n7 n8 n12 kc15 n41 kc40 kc42 n48 n54 n56 kc58 n62 n65; omega), (by clear h7 n1 n2 n5 n6 n7 n8 n10 n12 n13 n14 kc15 kc16 n41 kc40 kc42 n46 n48 n49 n50 n53 n54 n55 kc58 n63 n64 n65; omega)⟩)
                  · have kc580 := tq_eqn (x := (S_51 0 9)) (y := (60 : Int32)) rfl (b := 60) (by decide) c58
                    have kc58 : 61 ≤ (S_51 0 9).toInt := (by clear h7 n1 n2 n5 n6 n10 n13 n14 kc16 n41 kc40 n46 n49 n50 n53 n55 n56; omega)
                    clear kc580
                    exfalso
                    exact (by clear h7 n1 n2 n5 n6 n10 n13 n14 kc16 n41 kc40 n46 n49 n50 n53 n55 n56; omega)
          · have kc420 := tq_eqn (x := (S_9 0 9)) (y := (60 : Int32)) rfl (b := 60) (by decide) c42
            have kc42 : 61 ≤ (S_9 0 9).toInt := (by clear h7 n1 n2 n5 n6 n10 n13 n14 kc16 n41 kc40; omega)
            clear kc420
            exfalso
            exact (by clear h7 n1 n2 n5 n6 n10 n13 n14 kc16 n41 kc40; omega)
        · skip
          unfold fJ_X8_signToken_J94
          unfold fJ_X8_signToken_J95
          refine D_ite (fun c66 => ?_) (fun c66 => ?_)
          · have kc66 := tq_eq (x := (S_9 0 9)) (y := (60 : Int32)) rfl (b := 60) (by decide) c66
            refine D_ite (fun c67 => ?_) (fun c67 => ?_)
            · have kc67 := tq_eq (x := (S_9 1 (S_9 0 7).toNatClampNeg)) (y := (62 : Int32)) rfl (b := 62) (by decide) c67
              unfold fJ_X8_signToken_J116
              have l0 : (0 : Int32).toInt = 0 := by decide
              refine D_ite (fun c68 => ?_) (fun c68 => ?_)
              · have kc68 := tq_eq (x := (0 : Int32)) (y := (0 : Int32)) rfl rfl c68
                have l1 : (1 : Int32).toInt = 1 := by decide
                refine D_ite (fun c69 => ?_) (fun c69 => ?_)
                · have kc69 := tq_eq (x := (1 : Int32)) (y := (0 : Int32)) (a := 1) (by decide) (b := 0) (by decide) c69
                  exfalso
                  exact (by clear h7 n1 n2 n5 n6 n7 n8 n10 n12 n13 n14 kc15 kc16 n41 kc66 kc67; omega)
                · skip
                  unfold fJ_X8_signToken_J125
                  have n71 : ((S_9 0 7) + 1).toInt = (S_9 0 7).toInt + 1 := i_addK rfl (by decide) (by clear n7 n8 n12 kc15 n41 kc66 kc67; omega) (by clear n7 n8 n12 kc15 n41 kc66 kc67; omega)
                  refine D_lt (fun S_70 eS_70 => ?_)
                  have hS_70 : iR BM S_70 := by rw [eS_70]; exact iR_set hS_9 (show (0 : Int) ≤ _ from (by clear n7 n8 n12 kc15 n41 kc66 kc67; omega)) (show _ ≤ (700 : Int) from (by clear n7 n8 n12 kc15 n41 kc66 kc67; omega))
                  have kaK_t72 : aK S S_70 := (by rw [eS_70]; exact aK_set kaK_t11 rfl)
                  have n73 : (S_70 0 9).toInt = (S_9 0 9).toInt := by rw [eS_70]; rfl
                  have n74 : (S_70 0 6).toInt = (S_9 0 6).toInt := by rw [eS_70]; rfl
                  have n75 : (S_70 0 7).toInt = ((S_9 0 7) + 1).toInt := by rw [eS_70]; rfl
                  unfold fJ_X8_signToken_J135
                  have l5 : (5 : Int32).toInt = 5 := by decide
                  refine D_lt (fun S_76 eS_76 => ?_)
                  have hS_76 : iR BM S_76 := by rw [eS_76]; exact iR_set hS_70 (show (0 : Int) ≤ _ from (by clear h7 n1 n2 n5 n6 n7 n8 n10 n12 n13 n14 kc15 kc16 n41 kc66 kc67 n71 n73 n74 n75; omega)) (show _ ≤ (6 : Int) from (by clear h7 n1 n2 n5 n6 n7 n8 n10 n12 n13 n14 kc15 kc16 n41 kc66 kc67 n71 n73 n74 n75; omega))
                  have kaK_t77 : aK S S_76 := (by rw [eS_76]; exact aK_set kaK_t72 rfl)
                  have n78 : (S_76 0 9).toInt = (S_70 0 9).toInt := by rw [eS_76]; rfl
                  have n79 : (S_76 0 7).toInt = (S_70 0 7).toInt := by rw [eS_76]; rfl
                  have n80 : (S_76 0 6).toInt = (S_70 0 6).toInt := by rw [eS_76]; rfl
                  have n81 : (S_76 0 8).toInt = (5 : Int32).toInt := by rw [eS_76]; rfl
                  refine D_ite (fun c82 => ?_) (fun c82 => ?_)
                  · have kc82 := tq_eq (x := (S_76 0 9)) (y := (61 : Int32)) rfl (b := 61) (by decide) c82
                    exfalso
                    exact (by clear h7 n1 n2 n5 n6 n10 n13 n14 kc16 n41 kc67 n71 n74 n75 n79 n80 n81; omega)
                  · skip
                    refine D_ite (fun c83 => ?_) (fun c83 => ?_)
                    · have kc83 := tq_eq (x := (S_76 0 9)) (y := (60 : Int32)) rfl (b := 60) (by decide) c83
                      refine D_ite (fun c84 => ?_) (fun c84 => ?_)
                      · have kc84 := tq_eq (x := (0 : Int32)) (y := (0 : Int32)) rfl rfl c84
                        refine D_ite (fun c85 => ?_) (fun c85 => ?_)
                        · have kc85 := tq_eq (x := (1 : Int32)) (y := (0 : Int32)) (a := 1) (by decide) (b := 0) (by decide) c85
                          exfalso
                          exact (by clear h7 n1 n2 n5 n6 n7 n8 n10 n12 n13 n14 kc15 kc16 n41 kc66 kc67 n71 n73 n74 n75 n78 n79 n80 n81 kc83; omega)
                        · skip
                          unfold fJ_X8_signToken_J192
                          refine D_lt (fun S_86 eS_86 => ?_)
                          have hS_86 : iR BM S_86 := by rw [eS_86]; exact iR_setU hS_76 rfl
                          have kaK_t87 : aK S S_86 := (by rw [eS_86]; exact aK_set kaK_t77 rfl)
                          have n88 : (S_86 0 8).toInt = (S_76 0 8).toInt := by rw [eS_86]; rfl
                          have n89 : (S_86 0 6).toInt = (S_76 0 6).toInt := by rw [eS_86]; rfl
                          have n90 : (S_86 0 7).toInt = (S_76 0 7).toInt := by rw [eS_86]; rfl
                          have l3 : (3 : Int32).toInt = 3 := by decide
                          have n91 : (S_86 0 9).toInt = (3 : Int32).toInt := by rw [eS_86]; rfl
                          exact D_some (show (iR BM S_86) ∧ (aK S S_86) ∧ ((S_86 0 7).toInt ≤ (S_86 0 6).toInt) ∧ (4 ≤ (S_86 0 8).toInt) from ⟨hS_86, kaK_t87, (by clear n7 n8 n12 kc15 n41 kc66 kc67 n73 n78 n81 kc83 n88 n91; omega), (by clear h7 n1 n2 n5 n6 n7 n8 n10 n12 n13 n14 kc15 kc16 n41 kc66 kc67 n71 n73 n74 n75 n78 n79 n80 kc83 n89 n90 n91; omega)⟩)
                      · have kc840 := tq_eqn (x := (0 : Int32)) (y := (0 : Int32)) rfl rfl c84
                        have kc84 : 1 ≤ (0 : Int32).toInt := (by clear h7 n1 n2 n5 n6 n7 n8 n10 n12 n13 n14 kc15 kc16 n41 kc66 kc67 n71 n73 n74 n75 n78 n79 n80 n81 kc83; omega)
                        clear kc840
                        exfalso
                        exact (by clear h7 n1 n2 n5 n6 n7 n8 n10 n12 n13 n14 kc15 kc16 n41 kc66 kc67 n71 n73 n74 n75 n78 n79 n80 n81 kc83; omega)
                    · have kc830 := tq_eqn (x := (S_76 0 9)) (y := (60 : Int32)) rfl (b := 60) (by decide) c83
                      have kc83 : 61 ≤ (S_76 0 9).toInt := (by clear h7 n1 n2 n5 n6 n10 n13 n14 kc16 n41 kc67 n71 n74 n75 n79 n80 n81; omega)
                      clear kc830
                      exfalso
                      exact (by clear h7 n1 n2 n5 n6 n10 n13 n14 kc16 n41 kc67 n71 n74 n75 n79 n80 n81; omega)
              · have kc680 := tq_eqn (x := (0 : Int32)) (y := (0 : Int32)) rfl rfl c68
                have kc68 : 1 ≤ (0 : Int32).toInt := (by clear h7 n1 n2 n5 n6 n7 n8 n10 n12 n13 n14 kc15 kc16 n41 kc66 kc67; omega)
                clear kc680
                exfalso
                exact (by clear h7 n1 n2 n5 n6 n7 n8 n10 n12 n13 n14 kc15 kc16 n41 kc66 kc67; omega)
            · skip
              unfold fJ_X8_signToken_J115
              unfold fJ_X8_signToken_J116
              have l0 : (0 : Int32).toInt = 0 := by decide
              refine D_ite (fun c92 => ?_) (fun c92 => ?_)
              · have kc92 := tq_eq (x := (0 : Int32)) (y := (0 : Int32)) rfl rfl c92
                refine D_ite (fun c93 => ?_) (fun c93 => ?_)
                · have kc93 := tq_eq (x := (0 : Int32)) (y := (0 : Int32)) rfl rfl c93
                  unfold fJ_X8_signToken_J135
                  have l5 : (5 : Int32).toInt = 5 := by decide
                  refine D_lt (fun S_94 eS_94 => ?_)
                  have hS_94 : iR BM S_94 := by rw [eS_94]; exact iR_set hS_9 (show (0 : Int) ≤ _ from (by clear h7 n1 n2 n5 n6 n7 n8 n10 n12 n13 n14 kc15 kc16 n41 kc66; omega)) (show _ ≤ (6 : Int) from (by clear h7 n1 n2 n5 n6 n7 n8 n10 n12 n13 n14 kc15 kc16 n41 kc66; omega))
                  have kaK_t95 : aK S S_94 := (by rw [eS_94]; exact aK_set kaK_t11 rfl)
                  have n96 : (S_94 0 9).toInt = (S_9 0 9).toInt := by rw [eS_94]; rfl
                  have n97 : (S_94 0 7).toInt = (S_9 0 7).toInt := by rw [eS_94]; rfl
                  have n98 : (S_94 0 6).toInt = (S_9 0 6).toInt := by rw [eS_94]; rfl
                  have n99 : (S_94 0 8).toInt = (5 : Int32).toInt := by rw [eS_94]; rfl
                  refine D_ite (fun c100 => ?_) (fun c100 => ?_)
                  · have kc100 := tq_eq (x := (S_94 0 9)) (y := (61 : Int32)) rfl (b := 61) (by decide) c100
                    exfalso
                    exact (by clear h7 n1 n2 n5 n6 n10 n13 n14 kc16 n41 n97 n98 n99; omega)
                  · skip
                    refine D_ite (fun c101 => ?_) (fun c101 => ?_)
                    · have kc101 := tq_eq (x := (S_94 0 9)) (y := (60 : Int32)) rfl (b := 60) (by decide) c101
                      refine D_ite (fun c102 => ?_) (fun c102 => ?_)
                      · have kc102 := tq_eq (x := (0 : Int32)) (y := (0 : Int32)) rfl rfl c102
                        refine D_ite (fun c103 => ?_) (fun c103 => ?_)
                        · have kc103 := tq_eq (x := (0 : Int32)) (y := (0 : Int32)) rfl rfl c103
                          unfold fJ_X8_signToken_J192
                          refine D_lt (fun S_104 eS_104 => ?_)
                          have hS_104 : iR BM S_104 := by rw [eS_104]; exact iR_setU hS_94 rfl
                          have kaK_t105 : aK S S_104 := (by rw [eS_104]; exact aK_set kaK_t95 rfl)
                          have n106 : (S_104 0 6).toInt = (S_94 0 6).toInt := by rw [eS_104]; rfl
                          have n107 : (S_104 0 7).toInt = (S_94 0 7).toInt := by rw [eS_104]; rfl
                          have n108 : (S_104 0 8).toInt = (S_94 0 8).toInt := by rw [eS_104]; rfl
                          have n109 : (S_104 0 9).toInt = (0 : Int32).toInt := by rw [eS_104]; rfl
                          exact D_some (show (iR BM S_104) ∧ (aK S S_104) ∧ ((S_104 0 7).toInt ≤ (S_104 0 6).toInt) ∧ (4 ≤ (S_104 0 8).toInt) from ⟨hS_104, kaK_t105, (by clear n7 n8 n12 kc15 n41 kc66 n96 n99 kc101 n108 n109; omega), (by clear h7 n1 n2 n5 n6 n7 n8 n10 n12 n13 n14 kc15 kc16 n41 kc66 n96 n97 n98 kc101 n106 n107 n109; omega)⟩)
                        · have kc1030 := tq_eqn (x := (0 : Int32)) (y := (0 : Int32)) rfl rfl c103
                          have kc103 : 1 ≤ (0 : Int32).toInt := (by clear h7 n1 n2 n5 n6 n7 n8 n10 n12 n13 n14 kc15 kc16 n41 kc66 n96 n97 n98 n99 kc101; omega)
                          clear kc1030
                          exfalso
                          exact (by clear h7 n1 n2 n5 n6 n7 n8 n10 n12 n13 n14 kc15 kc16 n41 kc66 n96 n97 n98 n99 kc101; omega)
                      · have kc1020 := tq_eqn (x := (0 : Int32)) (y := (0 : Int32)) rfl rfl c102
                        have kc102 : 1 ≤ (0 : Int32).toInt := (by clear h7 n1 n2 n5 n6 n7 n8 n10 n12 n13 n14 kc15 kc16 n41 kc66 n96 n97 n98 n99 kc101; omega)
                        clear kc1020
                        exfalso
                        exact (by clear h7 n1 n2 n5 n6 n7 n8 n10 n12 n13 n14 kc15 kc16 n41 kc66 n96 n97 n98 n99 kc101; omega)
                    · have kc1010 := tq_eqn (x := (S_94 0 9)) (y := (60 : Int32)) rfl (b := 60) (by decide) c101
                      have kc101 : 61 ≤ (S_94 0 9).toInt := (by clear h7 n1 n2 n5 n6 n10 n13 n14 kc16 n41 n97 n98 n99; omega)
                      clear kc1010
                      exfalso
                      exact (by clear h7 n1 n2 n5 n6 n10 n13 n14 kc16 n41 n97 n98 n99; omega)
                · have kc930 := tq_eqn (x := (0 : Int32)) (y := (0 : Int32)) rfl rfl c93
                  have kc93 : 1 ≤ (0 : Int32).toInt := (by clear h7 n1 n2 n5 n6 n7 n8 n10 n12 n13 n14 kc15 kc16 n41 kc66; omega)
                  clear kc930
                  exfalso
                  exact (by clear h7 n1 n2 n5 n6 n7 n8 n10 n12 n13 n14 kc15 kc16 n41 kc66; omega)
              · have kc920 := tq_eqn (x := (0 : Int32)) (y := (0 : Int32)) rfl rfl c92
                have kc92 : 1 ≤ (0 : Int32).toInt := (by clear h7 n1 n2 n5 n6 n7 n8 n10 n12 n13 n14 kc15 kc16 n41 kc66; omega)
                clear kc920
                exfalso
                exact (by clear h7 n1 n2 n5 n6 n7 n8 n10 n12 n13 n14 kc15 kc16 n41 kc66; omega)
          · have kc660 := tq_eqn (x := (S_9 0 9)) (y := (60 : Int32)) rfl (b := 60) (by decide) c66
            have kc66 : 61 ≤ (S_9 0 9).toInt := (by clear h7 n1 n2 n5 n6 n10 n13 n14 kc16 n41; omega)
            clear kc660
            exfalso
            exact (by clear h7 n1 n2 n5 n6 n10 n13 n14 kc16 n41; omega)
  · skip
    refine D_ite (fun c110 => ?_) (fun c110 => ?_)
    · have kc110 := tq_eq (x := (S_9 0 9)) (y := (62 : Int32)) rfl (b := 62) (by decide) c110
      unfold fJ_X8_signToken_J50
      refine D_ite (fun c111 => ?_) (fun c111 => ?_)
      · have kc111 := tq_le (x := (S_9 0 6)) (y := (S_9 0 7)) rfl rfl c111
        unfold fJ_X8_signToken_J74
        refine D_ite (fun c112 => ?_) (fun c112 => ?_)
        · have kc112 := tq_eq (x := (S_9 0 9)) (y := (61 : Int32)) rfl (b := 61) (by decide) c112
          exfalso
          exact (by clear h7 n1 n2 n5 n6 n10 n13 n14 kc111; omega)
        · skip
          have l0 : (0 : Int32).toInt = 0 := by decide
          have l61 : (61 : Int32).toInt = 61 := by decide
          refine D_ite (fun c113 => ?_) (fun c113 => ?_)
          · have kc113 := tq_eq (x := (0 : Int32)) (y := (61 : Int32)) (a := 0) (by decide) (b := 61) (by decide) c113
            exfalso
            exact (by clear h7 n1 n2 n5 n6 n7 n8 n10 n12 n13 n14 kc110 kc111; omega)
          · skip
            unfold fJ_X8_signToken_J94
            unfold fJ_X8_signToken_J95
            refine D_ite (fun c114 => ?_) (fun c114 => ?_)
            · have kc114 := tq_eq (x := (S_9 0 9)) (y := (60 : Int32)) rfl (b := 60) (by decide) c114
              exfalso
              exact (by clear h7 n1 n2 n5 n6 n10 n13 n14 kc111; omega)
            · skip
              unfold fJ_X8_signToken_J115
              unfold fJ_X8_signToken_J116
              refine D_ite (fun c115 => ?_) (fun c115 => ?_)
              · have kc115 := tq_eq (x := (0 : Int32)) (y := (0 : Int32)) rfl rfl c115
                refine D_ite (fun c116 => ?_) (fun c116 => ?_)
                · have kc116 := tq_eq (x := (0 : Int32)) (y := (0 : Int32)) rfl rfl c116
                  unfold fJ_X8_signToken_J135
                  have l5 : (5 : Int32).toInt = 5 := by decide
                  refine D_lt (fun S_117 eS_117 => ?_)
                  have hS_117 : iR BM S_117 := by rw [eS_117]; exact iR_set hS_9 (show (0 : Int) ≤ _ from (by clear h7 n1 n2 n5 n6 n7 n8 n10 n12 n13 n14 kc110 kc111; omega)) (show _ ≤ (6 : Int) from (by clear h7 n1 n2 n5 n6 n7 n8 n10 n12 n13 n14 kc110 kc111; omega))
                  have kaK_t118 : aK S S_117 := (by rw [eS_117]; exact aK_set kaK_t11 rfl)
                  have n119 : (S_117 0 9).toInt = (S_9 0 9).toInt := by rw [eS_117]; rfl
                  have n120 : (S_117 0 7).toInt = (S_9 0 7).toInt := by rw [eS_117]; rfl
                  have n121 : (S_117 0 6).toInt = (S_9 0 6).toInt := by rw [eS_117]; rfl
                  have n122 : (S_117 0 8).toInt = (5 : Int32).toInt := by rw [eS_117]; rfl
                  refine D_ite (fun c123 => ?_) (fun c123 => ?_)
                  · have kc123 := tq_eq (x := (S_117 0 9)) (y := (61 : Int32)) rfl (b := 61) (by decide) c123
                    exfalso
                    exact (by clear h7 n1 n2 n5 n6 n10 n13 n14 kc111 n120 n121 n122; omega)
                  · skip
                    refine D_ite (fun c124 => ?_) (fun c124 => ?_)
                    · have kc124 := tq_eq (x := (S_117 0 9)) (y := (60 : Int32)) rfl (b := 60) (by decide) c124
                      exfalso
                      exact (by clear h7 n1 n2 n5 n6 n10 n13 n14 kc111 n120 n121 n122; omega)
                    · skip
                      refine D_ite (fun c125 => ?_) (fun c125 => ?_)
                      · have kc125 := tq_eq (x := (0 : Int32)) (y := (0 : Int32)) rfl rfl c125
                        unfold fJ_X8_signToken_J192
                        refine D_lt (fun S_126 eS_126 => ?_)
                        have hS_126 : iR BM S_126 := by rw [eS_126]; exact iR_setU hS_117 rfl
                        have kaK_t127 : aK S S_126 := (by rw [eS_126]; exact aK_set kaK_t118 rfl)
                        have n128 : (S_126 0 6).toInt = (S_117 0 6).toInt := by rw [eS_126]; rfl
                        have n129 : (S_126 0 8).toInt = (S_117 0 8).toInt := by rw [eS_126]; rfl
                        have n130 : (S_126 0 7).toInt = (S_117 0 7).toInt := by rw [eS_126]; rfl
                        have n131 : (S_126 0 9).toInt = (5 : Int32).toInt := by rw [eS_126]; rfl
                        exact D_some (show (iR BM S_126) ∧ (aK S S_126) ∧ ((S_126 0 7).toInt ≤ (S_126 0 6).toInt) ∧ (4 ≤ (S_126 0 8).toInt) from ⟨hS_126, kaK_t127, (by clear n7 n8 n12 kc110 n119 n122 n129 n131; omega), (by clear h7 n1 n2 n5 n6 n7 n8 n10 n12 n13 n14 kc110 kc111 n119 n120 n121 n128 n130 n131; omega)⟩)
                      · have kc1250 := tq_eqn (x := (0 : Int32)) (y := (0 : Int32)) rfl rfl c125
                        have kc125 : 1 ≤ (0 : Int32).toInt := (by clear h7 n1 n2 n5 n6 n7 n8 n10 n12 n13 n14 kc110 kc111 n119 n120 n121 n122; omega)
                        clear kc1250
                        exfalso
                        exact (by clear h7 n1 n2 n5 n6 n7 n8 n10 n12 n13 n14 kc110 kc111 n119 n120 n121 n122; omega)
                · have kc1160 := tq_eqn (x := (0 : Int32)) (y := (0 : Int32)) rfl rfl c116
                  have kc116 : 1 ≤ (0 : Int32).toInt := (by clear h7 n1 n2 n5 n6 n7 n8 n10 n12 n13 n14 kc110 kc111; omega)
                  clear kc1160
                  exfalso
                  exact (by clear h7 n1 n2 n5 n6 n7 n8 n10 n12 n13 n14 kc110 kc111; omega)
              · have kc1150 := tq_eqn (x := (0 : Int32)) (y := (0 : Int32)) rfl rfl c115
                have kc115 : 1 ≤ (0 : Int32).toInt := (by clear h7 n1 n2 n5 n6 n7 n8 n10 n12 n13 n14 kc110 kc111; omega)
                clear kc1150
                exfalso
                exact (by clear h7 n1 n2 n5 n6 n7 n8 n10 n12 n13 n14 kc110 kc111; omega)
      · have kc111 := tq_len (x := (S_9 0 6)) (y := (S_9 0 7)) rfl rfl c111
        refine D_ck (okI_of (by clear n7 n8 n12 kc110; omega) (by clear n7 n8 n12 kc110; omega)) ?_
        unfold fJ_X8_signToken_J74
        refine D_ite (fun c132 => ?_) (fun c132 => ?_)
        · have kc132 := tq_eq (x := (S_9 0 9)) (y := (61 : Int32)) rfl (b := 61) (by decide) c132
          exfalso
          exact (by clear h7 n1 n2 n5 n6 n10 n13 n14 kc111; omega)
        · skip
          have n134 := i_rng (S_9 1 (S_9 0 7).toNatClampNeg)
          refine D_ite (fun c133 => ?_) (fun c133 => ?_)
          · have kc133 := tq_eq (x := (S_9 1 (S_9 0 7).toNatClampNeg)) (y := (61 : Int32)) rfl (b := 61) (by decide) c133
            unfold fJ_X8_signToken_J95
            refine D_ite (fun c135 => ?_) (fun c135 => ?_)
            · have kc135 := tq_eq (x := (S_9 0 9)) (y := (60 : Int32)) rfl (b := 60) (by decide) c135
              exfalso
              exact (by clear h7 n1 n2 n5 n6 n10 n13 n14 kc111 n134 kc133; omega)
            · skip
              unfold fJ_X8_signToken_J115
              unfold fJ_X8_signToken_J116
              have l1 : (1 : Int32).toInt = 1 := by decide
              have l0 : (0 : Int32).toInt = 0 := by decide
              refine D_ite (fun c136 => ?_) (fun c136 => ?_)
              · have kc136 := tq_eq (x := (1 : Int32)) (y := (0 : Int32)) (a := 1) (by decide) (b := 0) (by decide) c136
                exfalso
                exact (by clear h7 n1 n2 n5 n6 n7 n8 n10 n12 n13 n14 kc110 kc111 n134 kc133; omega)
              · skip
                unfold fJ_X8_signToken_J125
                have n138 : ((S_9 0 7) + 1).toInt = (S_9 0 7).toInt + 1 := i_addK rfl (by decide) (by clear n7 n8 n12 kc110 n134 kc133; omega) (by clear n7 n8 n12 kc110 n134 kc133; omega)
                refine D_lt (fun S_137 eS_137 => ?_)
                have hS_137 : iR BM S_137 := by rw [eS_137]; exact iR_set hS_9 (show (0 : Int) ≤ _ from (by clear n7 n8 n12 kc110 n134 kc133; omega)) (show _ ≤ (700 : Int) from (by clear n7 n8 n12 kc110 n134 kc133; omega))
                have kaK_t139 : aK S S_137 := (by rw [eS_137]; exact aK_set kaK_t11 rfl)
                have n140 : (S_137 0 9).toInt = (S_9 0 9).toInt := by rw [eS_137]; rfl
                have n141 : (S_137 0 6).toInt = (S_9 0 6).toInt := by rw [eS_137]; rfl
                have n142 : (S_137 0 7).toInt = ((S_9 0 7) + 1).toInt := by rw [eS_137]; rfl
                unfold fJ_X8_signToken_J135
                have l5 : (5 : Int32).toInt = 5 := by decide
                refine D_lt (fun S_143 eS_143 => ?_)
                have hS_143 : iR BM S_143 := by rw [eS_143]; exact iR_set hS_137 (show (0 : Int) ≤ _ from (by clear h7 n1 n2 n5 n6 n7 n8 n10 n12 n13 n14 kc110 kc111 n134 kc133 n138 n140 n141 n142; omega)) (show _ ≤ (6 : Int) from (by clear h7 n1 n2 n5 n6 n7 n8 n10 n12 n13 n14 kc110 kc111 n134 kc133 n138 n140 n141 n142; omega))
                have kaK_t144 : aK S S_143 := (by rw [eS_143]; exact aK_set kaK_t139 rfl)
                have n145 : (S_143 0 7).toInt = (S_137 0 7).toInt := by rw [eS_143]; rfl
                have n146 : (S_143 0 6).toInt = (S_137 0 6).toInt := by rw [eS_143]; rfl
                have n147 : (S_143 0 9).toInt = (S_137 0 9).toInt := by rw [eS_143]; rfl
                have n148 : (S_143 0 8).toInt = (5 : Int32).toInt := by rw [eS_143]; rfl
                refine D_ite (fun c149 => ?_) (fun c149 => ?_)
                · have kc149 := tq_eq (x := (S_143 0 9)) (y := (61 : Int32)) rfl (b := 61) (by decide) c149
                  exfalso
                  exact (by clear h7 n1 n2 n5 n6 n10 n13 n14 kc111 n134 kc133 n138 n141 n142 n145 n146 n148; omega)
                · skip
                  refine D_ite (fun c150 => ?_) (fun c150 => ?_)
                  · have kc150 := tq_eq (x := (S_143 0 9)) (y := (60 : Int32)) rfl (b := 60) (by decide) c150
                    exfalso
                    exact (by clear h7 n1 n2 n5 n6 n10 n13 n14 kc111 n134 kc133 n138 n141 n142 n145 n146 n148; omega)
                  · skip
                    refine D_ite (fun c151 => ?_) (fun c151 => ?_)
                    · have kc151 := tq_eq (x := (1 : Int32)) (y := (0 : Int32)) (a := 1) (by decide) (b := 0) (by decide) c151
                      exfalso
                      exact (by clear h7 n1 n2 n5 n6 n7 n8 n10 n12 n13 n14 kc110 kc111 n134 kc133 n138 n140 n141 n142 n145 n146 n147 n148; omega)
                    · skip
                      unfold fJ_X8_signToken_J192
                      refine D_lt (fun S_152 eS_152 => ?_)
                      have hS_152 : iR BM S_152 := by rw [eS_152]; exact iR_setU hS_143 rfl
                      have kaK_t153 : aK S S_152 := (by rw [eS_152]; exact aK_set kaK_t144 rfl)
                      have n154 : (S_152 0 8).toInt = (S_143 0 8).toInt := by rw [eS_152]; rfl
                      have n155 : (S_152 0 6).toInt = (S_143 0 6).toInt := by rw [eS_152]; rfl
                      have n156 : (S_152 0 7).toInt = (S_143 0 7).toInt := by rw [eS_152]; rfl
                      have l4 : (4 : Int32).toInt = 4 := by decide
                      have n157 : (S_152 0 9).toInt = (4 : Int32).toInt := by rw [eS_152]; rfl
                      exact D_some (show (iR BM S_152) ∧ (aK S S_152) ∧ ((S_152 0 7).toInt ≤ (S_152 0 6).toInt) ∧ (4 ≤ (S_152 0 8).toInt) from ⟨hS_152, kaK_t153, (by clear n7 n8 n12 kc110 n134 kc133 n140 n147 n148 n154 n157; omega), (by clear h7 n1 n2 n5 n6 n7 n8 n10 n12 n13 n14 kc110 kc111 n134 kc133 n138 n140 n141 n142 n145 n146 n147 n155 n156 n157; omega)⟩)
          · skip
            unfold fJ_X8_signToken_J94
            unfold fJ_X8_signToken_J95
            refine D_ite (fun c158 => ?_) (fun c158 => ?_)
            · have kc158 := tq_eq (x := (S_9 0 9)) (y := (60 : Int32)) rfl (b := 60) (by decide) c158
              exfalso
              exact (by clear h7 n1 n2 n5 n6 n10 n13 n14 kc111 n134; omega)
            · skip
              unfold fJ_X8_signToken_J115
              unfold fJ_X8_signToken_J116
              have l0 : (0 : Int32).toInt = 0 := by decide
              refine D_ite (fun c159 => ?_) (fun c159 => ?_)
              · have kc159 := tq_eq (x := (0 : Int32)) (y := (0 : Int32)) rfl rfl c159
                refine D_ite (fun c160 => ?_) (fun c160 => ?_)
                · have kc160 := tq_eq (x := (0 : Int32)) (y := (0 : Int32)) rfl rfl c160
                  unfold fJ_X8_signToken_J135
                  have l5 : (5 : Int32).toInt = 5 := by decide
                  refine D_lt (fun S_161 eS_161 => ?_)
                  have hS_161 : iR BM S_161 := by rw [eS_161]; exact iR_set hS_9 (show (0 : Int) ≤ _ from (by clear h7 n1 n2 n5 n6 n7 n8 n10 n12 n13 n14 kc110 kc111 n134; omega)) (show _ ≤ (6 : Int) from (by clear h7 n1 n2 n5 n6 n7 n8 n10 n12 n13 n14 kc110 kc111 n134; omega))
                  have kaK_t162 : aK S S_161 := (by rw [eS_161]; exact aK_set kaK_t11 rfl)
                  have n163 : (S_161 0 9).toInt = (S_9 0 9).toInt := by rw [eS_161]; rfl
                  have n164 : (S_161 0 7).toInt = (S_9 0 7).toInt := by rw [eS_161]; rfl
                  have n165 : (S_161 0 6).toInt = (S_9 0 6).toInt := by rw [eS_161]; rfl
                  have n166 : (S_161 0 8).toInt = (5 : Int32).toInt := by rw [eS_161]; rfl
                  refine D_ite (fun c167 => ?_) (fun c167 => ?_)
                  · have kc167 := tq_eq (x := (S_161 0 9)) (y := (61 : Int32)) rfl (b := 61) (by decide) c167
                    exfalso
                    exact (by clear h7 n1 n2 n5 n6 n10 n13 n14 kc111 n134 n164 n165 n166; omega)
                  · skip
                    refine D_ite (fun c168 => ?_) (fun c168 => ?_)
                    · have kc168 := tq_eq (x := (S_161 0 9)) (y := (60 : Int32)) rfl (b := 60) (by decide) c168
                      exfalso
                      exact (by clear h7 n1 n2 n5 n6 n10 n13 n14 kc111 n134 n164 n165 n166; omega)
                    · skip
                      refine D_ite (fun c169 => ?_) (fun c169 => ?_)
                      · have kc169 := tq_eq (x := (0 : Int32)) (y := (0 : Int32)) rfl rfl c169
                        unfold fJ_X8_signToken_J192
                        refine D_lt (fun S_170 eS_170 => ?_)
                        have hS_170 : iR BM S_170 := by rw [eS_170]; exact iR_setU hS_161 rfl
                        have kaK_t171 : aK S S_170 := (by rw [eS_170]; exact aK_set kaK_t162 rfl)
                        have n172 : (S_170 0 8).toInt = (S_161 0 8).toInt := by rw [eS_170]; rfl
                        have n173 : (S_170 0 7).toInt = (S_161 0 7).toInt := by rw [eS_170]; rfl
                        have n174 : (S_170 0 6).toInt = (S_161 0 6).toInt := by rw [eS_170]; rfl
                        have n175 : (S_170 0 9).toInt = (5 : Int32).toInt := by rw [eS_170]; rfl
                        exact D_some (show (iR BM S_170) ∧ (aK S S_170) ∧ ((S_170 0 7).toInt ≤ (S_170 0 6).toInt) ∧ (4 ≤ (S_170 0 8).toInt) from ⟨hS_170, kaK_t171, (by clear n7 n8 n12 kc110 n134 n163 n166 n172 n175; omega), (by clear h7 n1 n2 n5 n6 n7 n8 n10 n12 n13 n14 kc110 kc111 n134 n163 n164 n165 n173 n174 n175; omega)⟩)
                      · have kc1690 := tq_eqn (x := (0 : Int32)) (y := (0 : Int32)) rfl rfl c169
                        have kc169 : 1 ≤ (0 : Int32).toInt := (by clear h7 n1 n2 n5 n6 n7 n8 n10 n12 n13 n14 kc110 kc111 n134 n163 n164 n165 n166; omega)
                        clear kc1690
                        exfalso
                        exact (by clear h7 n1 n2 n5 n6 n7 n8 n10 n12 n13 n14 kc110 kc111 n134 n163 n164 n165 n166; omega)
                · have kc1600 := tq_eqn (x := (0 : Int32)) (y := (0 : Int32)) rfl rfl c160
                  have kc160 : 1 ≤ (0 : Int32).toInt := (by clear h7 n1 n2 n5 n6 n7 n8 n10 n12 n13 n14 kc110 kc111 n134; omega)
                  clear kc1600
                  exfalso
                  exact (by clear h7 n1 n2 n5 n6 n7 n8 n10 n12 n13 n14 kc110 kc111 n134; omega)
              · have kc1590 := tq_eqn (x := (0 : Int32)) (y := (0 : Int32)) rfl rfl c159
                have kc159 : 1 ≤ (0 : Int32).toInt := (by clear h7 n1 n2 n5 n6 n7 n8 n10 n12 n13 n14 kc110 kc111 n134; omega)
                clear kc1590
                exfalso
                exact (by clear h7 n1 n2 n5 n6 n7 n8 n10 n12 n13 n14 kc110 kc111 n134; omega)
    · skip
      refine D_ite (fun c176 => ?_) (fun c176 => ?_)
      · have kc176 := tq_eq (x := (S_9 0 9)) (y := (61 : Int32)) rfl (b := 61) (by decide) c176
        unfold fJ_X8_signToken_J50
        refine D_ite (fun c177 => ?_) (fun c177 => ?_)
        · have kc177 := tq_le (x := (S_9 0 6)) (y := (S_9 0 7)) rfl rfl c177
          unfold fJ_X8_signToken_J74
          refine D_ite (fun c178 => ?_) (fun c178 => ?_)
          · have kc178 := tq_eq (x := (S_9 0 9)) (y := (61 : Int32)) rfl (b := 61) (by decide) c178
            unfold fJ_X8_signToken_J94
            unfold fJ_X8_signToken_J95
            refine D_ite (fun c179 => ?_) (fun c179 => ?_)
            · have kc179 := tq_eq (x := (S_9 0 9)) (y := (60 : Int32)) rfl (b := 60) (by decide) c179
              exfalso
              exact (by clear h7 n1 n2 n5 n6 n10 n13 n14 kc177; omega)
            · skip
              unfold fJ_X8_signToken_J115
              unfold fJ_X8_signToken_J116
              have l0 : (0 : Int32).toInt = 0 := by decide
              refine D_ite (fun c180 => ?_) (fun c180 => ?_)
              · have kc180 := tq_eq (x := (0 : Int32)) (y := (0 : Int32)) rfl rfl c180
                refine D_ite (fun c181 => ?_) (fun c181 => ?_)
                · have kc181 := tq_eq (x := (0 : Int32)) (y := (0 : Int32)) rfl rfl c181
                  unfold fJ_X8_signToken_J135
                  have l5 : (5 : Int32).toInt = 5 := by decide
                  refine D_lt (fun S_182 eS_182 => ?_)
                  have hS_182 : iR BM S_182 := by rw [eS_182]; exact iR_set hS_9 (show (0 : Int) ≤ _ from (by clear h7 n1 n2 n5 n6 n7 n8 n10 n12 n13 n14 kc176 kc177 kc178; omega)) (show _ ≤ (6 : Int) from (by clear h7 n1 n2 n5 n6 n7 n8 n10 n12 n13 n14 kc176 kc177 kc178; omega))
                  have kaK_t183 : aK S S_182 := (by rw [eS_182]; exact aK_set kaK_t11 rfl)
                  have n184 : (S_182 0 9).toInt = (S_9 0 9).toInt := by rw [eS_182]; rfl
                  have n185 : (S_182 0 7).toInt = (S_9 0 7).toInt := by rw [eS_182]; rfl
                  have n186 : (S_182 0 6).toInt = (S_9 0 6).toInt := by rw [eS_182]; rfl
                  have n187 : (S_182 0 8).toInt = (5 : Int32).toInt := by rw [eS_182]; rfl
                  refine D_ite (fun c188 => ?_) (fun c188 => ?_)
                  · have kc188 := tq_eq (x := (S_182 0 9)) (y := (61 : Int32)) rfl (b := 61) (by decide) c188
                    unfold fJ_X8_signToken_J192
                    refine D_lt (fun S_189 eS_189 => ?_)
                    have hS_189 : iR BM S_189 := by rw [eS_189]; exact iR_setU hS_182 rfl
                    have kaK_t190 : aK S S_189 := (by rw [eS_189]; exact aK_set kaK_t183 rfl)
                    have n191 : (S_189 0 7).toInt = (S_182 0 7).toInt := by rw [eS_189]; rfl
                    have n192 : (S_189 0 8).toInt = (S_182 0 8).toInt := by rw [eS_189]; rfl
                    have n193 : (S_189 0 6).toInt = (S_182 0 6).toInt := by rw [eS_189]; rfl
                    have l2 : (2 : Int32).toInt = 2 := by decide
                    have n194 : (S_189 0 9).toInt = (2 : Int32).toInt := by rw [eS_189]; rfl
                    exact D_some (show (iR BM S_189) ∧ (aK S S_189) ∧ ((S_189 0 7).toInt ≤ (S_189 0 6).toInt) ∧ (4 ≤ (S_189 0 8).toInt) from ⟨hS_189, kaK_t190, (by clear n7 n8 n12 kc176 kc178 n184 n187 kc188 n192 n194; omega), (by clear h7 n1 n2 n5 n6 n7 n8 n10 n12 n13 n14 kc176 kc177 kc178 n184 n185 n186 kc188 n191 n193 n194; omega)⟩)
                  · have kc1880 := tq_eqn (x := (S_182 0 9)) (y := (61 : Int32)) rfl (b := 61) (by decide) c188
                    have kc188 : 62 ≤ (S_182 0 9).toInt := (by clear h7 n1 n2 n5 n6 n10 n13 n14 kc177 n185 n186 n187; omega)
                    clear kc1880
                    exfalso
                    exact (by clear h7 n1 n2 n5 n6 n10 n13 n14 kc177 n185 n186 n187; omega)
                · have kc1810 := tq_eqn (x := (0 : Int32)) (y := (0 : Int32)) rfl rfl c181
                  have kc181 : 1 ≤ (0 : Int32).toInt := (by clear h7 n1 n2 n5 n6 n7 n8 n10 n12 n13 n14 kc176 kc177 kc178; omega)
                  clear kc1810
                  exfalso
                  exact (by clear h7 n1 n2 n5 n6 n7 n8 n10 n12 n13 n14 kc176 kc177 kc178; omega)
              · have kc1800 := tq_eqn (x := (0 : Int32)) (y := (0 : Int32)) rfl rfl c180
                have kc180 : 1 ≤ (0 : Int32).toInt := (by clear h7 n1 n2 n5 n6 n7 n8 n10 n12 n13 n14 kc176 kc177 kc178; omega)
                clear kc1800
                exfalso
                exact (by clear h7 n1 n2 n5 n6 n7 n8 n10 n12 n13 n14 kc176 kc177 kc178; omega)
          · have kc1780 := tq_eqn (x := (S_9 0 9)) (y := (61 : Int32)) rfl (b := 61) (by decide) c178
            have kc178 : 62 ≤ (S_9 0 9).toInt := (by clear h7 n1 n2 n5 n6 n10 n13 n14 kc177; omega)
            clear kc1780
            exfalso
            exact (by clear h7 n1 n2 n5 n6 n10 n13 n14 kc177; omega)
        · have kc177 := tq_len (x := (S_9 0 6)) (y := (S_9 0 7)) rfl rfl c177
          refine D_ck (okI_of (by clear n7 n8 n12 kc176; omega) (by clear n7 n8 n12 kc176; omega)) ?_
          unfold fJ_X8_signToken_J74
          refine D_ite (fun c195 => ?_) (fun c195 => ?_)
          · have kc195 := tq_eq (x := (S_9 0 9)) (y := (61 : Int32)) rfl (b := 61) (by decide) c195
            unfold fJ_X8_signToken_J94
            unfold fJ_X8_signToken_J95
            refine D_ite (fun c196 => ?_) (fun c196 => ?_)
            · have kc196 := tq_eq (x := (S_9 0 9)) (y := (60 : Int32)) rfl (b := 60) (by decide) c196
              exfalso
              exact (by clear h7 n1 n2 n5 n6 n10 n13 n14 kc177; omega)
            · skip
              unfold fJ_X8_signToken_J115
              unfold fJ_X8_signToken_J116
              have l0 : (0 : Int32).toInt = 0 := by decide
              refine D_ite (fun c197 => ?_) (fun c197 => ?_)
              · have kc197 := tq_eq (x := (0 : Int32)) (y := (0 : Int32)) rfl rfl c197
                refine D_ite (fun c198 => ?_) (fun c198 => ?_)
                · have kc198 := tq_eq (x := (0 : Int32)) (y := (0 : Int32)) rfl rfl c198
                  unfold fJ_X8_signToken_J135
                  have l5 : (5 : Int32).toInt = 5 := by decide
                  refine D_lt (fun S_199 eS_199 => ?_)
                  have hS_199 : iR BM S_199 := by rw [eS_199]; exact iR_set hS_9 (show (0 : Int) ≤ _ from (by clear h7 n1 n2 n5 n6 n7 n8 n10 n12 n13 n14 kc176 kc177 kc195; omega)) (show _ ≤ (6 : Int) from (by clear h7 n1 n2 n5 n6 n7 n8 n10 n12 n13 n14 kc176 kc177 kc195; omega))
                  have kaK_t200 : aK S S_199 := (by rw [eS_199]; exact aK_set kaK_t11 rfl)
                  have n201 : (S_199 0 9).toInt = (S_9 0 9).toInt := by rw [eS_199]; rfl
                  have n202 : (S_199 0 7).toInt = (S_9 0 7).toInt := by rw [eS_199]; rfl
                  have n203 : (S_199 0 6).toInt = (S_9 0 6).toInt := by rw [eS_199]; rfl
                  have n204 : (S_199 0 8).toInt = (5 : Int32).toInt := by rw [eS_199]; rfl
                  refine D_ite (fun c205 => ?_) (fun c205 => ?_)
                  · have kc205 := tq_eq (x := (S_199 0 9)) (y := (61 : Int32)) rfl (b := 61) (by decide) c205
                    unfold fJ_X8_signToken_J192
                    refine D_lt (fun S_206 eS_206 => ?_)
                    have hS_206 : iR BM S_206 := by rw [eS_206]; exact iR_setU hS_199 rfl
                    have kaK_t207 : aK S S_206 := (by rw [eS_206]; exact aK_set kaK_t200 rfl)
                    have n208 : (S_206 0 8).toInt = (S_199 0 8).toInt := by rw [eS_206]; rfl
                    have n209 : (S_206 0 7).toInt = (S_199 0 7).toInt := by rw [eS_206]; rfl
                    have n210 : (S_206 0 6).toInt = (S_199 0 6).toInt := by rw [eS_206]; rfl
                    have l2 : (2 : Int32).toInt = 2 := by decide
                    have n211 : (S_206 0 9).toInt = (2 : Int32).toInt := by rw [eS_206]; rfl
                    exact D_some (show (iR BM S_206) ∧ (aK S S_206) ∧ ((S_206 0 7).toInt ≤ (S_206 0 6).toInt) ∧ (4 ≤ (S_206 0 8).toInt) from ⟨hS_206, kaK_t207, (by clear n7 n8 n12 kc176 kc195 n201 n204 kc205 n208 n211; omega), (by clear h7 n1 n2 n5 n6 n7 n8 n10 n12 n13 n14 kc176 kc177 kc195 n201 n202 n203 kc205 n209 n210 n211; omega)⟩)
                  · have kc2050 := tq_eqn (x := (S_199 0 9)) (y := (61 : Int32)) rfl (b := 61) (by decide) c205
                    have kc205 : 62 ≤ (S_199 0 9).toInt := (by clear h7 n1 n2 n5 n6 n10 n13 n14 kc177 n202 n203 n204; omega)
                    clear kc2050
                    exfalso
                    exact (by clear h7 n1 n2 n5 n6 n10 n13 n14 kc177 n202 n203 n204; omega)
                · have kc1980 := tq_eqn (x := (0 : Int32)) (y := (0 : Int32)) rfl rfl c198
                  have kc198 : 1 ≤ (0 : Int32).toInt := (by clear h7 n1 n2 n5 n6 n7 n8 n10 n12 n13 n14 kc176 kc177 kc195; omega)
                  clear kc1980
                  exfalso
                  exact (by clear h7 n1 n2 n5 n6 n7 n8 n10 n12 n13 n14 kc176 kc177 kc195; omega)
              · have kc1970 := tq_eqn (x := (0 : Int32)) (y := (0 : Int32)) rfl rfl c197
                have kc197 : 1 ≤ (0 : Int32).toInt := (by clear h7 n1 n2 n5 n6 n7 n8 n10 n12 n13 n14 kc176 kc177 kc195; omega)
                clear kc1970
                exfalso
                exact (by clear h7 n1 n2 n5 n6 n7 n8 n10 n12 n13 n14 kc176 kc177 kc195; omega)
          · have kc1950 := tq_eqn (x := (S_9 0 9)) (y := (61 : Int32)) rfl (b := 61) (by decide) c195
            have kc195 : 62 ≤ (S_9 0 9).toInt := (by clear h7 n1 n2 n5 n6 n10 n13 n14 kc177; omega)
            clear kc1950
            exfalso
            exact (by clear h7 n1 n2 n5 n6 n10 n13 n14 kc177; omega)
      · skip
        refine D_ite (fun c212 => ?_) (fun c212 => ?_)
        · have kc212 := tq_eq (x := (S_9 0 9)) (y := (59 : Int32)) rfl (b := 59) (by decide) c212
          unfold fJ_X8_signToken_J270
          unfold fJ_X8_signToken_J275
          have l1 : (1 : Int32).toInt = 1 := by decide
          have l0 : (0 : Int32).toInt = 0 := by decide
          refine D_ite (fun c213 => ?_) (fun c213 => ?_)
          · have kc213 := tq_eq (x := (1 : Int32)) (y := (0 : Int32)) (a := 1) (by decide) (b := 0) (by decide) c213
            exfalso
            exact (by clear h7 n1 n2 n5 n6 n7 n8 n10 n12 n13 n14 kc212; omega)
          · skip
            unfold fJ_X8_signToken_J287
            have l4 : (4 : Int32).toInt = 4 := by decide
            refine D_lt (fun S_214 eS_214 => ?_)
            have hS_214 : iR BM S_214 := by rw [eS_214]; exact iR_set hS_9 (show (0 : Int) ≤ _ from (by clear h7 n1 n2 n5 n6 n7 n8 n10 n12 n13 n14 kc212; omega)) (show _ ≤ (6 : Int) from (by clear h7 n1 n2 n5 n6 n7 n8 n10 n12 n13 n14 kc212; omega))
            have kaK_t215 : aK S S_214 := (by rw [eS_214]; exact aK_set kaK_t11 rfl)
            have n216 : (S_214 0 9).toInt = (S_9 0 9).toInt := by rw [eS_214]; rfl
            have n217 : (S_214 0 7).toInt = (S_9 0 7).toInt := by rw [eS_214]; rfl
            have n218 : (S_214 0 6).toInt = (S_9 0 6).toInt := by rw [eS_214]; rfl
            have n219 : (S_214 0 8).toInt = (4 : Int32).toInt := by rw [eS_214]; rfl
            exact D_some (show (iR BM S_214) ∧ (aK S S_214) ∧ ((S_214 0 7).toInt ≤ (S_214 0 6).toInt) ∧ (4 ≤ (S_214 0 8).toInt) from ⟨hS_214, kaK_t215, (by clear n7 n8 n12 kc212 n216 n219; omega), (by clear h7 n1 n2 n5 n6 n7 n8 n10 n12 n13 n14 kc212 n216 n217 n218; omega)⟩)
        · skip
          refine D_ite (fun c220 => ?_) (fun c220 => ?_)
          · have kc220 := tq_eq (x := (S_9 0 9)) (y := (40 : Int32)) rfl (b := 40) (by decide) c220
            unfold fJ_X8_signToken_J270
            unfold fJ_X8_signToken_J275
            have l1 : (1 : Int32).toInt = 1 := by decide
            have l0 : (0 : Int32).toInt = 0 := by decide
            refine D_ite (fun c221 => ?_) (fun c221 => ?_)
            · have kc221 := tq_eq (x := (1 : Int32)) (y := (0 : Int32)) (a := 1) (by decide) (b := 0) (by decide) c221
              exfalso
              exact (by clear h7 n1 n2 n5 n6 n7 n8 n10 n12 n13 n14 kc220; omega)
            · skip
              unfold fJ_X8_signToken_J287
              have l4 : (4 : Int32).toInt = 4 := by decide
              refine D_lt (fun S_222 eS_222 => ?_)
              have hS_222 : iR BM S_222 := by rw [eS_222]; exact iR_set hS_9 (show (0 : Int) ≤ _ from (by clear h7 n1 n2 n5 n6 n7 n8 n10 n12 n13 n14 kc220; omega)) (show _ ≤ (6 : Int) from (by clear h7 n1 n2 n5 n6 n7 n8 n10 n12 n13 n14 kc220; omega))
              have kaK_t223 : aK S S_222 := (by rw [eS_222]; exact aK_set kaK_t11 rfl)
              have n224 : (S_222 0 9).toInt = (S_9 0 9).toInt := by rw [eS_222]; rfl
              have n225 : (S_222 0 7).toInt = (S_9 0 7).toInt := by rw [eS_222]; rfl
              have n226 : (S_222 0 6).toInt = (S_9 0 6).toInt := by rw [eS_222]; rfl
              have n227 : (S_222 0 8).toInt = (4 : Int32).toInt := by rw [eS_222]; rfl
              exact D_some (show (iR BM S_222) ∧ (aK S S_222) ∧ ((S_222 0 7).toInt ≤ (S_222 0 6).toInt) ∧ (4 ≤ (S_222 0 8).toInt) from ⟨hS_222, kaK_t223, (by clear n7 n8 n12 kc220 n224 n227; omega), (by clear h7 n1 n2 n5 n6 n7 n8 n10 n12 n13 n14 kc220 n224 n225 n226; omega)⟩)
          · skip
            refine D_ite (fun c228 => ?_) (fun c228 => ?_)
            · have kc228 := tq_eq (x := (S_9 0 9)) (y := (41 : Int32)) rfl (b := 41) (by decide) c228
              unfold fJ_X8_signToken_J270
              unfold fJ_X8_signToken_J275
              have l1 : (1 : Int32).toInt = 1 := by decide
              have l0 : (0 : Int32).toInt = 0 := by decide
              refine D_ite (fun c229 => ?_) (fun c229 => ?_)
              · have kc229 := tq_eq (x := (1 : Int32)) (y := (0 : Int32)) (a := 1) (by decide) (b := 0) (by decide) c229
                exfalso
                exact (by clear h7 n1 n2 n5 n6 n7 n8 n10 n12 n13 n14 kc228; omega)
              · skip
                unfold fJ_X8_signToken_J287
                have l4 : (4 : Int32).toInt = 4 := by decide
                refine D_lt (fun S_230 eS_230 => ?_)
                have hS_230 : iR BM S_230 := by rw [eS_230]; exact iR_set hS_9 (show (0 : Int) ≤ _ from (by clear h7 n1 n2 n5 n6 n7 n8 n10 n12 n13 n14 kc228; omega)) (show _ ≤ (6 : Int) from (by clear h7 n1 n2 n5 n6 n7 n8 n10 n12 n13 n14 kc228; omega))
                have kaK_t231 : aK S S_230 := (by rw [eS_230]; exact aK_set kaK_t11 rfl)
                have n232 : (S_230 0 9).toInt = (S_9 0 9).toInt := by rw [eS_230]; rfl
                have n233 : (S_230 0 7).toInt = (S_9 0 7).toInt := by rw [eS_230]; rfl
                have n234 : (S_230 0 6).toInt = (S_9 0 6).toInt := by rw [eS_230]; rfl
                have n235 : (S_230 0 8).toInt = (4 : Int32).toInt := by rw [eS_230]; rfl
                exact D_some (show (iR BM S_230) ∧ (aK S S_230) ∧ ((S_230 0 7).toInt ≤ (S_230 0 6).toInt) ∧ (4 ≤ (S_230 0 8).toInt) from ⟨hS_230, kaK_t231, (by clear n7 n8 n12 kc228 n232 n235; omega), (by clear h7 n1 n2 n5 n6 n7 n8 n10 n12 n13 n14 kc228 n232 n233 n234; omega)⟩)
            · skip
              refine D_ite (fun c236 => ?_) (fun c236 => ?_)
              · have kc236 := tq_eq (x := (S_9 0 9)) (y := (43 : Int32)) rfl (b := 43) (by decide) c236
                unfold fJ_X8_signToken_J270
                unfold fJ_X8_signToken_J275
                have l1 : (1 : Int32).toInt = 1 := by decide
                have l0 : (0 : Int32).toInt = 0 := by decide
                refine D_ite (fun c237 => ?_) (fun c237 => ?_)
                · have kc237 := tq_eq (x := (1 : Int32)) (y := (0 : Int32)) (a := 1) (by decide) (b := 0) (by decide) c237
                  exfalso
                  exact (by clear h7 n1 n2 n5 n6 n7 n8 n10 n12 n13 n14 kc236; omega)
                · skip
                  unfold fJ_X8_signToken_J287
                  have l4 : (4 : Int32).toInt = 4 := by decide
                  refine D_lt (fun S_238 eS_238 => ?_)
                  have hS_238 : iR BM S_238 := by rw [eS_238]; exact iR_set hS_9 (show (0 : Int) ≤ _ from (by clear h7 n1 n2 n5 n6 n7 n8 n10 n12 n13 n14 kc236; omega)) (show _ ≤ (6 : Int) from (by clear h7 n1 n2 n5 n6 n7 n8 n10 n12 n13 n14 kc236; omega))
                  have kaK_t239 : aK S S_238 := (by rw [eS_238]; exact aK_set kaK_t11 rfl)
                  have n240 : (S_238 0 9).toInt = (S_9 0 9).toInt := by rw [eS_238]; rfl
                  have n241 : (S_238 0 7).toInt = (S_9 0 7).toInt := by rw [eS_238]; rfl
                  have n242 : (S_238 0 6).toInt = (S_9 0 6).toInt := by rw [eS_238]; rfl
                  have n243 : (S_238 0 8).toInt = (4 : Int32).toInt := by rw [eS_238]; rfl
                  exact D_some (show (iR BM S_238) ∧ (aK S S_238) ∧ ((S_238 0 7).toInt ≤ (S_238 0 6).toInt) ∧ (4 ≤ (S_238 0 8).toInt) from ⟨hS_238, kaK_t239, (by clear n7 n8 n12 kc236 n240 n243; omega), (by clear h7 n1 n2 n5 n6 n7 n8 n10 n12 n13 n14 kc236 n240 n241 n242; omega)⟩)
              · skip
                refine D_ite (fun c244 => ?_) (fun c244 => ?_)
                · have kc244 := tq_eq (x := (S_9 0 9)) (y := (45 : Int32)) rfl (b := 45) (by decide) c244
                  unfold fJ_X8_signToken_J270
                  unfold fJ_X8_signToken_J275
                  have l1 : (1 : Int32).toInt = 1 := by decide
                  have l0 : (0 : Int32).toInt = 0 := by decide
                  refine D_ite (fun c245 => ?_) (fun c245 => ?_)
                  · have kc245 := tq_eq (x := (1 : Int32)) (y := (0 : Int32)) (a := 1) (by decide) (b := 0) (by decide) c245
                    exfalso
                    exact (by clear h7 n1 n2 n5 n6 n7 n8 n10 n12 n13 n14 kc244; omega)
                  · skip
                    unfold fJ_X8_signToken_J287
                    have l4 : (4 : Int32).toInt = 4 := by decide
                    refine D_lt (fun S_246 eS_246 => ?_)
                    have hS_246 : iR BM S_246 := by rw [eS_246]; exact iR_set hS_9 (show (0 : Int) ≤ _ from (by clear h7 n1 n2 n5 n6 n7 n8 n10 n12 n13 n14 kc244; omega)) (show _ ≤ (6 : Int) from (by clear h7 n1 n2 n5 n6 n7 n8 n10 n12 n13 n14 kc244; omega))
                    have kaK_t247 : aK S S_246 := (by rw [eS_246]; exact aK_set kaK_t11 rfl)
                    have n248 : (S_246 0 9).toInt = (S_9 0 9).toInt := by rw [eS_246]; rfl
                    have n249 : (S_246 0 7).toInt = (S_9 0 7).toInt := by rw [eS_246]; rfl
                    have n250 : (S_246 0 6).toInt = (S_9 0 6).toInt := by rw [eS_246]; rfl
                    have n251 : (S_246 0 8).toInt = (4 : Int32).toInt := by rw [eS_246]; rfl
                    exact D_some (show (iR BM S_246) ∧ (aK S S_246) ∧ ((S_246 0 7).toInt ≤ (S_246 0 6).toInt) ∧ (4 ≤ (S_246 0 8).toInt) from ⟨hS_246, kaK_t247, (by clear n7 n8 n12 kc244 n248 n251; omega), (by clear h7 n1 n2 n5 n6 n7 n8 n10 n12 n13 n14 kc244 n248 n249 n250; omega)⟩)
                · skip
                  refine D_ite (fun c252 => ?_) (fun c252 => ?_)
                  · have kc252 := tq_eq (x := (S_9 0 9)) (y := (42 : Int32)) rfl (b := 42) (by decide) c252
                    unfold fJ_X8_signToken_J270
                    unfold fJ_X8_signToken_J275
                    have l1 : (1 : Int32).toInt = 1 := by decide
                    have l0 : (0 : Int32).toInt = 0 := by decide
                    refine D_ite (fun c253 => ?_) (fun c253 => ?_)
                    · have kc253 := tq_eq (x := (1 : Int32)) (y := (0 : Int32)) (a := 1) (by decide) (b := 0) (by decide) c253
                      exfalso
                      exact (by clear h7 n1 n2 n5 n6 n7 n8 n10 n12 n13 n14 kc252; omega)
                    · skip
                      unfold fJ_X8_signToken_J287
                      have l4 : (4 : Int32).toInt = 4 := by decide
                      refine D_lt (fun S_254 eS_254 => ?_)
                      have hS_254 : iR BM S_254 := by rw [eS_254]; exact iR_set hS_9 (show (0 : Int) ≤ _ from (by clear h7 n1 n2 n5 n6 n7 n8 n10 n12 n13 n14 kc252; omega)) (show _ ≤ (6 : Int) from (by clear h7 n1 n2 n5 n6 n7 n8 n10 n12 n13 n14 kc252; omega))
                      have kaK_t255 : aK S S_254 := (by rw [eS_254]; exact aK_set kaK_t11 rfl)
                      have n256 : (S_254 0 9).toInt = (S_9 0 9).toInt := by rw [eS_254]; rfl
                      have n257 : (S_254 0 7).toInt = (S_9 0 7).toInt := by rw [eS_254]; rfl
                      have n258 : (S_254 0 6).toInt = (S_9 0 6).toInt := by rw [eS_254]; rfl
                      have n259 : (S_254 0 8).toInt = (4 : Int32).toInt := by rw [eS_254]; rfl
                      exact D_some (show (iR BM S_254) ∧ (aK S S_254) ∧ ((S_254 0 7).toInt ≤ (S_254 0 6).toInt) ∧ (4 ≤ (S_254 0 8).toInt) from ⟨hS_254, kaK_t255, (by clear n7 n8 n12 kc252 n256 n259; omega), (by clear h7 n1 n2 n5 n6 n7 n8 n10 n12 n13 n14 kc252 n256 n257 n258; omega)⟩)
                  · skip
                    refine D_ite (fun c260 => ?_) (fun c260 => ?_)
                    · have kc260 := tq_eq (x := (S_9 0 9)) (y := (47 : Int32)) rfl (b := 47) (by decide) c260
                      unfold fJ_X8_signToken_J270
                      unfold fJ_X8_signToken_J275
                      have l1 : (1 : Int32).toInt = 1 := by decide
                      have l0 : (0 : Int32).toInt = 0 := by decide
                      refine D_ite (fun c261 => ?_) (fun c261 => ?_)
                      · have kc261 := tq_eq (x := (1 : Int32)) (y := (0 : Int32)) (a := 1) (by decide) (b := 0) (by decide) c261
                        exfalso
                        exact (by clear h7 n1 n2 n5 n6 n7 n8 n10 n12 n13 n14 kc260; omega)
                      · skip
                        unfold fJ_X8_signToken_J287
                        have l4 : (4 : Int32).toInt = 4 := by decide
                        refine D_lt (fun S_262 eS_262 => ?_)
                        have hS_262 : iR BM S_262 := by rw [eS_262]; exact iR_set hS_9 (show (0 : Int) ≤ _ from (by clear h7 n1 n2 n5 n6 n7 n8 n10 n12 n13 n14 kc260; omega)) (show _ ≤ (6 : Int) from (by clear h7 n1 n2 n5 n6 n7 n8 n10 n12 n13 n14 kc260; omega))
                        have kaK_t263 : aK S S_262 := (by rw [eS_262]; exact aK_set kaK_t11 rfl)
                        have n264 : (S_262 0 9).toInt = (S_9 0 9).toInt := by rw [eS_262]; rfl
                        have n265 : (S_262 0 7).toInt = (S_9 0 7).toInt := by rw [eS_262]; rfl
                        have n266 : (S_262 0 6).toInt = (S_9 0 6).toInt := by rw [eS_262]; rfl
                        have n267 : (S_262 0 8).toInt = (4 : Int32).toInt := by rw [eS_262]; rfl
                        exact D_some (show (iR BM S_262) ∧ (aK S S_262) ∧ ((S_262 0 7).toInt ≤ (S_262 0 6).toInt) ∧ (4 ≤ (S_262 0 8).toInt) from ⟨hS_262, kaK_t263, (by clear n7 n8 n12 kc260 n264 n267; omega), (by clear h7 n1 n2 n5 n6 n7 n8 n10 n12 n13 n14 kc260 n264 n265 n266; omega)⟩)
                    · skip
                      refine D_ite (fun c268 => ?_) (fun c268 => ?_)
                      · have kc268 := tq_eq (x := (S_9 0 9)) (y := (37 : Int32)) rfl (b := 37) (by decide) c268
                        unfold fJ_X8_signToken_J270
                        unfold fJ_X8_signToken_J275
                        have l1 : (1 : Int32).toInt = 1 := by decide
                        have l0 : (0 : Int32).toInt = 0 := by decide
                        refine D_ite (fun c269 => ?_) (fun c269 => ?_)
                        · have kc269 := tq_eq (x := (1 : Int32)) (y := (0 : Int32)) (a := 1) (by decide) (b := 0) (by decide) c269
                          exfalso
                          exact (by clear h7 n1 n2 n5 n6 n7 n8 n10 n12 n13 n14 kc268; omega)
                        · skip
                          unfold fJ_X8_signToken_J287
                          have l4 : (4 : Int32).toInt = 4 := by decide
                          refine D_lt (fun S_270 eS_270 => ?_)
                          have hS_270 : iR BM S_270 := by rw [eS_270]; exact iR_set hS_9 (show (0 : Int) ≤ _ from (by clear h7 n1 n2 n5 n6 n7 n8 n10 n12 n13 n14 kc268; omega)) (show _ ≤ (6 : Int) from (by clear h7 n1 n2 n5 n6 n7 n8 n10 n12 n13 n14 kc268; omega))
                          have kaK_t271 : aK S S_270 := (by rw [eS_270]; exact aK_set kaK_t11 rfl)
                          have n272 : (S_270 0 9).toInt = (S_9 0 9).toInt := by rw [eS_270]; rfl
                          have n273 : (S_270 0 7).toInt = (S_9 0 7).toInt := by rw [eS_270]; rfl
                          have n274 : (S_270 0 6).toInt = (S_9 0 6).toInt := by rw [eS_270]; rfl
                          have n275 : (S_270 0 8).toInt = (4 : Int32).toInt := by rw [eS_270]; rfl
                          exact D_some (show (iR BM S_270) ∧ (aK S S_270) ∧ ((S_270 0 7).toInt ≤ (S_270 0 6).toInt) ∧ (4 ≤ (S_270 0 8).toInt) from ⟨hS_270, kaK_t271, (by clear n7 n8 n12 kc268 n272 n275; omega), (by clear h7 n1 n2 n5 n6 n7 n8 n10 n12 n13 n14 kc268 n272 n273 n274; omega)⟩)
                      · skip
                        unfold fJ_X8_signToken_J275
                        have l0 : (0 : Int32).toInt = 0 := by decide
                        refine D_ite (fun c276 => ?_) (fun c276 => ?_)
                        · have kc276 := tq_eq (x := (0 : Int32)) (y := (0 : Int32)) rfl rfl c276
                          unfold fJ_X8_signToken_J287
                          have l6 : (6 : Int32).toInt = 6 := by decide
                          refine D_lt (fun S_277 eS_277 => ?_)
                          have hS_277 : iR BM S_277 := by rw [eS_277]; exact iR_set hS_9 (show (0 : Int) ≤ _ from (by clear h7 n1 n2 n5 n6 n7 n8 n10 n12 n13 n14; omega)) (show _ ≤ (6 : Int) from (by clear h7 n1 n2 n5 n6 n7 n8 n10 n12 n13 n14; omega))
                          have kaK_t278 : aK S S_277 := (by rw [eS_277]; exact aK_set kaK_t11 rfl)
                          have n279 : (S_277 0 9).toInt = (S_9 0 9).toInt := by rw [eS_277]; rfl
                          have n280 : (S_277 0 7).toInt = (S_9 0 7).toInt := by rw [eS_277]; rfl
                          have n281 : (S_277 0 6).toInt = (S_9 0 6).toInt := by rw [eS_277]; rfl
                          have n282 : (S_277 0 8).toInt = (6 : Int32).toInt := by rw [eS_277]; rfl
                          exact D_some (show (iR BM S_277) ∧ (aK S S_277) ∧ ((S_277 0 7).toInt ≤ (S_277 0 6).toInt) ∧ (4 ≤ (S_277 0 8).toInt) from ⟨hS_277, kaK_t278, (by clear n7 n8 n12 n279 n282; omega), (by clear h7 n1 n2 n5 n6 n7 n8 n10 n12 n13 n14 n279 n280 n281; omega)⟩)
                        · have kc2760 := tq_eqn (x := (0 : Int32)) (y := (0 : Int32)) rfl rfl c276
                          have kc276 : 1 ≤ (0 : Int32).toInt := (by clear h7 n1 n2 n5 n6 n7 n8 n10 n12 n13 n14; omega)
                          clear kc2760
                          exfalso
                          exact (by clear h7 n1 n2 n5 n6 n7 n8 n10 n12 n13 n14; omega)
-- 45.m
/-! the table of words: its blanks are counted -/
def cw (T : Tr) : Nat → Nat
  | 0 => 0
  | n + 1 => cw T n + (if T 4 n = 32 then 1 else 0)
def wK (T : Tr) : Prop := cw T 153 = 29 ∧ T 4 152 = 32
theorem cw_mono {T : Tr} {m : Nat} : ∀ {n : Nat}, m ≤ n → cw T m ≤ cw T n := by
  intro n
  induction n with
  | zero => intro h; have : m = 0 := by omega
            subst this; exact Nat.le_refl _
  | succ n ih =>
    intro h
    rcases Nat.lt_or_ge n m with h1 | h1
    · have : m = n + 1 := by omega
      subst this; exact Nat.le_refl _
    · exact Nat.le_trans (ih h1) (Nat.le_add_right _ _)
theorem cw_28 {T : Tr} (h : wK T) {m : Nat} (hm : m ≤ 152) : cw T m ≤ 28 := by
  have h1 := cw_mono (T := T) hm
  have h2 : cw T 153 = cw T 152 + 1 := by
    show cw T 152 + (if T 4 152 = 32 then 1 else 0) = _
    rw [if_pos h.2]
  have := h.1
  omega
theorem wa57 (S : Tr) (x1 x2 x3 x4 x5 : Int32) (k5 : Int32 → Int32 → Option Int32) (Q : Int32 → Prop) (hx : 0 ≤ x1.toInt ∧ x1.toInt ≤ x2.toInt ∧ x2.toInt ≤ 700) (h45 : 0 ≤ x4.toInt ∧ 0 ≤ x5.toInt ∧ x4.toInt + x5.toInt ≤ 152) (hq : Q x3) (hk : D (k5 (x3 + 1) (x4 + (x5 + 1))) Q) (N : Nat) : ∀ x6 x7 : Int32, 0 ≤ x7.toInt ∧ x7.toInt ≤ x5.toInt → (¬ x6 = 0 → x5.toInt = x2.toInt - x1.toInt) → 200 - x7.toInt < (N : Int) → D (lpF (fun _ _ => none) (fB_X8_wordAt_L57 k5 S x1 x2 x3 x4 x5) N x6 x7) Q := by
  induction N with
  | zero => intro x6 x7 h _ hn; omega
  | succ N ih =>
    intro x6 x7 h h6 hn
    have hJ : D (fJ_X8_wordAt_J104 k5 S x1 x2 x3 x4 x5 x6) Q := by
      unfold fJ_X8_wordAt_J104
      exact D_ite (fun _ => hk) (fun _ => D_some hq)
    show D (fB_X8_wordAt_L57 k5 S x1 x2 x3 x4 x5 (lpF (fun _ _ => none) (fB_X8_wordAt_L57 k5 S x1 x2 x3 x4 x5) N) x6 x7) _
    generalize lpF (fun _ _ => none) (fB_X8_wordAt_L57 k5 S x1 x2 x3 x4 x5) N = k at ih ⊢
    unfold fB_X8_wordAt_L57
    refine D_ite (fun _ => hJ) (fun c => D_ite (fun _ => hJ) (fun c6 => ?_))
    have h5 := h6 c6
    have c1 := tq_len (x := x5) (y := x7) rfl rfl c
    have e1 : (x4 + x7).toInt = x4.toInt + x7.toInt := i_add (by omega) (by omega)
    have e2 : (x1 + x7).toInt = x1.toInt + x7.toInt := i_add (by omega) (by omega)
    have e3 : (x7 + 1).toInt = x7.toInt + 1 := i_addK rfl (show (1 : Int32).toInt = 1 by decide) (by omega) (by omega)
    refine D_ck (okI_of (by omega) (by omega)) (D_ck (okI_of (by omega) (by omega)) (D_ite (fun _ => ?_) (fun _ => ?_)))
    · exact ih 1 (x7 + 1) ⟨by omega, by omega⟩ (fun _ => h5) (by omega)
    · exact ih 0 (x7 + 1) ⟨by omega, by omega⟩ (fun hz => absurd rfl hz) (by omega)
theorem wa18 (S : Tr) (hw : wK S) (x1 x2 x3 x4 : Int32) (k5 : Int32 → Int32 → Option Int32) (Q : Int32 → Prop) (hx : 0 ≤ x1.toInt ∧ x1.toInt ≤ x2.toInt ∧ x2.toInt ≤ 700) (h4 : 0 ≤ x4.toInt) (hq : Q x3) (hk : ∀ x5 : Int32, 0 ≤ x5.toInt → x4.toInt + x5.toInt ≤ 152 → (cw S ((x4.toInt + x5.toInt).toNat + 1) : Int) = x3.toInt + 1 → D (k5 (x3 + 1) (x4 + (x5 + 1))) Q) (N : Nat) : ∀ x5 : Int32, 0 ≤ x5.toInt ∧ x4.toInt + x5.toInt ≤ 152 → (cw S (x4.toInt + x5.toInt).toNat : Int) = x3.toInt → 200 - x5.toInt < (N : Int) → D (lpF (fun _ => none) (fB_X8_wordAt_L18 k5 S x1 x2 x3 x4) N x5) Q := by
  induction N with
  | zero => intro x5 h _ hn; omega
  | succ N ih =>
    intro x5 h hc hn
    show D (fB_X8_wordAt_L18 k5 S x1 x2 x3 x4 (lpF (fun _ => none) (fB_X8_wordAt_L18 k5 S x1 x2 x3 x4) N) x5) _
    generalize lpF (fun _ => none) (fB_X8_wordAt_L18 k5 S x1 x2 x3 x4) N = k at ih ⊢
    unfold fB_X8_wordAt_L18
    have e1 : (x4 + x5).toInt = x4.toInt + x5.toInt := i_add (by omega) (by omega)
    have e2 : (x4 + x5).toNatClampNeg = (x4.toInt + x5.toInt).toNat := by rw [i_cl, e1]
    have e3 : (x5 + 1).toInt = x5.toInt + 1 := i_addK rfl (show (1 : Int32).toInt = 1 by decide) (by omega) (by omega)
    refine D_ck (okI_of (by omega) (by omega)) (D_ite (fun c => ?_) (fun c => ?_))
    · rw [e2] at c
      have c1 : cw S ((x4.toInt + x5.toInt).toNat + 1) = cw S (x4.toInt + x5.toInt).toNat + 1 := by
        show cw S (x4.toInt + x5.toInt).toNat + (if S 4 (x4.toInt + x5.toInt).toNat = 32 then 1 else 0) = _
        rw [if_pos c]
      have hk5 := hk x5 h.1 h.2 (by rw [c1]; omega)
      unfold fJ_X8_wordAt_J39
      refine D_ite (fun c => ?_) (fun c => ?_)
      · have e4 : (x2 - x1).toInt = x2.toInt - x1.toInt := i_sub (by omega) (by omega)
        exact wa57 S x1 x2 x3 x4 x5 k5 Q hx ⟨h4, h.1, h.2⟩ hq hk5 2000 1 0 ⟨by decide, h.1⟩ (fun _ => by rw [← e4, c]) (by decide)
      · exact wa57 S x1 x2 x3 x4 x5 k5 Q hx ⟨h4, h.1, h.2⟩ hq hk5 2000 0 0 ⟨by decide, h.1⟩ (fun hz => absurd rfl hz) (by decide)
    · rw [e2] at c
      have c1 : cw S ((x4.toInt + x5.toInt).toNat + 1) = cw S (x4.toInt + x5.toInt).toNat := by
        show cw S (x4.toInt + x5.toInt).toNat + (if S 4 (x4.toInt + x5.toInt).toNat = 32 then 1 else 0) = _
        rw [if_neg c]; rfl
      have c2 : ¬ x4.toInt + x5.toInt = 152 := fun hz => c (by rw [hz]; exact hw.2)
      exact ih (x5 + 1) ⟨by omega, by omega⟩ (by rw [e3, show (x4.toInt + (x5.toInt + 1)).toNat = (x4.toInt + x5.toInt).toNat + 1 by omega, c1]; exact hc) (by omega)
theorem wa5 (S : Tr) (hw : wK S) (x1 x2 : Int32) (hx : 0 ≤ x1.toInt ∧ x1.toInt ≤ x2.toInt ∧ x2.toInt ≤ 700) (N : Nat) : ∀ x3 x4 : Int32, 0 ≤ x4.toInt ∧ x4.toInt ≤ 153 → (cw S x4.toInt.toNat : Int) = x3.toInt → 200 - x4.toInt < (N : Int) → D (lpF (fun _ _ => none) (fB_X8_wordAt_L5 S x1 x2) N x3 x4) (fun q => -1 ≤ q.toInt ∧ q.toInt ≤ 28) := by
  induction N with
  | zero => intro x3 x4 h _ hn; omega
  | succ N ih =>
    intro x3 x4 h hc hn
    show D (fB_X8_wordAt_L5 S x1 x2 (lpF (fun _ _ => none) (fB_X8_wordAt_L5 S x1 x2) N) x3 x4) _
    generalize lpF (fun _ _ => none) (fB_X8_wordAt_L5 S x1 x2) N = k at ih ⊢
    unfold fB_X8_wordAt_L5
    refine D_ite (fun _ => D_some (by decide)) (fun c => ?_)
    have c1 := tq_len (x := (153 : Int32)) (y := x4) rfl rfl c
    have l1 : (153 : Int32).toInt = 153 := by decide
    rw [l1] at c1
    have c2 := cw_28 hw (m := x4.toInt.toNat) (by omega)
    refine wa18 S hw x1 x2 x3 x4 k _ hx h.1 ⟨by omega, by omega⟩ (fun x5 h5 h45 hc5 => ?_) 2000 0 ⟨by decide, by rw [show (0 : Int32).toInt = 0 by decide]; omega⟩ (by rw [show (0 : Int32).toInt = 0 by decide, Int.add_zero]; exact hc) (by decide)
    have e3 : (x5 + 1).toInt = x5.toInt + 1 := i_addK rfl (show (1 : Int32).toInt = 1 by decide) (by omega) (by omega)
    have e4 : (x4 + (x5 + 1)).toInt = x4.toInt + (x5.toInt + 1) := i_addK rfl e3 (by omega) (by omega)
    have e5 : (x3 + 1).toInt = x3.toInt + 1 := i_addK rfl (show (1 : Int32).toInt = 1 by decide) (by omega) (by omega)
    exact ih (x3 + 1) (x4 + (x5 + 1)) ⟨by omega, by omega⟩ (by rw [e4, e5, show (x4.toInt + (x5.toInt + 1)).toNat = (x4.toInt + x5.toInt).toNat + 1 by omega]; exact hc5) (by omega)
theorem t_X8_wordAt (S : Tr) (x1 x2 : Int32) (hw : wK S) (hx : 0 ≤ x1.toInt ∧ x1.toInt ≤ x2.toInt ∧ x2.toInt ≤ 700) : D (f_X8_wordAt S x1 x2) (fun q => -1 ≤ q.toInt ∧ q.toInt ≤ 28) :=
  wa5 S hw x1 x2 hx 2000 0 0 ⟨by decide, by decide⟩ (by rfl) (by decide)
-- 46.m
/-- a compared sign is one of six -/
def s5 (q : Tr) : Prop := (q 0 8).toInt = 5 → 0 ≤ (q 0 9).toInt ∧ (q 0 9).toInt ≤ 5
theorem s5_192 {s0 : Int32} (hs : 0 ≤ s0.toInt ∧ s0.toInt ≤ 5) (T : Tr) : D (fJ_X8_signToken_J192 s0 T) s5 := by
  unfold fJ_X8_signToken_J192
  exact D_lt (fun y ey => D_some (fun _ => by rw [ey, st_same]; exact hs))
theorem s5_135 (x2 x3 : Int32) (T : Tr) : D (fJ_X8_signToken_J135 x2 x3 T) s5 := by
  unfold fJ_X8_signToken_J135
  exact D_lt (fun y _ => D_ite (fun _ => s5_192 (by decide) y) (fun _ => D_ite (fun _ => D_ite (fun _ => D_ite (fun _ => s5_192 (by decide) y) (fun _ => s5_192 (by decide) y)) (fun _ => s5_192 (by decide) y)) (fun _ => D_ite (fun _ => s5_192 (by decide) y) (fun _ => s5_192 (by decide) y))))
theorem s5_125 (x2 x3 : Int32) (T : Tr) : D (fJ_X8_signToken_J125 x2 x3 T) s5 := by
  unfold fJ_X8_signToken_J125
  exact D_lt (fun y _ => s5_135 x2 x3 y)
theorem s5_116 (x2 s0 : Int32) (T : Tr) : D (fJ_X8_signToken_J116 x2 s0 T) s5 := by
  unfold fJ_X8_signToken_J116
  exact D_ite (fun _ => D_ite (fun _ => s5_135 _ _ T) (fun _ => s5_125 _ _ T)) (fun _ => s5_125 _ _ T)
theorem s5_115 (x2 : Int32) (T : Tr) : D (fJ_X8_signToken_J115 x2 T) s5 := by
  unfold fJ_X8_signToken_J115
  exact s5_116 _ _ T
theorem s5_95 (x1 s0 : Int32) (T : Tr) : D (fJ_X8_signToken_J95 x1 s0 T) s5 := by
  unfold fJ_X8_signToken_J95
  exact D_ite (fun _ => D_ite (fun _ => s5_116 _ _ T) (fun _ => s5_115 _ T)) (fun _ => s5_115 _ T)
theorem s5_94 (x1 : Int32) (T : Tr) : D (fJ_X8_signToken_J94 x1 T) s5 := by
  unfold fJ_X8_signToken_J94
  exact s5_95 _ _ T
theorem s5_74 (s0 : Int32) (T : Tr) : D (fJ_X8_signToken_J74 s0 T) s5 := by
  unfold fJ_X8_signToken_J74
  exact D_ite (fun _ => s5_94 _ T) (fun _ => D_ite (fun _ => s5_95 _ _ T) (fun _ => s5_94 _ T))
theorem s5_50 (T : Tr) (h6 : (T 0 6).toInt ≤ 700) (h7 : 0 ≤ (T 0 7).toInt) : D (fJ_X8_signToken_J50 T) s5 := by
  unfold fJ_X8_signToken_J50
  refine D_ite (fun _ => s5_74 _ T) (fun c => ?_)
  have k := tq_len (x := T 0 6) (y := T 0 7) rfl rfl c
  exact D_ck (okI_of (by omega) (by omega)) (s5_74 _ T)
theorem s5_287 {s0 : Int32} (hs : ¬ s0.toInt = 5) (T : Tr) : D (fJ_X8_signToken_J287 s0 T) s5 := by
  unfold fJ_X8_signToken_J287
  exact D_lt (fun y ey => D_some (fun hz => by rw [ey, st_same] at hz; exact absurd hz hs))
theorem s5_275 (s0 : Int32) (T : Tr) : D (fJ_X8_signToken_J275 s0 T) s5 := by
  unfold fJ_X8_signToken_J275
  exact D_ite (fun _ => s5_287 (by decide) T) (fun _ => s5_287 (by decide) T)
theorem s5_270 (T : Tr) : D (fJ_X8_signToken_J270 T) s5 := by
  unfold fJ_X8_signToken_J270
  exact s5_275 _ T
theorem t2_signToken (S : Tr) (hS : iR BM S) (h7 : (S 0 7).toInt < (S 0 6).toInt) : D (f_X8_signToken S) s5 := by
  have b6 : 0 ≤ (S 0 6).toInt ∧ (S 0 6).toInt ≤ 700 := hS 0 6
  have b7 : 0 ≤ (S 0 7).toInt ∧ (S 0 7).toInt ≤ 700 := hS 0 7
  unfold f_X8_signToken
  refine D_ck (okI_of (by omega) (by omega)) (D_lt (fun S2 e2 => D_lt (fun S3 e3 => ?_)))
  have e6 : S3 0 6 = S 0 6 := by rw [e3, st_ne (by decide), e2, st_ne (by decide)]
  have e7 : (S3 0 7).toInt = (S 0 7).toInt + 1 := by
    rw [e3, st_same, e2, st_ne (by decide)]; exact i_addK rfl (show (1 : Int32).toInt = 1 by decide) (by omega) (by omega)
  have h50 := s5_50 S3 (by rw [e6]; omega) (by omega)
  have h270 := s5_270 S3
  have h275 := s5_275 0 S3
  exact D_ite (fun _ => h50) (fun _ => D_ite (fun _ => h50) (fun _ => D_ite (fun _ => h50) (fun _ => D_ite (fun _ => h270) (fun _ => D_ite (fun _ => h270) (fun _ => D_ite (fun _ => h270) (fun _ => D_ite (fun _ => h270) (fun _ => D_ite (fun _ => h270) (fun _ => D_ite (fun _ => h270) (fun _ => D_ite (fun _ => h270) (fun _ => D_ite (fun _ => h270) (fun _ => h275)))))))))))
theorem cw_K {z T : Tr} (h : aK z T) : ∀ n, cw T n = cw z n := by
  intro n
  induction n with
  | zero => rfl
  | succ n ih => show cw T n + (if T 4 n = 32 then 1 else 0) = cw z n + (if z 4 n = 32 then 1 else 0); rw [ih, h 4 n rfl]
theorem wK_K {z T : Tr} (h : aK z T) (hw : wK z) : wK T := ⟨by rw [cw_K h]; exact hw.1, by rw [h 4 152 rfl]; exact hw.2⟩
theorem t2_isDigit (S : Tr) (x1 : Int32) (hS : iR BM S) (hx1 : 0 ≤ x1.toInt ∧ x1.toInt ≤ 700) : D (f_X8_isDigit S x1) (fun q => q = 0 ∨ (q = 1 ∧ x1.toInt < (S 0 6).toInt ∧ 48 ≤ (S 1 x1.toNatClampNeg).toInt ∧ (S 1 x1.toNatClampNeg).toInt ≤ 57)) := by
  unfold f_X8_isDigit
  have n1 : 0 ≤ (S 0 6).toInt ∧ (S 0 6).toInt ≤ 700 := hS 0 6
  refine D_ite (fun c2 => D_some (Or.inl rfl)) (fun c2 => ?_)
  have k2 := tq_len (x := (S 0 6)) (y := x1) rfl rfl c2
  refine D_ck (okI_of (by omega) (by omega)) (D_ite (fun c3 => D_some (Or.inl rfl)) (fun c3 => D_ite (fun c4 => D_some (Or.inl rfl)) (fun c4 => ?_)))
  have k3 := tq_ltn (x := (S 1 x1.toNatClampNeg)) (y := (48 : Int32)) rfl (b := 48) (by decide) c3
  have k4 := tq_ltn (x := (57 : Int32)) (y := (S 1 x1.toNatClampNeg)) (a := 57) (by decide) rfl c4
  exact D_some (Or.inr ⟨rfl, k2, k3, k4⟩)
/-- next stands within the text -/
def bK (z T : Tr) : Prop := iR BM T ∧ aK z T ∧ (T 0 7).toInt ≤ (T 0 6).toInt
/-- what a token says of itself -/
def kP (T : Tr) : Prop := (T 0 7).toInt ≤ (T 0 6).toInt ∧ ((T 0 8).toInt = 1 → 0 ≤ (T 0 9).toInt ∧ (T 0 9).toInt ≤ 28) ∧ ((T 0 8).toInt = 3 → 0 ≤ (T 0 9).toInt) ∧ ((T 0 8).toInt = 5 → 0 ≤ (T 0 9).toInt ∧ (T 0 9).toInt ≤ 5)
def tP (z T : Tr) : Prop := iR BM T ∧ aK z T ∧ kP T
theorem b_67 {T : Tr} (h : iR BM T) : (0 ≤ (T 0 6).toInt ∧ (T 0 6).toInt ≤ 700) ∧ (0 ≤ (T 0 7).toInt ∧ (T 0 7).toInt ≤ 700) := ⟨h 0 6, h 0 7⟩
theorem bK_inc {z T : Tr} (h : bK z T) (h7 : (T 0 7).toInt < (T 0 6).toInt) : bK z (st T 0 7 (T 0 7 + 1)) ∧ (st T 0 7 (T 0 7 + 1) 0 7).toInt = (T 0 7).toInt + 1 := by
  have b := b_67 h.1
  have e3 : (T 0 7 + 1).toInt = (T 0 7).toInt + 1 := i_addK rfl (show (1 : Int32).toInt = 1 by decide) (by omega) (by omega)
  refine ⟨⟨iR_set (a := 0) (i := 7) h.1 ?_ ?_, aK_set h.2.1 rfl, ?_⟩, ?_⟩
  · show (0 : Int) ≤ _; omega
  · show _ ≤ (700 : Int); omega
  · rw [st_same, st_ne (by decide)]; omega
  · rw [st_same]; exact e3
theorem bK_9 {z T : Tr} (h : bK z T) (v : Int32) : bK z (st T 0 9 v) := by
  have r := i_rng v
  refine ⟨iR_set (a := 0) (i := 9) h.1 ?_ ?_, aK_set h.2.1 rfl, ?_⟩
  · show (-2147483648 : Int) ≤ _; omega
  · show _ ≤ (2147483647 : Int); omega
  · rw [st_ne (by decide), st_ne (by decide)]; exact h.2.2
theorem bK_10 {z T : Tr} (h : bK z T) (v : Int32) : bK z (st T 0 10 v) := by
  have r := i_rng v
  refine ⟨iR_set (a := 0) (i := 10) h.1 ?_ ?_, aK_set h.2.1 rfl, ?_⟩
  · show (-2147483648 : Int) ≤ _; omega
  · show _ ≤ (2147483647 : Int); omega
  · rw [st_ne (by decide), st_ne (by decide)]; exact h.2.2
theorem bK_8 {z T : Tr} (h : bK z T) {v : Int32} (h0 : 0 ≤ v.toInt) (h6 : v.toInt ≤ 6) : bK z (st T 0 8 v) := by
  refine ⟨iR_set (a := 0) (i := 8) h.1 h0 h6, aK_set h.2.1 rfl, ?_⟩
  rw [st_ne (by decide), st_ne (by decide)]; exact h.2.2
theorem tk213 {z : Tr} (N : Nat) : ∀ T : Tr, bK z T → T 0 8 = 3 → 0 ≤ (T 0 9).toInt ∧ (T 0 9).toInt ≤ 1000000 → 800 - (T 0 7).toInt < (N : Int) → D (lpF (fun _ => none) fB_X8_token_L213 N T) (tP z) := by
  induction N with
  | zero => intro T h _ _ hn; have := b_67 h.1; omega
  | succ N ih =>
    intro T h h8 h9 hn
    show D (fB_X8_token_L213 (lpF (fun _ => none) fB_X8_token_L213 N) T) _
    generalize lpF (fun _ => none) fB_X8_token_L213 N = k at ih ⊢
    unfold fB_X8_token_L213
    have b := b_67 h.1
    have hJ : ∀ s0 : Int32, 0 ≤ s0.toInt ∧ s0.toInt ≤ 1000000 → (T 0 7).toInt < (T 0 6).toInt → D (fJ_X8_token_J261 k s0 T) (tP z) := by
      intro s0 hs h7
      have h1 := bK_9 h s0
      have h2 := bK_inc h1 (by rw [st_ne (by decide), st_ne (by decide)]; exact h7)
      refine ih _ h2.1 ?_ ?_ ?_
      · rw [st_ne (by decide), st_ne (by decide)]; exact h8
      · rw [st_ne (by decide), st_same]; exact hs
      · rw [h2.2, st_ne (by decide)]; omega
    refine D_bd (t2_isDigit T (T 0 7) h.1 b.2) (fun r _ hr => D_ite (fun c => ?_) (fun c => ?_))
    · exact D_some ⟨h.1, h.2.1, h.2.2, fun hz => by rw [h8] at hz; exact absurd hz (by decide), fun _ => h9.1, fun hz => by rw [h8] at hz; exact absurd hz (by decide)⟩
    · rcases hr with hr | ⟨_, h7, hc1, hc2⟩
      · exact absurd hr c
      · refine D_ite (fun c9 => ?_) (fun c9 => hJ _ h9 h7)
        have k9 := tq_le (x := T 0 9) (y := (99999 : Int32)) rfl (b := 99999) (by decide) c9
        refine D_ck (okI_of (by omega) (by omega)) (hJ _ ?_ h7)
        have e1 : ((10 : Int32) * T 0 9).toInt = 10 * (T 0 9).toInt := by
          rw [Int32.toInt_mul, show (10 : Int32).toInt = 10 by decide]; exact i_bm (by omega) (by omega)
        have e2 : ((10 : Int32) * T 0 9 + T 1 (T 0 7).toNatClampNeg).toInt = 10 * (T 0 9).toInt + (T 1 (T 0 7).toNatClampNeg).toInt := i_addK e1 rfl (by omega) (by omega)
        have e3 : ((10 : Int32) * T 0 9 + T 1 (T 0 7).toNatClampNeg - 48).toInt = 10 * (T 0 9).toInt + (T 1 (T 0 7).toNatClampNeg).toInt - 48 := i_subK e2 (show (48 : Int32).toInt = 48 by decide) (by omega) (by omega)
        omega
-- 47.m
theorem one_of {r : Int32} (h : 0 ≤ r.toInt ∧ r.toInt ≤ 1) (c : ¬ r = 0) : r.toInt = 1 := by
  have : ¬ r.toInt = 0 := fun hz => c (Int32.toInt_inj.mp (hz.trans (by decide)))
  omega
theorem tk162 {z T : Tr} (h : bK z T) {s0 : Int32} (hs : s0 = 2 ∨ s0 = 6 ∨ (s0 = 1 ∧ 0 ≤ (T 0 9).toInt ∧ (T 0 9).toInt ≤ 28)) (h10 : 0 ≤ (T 0 10).toInt ∧ (T 0 10).toInt ≤ (T 0 7).toInt) : D (fJ_X8_token_J162 s0 T) (tP z) := by
  have b := b_67 h.1
  have hr : 0 ≤ s0.toInt ∧ s0.toInt ≤ 6 ∧ ¬ s0.toInt = 3 := by
    rcases hs with e | e | ⟨e, _⟩ <;> subst e <;> decide
  have h1 := bK_8 h hr.1 hr.2.1
  unfold fJ_X8_token_J162
  refine D_lt (fun y ey => ?_)
  have e8 : y 0 8 = s0 := by rw [ey, st_same]
  have e7 : y 0 7 = T 0 7 := by rw [ey, st_ne (by decide)]
  have e9 : y 0 9 = T 0 9 := by rw [ey, st_ne (by decide)]
  have e10 : y 0 10 = T 0 10 := by rw [ey, st_ne (by decide)]
  rw [← ey] at h1
  refine D_ite (fun c => ?_) (fun c => ?_)
  · refine D_bd (t_X8_packed y (y 0 10) (y 0 7) h1.1 (by rw [e10]; omega) (by rw [e7]; omega)) (fun r _ _ => ?_)
    have h2 := bK_9 h1 r
    refine D_some ⟨h2.1, h2.2.1, h2.2.2, ?_, ?_, ?_⟩
    · rw [st_ne (by decide), c]; intro hz; exact absurd hz (by decide)
    · rw [st_ne (by decide), c]; intro hz; exact absurd hz (by decide)
    · rw [st_ne (by decide), c]; intro hz; exact absurd hz (by decide)
  · refine D_some ⟨h1.1, h1.2.1, h1.2.2, ?_, ?_, ?_⟩
    · rw [e8, e9]; intro hz
      rcases hs with e | e | ⟨_, e⟩
      · rw [e] at hz; exact absurd hz (by decide)
      · rw [e] at hz; exact absurd hz (by decide)
      · exact e
    · rw [e8]; intro hz; exact absurd hz hr.2.2
    · rw [e8]; intro hz
      rcases hs with e | e | ⟨e, _⟩
      · rw [e] at hz; exact absurd hz (by decide)
      · rw [e] at hz; exact absurd hz (by decide)
      · rw [e] at hz; exact absurd hz (by decide)
theorem tk114 {z T : Tr} (hw : wK z) (h : bK z T) (h10 : 0 ≤ (T 0 10).toInt ∧ (T 0 10).toInt ≤ (T 0 7).toInt) : D (fJ_X8_token_J114 T) (tP z) := by
  have b := b_67 h.1
  unfold fJ_X8_token_J114
  refine D_bd (t_X8_wordAt T (T 0 10) (T 0 7) (wK_K h.2.1 hw) ⟨h10.1, h10.2, b.2.2⟩) (fun r _ hr => ?_)
  refine D_lt (fun y ey => ?_)
  have h1 := bK_9 h r
  have e7 : y 0 7 = T 0 7 := by rw [ey, st_ne (by decide)]
  have e9 : y 0 9 = r := by rw [ey, st_same]
  have e10 : y 0 10 = T 0 10 := by rw [ey, st_ne (by decide)]
  rw [← ey] at h1
  have hh : 0 ≤ (y 0 10).toInt ∧ (y 0 10).toInt ≤ (y 0 7).toInt := by rw [e10, e7]; exact h10
  refine D_ite (fun c => D_ite (fun _ => ?_) (fun _ => ?_)) (fun c => ?_)
  · exact tk162 h1 (Or.inl rfl) hh
  · exact tk162 h1 (Or.inr (Or.inl rfl)) hh
  · have k := tq_ltn (x := y 0 9) (y := (0 : Int32)) rfl (b := 0) (by decide) c
    exact tk162 h1 (Or.inr (Or.inr ⟨rfl, k, by rw [e9]; exact hr.2⟩)) hh
theorem tk90 {z : Tr} (hw : wK z) (N : Nat) : ∀ T : Tr, bK z T → 0 ≤ (T 0 10).toInt ∧ (T 0 10).toInt ≤ (T 0 7).toInt → 800 - (T 0 7).toInt < (N : Int) → D (lpF (fun _ => none) fB_X8_token_L90 N T) (tP z) := by
  induction N with
  | zero => intro T h _ hn; have := b_67 h.1; omega
  | succ N ih =>
    intro T h h10 hn
    show D (fB_X8_token_L90 (lpF (fun _ => none) fB_X8_token_L90 N) T) _
    generalize lpF (fun _ => none) fB_X8_token_L90 N = k at ih ⊢
    unfold fB_X8_token_L90
    have b := b_67 h.1
    refine D_bd (t_X8_isSmall T (T 0 7) h.1 b.2) (fun r _ hr => D_ite (fun c => tk114 hw h h10) (fun c => ?_))
    have h2 := bK_inc h (hr.2 (one_of hr.1 c))
    refine ih _ h2.1 ?_ ?_
    · rw [h2.2, st_ne (by decide)]; omega
    · rw [h2.2]; omega
theorem tk52 {z T : Tr} (hw : wK z) (h : bK z T) : D (fJ_X8_token_J52 T) (tP z) := by
  unfold fJ_X8_token_J52
  refine D_lt (fun y ey => ?_)
  have h1 := bK_10 h (T 0 7)
  have e10 : y 0 10 = y 0 7 := by rw [ey, st_same, st_ne (by decide)]
  rw [← ey] at h1
  have b := b_67 h1.1
  refine D_ite (fun c => ?_) (fun c => ?_)
  · have h2 := bK_8 h1 (v := 0) (by decide) (by decide)
    refine D_some ⟨h2.1, h2.2.1, h2.2.2, ?_, ?_, ?_⟩
    · rw [st_same]; intro hz; exact absurd hz (by decide)
    · rw [st_same]; intro hz; exact absurd hz (by decide)
    · rw [st_same]; intro hz; exact absurd hz (by decide)
  · have h7 : (y 0 7).toInt < (y 0 6).toInt := by
      have : ¬ (y 0 7).toInt = (y 0 6).toInt := fun hz => c (Int32.toInt_inj.mp hz)
      have := h1.2.2
      omega
    refine D_bd (t_X8_isSmall y (y 0 7) h1.1 b.2) (fun r _ hr => D_ite (fun c => ?_) (fun c => ?_))
    · refine D_bd (t2_isDigit y (y 0 7) h1.1 b.2) (fun r _ hr => D_ite (fun c => ?_) (fun c => ?_))
      · refine D_bd (D_and (t_X8_signToken y h1.1 h7) (t2_signToken y h1.1 h7)) (fun q _ hq => ?_)
        refine D_some ⟨hq.1.1, aK_tr h1.2.1 hq.1.2.1, hq.1.2.2.1, ?_, ?_, hq.2⟩
        · have := hq.1.2.2.2; omega
        · have := hq.1.2.2.2; omega
      · have h2 := bK_9 (bK_8 h1 (v := 3) (by decide) (by decide)) 0
        refine tk213 2000 _ h2 ?_ ?_ ?_
        · rw [st_ne (by decide), st_same]
        · rw [st_same]; decide
        · rw [st_ne (by decide), st_ne (by decide)]; omega
    · exact tk90 hw 2000 y h1 (by rw [e10]; omega) (by omega)
theorem tk0 {z : Tr} (hw : wK z) (N : Nat) : ∀ T : Tr, bK z T → 800 - (T 0 7).toInt < (N : Int) → D (lpF (fun _ => none) fB_X8_token_L0 N T) (tP z) := by
  induction N with
  | zero => intro T h hn; have := b_67 h.1; omega
  | succ N ih =>
    intro T h hn
    show D (fB_X8_token_L0 (lpF (fun _ => none) fB_X8_token_L0 N) T) _
    generalize lpF (fun _ => none) fB_X8_token_L0 N = k at ih ⊢
    unfold fB_X8_token_L0
    have b := b_67 h.1
    refine D_ite (fun _ => tk52 hw h) (fun c => ?_)
    have h7 := tq_len (x := T 0 6) (y := T 0 7) rfl rfl c
    have h2 := bK_inc h h7
    have hJ : D (fJ_X8_token_J39 k T) (tP z) := ih _ h2.1 (by rw [h2.2]; omega)
    exact D_ck (okI_of (by omega) (by omega)) (D_ite (fun _ => hJ) (fun _ => D_ite (fun _ => hJ) (fun _ => tk52 hw h)))
theorem t_X8_token (S : Tr) (hS : iR BM S) (hw : wK S) (h7 : (S 0 7).toInt ≤ (S 0 6).toInt) : D (f_X8_token S) (fun q => iR BM q ∧ aK S q ∧ kP q) := by
  have b := b_67 hS
  exact tk0 hw 2000 S ⟨hS, aK_rfl, h7⟩ (by omega)
-- 48.m
/-! a number: what it may change -/
def Wn (a j : Nat) : Bool := bif Nat.beq a 0 then (Nat.beq j 4 || Nat.beq j 5 || (Nat.ble 7 j && Nat.ble j 11)) else false
def aN (T T1 : Tr) : Prop := ∀ a j, Wn a j = false → T1 a j = T a j
theorem aN_rfl {T : Tr} : aN T T := fun _ _ _ => rfl
theorem aN_tr {T T1 T2 : Tr} (h1 : aN T T1) (h2 : aN T1 T2) : aN T T2 := fun a j h => (h2 a j h).trans (h1 a j h)
theorem aN_set {z T : Tr} {a i : Nat} {v : Int32} (h : aN z T) (hw : Wn a i = true) : aN z (st T a i v) := fun c j hf => by
  rcases st_or (S := T) (a := a) (i := i) (b := c) (j := j) (v := v) with e | ⟨e1, e2⟩
  · rw [e]; exact h c j hf
  · subst e1; subst e2; rw [hw] at hf; cases hf
theorem aN_K {z T : Tr} (h : aK z T) : aN z T := fun a j hf => h a j (by
  unfold Wn at hf
  cases hq : Nat.beq a 0 with
  | false => rfl
  | true =>
    rw [hq] at hf
    simp only [cond_true, Bool.or_eq_false_iff] at hf
    show (Nat.ble 7 j && Nat.ble j 10) = false
    cases h7 : Nat.ble 7 j with
    | false => rfl
    | true =>
      have h8 : Nat.ble j 11 = false := by have := hf.2; rw [h7] at this; exact this
      cases h9 : Nat.ble j 10 with
      | false => rfl
      | true =>
        have := Nat.le_of_ble_eq_true h9
        rw [Nat.ble_eq_true_of_le (by omega : j ≤ 11)] at h8
        cases h8)
theorem kP_of {T T1 : Tr} (h : kP T) (h6 : T1 0 6 = T 0 6) (h7 : T1 0 7 = T 0 7) (h8 : T1 0 8 = T 0 8) (h9 : T1 0 9 = T 0 9) : kP T1 := by
  unfold kP; rw [h6, h7, h8, h9]; exact h
/-- wrong, as a number sees it -/
theorem t2_wrong (S : Tr) (x1 : Int32) (hS : iR BM S) (hk : kP S) : D (f_X8_wrong S x1) (fun q => q.1 = 0 ∧ iR BM q.2 ∧ aN S q.2 ∧ kP q.2) := by
  refine D_mono (t_X8_wrong S x1 hS) (fun q h => ⟨h.1, h.2.1, ?_, ?_⟩)
  · intro a j hf
    refine h.2.2.2 a j (fun hz => ?_)
    rcases hz with ⟨e, e1 | e1⟩ <;> subst e <;> subst e1 <;> exact absurd hf (by decide)
  · exact kP_of hk (h.2.2.2 0 6 (by decide)) (h.2.2.2 0 7 (by decide)) (h.2.2.2 0 8 (by decide)) (h.2.2.2 0 9 (by decide))
theorem wK_S {T T1 : Tr} (h : ∀ j, T1 4 j = T 4 j) (hw : wK T) : wK T1 := by
  have hc : ∀ n, cw T1 n = cw T n := by
    intro n
    induction n with
    | zero => rfl
    | succ n ih => show cw T1 n + (if T1 4 n = 32 then 1 else 0) = cw T n + (if T 4 n = 32 then 1 else 0); rw [ih, h n]
  exact ⟨by rw [hc]; exact hw.1, by rw [h]; exact hw.2⟩
theorem t_X8_number (S : Tr) (x1 x2 : Int32) (hS : iR BM S) (hw : wK S) (hk : kP S) : D (f_X8_number S x1 x2) (fun q => (q.1 = 0 ∨ (q.1 = 1 ∧ x1.toInt ≤ (q.2 0 11).toInt ∧ (q.2 0 11).toInt ≤ x2.toInt)) ∧ iR BM q.2 ∧ aN S q.2 ∧ kP q.2) := by
  have hwr : ∀ y, D (bd (f_X8_wrong S y) fun q => lt q.1 fun r10 => lt q.2 fun S_11 => ck (okB r10) (some (r10, S_11))) (fun q => (q.1 = 0 ∨ (q.1 = 1 ∧ x1.toInt ≤ (q.2 0 11).toInt ∧ (q.2 0 11).toInt ≤ x2.toInt)) ∧ iR BM q.2 ∧ aN S q.2 ∧ kP q.2) := by
    intro y
    refine D_bd (t2_wrong S y hS hk) (fun q _ hq => ?_)
    refine D_ck ?_ (D_some ⟨Or.inl hq.1, hq.2⟩)
    rw [hq.1]; decide
  unfold f_X8_number
  refine D_ite (fun c => ?_) (fun c => hwr 1)
  refine D_bd (t_X8_isIn (S 0 9) x1 x2) (fun r _ hr => D_ite (fun _ => hwr 2) (fun c1 => ?_))
  have hr1 := hr.2 (one_of hr.1 c1)
  have rr := i_rng (S 0 9)
  refine D_lt (fun y ey => ?_)
  have hy : iR BM y := by
    rw [ey]
    refine iR_set (a := 0) (i := 11) hS ?_ ?_
    · show (-2147483648 : Int) ≤ _; omega
    · show _ ≤ (2147483647 : Int); omega
  have e11 : y 0 11 = S 0 9 := by rw [ey, st_same]
  have aY : aN S y := by rw [ey]; exact aN_set aN_rfl rfl
  refine D_bd (t_X8_token y hy (wK_S (fun j => aY 4 j rfl) hw) (by rw [ey, st_ne (by decide), st_ne (by decide)]; exact hk.1)) (fun q _ hq => ?_)
  refine D_some ⟨Or.inr ⟨rfl, ?_⟩, hq.1, aN_tr aY (aN_K hq.2.1), hq.2.2⟩
  show x1.toInt ≤ (q 0 11).toInt ∧ (q 0 11).toInt ≤ x2.toInt
  rw [hq.2.1 0 11 rfl, e11]; exact hr1
-- 49.m
/-! what has been read so far; x = 3: every law that was begun has been read -/
def hP (x : Nat) (T : Tr) : Prop := (∀ i : Nat, i < 10 → (i : Int) < (T 0 18).toInt → (T 30 (10 + i)).toInt < (T 0 17).toInt) ∧ (∀ p : Nat, p < 6 → (p : Int) < (T 0 17).toInt → 1 ≤ (T 29 (6 + p)).toInt) ∧ (∀ k, nodeOK T k) ∧ (∀ w : Nat, w < 3 → ¬ w = x → ¬ T 36 (3 + w) = 0 → 1 ≤ (T 38 (3 + w)).toInt) ∧ (x = 3 → T 0 19 = T 0 46)
def flg (v : Int32) : Int := if v = 0 then 0 else 1
/-- how many lines have been read -/
def mu (T : Tr) : Int := (T 0 16).toInt + (T 0 17).toInt + (T 0 18).toInt + (T 0 20).toInt + flg (T 22 0) + flg (T 22 1) + flg (T 22 2) + flg (T 36 3) + flg (T 36 4) + flg (T 36 5)
def Hc (a j : Nat) : Bool := bif Nat.beq a 0 then (Nat.beq j 16 || Nat.beq j 17 || Nat.beq j 18 || Nat.beq j 19 || Nat.beq j 20 || Nat.beq j 46) else (Nat.beq a 4 || Nat.beq a 22 || Nat.beq a 29 || Nat.beq a 30 || Nat.beq a 36 || Nat.beq a 38 || Nat.beq a 39 || Nat.beq a 40 || Nat.beq a 41)
theorem nodeOK_eq {T T1 : Tr} {k : Nat} (h : nodeOK T k) (e39 : T1 39 k = T 39 k) (e40 : T1 40 k = T 40 k) (e41 : T1 41 k = T 41 k) : nodeOK T1 k := by
  unfold nodeOK at h ⊢
  rw [e39, e40, e41]; exact h
theorem hP_eq {x : Nat} {T T1 : Tr} (h : hP x T) (e17 : T1 0 17 = T 0 17) (e18 : T1 0 18 = T 0 18) (e19 : T1 0 19 = T 0 19) (e46 : T1 0 46 = T 0 46) (e29 : ∀ j, T1 29 j = T 29 j) (e30 : ∀ j, T1 30 j = T 30 j) (e36 : ∀ j, T1 36 j = T 36 j) (e38 : ∀ j, T1 38 j = T 38 j) (e39 : ∀ j, T1 39 j = T 39 j) (e40 : ∀ j, T1 40 j = T 40 j) (e41 : ∀ j, T1 41 j = T 41 j) : hP x T1 := by
  refine ⟨fun i hi hl => ?_, fun p hp hl => ?_, fun k => nodeOK_eq (h.2.2.1 k) (e39 k) (e40 k) (e41 k), fun w hw hx hl => ?_, fun hx => ?_⟩
  · rw [e30, e17]; rw [e18] at hl; exact h.1 i hi hl
  · rw [e29]; rw [e17] at hl; exact h.2.1 p hp hl
  · rw [e38]; rw [e36] at hl; exact h.2.2.2.1 w hw hx hl
  · rw [e19, e46]; exact h.2.2.2.2 hx
theorem hP_c {x : Nat} {T T1 : Tr} (h : hP x T) (e : ∀ a j, Hc a j = true → T1 a j = T a j) : hP x T1 :=
  hP_eq h (e 0 17 rfl) (e 0 18 rfl) (e 0 19 rfl) (e 0 46 rfl) (fun j => e 29 j rfl) (fun j => e 30 j rfl) (fun j => e 36 j rfl) (fun j => e 38 j rfl) (fun j => e 39 j rfl) (fun j => e 40 j rfl) (fun j => e 41 j rfl)
theorem mu_eq {T T1 : Tr} (e16 : T1 0 16 = T 0 16) (e17 : T1 0 17 = T 0 17) (e18 : T1 0 18 = T 0 18) (e20 : T1 0 20 = T 0 20) (e22 : ∀ j, T1 22 j = T 22 j) (e36 : ∀ j, T1 36 j = T 36 j) : mu T1 = mu T := by
  unfold mu
  rw [e16, e17, e18, e20, e22, e22, e22, e36, e36, e36]
theorem mu_c {T T1 : Tr} (e : ∀ a j, Hc a j = true → T1 a j = T a j) : mu T1 = mu T :=
  mu_eq (e 0 16 rfl) (e 0 17 rfl) (e 0 18 rfl) (e 0 20 rfl) (fun j => e 22 j rfl) (fun j => e 36 j rfl)
def rP (x : Nat) (z T : Tr) : Prop := iR BM T ∧ aP z T ∧ wK T ∧ kP T ∧ hP x T ∧ mu z ≤ mu T
theorem rP_tr {x y : Nat} {z T T1 : Tr} (h : rP x z T) (h1 : rP y T T1) : rP y z T1 := ⟨h1.1, aP_tr h.2.1 h1.2.1, h1.2.2.1, h1.2.2.2.1, h1.2.2.2.2.1, Int.le_trans h.2.2.2.2.2 h1.2.2.2.2.2⟩
theorem rP_self {x : Nat} {z T : Tr} (h : rP x z T) : rP x T T := ⟨h.1, aP_rfl, h.2.2.1, h.2.2.2.1, h.2.2.2.2.1, Int.le_refl _⟩
theorem Wn_p {a j : Nat} (h : Wp a j = false) : Wn a j = false := by
  unfold Wp at h
  unfold Wn
  cases hq : Nat.beq a 0 with
  | false => rfl
  | true =>
    rw [hq] at h
    have h1 : Wp0 j = false := h
    cases hn : (Nat.beq j 4 || Nat.beq j 5 || (Nat.ble 7 j && Nat.ble j 11)) with
    | false => rfl
    | true =>
      exfalso
      have h2 : 4 ≤ j ∧ j ≤ 11 := by
        simp only [Bool.or_eq_true, Bool.and_eq_true] at hn
        rcases hn with (e | e) | ⟨e1, e2⟩
        · have := Nat.eq_of_beq_eq_true e; omega
        · have := Nat.eq_of_beq_eq_true e; omega
        · have := Nat.le_of_ble_eq_true e1; have := Nat.le_of_ble_eq_true e2; omega
      unfold Wp0 at h1
      rw [Nat.ble_eq_true_of_le h2.1, Nat.ble_eq_true_of_le h2.2] at h1
      simp at h1
theorem Hc_n {a j : Nat} (h : Hc a j = true) : Wn a j = false := by
  unfold Hc at h
  unfold Wn
  cases hq : Nat.beq a 0 with
  | false => rfl
  | true =>
    rw [hq] at h
    simp only [cond_true, Bool.or_eq_true] at h
    rcases h with ((((e | e) | e) | e) | e) | e
    · have := Nat.eq_of_beq_eq_true e; subst this; rfl
    · have := Nat.eq_of_beq_eq_true e; subst this; rfl
    · have := Nat.eq_of_beq_eq_true e; subst this; rfl
    · have := Nat.eq_of_beq_eq_true e; subst this; rfl
    · have := Nat.eq_of_beq_eq_true e; subst this; rfl
    · have := Nat.eq_of_beq_eq_true e; subst this; rfl
theorem mu_N {T T1 : Tr} (hn : aN T T1) : mu T1 = mu T := mu_c (fun a j hc => hn a j (Hc_n hc))
theorem mu_K {T T1 : Tr} (hn : aK T T1) : mu T1 = mu T := mu_N (aN_K hn)
theorem rP_N {x : Nat} {z T T1 : Tr} (h : rP x z T) (hi : iR BM T1) (hn : aN T T1) (hk : kP T1) : rP x z T1 :=
  ⟨hi, fun a j hf => (hn a j (Wn_p hf)).trans (h.2.1 a j hf), wK_S (fun j => hn 4 j rfl) h.2.2.1, hk, hP_c h.2.2.2.2.1 (fun a j hc => hn a j (Hc_n hc)), by rw [mu_N hn]; exact h.2.2.2.2.2⟩
theorem r_token {x : Nat} {z S : Tr} (h : rP x z S) : D (f_X8_token S) (fun q => rP x z q ∧ aK S q) :=
  D_mono (t_X8_token S h.1 h.2.2.1 h.2.2.2.1.1) (fun _ hq => ⟨rP_N h hq.1 (aN_K hq.2.1) hq.2.2, hq.2.1⟩)
theorem r_number {x : Nat} {z S : Tr} (h : rP x z S) (x1 x2 : Int32) : D (f_X8_number S x1 x2) (fun q => (q.1 = 0 ∨ (q.1 = 1 ∧ x1.toInt ≤ (q.2 0 11).toInt ∧ (q.2 0 11).toInt ≤ x2.toInt)) ∧ rP x z q.2 ∧ aN S q.2) :=
  D_mono (t_X8_number S x1 x2 h.1 h.2.2.1 h.2.2.2.1) (fun _ hq => ⟨hq.1, rP_N h hq.2.1 hq.2.2.1 hq.2.2.2, hq.2.2.1⟩)
/-- a line's answer -/
def lP (x : Nat) (z : Tr) (q : Int32 × Tr) : Prop := (q.1 = 0 ∨ (q.1 = 1 ∧ mu z < mu q.2)) ∧ rP x z q.2
theorem r_wrong {x : Nat} {z S : Tr} (h : rP x z S) (y : Int32) : D (bd (f_X8_wrong S y) fun q => lt q.1 fun r => lt q.2 fun S1 => ck (okB r) (some (r, S1))) (fun q => q.1 = 0 ∧ rP x z q.2) := by
  refine D_bd (t2_wrong S y h.1 h.2.2.2.1) (fun q _ hq => ?_)
  refine D_ck ?_ (D_some ⟨hq.1, rP_N h hq.2.1 hq.2.2.1 hq.2.2.2⟩)
  rw [hq.1]; decide
theorem l_wrong {x : Nat} {z S : Tr} (h : rP x z S) (y : Int32) : D (bd (f_X8_wrong S y) fun q => lt q.1 fun r => lt q.2 fun S1 => ck (okB r) (some (r, S1))) (lP x z) :=
  D_mono (r_wrong h y) (fun _ hq => ⟨Or.inl hq.1, hq.2⟩)
/-- a write at a cell of which nothing is told -/
theorem rP_set {x : Nat} {z T : Tr} (h : rP x z T) {a i : Nat} {v : Int32} (h1 : (BM a i).1 ≤ v.toInt) (h2 : v.toInt ≤ (BM a i).2) (hw : Wp a i = true) (hc : Hc a i = false) (h0 : a = 0 → i < 6 ∨ 9 < i) : rP x z (st T a i v) := by
  have e : ∀ c j, Hc c j = true → st T a i v c j = T c j := fun c j hj => by
    rcases st_or (S := T) (a := a) (i := i) (b := c) (j := j) (v := v) with e | ⟨e1, e2⟩
    · exact e
    · subst e1; subst e2; rw [hj] at hc; cases hc
  have e0 : ∀ j, 6 ≤ j → j ≤ 9 → st T a i v 0 j = T 0 j := fun j hj1 hj2 => by
    rcases st_or (S := T) (a := a) (i := i) (b := 0) (j := j) (v := v) with e | ⟨e1, e2⟩
    · exact e
    · have := h0 e1.symm; omega
  exact ⟨iR_set h.1 h1 h2, aP_set h.2.1 hw, wK_S (fun j => e 4 j rfl) h.2.2.1, kP_of h.2.2.2.1 (e0 6 (by decide) (by decide)) (e0 7 (by decide) (by decide)) (e0 8 (by decide) (by decide)) (e0 9 (by decide) (by decide)), hP_c h.2.2.2.2.1 e, by rw [mu_c e]; exact h.2.2.2.2.2⟩
theorem rP_full {x : Nat} {z T : Tr} (h : rP x z T) {a i : Nat} (v : Int32) (hb : BM a i = (-2147483648, 2147483647)) (hw : Wp a i = true) (hc : Hc a i = false) (h0 : a = 0 → i < 6 ∨ 9 < i) : rP x z (st T a i v) := by
  have r := i_rng v
  refine rP_set h ?_ ?_ hw hc h0
  · rw [hb]; exact r.1
  · rw [hb]; show v.toInt ≤ 2147483647; omega
/-- a further place -/
theorem rP_16 {x : Nat} {z T : Tr} (h : rP x z T) (hb : (T 0 16).toInt < 5) : rP x z (st T 0 16 (T 0 16 + 1)) ∧ mu z < mu (st T 0 16 (T 0 16 + 1)) := by
  have b : 0 ≤ (T 0 16).toInt ∧ (T 0 16).toInt ≤ 5 := h.1 0 16
  have e1 : (T 0 16 + 1).toInt = (T 0 16).toInt + 1 := i_addK rfl (show (1 : Int32).toInt = 1 by decide) (by omega) (by omega)
  have eo : ∀ c, ¬ c = 0 → ∀ j, st T 0 16 (T 0 16 + 1) c j = T c j := fun c hc j => by rw [st_oth hc]
  have em : mu (st T 0 16 (T 0 16 + 1)) = mu T + 1 := by
    unfold mu
    rw [st_same, e1, st_ne (by decide), st_ne (by decide), st_ne (by decide), st_oth (by decide), st_oth (by decide)]; omega
  have hm := h.2.2.2.2.2
  refine ⟨⟨iR_set (a := 0) (i := 16) h.1 ?_ ?_, aP_set h.2.1 rfl, wK_S (eo 4 (by decide)) h.2.2.1, kP_of h.2.2.2.1 (st_ne (by decide)) (st_ne (by decide)) (st_ne (by decide)) (st_ne (by decide)), hP_eq h.2.2.2.2.1 (st_ne (by decide)) (st_ne (by decide)) (st_ne (by decide)) (st_ne (by decide)) (eo 29 (by decide)) (eo 30 (by decide)) (eo 36 (by decide)) (eo 38 (by decide)) (eo 39 (by decide)) (eo 40 (by decide)) (eo 41 (by decide)), by omega⟩, by omega⟩
  · show (0 : Int) ≤ _; omega
  · show _ ≤ (5 : Int); omega
/-- a further wait -/
theorem rP_20 {x : Nat} {z T : Tr} (h : rP x z T) (hb : (T 0 20).toInt < 10) : rP x z (st T 0 20 (T 0 20 + 1)) ∧ mu z < mu (st T 0 20 (T 0 20 + 1)) := by
  have b : 0 ≤ (T 0 20).toInt ∧ (T 0 20).toInt ≤ 10 := h.1 0 20
  have e1 : (T 0 20 + 1).toInt = (T 0 20).toInt + 1 := i_addK rfl (show (1 : Int32).toInt = 1 by decide) (by omega) (by omega)
  have eo : ∀ c, ¬ c = 0 → ∀ j, st T 0 20 (T 0 20 + 1) c j = T c j := fun c hc j => by rw [st_oth hc]
  have em : mu (st T 0 20 (T 0 20 + 1)) = mu T + 1 := by
    unfold mu
    rw [st_same, e1, st_ne (by decide), st_ne (by decide), st_ne (by decide), st_oth (by decide), st_oth (by decide)]; omega
  have hm := h.2.2.2.2.2
  refine ⟨⟨iR_set (a := 0) (i := 20) h.1 ?_ ?_, aP_set h.2.1 rfl, wK_S (eo 4 (by decide)) h.2.2.1, kP_of h.2.2.2.1 (st_ne (by decide)) (st_ne (by decide)) (st_ne (by decide)) (st_ne (by decide)), hP_eq h.2.2.2.2.1 (st_ne (by decide)) (st_ne (by decide)) (st_ne (by decide)) (st_ne (by decide)) (eo 29 (by decide)) (eo 30 (by decide)) (eo 36 (by decide)) (eo 38 (by decide)) (eo 39 (by decide)) (eo 40 (by decide)) (eo 41 (by decide)), by omega⟩, by omega⟩
  · show (0 : Int) ≤ _; omega
  · show _ ≤ (10 : Int); omega
theorem flg_b (v : Int32) : 0 ≤ flg v ∧ flg v ≤ 1 := by unfold flg; split <;> omega
theorem flg_0 {v : Int32} (h : v = 0) : flg v = 0 := if_pos h
theorem flg_1 {v : Int32} (h : ¬ v = 0) : flg v = 1 := if_neg h
/-- a line that may stand but once -/
theorem rP_22 {x : Nat} {z T : Tr} (h : rP x z T) {i : Nat} (hi : i < 3) {v : Int32} (hv : ¬ v = 0) (h0 : T 22 i = 0) : rP x z (st T 22 i v) ∧ mu z < mu (st T 22 i v) := by
  have eo : ∀ c, ¬ c = 22 → ∀ j, st T 22 i v c j = T c j := fun c hc j => by rw [st_oth hc]
  have em : mu (st T 22 i v) = mu T + 1 := by
    unfold mu
    rw [eo 0 (by decide), eo 0 (by decide), eo 0 (by decide), eo 0 (by decide), eo 36 (by decide), eo 36 (by decide), eo 36 (by decide)]
    rcases (by omega : i = 0 ∨ i = 1 ∨ i = 2) with e | e | e <;> subst e
    · rw [st_same, st_ne (by decide), st_ne (by decide), flg_1 hv, flg_0 h0]; omega
    · rw [st_same, st_ne (by decide), st_ne (by decide), flg_1 hv, flg_0 h0]; omega
    · rw [st_same, st_ne (by decide), st_ne (by decide), flg_1 hv, flg_0 h0]; omega
  have hm := h.2.2.2.2.2
  exact ⟨⟨iR_setU h.1 rfl, aP_set h.2.1 rfl, wK_S (eo 4 (by decide)) h.2.2.1, kP_of h.2.2.2.1 (eo 0 (by decide) 6) (eo 0 (by decide) 7) (eo 0 (by decide) 8) (eo 0 (by decide) 9), hP_eq h.2.2.2.2.1 (eo 0 (by decide) 17) (eo 0 (by decide) 18) (eo 0 (by decide) 19) (eo 0 (by decide) 46) (eo 29 (by decide)) (eo 30 (by decide)) (eo 36 (by decide)) (eo 38 (by decide)) (eo 39 (by decide)) (eo 40 (by decide)) (eo 41 (by decide)), by omega⟩, by omega⟩
/-- a law is begun -/
theorem rP_36 {z T : Tr} (h : rP 3 z T) {w k : Nat} (hi : w < 3) (hk : k = 3 + w) {v : Int32} (hv : ¬ v = 0) (h0 : T 36 k = 0) : rP w z (st T 36 k v) ∧ mu z < mu (st T 36 k v) := by
  have eo : ∀ c, ¬ c = 36 → ∀ j, st T 36 k v c j = T c j := fun c hc j => by rw [st_oth hc]
  have em : mu (st T 36 k v) = mu T + 1 := by
    unfold mu
    rw [eo 0 (by decide), eo 0 (by decide), eo 0 (by decide), eo 0 (by decide), eo 22 (by decide), eo 22 (by decide), eo 22 (by decide)]
    rcases (by omega : k = 3 ∨ k = 4 ∨ k = 5) with e | e | e <;> subst e
    · rw [st_same, st_ne (by decide), st_ne (by decide), flg_1 hv, flg_0 h0]; omega
    · rw [st_same, st_ne (by decide), st_ne (by decide), flg_1 hv, flg_0 h0]; omega
    · rw [st_same, st_ne (by decide), st_ne (by decide), flg_1 hv, flg_0 h0]; omega
  have hm := h.2.2.2.2.2
  have hp := h.2.2.2.2.1
  refine ⟨⟨iR_setU h.1 rfl, aP_set h.2.1 (Wp_36 (by omega)), wK_S (eo 4 (by decide)) h.2.2.1, kP_of h.2.2.2.1 (eo 0 (by decide) 6) (eo 0 (by decide) 7) (eo 0 (by decide) 8) (eo 0 (by decide) 9), ⟨fun i hi hl => ?_, fun p hp1 hl => ?_, fun n => nodeOK_eq (hp.2.2.1 n) (eo 39 (by decide) n) (eo 40 (by decide) n) (eo 41 (by decide) n), fun u hu hx hl => ?_, fun hx => ?_⟩, by omega⟩, by omega⟩
  · rw [eo 30 (by decide), eo 0 (by decide)]; rw [eo 0 (by decide)] at hl; exact hp.1 i hi hl
  · rw [eo 29 (by decide)]; rw [eo 0 (by decide)] at hl; exact hp.2.1 p hp1 hl
  · rw [eo 38 (by decide)]; rw [st_ne (by omega)] at hl; exact hp.2.2.2.1 u hu (by omega) hl
  · omega
/-- a law has been read -/
theorem rP_38 {w k : Nat} {z T : Tr} (h : rP w z T) (hi : w < 3) (hk : k = 3 + w) {v : Int32} (hv : 1 ≤ v.toInt ∧ v.toInt ≤ 64) (he : T 0 19 = T 0 46) : rP 3 z (st T 38 k v) := by
  have eo : ∀ c, ¬ c = 38 → ∀ j, st T 38 k v c j = T c j := fun c hc j => by rw [st_oth hc]
  have em : mu (st T 38 k v) = mu T := mu_eq (eo 0 (by decide) 16) (eo 0 (by decide) 17) (eo 0 (by decide) 18) (eo 0 (by decide) 20) (eo 22 (by decide)) (eo 36 (by decide))
  have hm := h.2.2.2.2.2
  have hp := h.2.2.2.2.1
  refine ⟨iR_set (a := 38) (i := k) h.1 ?_ ?_, aP_set h.2.1 (Wp_38 (by omega)), wK_S (eo 4 (by decide)) h.2.2.1, kP_of h.2.2.2.1 (eo 0 (by decide) 6) (eo 0 (by decide) 7) (eo 0 (by decide) 8) (eo 0 (by decide) 9), ⟨fun i hi hl => ?_, fun p hp1 hl => ?_, fun n => nodeOK_eq (hp.2.2.1 n) (eo 39 (by decide) n) (eo 40 (by decide) n) (eo 41 (by decide) n), fun u hu hx hl => ?_, fun hx => ?_⟩, by omega⟩
  · show (0 : Int) ≤ _; omega
  · show _ ≤ (64 : Int); omega
  · rw [eo 30 (by decide), eo 0 (by decide)]; rw [eo 0 (by decide)] at hl; exact hp.1 i hi hl
  · rw [eo 29 (by decide)]; rw [eo 0 (by decide)] at hl; exact hp.2.1 p hp1 hl
  · rw [eo 36 (by decide)] at hl
    by_cases hu1 : u = w
    · subst hu1; rw [← hk, st_same]; omega
    · rw [st_ne (by omega)]; exact hp.2.2.2.1 u hu hu1 hl
  · rw [eo 0 (by decide), eo 0 (by decide)]; exact he
/-- .. or not -/
theorem rP_38f {w k : Nat} {z T : Tr} (h : rP w z T) (hi : w < 3) (hk : k = 3 + w) {v : Int32} (hv : 0 ≤ v.toInt ∧ v.toInt ≤ 64) : rP w z (st T 38 k v) := by
  have eo : ∀ c, ¬ c = 38 → ∀ j, st T 38 k v c j = T c j := fun c hc j => by rw [st_oth hc]
  have em : mu (st T 38 k v) = mu T := mu_eq (eo 0 (by decide) 16) (eo 0 (by decide) 17) (eo 0 (by decide) 18) (eo 0 (by decide) 20) (eo 22 (by decide)) (eo 36 (by decide))
  have hm := h.2.2.2.2.2
  have hp := h.2.2.2.2.1
  refine ⟨iR_set (a := 38) (i := k) h.1 ?_ ?_, aP_set h.2.1 (Wp_38 (by omega)), wK_S (eo 4 (by decide)) h.2.2.1, kP_of h.2.2.2.1 (eo 0 (by decide) 6) (eo 0 (by decide) 7) (eo 0 (by decide) 8) (eo 0 (by decide) 9), ⟨fun i hi hl => ?_, fun p hp1 hl => ?_, fun n => nodeOK_eq (hp.2.2.1 n) (eo 39 (by decide) n) (eo 40 (by decide) n) (eo 41 (by decide) n), fun u hu hx hl => ?_, fun hx => ?_⟩, by omega⟩
  · show (0 : Int) ≤ _; omega
  · show _ ≤ (64 : Int); omega
  · rw [eo 30 (by decide), eo 0 (by decide)]; rw [eo 0 (by decide)] at hl; exact hp.1 i hi hl
  · rw [eo 29 (by decide)]; rw [eo 0 (by decide)] at hl; exact hp.2.1 p hp1 hl
  · rw [eo 36 (by decide)] at hl
    rw [st_ne (by omega)]; exact hp.2.2.2.1 u hu hx hl
  · omega
/-- a person's strength, before the person counts -/
theorem rP_29 {x : Nat} {z T : Tr} (h : rP x z T) {i : Nat} (v : Int32) (hi : (T 0 17).toInt + 6 ≤ (i : Int)) : rP x z (st T 29 i v) := by
  have b17 : 0 ≤ (T 0 17).toInt ∧ (T 0 17).toInt ≤ 6 := h.1 0 17
  have eo : ∀ c, ¬ c = 29 → ∀ j, st T 29 i v c j = T c j := fun c hc j => by rw [st_oth hc]
  have em : mu (st T 29 i v) = mu T := mu_eq (eo 0 (by decide) 16) (eo 0 (by decide) 17) (eo 0 (by decide) 18) (eo 0 (by decide) 20) (eo 22 (by decide)) (eo 36 (by decide))
  have hm := h.2.2.2.2.2
  have hp := h.2.2.2.2.1
  refine ⟨iR_setU h.1 rfl, aP_set h.2.1 (Wp_29 (by omega)), wK_S (eo 4 (by decide)) h.2.2.1, kP_of h.2.2.2.1 (eo 0 (by decide) 6) (eo 0 (by decide) 7) (eo 0 (by decide) 8) (eo 0 (by decide) 9), ⟨fun i hi hl => ?_, fun p hp1 hl => ?_, fun k => nodeOK_eq (hp.2.2.1 k) (eo 39 (by decide) k) (eo 40 (by decide) k) (eo 41 (by decide) k), fun u hu hx hl => ?_, fun hx => ?_⟩, by omega⟩
  · rw [eo 30 (by decide), eo 0 (by decide)]; rw [eo 0 (by decide)] at hl; exact hp.1 _ hi hl
  · rw [eo 0 (by decide)] at hl
    rw [st_ne (by omega)]; exact hp.2.1 p hp1 hl
  · rw [eo 38 (by decide)]; rw [eo 36 (by decide)] at hl; exact hp.2.2.2.1 u hu hx hl
  · rw [eo 0 (by decide), eo 0 (by decide)]; exact hp.2.2.2.2 hx
/-- a further person -/
theorem rP_17 {x : Nat} {z T : Tr} (h : rP x z T) (h6 : (T 0 17).toInt < 6) (ha : 1 ≤ (T 29 (6 + (T 0 17).toInt.toNat)).toInt) : rP x z (st T 0 17 (T 0 17 + 1)) ∧ mu z < mu (st T 0 17 (T 0 17 + 1)) := by
  have b : 0 ≤ (T 0 17).toInt ∧ (T 0 17).toInt ≤ 6 := h.1 0 17
  have e1 : (T 0 17 + 1).toInt = (T 0 17).toInt + 1 := i_addK rfl (show (1 : Int32).toInt = 1 by decide) (by omega) (by omega)
  have eo : ∀ c, ¬ c = 0 → ∀ j, st T 0 17 (T 0 17 + 1) c j = T c j := fun c hc j => by rw [st_oth hc]
  have em : mu (st T 0 17 (T 0 17 + 1)) = mu T + 1 := by
    unfold mu
    rw [st_same, e1, st_ne (by decide), st_ne (by decide), st_ne (by decide), st_oth (by decide), st_oth (by decide)]; omega
  have hm := h.2.2.2.2.2
  have hp := h.2.2.2.2.1
  refine ⟨⟨iR_set (a := 0) (i := 17) h.1 ?_ ?_, aP_set h.2.1 rfl, wK_S (eo 4 (by decide)) h.2.2.1, kP_of h.2.2.2.1 (st_ne (by decide)) (st_ne (by decide)) (st_ne (by decide)) (st_ne (by decide)), ⟨fun i hi hl => ?_, fun p hp1 hl => ?_, fun k => nodeOK_eq (hp.2.2.1 k) (eo 39 (by decide) k) (eo 40 (by decide) k) (eo 41 (by decide) k), fun u hu hx hl => ?_, fun hx => ?_⟩, by omega⟩, by omega⟩
  · show (0 : Int) ≤ _; omega
  · show _ ≤ (6 : Int); omega
  · rw [st_ne (by decide)] at hl
    rw [eo 30 (by decide), st_same, e1]; have := hp.1 i hi hl; omega
  · rw [st_same, e1] at hl
    rw [eo 29 (by decide)]
    rcases (by omega : (p : Int) < (T 0 17).toInt ∨ (T 0 17).toInt ≤ (p : Int)) with hz | hz
    · exact hp.2.1 p hp1 hz
    · have : p = (T 0 17).toInt.toNat := by omega
      rw [this]; exact ha
  · rw [eo 38 (by decide)]; rw [eo 36 (by decide)] at hl; exact hp.2.2.2.1 u hu hx hl
  · rw [st_ne (by decide), st_ne (by decide)]; exact hp.2.2.2.2 hx
/-- a piece's person, before the piece counts -/
theorem rP_30 {x : Nat} {z T : Tr} (h : rP x z T) {i : Nat} {v : Int32} (hv : 0 ≤ v.toInt ∧ v.toInt ≤ 5) (hi : (T 0 18).toInt + 10 ≤ (i : Int)) : rP x z (st T 30 i v) := by
  have b18 : 0 ≤ (T 0 18).toInt ∧ (T 0 18).toInt ≤ 10 := h.1 0 18
  have eo : ∀ c, ¬ c = 30 → ∀ j, st T 30 i v c j = T c j := fun c hc j => by rw [st_oth hc]
  have em : mu (st T 30 i v) = mu T := mu_eq (eo 0 (by decide) 16) (eo 0 (by decide) 17) (eo 0 (by decide) 18) (eo 0 (by decide) 20) (eo 22 (by decide)) (eo 36 (by decide))
  have hm := h.2.2.2.2.2
  have hp := h.2.2.2.2.1
  refine ⟨iR_set (a := 30) (i := i) h.1 hv.1 hv.2, aP_set h.2.1 (Wp_30 (by omega)), wK_S (eo 4 (by decide)) h.2.2.1, kP_of h.2.2.2.1 (eo 0 (by decide) 6) (eo 0 (by decide) 7) (eo 0 (by decide) 8) (eo 0 (by decide) 9), ⟨fun j hj hl => ?_, fun p hp1 hl => ?_, fun k => nodeOK_eq (hp.2.2.1 k) (eo 39 (by decide) k) (eo 40 (by decide) k) (eo 41 (by decide) k), fun u hu hx hl => ?_, fun hx => ?_⟩, by omega⟩
  · rw [eo 0 (by decide)] at hl
    rw [eo 0 (by decide), st_ne (by omega)]; exact hp.1 _ hj hl
  · rw [eo 29 (by decide)]; rw [eo 0 (by decide)] at hl; exact hp.2.1 p hp1 hl
  · rw [eo 38 (by decide)]; rw [eo 36 (by decide)] at hl; exact hp.2.2.2.1 u hu hx hl
  · rw [eo 0 (by decide), eo 0 (by decide)]; exact hp.2.2.2.2 hx
/-- a further piece -/
theorem rP_18 {x : Nat} {z T : Tr} (h : rP x z T) (h6 : (T 0 18).toInt < 10) (ha : (T 30 (10 + (T 0 18).toInt.toNat)).toInt < (T 0 17).toInt) : rP x z (st T 0 18 (T 0 18 + 1)) ∧ mu z < mu (st T 0 18 (T 0 18 + 1)) := by
  have b : 0 ≤ (T 0 18).toInt ∧ (T 0 18).toInt ≤ 10 := h.1 0 18
  have e1 : (T 0 18 + 1).toInt = (T 0 18).toInt + 1 := i_addK rfl (show (1 : Int32).toInt = 1 by decide) (by omega) (by omega)
  have eo : ∀ c, ¬ c = 0 → ∀ j, st T 0 18 (T 0 18 + 1) c j = T c j := fun c hc j => by rw [st_oth hc]
  have em : mu (st T 0 18 (T 0 18 + 1)) = mu T + 1 := by
    unfold mu
    rw [st_same, e1, st_ne (by decide), st_ne (by decide), st_ne (by decide), st_oth (by decide), st_oth (by decide)]; omega
  have hm := h.2.2.2.2.2
  have hp := h.2.2.2.2.1
  refine ⟨⟨iR_set (a := 0) (i := 18) h.1 ?_ ?_, aP_set h.2.1 rfl, wK_S (eo 4 (by decide)) h.2.2.1, kP_of h.2.2.2.1 (st_ne (by decide)) (st_ne (by decide)) (st_ne (by decide)) (st_ne (by decide)), ⟨fun i hi hl => ?_, fun p hp1 hl => ?_, fun k => nodeOK_eq (hp.2.2.1 k) (eo 39 (by decide) k) (eo 40 (by decide) k) (eo 41 (by decide) k), fun u hu hx hl => ?_, fun hx => ?_⟩, by omega⟩, by omega⟩
  · show (0 : Int) ≤ _; omega
  · show _ ≤ (10 : Int); omega
  · rw [st_same, e1] at hl
    rw [eo 30 (by decide), st_ne (by decide)]
    rcases (by omega : (i : Int) < (T 0 18).toInt ∨ (T 0 18).toInt ≤ (i : Int)) with hz | hz
    · exact hp.1 i hi hz
    · have : i = (T 0 18).toInt.toNat := by omega
      rw [this]; exact ha
  · rw [st_ne (by decide)] at hl
    rw [eo 29 (by decide)]; exact hp.2.1 p hp1 hl
  · rw [eo 38 (by decide)]; rw [eo 36 (by decide)] at hl; exact hp.2.2.2.1 u hu hx hl
  · rw [st_ne (by decide), st_ne (by decide)]; exact hp.2.2.2.2 hx
-- 50.m
theorem r_waitLine {x : Nat} {z S : Tr} (h : rP x z S) : D (f_X8_waitLine S) (lP x z) := by
  have b20 : 0 ≤ (S 0 20).toInt ∧ (S 0 20).toInt ≤ 10 := h.1 0 20
  unfold f_X8_waitLine
  refine D_ite (fun _ => l_wrong h 2) (fun c => ?_)
  have c20 : ¬ (S 0 20).toInt = 10 := fun hz => c (Int32.toInt_inj.mp (hz.trans (by decide)))
  refine D_bd (r_token h) (fun S2 _ h2 => ?_)
  refine D_bd (r_number h2.1 0 19) (fun q _ hq => ?_)
  refine D_ite (fun _ => D_some ⟨Or.inl rfl, hq.2.1⟩) (fun c1 => ?_)
  have h11 := hq.1.resolve_left c1
  have l0 : (0 : Int32).toInt = 0 := by decide
  have l19 : (19 : Int32).toInt = 19 := by decide
  rw [l0, l19] at h11
  refine D_lt (fun y ey => ?_)
  have hy : 0 ≤ y.toInt ∧ y.toInt ≤ 19 := by rw [ey]; exact h11.2
  refine D_ck (okI_of (by omega) (by omega)) (D_ite (fun _ => ?_) (fun _ => ?_))
  · refine D_lt (fun S14 e14 => ?_)
    have h14 : rP x z S14 := by rw [e14]; exact rP_full hq.2.1 _ rfl rfl rfl (fun hz => absurd hz (by decide))
    refine D_bd (r_number h14 0 999) (fun q1 _ hq1 => ?_)
    refine D_ite (fun _ => D_some ⟨Or.inl rfl, hq1.2.1⟩) (fun _ => ?_)
    have e21 : ((21 : Int32) + y).toInt = 21 + y.toInt := i_addK (by decide) rfl (by omega) (by omega)
    refine D_ck (okI_of (by omega) (by omega)) (D_lt (fun S21 e => ?_))
    have h21 : rP x z S21 := by rw [e]; exact rP_full hq1.2.1 _ rfl (Wp_34 (by simp only [i_cl]; omega)) rfl (fun hz => absurd hz (by decide))
    have ee : S21 0 20 = S 0 20 := by
      rw [e, st_oth (by decide), hq1.2.2 0 20 rfl, e14, st_oth (by decide), hq.2.2 0 20 rfl, h2.2 0 20 rfl]
    have hE := rP_20 h21 (by rw [ee]; omega)
    exact D_some ⟨Or.inr ⟨rfl, hE.2⟩, hE.1⟩
  · refine D_lt (fun S23 e => ?_)
    have h23 : rP x z S23 := by rw [e]; exact rP_full hq.2.1 _ rfl rfl rfl (fun _ => Or.inr (by decide))
    exact l_wrong h23 3
-- 51.m
theorem r_placeLine {x : Nat} {z S : Tr} (h : rP x z S) : D (f_X8_placeLine S) (lP x z) := by
  have b16 : 0 ≤ (S 0 16).toInt ∧ (S 0 16).toInt ≤ 5 := h.1 0 16
  unfold f_X8_placeLine
  refine D_ite (fun _ => l_wrong h 2) (fun c => ?_)
  have c16 : ¬ (S 0 16).toInt = 5 := fun hz => c (Int32.toInt_inj.mp (hz.trans (by decide)))
  refine D_bd (r_token h) (fun S2 _ h2 => ?_)
  have hJ : D (fJ_X8_placeLine_J44 S2) (lP x z) := l_wrong h2.1 1
  have e16 : S2 0 16 = S 0 16 := h2.2 0 16 rfl
  refine D_ite (fun _ => D_ite (fun _ => hJ) (fun _ => D_ite (fun _ => ?_) (fun _ => hJ))) (fun _ => hJ)
  have i5 : ∀ v : Int32, v = S 0 16 → ((5 : Int32) + v).toInt = 5 + (S 0 16).toInt := fun v hv => by
    rw [hv]; exact i_addK (by decide) rfl (by omega) (by omega)
  have i2 := i5 _ e16
  refine D_ck (okI_of (by omega) (by omega)) (D_lt (fun S14 e14 => ?_))
  have h14 : rP x z S14 := by rw [e14]; exact rP_full h2.1 _ rfl (Wp_24 (by simp only [i_cl]; omega)) rfl (fun hz => absurd hz (by decide))
  refine D_bd (r_token h14) (fun S15 _ h15 => ?_)
  refine D_bd (r_number h15.1 0 999) (fun q _ hq => ?_)
  refine D_ite (fun _ => D_some ⟨Or.inl rfl, hq.2.1⟩) (fun _ => ?_)
  have e19 : q.2 0 16 = S 0 16 := by rw [hq.2.2 0 16 rfl, h15.2 0 16 rfl, e14, st_oth (by decide), e16]
  have i3 := i5 _ e19
  refine D_ck (okI_of (by omega) (by omega)) (D_lt (fun S24 e24 => ?_))
  have h24 : rP x z S24 := by rw [e24]; exact rP_full hq.2.1 _ rfl (Wp_25 (by simp only [i_cl]; omega)) rfl (fun hz => absurd hz (by decide))
  have ee : S24 0 16 = S 0 16 := by rw [e24, st_oth (by decide), e19]
  have hE := rP_16 h24 (by rw [ee]; omega)
  exact D_some ⟨Or.inr ⟨rfl, hE.2⟩, hE.1⟩
-- 52.m
theorem r_isOnce {x : Nat} {z S : Tr} (h : rP x z S) {x1 : Int32} (hx : 0 ≤ x1.toInt ∧ x1.toInt ≤ 2) : D (f_X8_isOnce S x1) (lP x z) := by
  unfold f_X8_isOnce
  refine D_ck (okI_of (by omega) (by omega)) (D_ite (fun c0 => ?_) (fun _ => l_wrong h 3))
  refine D_lt (fun S3 e3 => ?_)
  have h3 := rP_22 h (i := x1.toNatClampNeg) (by simp only [i_cl]; omega) (v := vp_nar .boolean 1) (by decide) c0
  rw [← e3] at h3
  exact D_bd (r_token h3.1) (fun S4 _ h4 => D_some ⟨Or.inr ⟨rfl, by rw [mu_K h4.2]; exact h3.2⟩, h4.1⟩)
-- 53.m
/-- whom a name belongs to: none, or one of those read so far -/
theorem t2_find_26 (S : Tr) (x1 x2 x3 : Int32) (hx1 : 0 ≤ x1.toInt ∧ x1.toInt ≤ 6) (hx2 : 0 ≤ x2.toInt ∧ x2.toInt ≤ 6) : D (f_X8_find_26 S x1 x2 x3) (fun q => -1 ≤ q.toInt ∧ q.toInt < x2.toInt) := by
  have main : ∀ N : Nat, ∀ x4 : Int32, 0 ≤ x4.toInt → x4.toInt ≤ x2.toInt → 10 - x4.toInt < (N : Int) → D (lpF (fun _ => none) (fB_X8_find_26_L3 S x1 x2 x3) N x4) (fun q => -1 ≤ q.toInt ∧ q.toInt < x2.toInt) := by
    intro N
    induction N with
    | zero => intro x4 h1 h2 h3; omega
    | succ N ih =>
      intro x4 h1 h2 h3
      show D (fB_X8_find_26_L3 S x1 x2 x3 (lpF (fun _ => none) (fB_X8_find_26_L3 S x1 x2 x3) N) x4) _
      generalize lpF (fun _ => none) (fB_X8_find_26_L3 S x1 x2 x3) N = k at ih ⊢
      unfold fB_X8_find_26_L3
      have l1 : (-1 : Int32).toInt = -1 := by decide
      refine D_ite (fun _ => D_some ⟨by omega, by omega⟩) (fun c => ?_)
      have k1 := tq_len (x := x2) (y := x4) rfl rfl c
      have e1 : (x1 + x4).toInt = x1.toInt + x4.toInt := i_addK rfl rfl (by omega) (by omega)
      refine D_ck (okI_of (by omega) (by omega)) (D_ite (fun _ => D_some ⟨by omega, k1⟩) (fun _ => D_lt (fun y ey => ?_)))
      have e2 : y.toInt = x4.toInt + 1 := by rw [ey]; exact i_addK rfl (show (1 : Int32).toInt = 1 by decide) (by omega) (by omega)
      exact ih y (by omega) (by omega) (by omega)
  exact main 2000 0 (by decide) (by have : (0 : Int32).toInt = 0 := by decide
                                    omega) (by decide)
theorem r_personLine {x : Nat} {z S : Tr} (h : rP x z S) : D (f_X8_personLine S) (lP x z) := by
  have b17 : 0 ≤ (S 0 17).toInt ∧ (S 0 17).toInt ≤ 6 := h.1 0 17
  have l0 : (0 : Int32).toInt = 0 := by decide
  have l1 : (1 : Int32).toInt = 1 := by decide
  have l19 : (19 : Int32).toInt = 19 := by decide
  have l20 : (20 : Int32).toInt = 20 := by decide
  have l99 : (99 : Int32).toInt = 99 := by decide
  unfold f_X8_personLine
  refine D_ite (fun _ => l_wrong h 2) (fun c => ?_)
  have c17 : ¬ (S 0 17).toInt = 6 := fun hz => c (Int32.toInt_inj.mp (hz.trans (by decide)))
  refine D_bd (r_token h) (fun S2 _ h2 => ?_)
  have e17 : S2 0 17 = S 0 17 := h2.2 0 17 rfl
  refine D_ite (fun _ => ?_) (fun _ => l_wrong h2.1 1)
  refine D_bd (t2_find_26 S2 6 (S2 0 17) (S2 0 9) (by decide) (by rw [e17]; exact b17)) (fun r6 _ _ => ?_)
  refine D_ite (fun _ => ?_) (fun _ => l_wrong h2.1 3)
  refine D_lt (fun y ey => ?_)
  have iy : y.toInt = 6 + (S 0 17).toInt := by rw [ey, e17]; exact i_addK (by decide) rfl (by omega) (by omega)
  have cy : y.toNatClampNeg = 6 + (S 0 17).toInt.toNat := by simp only [i_cl]; omega
  refine D_ck (okI_of (by omega) (by omega)) (D_lt (fun S12 e12 => ?_))
  rw [cy] at e12 ⊢
  have h12 : rP x z S12 := by rw [e12]; exact rP_full h2.1 _ rfl (Wp_26 (by omega)) rfl (fun hz => absurd hz (by decide))
  refine D_bd (r_token h12) (fun S13 _ h13 => ?_)
  refine D_bd (r_number h13.1 0 19) (fun q _ hq => ?_)
  refine D_ite (fun _ => D_some ⟨Or.inl rfl, hq.2.1⟩) (fun c1 => ?_)
  have n1 := hq.1.resolve_left c1
  rw [l0, l19] at n1
  refine D_lt (fun S21 e21 => ?_)
  have h21 : rP x z S21 := by rw [e21]; exact rP_full hq.2.1 _ rfl (Wp_27 (by omega)) rfl (fun hz => absurd hz (by decide))
  have v27 : S21 27 (6 + (S 0 17).toInt.toNat) = q.2 0 11 := by rw [e21, st_same]
  have i27 : (S21 27 (6 + (S 0 17).toInt.toNat) + 1).toInt = (q.2 0 11).toInt + 1 := by rw [v27]; exact i_addK rfl l1 (by omega) (by omega)
  refine D_bd (r_number h21 (S21 27 (6 + (S 0 17).toInt.toNat) + 1) 20) (fun q2 _ hq2 => ?_)
  refine D_ite (fun _ => D_some ⟨Or.inl rfl, hq2.2.1⟩) (fun c2 => ?_)
  have n2 := hq2.1.resolve_left c2
  rw [i27, l20] at n2
  refine D_lt (fun S27 e27 => ?_)
  have h27 : rP x z S27 := by
    rw [e27]; refine rP_set (a := 28) hq2.2.1 ?_ ?_ (Wp_28 (by omega)) rfl (fun hz => absurd hz (by decide))
    · show (0 : Int) ≤ _; omega
    · show _ ≤ (20 : Int); omega
  refine D_bd (r_number h27 1 99) (fun q3 _ hq3 => ?_)
  refine D_ite (fun _ => D_some ⟨Or.inl rfl, hq3.2.1⟩) (fun c3 => ?_)
  have n3 := hq3.1.resolve_left c3
  rw [l1, l99] at n3
  have ee : q3.2 0 17 = S 0 17 := by
    rw [hq3.2.2 0 17 rfl, e27, st_oth (by decide), hq2.2.2 0 17 rfl, e21, st_oth (by decide), hq.2.2 0 17 rfl, h13.2 0 17 rfl, e12, st_oth (by decide), e17]
  refine D_lt (fun S33 e33 => ?_)
  have h33 : rP x z S33 := by rw [e33]; exact rP_29 hq3.2.1 _ (by rw [ee]; omega)
  have e33' : S33 0 17 = S 0 17 := by rw [e33, st_oth (by decide), ee]
  have hE := rP_17 h33 (by rw [e33']; omega) (by rw [e33', e33, st_same]; omega)
  exact D_some ⟨Or.inr ⟨rfl, hE.2⟩, hE.1⟩
theorem r_pieceLine {x : Nat} {z S : Tr} (h : rP x z S) : D (f_X8_pieceLine S) (lP x z) := by
  have b18 : 0 ≤ (S 0 18).toInt ∧ (S 0 18).toInt ≤ 10 := h.1 0 18
  have b17 : 0 ≤ (S 0 17).toInt ∧ (S 0 17).toInt ≤ 6 := h.1 0 17
  have b16 : 0 ≤ (S 0 16).toInt ∧ (S 0 16).toInt ≤ 5 := h.1 0 16
  have l1 : (-1 : Int32).toInt = -1 := by decide
  unfold f_X8_pieceLine
  refine D_ite (fun _ => l_wrong h 2) (fun c => ?_)
  have c18 : ¬ (S 0 18).toInt = 10 := fun hz => c (Int32.toInt_inj.mp (hz.trans (by decide)))
  refine D_bd (r_token h) (fun S2 _ h2 => ?_)
  have e17 : S2 0 17 = S 0 17 := h2.2 0 17 rfl
  have e18 : S2 0 18 = S 0 18 := h2.2 0 18 rfl
  have e16 : S2 0 16 = S 0 16 := h2.2 0 16 rfl
  refine D_ite (fun _ => ?_) (fun _ => l_wrong h2.1 1)
  refine D_bd (t2_find_26 S2 6 (S2 0 17) (S2 0 9) (by decide) (by rw [e17]; exact b17)) (fun r6 _ hr6 => ?_)
  rw [e17] at hr6
  refine D_ite (fun c6 => ?_) (fun _ => l_wrong h2.1 4)
  have k6 := tq_le (x := (0 : Int32)) (y := r6) (a := 0) (by decide) rfl c6
  refine D_lt (fun y ey => ?_)
  have iy : y.toInt = 10 + (S 0 18).toInt := by rw [ey, e18]; exact i_addK (by decide) rfl (by omega) (by omega)
  have cy : y.toNatClampNeg = 10 + (S 0 18).toInt.toNat := by simp only [i_cl]; omega
  refine D_ck (okI_of (by omega) (by omega)) (D_lt (fun S12 e12 => ?_))
  rw [cy] at e12 ⊢
  have h12 : rP x z S12 := by rw [e12]; exact rP_30 h2.1 (by omega) (by rw [e18]; omega)
  have v30 : S12 30 (10 + (S 0 18).toInt.toNat) = r6 := by rw [e12, st_same]
  refine D_bd (r_token h12) (fun S13 _ h13 => ?_)
  refine D_bd (r_number h13.1 1 99) (fun q _ hq => ?_)
  refine D_ite (fun _ => D_some ⟨Or.inl rfl, hq.2.1⟩) (fun c1 => ?_)
  refine D_lt (fun S21 e21 => ?_)
  have h21 : rP x z S21 := by rw [e21]; exact rP_full hq.2.1 _ rfl (Wp_31 (by omega)) rfl (fun hz => absurd hz (by decide))
  refine D_bd (r_number h21 0 9) (fun q2 _ hq2 => ?_)
  refine D_ite (fun _ => D_some ⟨Or.inl rfl, hq2.2.1⟩) (fun c2 => ?_)
  refine D_lt (fun S27 e27 => ?_)
  have h27 : rP x z S27 := by rw [e27]; exact rP_full hq2.2.1 _ rfl (Wp_32 (by omega)) rfl (fun hz => absurd hz (by decide))
  refine D_lt (fun S28 e28 => ?_)
  have h28 : rP x z S28 := by
    rw [e28]; refine rP_set (a := 33) h27 ?_ ?_ (Wp_33 (by omega)) rfl (fun hz => absurd hz (by decide))
    · show (-1 : Int) ≤ _; omega
    · show _ ≤ (4 : Int); omega
  have e0 : ∀ j, Wn 0 j = false → (bif Nat.beq 0 0 then (Nat.ble 7 j && Nat.ble j 10) else false) = false → S28 0 j = S 0 j := fun j hj hj1 => by
    rw [e28, st_oth (by decide), e27, st_oth (by decide), hq2.2.2 0 j hj, e21, st_oth (by decide), hq.2.2 0 j hj, h13.2 0 j hj1, e12, st_oth (by decide), h2.2 0 j hj1]
  have e30 : ∀ j, S28 30 j = S12 30 j := fun j => by
    rw [e28, st_oth (by decide), e27, st_oth (by decide), hq2.2.2 30 j rfl, e21, st_oth (by decide), hq.2.2 30 j rfl, h13.2 30 j rfl]
  have hJ : ∀ T : Tr, rP x z T → T 0 17 = S 0 17 → T 0 18 = S 0 18 → (∀ j, T 30 j = S12 30 j) → D (fJ_X8_pieceLine_J170 T) (lP x z) := fun T hT t17 t18 t30 => by
    unfold fJ_X8_pieceLine_J170
    have hE := rP_18 hT (by rw [t18]; omega) (by rw [t18, t17, t30, v30]; omega)
    exact D_some ⟨Or.inr ⟨rfl, hE.2⟩, hE.1⟩
  refine D_ite (fun c3 => ?_) (fun _ => hJ S28 h28 (e0 17 rfl rfl) (e0 18 rfl rfl) e30)
  have c3' : (S28 0 8).toInt = 3 := by rw [c3]; decide
  have k9 := h28.2.2.2.1.2.2.1 c3'
  refine D_ite (fun c4 => ?_) (fun _ => l_wrong h28 4)
  have k4 := tq_lt (x := S28 0 9) (y := S28 0 16) rfl rfl c4
  rw [e0 16 rfl rfl] at k4
  refine D_lt (fun S32 e32 => ?_)
  have h32 : rP x z S32 := by
    rw [e32]; refine rP_set (a := 33) h28 ?_ ?_ (Wp_33 (by omega)) rfl (fun hz => absurd hz (by decide))
    · show (-1 : Int) ≤ _; omega
    · show _ ≤ (4 : Int); omega
  refine D_bd (r_token h32) (fun S33 _ h33 => ?_)
  refine hJ S33 h33.1 ?_ ?_ (fun j => ?_)
  · rw [h33.2 0 17 rfl, e32, st_oth (by decide)]; exact e0 17 rfl rfl
  · rw [h33.2 0 18 rfl, e32, st_oth (by decide)]; exact e0 18 rfl rfl
  · rw [h33.2 30 j rfl, e32, st_oth (by decide)]; exact e30 j
-- 54.m
/-! a law's sum: signs that wait, numbers that are held -/
def cwB (T : Tr) : Nat → Int
  | 0 => 0
  | n + 1 => cwB T n + (if T 42 n = 0 ∨ T 42 n = 2 then 0 else 1)
def cwO (T : Tr) : Nat → Int
  | 0 => 0
  | n + 1 => cwO T n + (if T 42 n = 0 then 1 else 0)
theorem cwB_eq {T T1 : Tr} : ∀ n : Nat, (∀ i, i < n → T1 42 i = T 42 i) → cwB T1 n = cwB T n := by
  intro n
  induction n with
  | zero => intro _; rfl
  | succ n ih =>
    intro h
    show cwB T1 n + (if T1 42 n = 0 ∨ T1 42 n = 2 then 0 else 1) = cwB T n + (if T 42 n = 0 ∨ T 42 n = 2 then 0 else 1)
    rw [ih (fun i hi => h i (by omega)), h n (by omega)]
theorem cwO_eq {T T1 : Tr} : ∀ n : Nat, (∀ i, i < n → T1 42 i = T 42 i) → cwO T1 n = cwO T n := by
  intro n
  induction n with
  | zero => intro _; rfl
  | succ n ih =>
    intro h
    show cwO T1 n + (if T1 42 n = 0 then 1 else 0) = cwO T n + (if T 42 n = 0 then 1 else 0)
    rw [ih (fun i hi => h i (by omega)), h n (by omega)]
theorem cw_b (T : Tr) : ∀ n : Nat, 0 ≤ cwB T n ∧ 0 ≤ cwO T n ∧ cwB T n + cwO T n ≤ (n : Int) := by
  intro n
  induction n with
  | zero => exact ⟨Int.le_refl _, Int.le_refl _, Int.le_refl _⟩
  | succ n ih =>
    show 0 ≤ cwB T n + (if T 42 n = 0 ∨ T 42 n = 2 then 0 else 1) ∧ 0 ≤ cwO T n + (if T 42 n = 0 then 1 else 0) ∧ (cwB T n + (if T 42 n = 0 ∨ T 42 n = 2 then 0 else 1)) + (cwO T n + (if T 42 n = 0 then 1 else 0)) ≤ ((n + 1 : Nat) : Int)
    by_cases h0 : T 42 n = 0
    · rw [if_pos (Or.inl h0), if_pos h0]; omega
    · rw [if_neg h0]
      by_cases h2 : T 42 n = 2
      · rw [if_pos (Or.inr h2)]; omega
      · rw [if_neg (fun hz => hz.elim h0 h2)]; omega
theorem cw_0 {T : Tr} {n : Nat} (h : T 42 n = 0) : cwB T (n + 1) = cwB T n ∧ cwO T (n + 1) = cwO T n + 1 := by
  constructor
  · show cwB T n + (if T 42 n = 0 ∨ T 42 n = 2 then 0 else 1) = _
    rw [if_pos (Or.inl h)]; omega
  · show cwO T n + (if T 42 n = 0 then 1 else 0) = _
    rw [if_pos h]
theorem cw_2 {T : Tr} {n : Nat} (h : T 42 n = 2) : cwB T (n + 1) = cwB T n ∧ cwO T (n + 1) = cwO T n := by
  constructor
  · show cwB T n + (if T 42 n = 0 ∨ T 42 n = 2 then 0 else 1) = _
    rw [if_pos (Or.inr h)]; omega
  · show cwO T n + (if T 42 n = 0 then 1 else 0) = _
    rw [if_neg (by rw [h]; decide)]; omega
theorem cw_3 {T : Tr} {n : Nat} (h0 : ¬ T 42 n = 0) (h2 : ¬ T 42 n = 2) : cwB T (n + 1) = cwB T n + 1 ∧ cwO T (n + 1) = cwO T n := by
  constructor
  · show cwB T n + (if T 42 n = 0 ∨ T 42 n = 2 then 0 else 1) = _
    rw [if_neg (fun hz => hz.elim h0 h2)]
  · show cwO T n + (if T 42 n = 0 then 1 else 0) = _
    rw [if_neg h0]; omega
/-- the standing within a sum: n signs wait, w numbers more are held than signs ask for -/
def sI (n : Nat) (w : Int) (T : Tr) : Prop := (T 0 43).toInt = n ∧ (∀ i, i < n → T 42 i = 0 ∨ 2 ≤ (T 42 i).toInt) ∧ (T 0 44).toInt = cwB T n + w ∧ (T 0 45).toInt = cwO T n ∧ (T 0 19).toInt + n - cwO T n = (T 0 46).toInt ∧ (w = 1 → 1 ≤ (T 0 19).toInt)
theorem sI_eq {n : Nat} {w : Int} {T T1 : Tr} (h : sI n w T) (e43 : T1 0 43 = T 0 43) (e44 : T1 0 44 = T 0 44) (e45 : T1 0 45 = T 0 45) (e19 : T1 0 19 = T 0 19) (e46 : T1 0 46 = T 0 46) (e42 : ∀ j, T1 42 j = T 42 j) : sI n w T1 := by
  unfold sI at h ⊢
  rw [e43, e44, e45, e19, e46, cwB_eq n (fun i _ => e42 i), cwO_eq n (fun i _ => e42 i)]
  exact ⟨h.1, fun i hi => by rw [e42]; exact h.2.1 i hi, h.2.2⟩
theorem sI_K {n : Nat} {w : Int} {T T1 : Tr} (h : sI n w T) (e : aK T T1) : sI n w T1 :=
  sI_eq h (e 0 43 rfl) (e 0 44 rfl) (e 0 45 rfl) (e 0 19 rfl) (e 0 46 rfl) (fun j => e 42 j rfl)
/-- a number is held no more -/
theorem r_dropHeld {x : Nat} {z S : Tr} (h : rP x z S) (h1 : 1 ≤ (S 0 44).toInt) : D (f_X8_dropHeld S) (fun q => 0 ≤ q.1.toInt ∧ q.1.toInt ≤ 63 ∧ rP x z q.2 ∧ (q.2 0 44).toInt = (S 0 44).toInt - 1 ∧ (∀ a j, ¬ (a = 0 ∧ j = 44) → q.2 a j = S a j)) := by
  have b : 0 ≤ (S 0 44).toInt ∧ (S 0 44).toInt ≤ 96 := h.1 0 44
  unfold f_X8_dropHeld
  refine D_lt (fun T eT => ?_)
  have e1 : (S 0 44 - 1).toInt = (S 0 44).toInt - 1 := i_subK rfl (show (1 : Int32).toInt = 1 by decide) (by omega) (by omega)
  have hT : rP x z T := by
    rw [eT]; refine rP_set (a := 0) h ?_ ?_ rfl rfl (fun _ => Or.inr (by decide))
    · show (0 : Int) ≤ _; omega
    · show _ ≤ (96 : Int); omega
  have e44 : (T 0 44).toInt = (S 0 44).toInt - 1 := by rw [eT, st_same]; exact e1
  refine D_ck (okI_of (by omega) (by omega)) (D_some ?_)
  have b43 : 0 ≤ (T 43 (T 0 44).toNatClampNeg).toInt ∧ (T 43 (T 0 44).toNatClampNeg).toInt ≤ 63 := hT.1 43 _
  refine ⟨b43.1, b43.2, hT, e44, fun a j hn => ?_⟩
  rw [eT]
  rcases st_or (S := S) (a := 0) (i := 44) (b := a) (j := j) (v := S 0 44 - 1) with e | e
  · exact e
  · exact absurd e hn
/-- what a new knot may be -/
def nvOK (a b c : Int32) : Prop := a = 0 ∨ (a = 1 ∧ 0 ≤ b.toInt ∧ b.toInt ≤ 6) ∨ (a = 2 ∧ 0 ≤ b.toInt ∧ b.toInt ≤ 63) ∨ (¬ a = 1 ∧ 0 ≤ b.toInt ∧ b.toInt ≤ 63 ∧ 0 ≤ c.toInt ∧ c.toInt ≤ 63)
theorem r_grown {x : Nat} {z S : Tr} (h : rP x z S) (hx : x < 3) {x1 x2 x3 : Int32} (hv : nvOK x1 x2 x3) (h19 : (S 0 19).toInt ≤ 63) (h44 : (S 0 44).toInt ≤ 95) : D (f_X8_grown S x1 x2 x3) (fun q => rP x z q ∧ (q 0 44).toInt = (S 0 44).toInt + 1 ∧ (q 0 19).toInt = (S 0 19).toInt + 1 ∧ (∀ j, ¬ j = 44 → ¬ j = 19 → q 0 j = S 0 j) ∧ (∀ j, q 42 j = S 42 j)) := by
  have b44 : 0 ≤ (S 0 44).toInt ∧ (S 0 44).toInt ≤ 96 := h.1 0 44
  have b19 : 0 ≤ (S 0 19).toInt ∧ (S 0 19).toInt ≤ 64 := h.1 0 19
  have i64 : ∀ v : Int32, v = S 0 19 → ((64 : Int32) + v).toInt = 64 + (S 0 19).toInt := fun v hv => by
    rw [hv]; exact i_addK (by decide) rfl (by omega) (by omega)
  have c64 : ∀ v : Int32, v = S 0 19 → ((64 : Int32) + v).toNatClampNeg = 64 + (S 0 19).toInt.toNat := fun v hv => by
    simp only [i_cl]; rw [i64 v hv]; omega
  unfold f_X8_grown
  refine D_ck (okI_of (by rw [i64 _ rfl]; omega) (by rw [i64 _ rfl]; omega)) (D_lt (fun S2 e2 => ?_))
  rw [c64 _ rfl] at e2
  have t2 : S2 0 19 = S 0 19 := by rw [e2, st_oth (by decide)]
  refine D_ck (okI_of (by rw [i64 _ t2]; omega) (by rw [i64 _ t2]; omega)) (D_lt (fun S4 e4 => ?_))
  rw [c64 _ t2] at e4
  have t4 : S4 0 19 = S 0 19 := by rw [e4, st_oth (by decide), t2]
  refine D_ck (okI_of (by rw [i64 _ t4]; omega) (by rw [i64 _ t4]; omega)) (D_lt (fun S6 e6 => ?_))
  rw [c64 _ t4] at e6
  have o6 : ∀ c, ¬ c = 39 → ¬ c = 40 → ¬ c = 41 → S6 c = S c := fun c n1 n2 n3 => by
    rw [e6, st_oth n3, e4, st_oth n2, e2, st_oth n1]
  have a6 : ∀ k, ¬ k = 64 + (S 0 19).toInt.toNat → S6 39 k = S 39 k ∧ S6 40 k = S 40 k ∧ S6 41 k = S 41 k := fun k hk => by
    refine ⟨?_, ?_, ?_⟩
    · rw [e6, st_oth (by decide), e4, st_oth (by decide), e2, st_ne hk]
    · rw [e6, st_oth (by decide), e4, st_ne hk, e2, st_oth (by decide)]
    · rw [e6, st_ne hk, e4, st_oth (by decide), e2, st_oth (by decide)]
  have v39 : S6 39 (64 + (S 0 19).toInt.toNat) = x1 := by rw [e6, st_oth (by decide), e4, st_oth (by decide), e2, st_same]
  have v40 : S6 40 (64 + (S 0 19).toInt.toNat) = x2 := by rw [e6, st_oth (by decide), e4, st_same]
  have v41 : S6 41 (64 + (S 0 19).toInt.toNat) = x3 := by rw [e6, st_same]
  have hp := h.2.2.2.2.1
  have h6 : rP x z S6 := by
    refine ⟨?_, ?_, wK_S (fun j => by rw [o6 4 (by decide) (by decide) (by decide)]) h.2.2.1, ?_, ?_, ?_⟩
    · rw [e6]; refine iR_setU ?_ rfl
      rw [e4]; refine iR_setU ?_ rfl
      rw [e2]; exact iR_setU h.1 rfl
    · rw [e6]; refine aP_set ?_ (Wp_41 (by omega))
      rw [e4]; refine aP_set ?_ (Wp_40 (by omega))
      rw [e2]; exact aP_set h.2.1 (Wp_39 (by omega))
    · exact kP_of h.2.2.2.1 (by rw [o6 0 (by decide) (by decide) (by decide)]) (by rw [o6 0 (by decide) (by decide) (by decide)]) (by rw [o6 0 (by decide) (by decide) (by decide)]) (by rw [o6 0 (by decide) (by decide) (by decide)])
    · refine ⟨?_, ?_, fun k => ?_, ?_, fun hz => absurd hz (by omega)⟩
      · rw [o6 30 (by decide) (by decide) (by decide), o6 0 (by decide) (by decide) (by decide)]; exact hp.1
      · rw [o6 29 (by decide) (by decide) (by decide), o6 0 (by decide) (by decide) (by decide)]; exact hp.2.1
      · by_cases hk : k = 64 + (S 0 19).toInt.toNat
        · subst hk; unfold nodeOK; rw [v39, v40, v41]; exact hv
        · have := a6 k hk; exact nodeOK_eq (hp.2.2.1 k) this.1 this.2.1 this.2.2
      · rw [o6 36 (by decide) (by decide) (by decide), o6 38 (by decide) (by decide) (by decide)]; exact hp.2.2.2.1
    · rw [mu_eq (T := S) (T1 := S6) (by rw [o6 0 (by decide) (by decide) (by decide)]) (by rw [o6 0 (by decide) (by decide) (by decide)]) (by rw [o6 0 (by decide) (by decide) (by decide)]) (by rw [o6 0 (by decide) (by decide) (by decide)]) (fun j => by rw [o6 22 (by decide) (by decide) (by decide)]) (fun j => by rw [o6 36 (by decide) (by decide) (by decide)])]
      exact h.2.2.2.2.2
  have z6 : S6 0 = S 0 := o6 0 (by decide) (by decide) (by decide)
  refine D_ck (okI_of (by rw [z6]; omega) (by rw [z6]; omega)) (D_lt (fun S8 e8 => ?_))
  rw [z6] at e8
  have h8 : rP x z S8 := by
    rw [e8]; refine rP_set (a := 43) h6 ?_ ?_ rfl rfl (fun hz => absurd hz (by decide))
    · show (0 : Int) ≤ _; omega
    · show _ ≤ (63 : Int); omega
  have z8 : S8 0 = S 0 := by rw [e8, st_oth (by decide), z6]
  refine D_lt (fun S9 e9 => ?_)
  rw [z8] at e9
  have f44 : (S 0 44 + 1).toInt = (S 0 44).toInt + 1 := i_addK rfl (show (1 : Int32).toInt = 1 by decide) (by omega) (by omega)
  have f19 : (S 0 19 + 1).toInt = (S 0 19).toInt + 1 := i_addK rfl (show (1 : Int32).toInt = 1 by decide) (by omega) (by omega)
  have h9 : rP x z S9 := by
    rw [e9]; refine rP_set (a := 0) h8 ?_ ?_ rfl rfl (fun _ => Or.inr (by decide))
    · show (0 : Int) ≤ _; omega
    · show _ ≤ (96 : Int); omega
  have t9 : S9 0 19 = S 0 19 := by rw [e9, st_ne (by decide), z8]
  refine D_lt (fun S10 e10 => ?_)
  rw [t9] at e10
  have eo : ∀ c, ¬ c = 0 → ∀ j, S10 c j = S9 c j := fun c hc j => by rw [e10, st_oth hc]
  have ez : ∀ j, ¬ j = 19 → S10 0 j = S9 0 j := fun j hj => by rw [e10, st_ne hj]
  have hp9 := h9.2.2.2.2.1
  refine D_some ⟨⟨?_, ?_, wK_S (eo 4 (by decide)) h9.2.2.1, kP_of h9.2.2.2.1 (ez 6 (by decide)) (ez 7 (by decide)) (ez 8 (by decide)) (ez 9 (by decide)), ⟨fun i hi hl => ?_, fun p hp1 hl => ?_, fun k => nodeOK_eq (hp9.2.2.1 k) (eo 39 (by decide) k) (eo 40 (by decide) k) (eo 41 (by decide) k), fun u hu hx1 hl => ?_, fun hz => absurd hz (by omega)⟩, ?_⟩, ?_, ?_, ?_, ?_⟩
  · rw [e10]; refine iR_set (a := 0) (i := 19) h9.1 ?_ ?_
    · show (0 : Int) ≤ _; omega
    · show _ ≤ (64 : Int); omega
  · rw [e10]; exact aP_set h9.2.1 rfl
  · rw [eo 30 (by decide), ez 17 (by decide)]; rw [ez 18 (by decide)] at hl; exact hp9.1 i hi hl
  · rw [eo 29 (by decide)]; rw [ez 17 (by decide)] at hl; exact hp9.2.1 p hp1 hl
  · rw [eo 38 (by decide)]; rw [eo 36 (by decide)] at hl; exact hp9.2.2.2.1 u hu hx1 hl
  · rw [mu_eq (T := S9) (T1 := S10) (ez 16 (by decide)) (ez 17 (by decide)) (ez 18 (by decide)) (ez 20 (by decide)) (eo 22 (by decide)) (eo 36 (by decide))]; exact h9.2.2.2.2.2
  · rw [ez 44 (by decide), e9, st_same]; exact f44
  · rw [e10, st_same]; exact f19
  · intro j h1 h2; rw [ez j h2, e9, st_ne h1, z8]
  · intro j; rw [eo 42 (by decide), e9, st_oth (by decide), e8, st_oth (by decide), o6 42 (by decide) (by decide) (by decide)]
/-- the rank of a bracket is none, that of every other sign is one -/
theorem t2_rank (v : Int32) : D (f_X8_rank v) (fun r => (0 ≤ r.toInt ∧ r.toInt ≤ 6) ∧ (v = 0 → r.toInt = 0) ∧ (2 ≤ v.toInt → 1 ≤ r.toInt)) := by
  unfold f_X8_rank
  have l : ∀ {r : Int32}, (0 ≤ r.toInt ∧ r.toInt ≤ 6) → (v = 0 → r.toInt = 0) → (2 ≤ v.toInt → 1 ≤ r.toInt) → D (some r) (fun r => (0 ≤ r.toInt ∧ r.toInt ≤ 6) ∧ (v = 0 → r.toInt = 0) ∧ (2 ≤ v.toInt → 1 ≤ r.toInt)) := fun h1 h2 h3 => D_some ⟨h1, h2, h3⟩
  refine D_ite (fun c => D_ite (fun c => D_ite (fun c => D_ite (fun c => ?_) (fun c2 => D_ite (fun c => ?_) (fun c3 => D_ite (fun c => ?_) (fun c4 => ?_)))) (fun c => ?_)) (fun c => ?_)) (fun c => ?_)
  · exact l (by decide) (fun hz => by rw [hz] at c; exact absurd c (by decide)) (fun _ => by decide)
  · exact l (by decide) (fun hz => by rw [hz] at c; exact absurd c (by decide)) (fun _ => by decide)
  · exact l (by decide) (fun hz => by rw [hz] at c; exact absurd c (by decide)) (fun _ => by decide)
  · refine l (by decide) (fun _ => by decide) (fun hz => ?_)
    exfalso
    have k := tq_lt (x := v) (y := (5 : Int32)) rfl (b := 5) (by decide) c
    have m2 : ¬ v.toInt = 2 := fun hz => c2 (Int32.toInt_inj.mp (hz.trans (by decide)))
    have m3 : ¬ v.toInt = 3 := fun hz => c3 (Int32.toInt_inj.mp (hz.trans (by decide)))
    have m4 : ¬ v.toInt = 4 := fun hz => c4 (Int32.toInt_inj.mp (hz.trans (by decide)))
    omega
  · exact l (by decide) (fun hz => by rw [hz] at c; exact absurd (by decide) c) (fun _ => by decide)
  · exact l (by decide) (fun hz => by rw [hz] at c; exact absurd (by decide) c) (fun _ => by decide)
  · exact l (by decide) (fun hz => by rw [hz] at c; exact absurd (by decide) c) (fun _ => by decide)
-- 55.m
theorem b_58 {x : Nat} {z T : Tr} (hx : x < 3) {n : Nat} {x1 y s0 : Int32} {k : Tr → Option Tr} {Q : Tr → Prop} (hT : rP x z T) (h43 : (T 0 43).toInt = n) (hW : ∀ i, i < n → T 42 i = 0 ∨ 2 ≤ (T 42 i).toInt) (h44 : (T 0 44).toInt = cwB T n + 1) (h45 : (T 0 45).toInt = cwO T n) (h19 : (T 0 19).toInt + n + 1 - cwO T n = (T 0 46).toInt) (hn : ∀ r : Int32, 0 ≤ r.toInt → r.toInt ≤ 63 → nvOK y r s0) (hk : ∀ T1, rP x z T1 → sI n 1 T1 → (∀ j, 45 ≤ j → j ≤ 48 → T1 0 j = T 0 j) → D (k T1) Q) : D (fJ_X8_bind_J58 k x1 y s0 T) Q := by
  have cb := cw_b T n
  have b46 : 0 ≤ (T 0 46).toInt ∧ (T 0 46).toInt ≤ 64 := hT.1 0 46
  have b44 : 0 ≤ (T 0 44).toInt ∧ (T 0 44).toInt ≤ 96 := hT.1 0 44
  have b19 : 0 ≤ (T 0 19).toInt ∧ (T 0 19).toInt ≤ 64 := hT.1 0 19
  unfold fJ_X8_bind_J58
  refine D_bd (r_dropHeld hT (by omega)) (fun q _ hq => ?_)
  have hs := hq.2.2.2.2
  have e19 : q.2 0 19 = T 0 19 := hs 0 19 (by decide)
  refine D_bd (r_grown hq.2.2.1 hx (hn q.1 hq.1 hq.2.1) (by rw [e19]; omega) (by rw [hq.2.2.2.1]; omega)) (fun T1 _ hg => ?_)
  have e42 : ∀ j, T1 42 j = T 42 j := fun j => (hg.2.2.2.2 j).trans (hs 42 j (by omega))
  have ez : ∀ j, ¬ j = 44 → ¬ j = 19 → T1 0 j = T 0 j := fun j h1 h2 => (hg.2.2.2.1 j h1 h2).trans (hs 0 j (fun hz => h1 hz.2))
  refine hk T1 hg.1 ?_ (fun j h1 h2 => ez j (by omega) (by omega))
  unfold sI
  rw [cwB_eq n (fun i _ => e42 i), cwO_eq n (fun i _ => e42 i), ez 43 (by decide) (by decide), ez 45 (by decide) (by decide), ez 46 (by decide) (by decide), hg.2.1, hg.2.2.1, hq.2.2.2.1, e19]
  exact ⟨h43, fun i hi => by rw [e42]; exact hW i hi, by omega, h45, by omega, fun _ => by omega⟩
/-- what has waited is bound, down to a bracket or a lesser sign -/
theorem r_bind {x : Nat} {z : Tr} (hx : x < 3) {x1 : Int32} (h1 : 1 ≤ x1.toInt) (N : Nat) : ∀ (T : Tr) (n : Nat), rP x z T → sI n 1 T → (n : Int) < (N : Int) → D (lpF (fun _ => none) (fB_X8_bind_L0 x1) N T) (fun q => rP x z q ∧ (∀ j, 45 ≤ j → j ≤ 48 → q 0 j = T 0 j) ∧ ∃ m, sI m 1 q ∧ (m = 0 ∨ ∃ m', m = m' + 1 ∧ (x1 = 1 → q 42 m' = 0))) := by
  induction N with
  | zero => intro T n _ _ hn; omega
  | succ N ih =>
    intro T n h hs hn
    show D (fB_X8_bind_L0 x1 (lpF (fun _ => none) (fB_X8_bind_L0 x1) N) T) _
    generalize lpF (fun _ => none) (fB_X8_bind_L0 x1) N = k at ih ⊢
    unfold fB_X8_bind_L0
    have b43 : 0 ≤ (T 0 43).toInt ∧ (T 0 43).toInt ≤ 96 := h.1 0 43
    obtain ⟨s43, sW, s44, s45, s19, s1⟩ := hs
    refine D_ite (fun c => ?_) (fun c => ?_)
    · have k0 := tq_le (x := T 0 43) (y := (0 : Int32)) rfl (b := 0) (by decide) c
      exact D_some ⟨h, fun _ _ _ => rfl, n, ⟨s43, sW, s44, s45, s19, s1⟩, Or.inl (by omega)⟩
    · have k0 := tq_len (x := T 0 43) (y := (0 : Int32)) rfl (b := 0) (by decide) c
      obtain ⟨n', rfl⟩ : ∃ n', n = n' + 1 := ⟨n - 1, by omega⟩
      have e1 : (T 0 43 - 1).toInt = n' := by
        have : (T 0 43 - 1).toInt = (T 0 43).toInt - 1 := i_subK rfl (show (1 : Int32).toInt = 1 by decide) (by omega) (by omega)
        omega
      have c1 : (T 0 43 - 1).toNatClampNeg = n' := by simp only [i_cl]; omega
      refine D_ck (okI_of (by omega) (by omega)) ?_
      rw [c1]
      refine D_bd (t2_rank (T 42 n')) (fun r _ hr => D_ite (fun cr => ?_) (fun cr => ?_))
      · have kr := tq_lt (x := r) (y := x1) rfl rfl cr
        refine D_some ⟨h, fun _ _ _ => rfl, n' + 1, ⟨s43, sW, s44, s45, s19, s1⟩, Or.inr ⟨n', rfl, fun hz => ?_⟩⟩
        rcases sW n' (by omega) with hw | hw
        · exact hw
        · have := hr.2.2 hw
          have : x1.toInt = 1 := by rw [hz]; decide
          omega
      · have kr := tq_ltn (x := r) (y := x1) rfl rfl cr
        have hw0 : ¬ T 42 n' = 0 := fun hz => by have := hr.2.1 hz; omega
        have hw : 2 ≤ (T 42 n').toInt := (sW n' (by omega)).resolve_left hw0
        refine D_lt (fun S7 e7 => ?_)
        have h7 : rP x z S7 := by
          rw [e7]; refine rP_set (a := 0) h ?_ ?_ rfl rfl (fun _ => Or.inr (by decide))
          · show (0 : Int) ≤ _; omega
          · show _ ≤ (96 : Int); omega
        have z7 : ∀ j, ¬ j = 43 → S7 0 j = T 0 j := fun j hj => by rw [e7, st_ne hj]
        have a7 : ∀ j, S7 42 j = T 42 j := fun j => by rw [e7, st_oth (by decide)]
        have s7 : (S7 0 43).toInt = n' := by rw [e7, st_same]; exact e1
        have c7 : (S7 0 43).toNatClampNeg = n' := by simp only [i_cl]; omega
        refine D_ck (okI_of (by omega) (by omega)) ?_
        rw [c7, a7]
        have W7 : ∀ i, i < n' → S7 42 i = 0 ∨ 2 ≤ (S7 42 i).toInt := fun i hi => by rw [a7]; exact sW i (by omega)
        have B7 := cwB_eq (T := T) (T1 := S7) n' (fun i _ => a7 i)
        have O7 := cwO_eq (T := T) (T1 := S7) n' (fun i _ => a7 i)
        refine D_lt (fun y ey => D_ite (fun cy => ?_) (fun cy => ?_))
        · have hc := cw_2 (T := T) (n := n') (by rw [← ey]; exact cy)
          refine b_58 (x1 := x1) hx h7 s7 W7 ?_ ?_ ?_ (fun r h0 h6 => Or.inr (Or.inr (Or.inl ⟨cy, h0, h6⟩))) (fun T1 hT1 hs1 hj => ?_)
          · rw [z7 44 (by decide), B7]; omega
          · rw [z7 45 (by decide), O7]; omega
          · rw [z7 19 (by decide), z7 46 (by decide), O7]; omega
          · refine D_mono (ih T1 n' hT1 hs1 (by omega)) (fun q hq => ⟨hq.1, fun j g1 g2 => ?_, hq.2.2⟩)
            rw [hq.2.1 j g1 g2, hj j g1 g2, z7 j (by omega)]
        · have hc := cw_3 (T := T) (n := n') hw0 (by rw [← ey]; exact cy)
          have cb := cw_b T n'
          refine D_bd (r_dropHeld h7 (by rw [z7 44 (by decide)]; omega)) (fun q _ hq => ?_)
          have g := hq.2.2.2.2
          have B8 := cwB_eq (T := T) (T1 := q.2) n' (fun i _ => (g 42 i (by omega)).trans (a7 i))
          have O8 := cwO_eq (T := T) (T1 := q.2) n' (fun i _ => (g 42 i (by omega)).trans (a7 i))
          refine b_58 (x1 := x1) hx hq.2.2.1 (by rw [g 0 43 (by decide)]; exact s7) (fun i hi => by rw [g 42 i (by omega)]; exact W7 i hi) ?_ ?_ ?_ (fun r h0 h6 => Or.inr (Or.inr (Or.inr ⟨fun hz => ?_, h0, h6, hq.1, hq.2.1⟩))) (fun T1 hT1 hs1 hj => ?_)
          · rw [hq.2.2.2.1, z7 44 (by decide), B8]; omega
          · rw [g 0 45 (by decide), z7 45 (by decide), O8]; omega
          · rw [g 0 19 (by decide), g 0 46 (by decide), z7 19 (by decide), z7 46 (by decide), O8]; omega
          · rw [← ey, hz] at hw; exact absurd hw (by decide)
          · refine D_mono (ih T1 n' hT1 hs1 (by omega)) (fun p hp => ⟨hp.1, fun j g1 g2 => ?_, hp.2.2⟩)
            rw [hp.2.1 j g1 g2, hj j g1 g2, g 0 j (by omega), z7 j (by omega)]
theorem r_bindS {x : Nat} {z S : Tr} (hx : x < 3) {x1 : Int32} (h1 : 1 ≤ x1.toInt) {n : Nat} (h : rP x z S) (hs : sI n 1 S) : D (f_X8_bind S x1) (fun q => rP x z q ∧ (∀ j, 45 ≤ j → j ≤ 48 → q 0 j = S 0 j) ∧ ∃ m, sI m 1 q ∧ (m = 0 ∨ ∃ m', m = m' + 1 ∧ (x1 = 1 → q 42 m' = 0))) := by
  have b43 : 0 ≤ (S 0 43).toInt ∧ (S 0 43).toInt ≤ 96 := h.1 0 43
  have := hs.1
  exact r_bind hx h1 2000 S n h hs (by omega)
theorem r_isCounted {x : Nat} {z S : Tr} (hx : x < 3) (h : rP x z S) : D (f_X8_isCounted S) (fun q => rP x z q.2 ∧ (q.1 = 0 ∨ (q.1 = 1 ∧ (S 0 46).toInt < 64 ∧ (q.2 0 46).toInt = (S 0 46).toInt + 1 ∧ (∀ a j, ¬ (a = 0 ∧ j = 46) → q.2 a j = S a j)))) := by
  have b : 0 ≤ (S 0 46).toInt ∧ (S 0 46).toInt ≤ 64 := h.1 0 46
  unfold f_X8_isCounted
  refine D_ite (fun _ => D_mono (r_wrong h 2) (fun q hq => ⟨hq.2, Or.inl hq.1⟩)) (fun c => ?_)
  have c46 : ¬ (S 0 46).toInt = 64 := fun hz => c (Int32.toInt_inj.mp (hz.trans (by decide)))
  refine D_lt (fun T eT => ?_)
  have e1 : (S 0 46 + 1).toInt = (S 0 46).toInt + 1 := i_addK rfl (show (1 : Int32).toInt = 1 by decide) (by omega) (by omega)
  have eo : ∀ c, ¬ c = 0 → ∀ j, T c j = S c j := fun c hc j => by rw [eT, st_oth hc]
  have ez : ∀ j, ¬ j = 46 → T 0 j = S 0 j := fun j hj => by rw [eT, st_ne hj]
  have hp := h.2.2.2.2.1
  have hT : rP x z T := by
    refine ⟨?_, ?_, wK_S (eo 4 (by decide)) h.2.2.1, kP_of h.2.2.2.1 (ez 6 (by decide)) (ez 7 (by decide)) (ez 8 (by decide)) (ez 9 (by decide)), ⟨fun i hi hl => ?_, fun p hp1 hl => ?_, fun k => nodeOK_eq (hp.2.2.1 k) (eo 39 (by decide) k) (eo 40 (by decide) k) (eo 41 (by decide) k), fun u hu hx1 hl => ?_, fun hz => absurd hz (by omega)⟩, ?_⟩
    · rw [eT]; refine iR_set (a := 0) (i := 46) h.1 ?_ ?_
      · show (0 : Int) ≤ _; omega
      · show _ ≤ (64 : Int); omega
    · rw [eT]; exact aP_set h.2.1 rfl
    · rw [eo 30 (by decide), ez 17 (by decide)]; rw [ez 18 (by decide)] at hl; exact hp.1 i hi hl
    · rw [eo 29 (by decide)]; rw [ez 17 (by decide)] at hl; exact hp.2.1 p hp1 hl
    · rw [eo 38 (by decide)]; rw [eo 36 (by decide)] at hl; exact hp.2.2.2.1 u hu hx1 hl
    · rw [mu_eq (T := S) (T1 := T) (ez 16 (by decide)) (ez 17 (by decide)) (ez 18 (by decide)) (ez 20 (by decide)) (eo 22 (by decide)) (eo 36 (by decide))]; exact h.2.2.2.2.2
  refine D_some ⟨hT, Or.inr ⟨rfl, by omega, ?_, fun a j hn => ?_⟩⟩
  · show (T 0 46).toInt = _
    rw [eT, st_same]; exact e1
  · show T a j = S a j
    rw [eT]
    rcases st_or (S := S) (a := 0) (i := 46) (b := a) (j := j) (v := S 0 46 + 1) with e | e
    · exact e
    · exact absurd e hn
theorem r_waitsFor {x : Nat} {z S : Tr} (h : rP x z S) {n : Nat} (h43 : (S 0 43).toInt = n) (hn : n < 90) {v : Int32} (hv : 0 ≤ v.toInt ∧ v.toInt ≤ 14) : D (f_X8_waitsFor S v) (fun q => rP x z q ∧ (q 0 43).toInt = (n + 1 : Nat) ∧ q 42 n = v ∧ (∀ j, ¬ j = n → q 42 j = S 42 j) ∧ (∀ j, ¬ j = 43 → q 0 j = S 0 j)) := by
  unfold f_X8_waitsFor
  have c1 : (S 0 43).toNatClampNeg = n := by simp only [i_cl]; omega
  refine D_ck (okI_of (by omega) (by omega)) ?_
  rw [c1]
  refine D_lt (fun S2 e2 => D_lt (fun S3 e3 => ?_))
  have h2 : rP x z S2 := by rw [e2]; exact rP_set (a := 42) h hv.1 hv.2 rfl rfl (fun hz => absurd hz (by decide))
  have z2 : S2 0 = S 0 := by rw [e2, st_oth (by decide)]
  rw [z2] at e3
  have e1 : (S 0 43 + 1).toInt = (S 0 43).toInt + 1 := i_addK rfl (show (1 : Int32).toInt = 1 by decide) (by omega) (by omega)
  refine D_some ⟨?_, ?_, ?_, fun j hj => ?_, fun j hj => ?_⟩
  · rw [e3]; refine rP_set (a := 0) h2 ?_ ?_ rfl rfl (fun _ => Or.inr (by decide))
    · show (0 : Int) ≤ _; omega
    · show _ ≤ (96 : Int); omega
  · rw [e3, st_same]; omega
  · rw [e3, st_oth (by decide), e2, st_same]
  · rw [e3, st_oth (by decide), e2, st_ne hj]
  · rw [e3, st_ne hj, z2]
-- 56.m
/-- how much is held above what the signs ask for -/
def wS (T : Tr) : Int := if T 0 47 = 0 then 1 else 0
def sJ (T : Tr) : Prop := ∃ n, sI n (wS T) T
def mS (T : Tr) : Int := 20 * (64 - (T 0 46).toInt) + (if T 0 47 = 0 then (T 0 45).toInt else 18 - (T 0 45).toInt)
theorem wS_0 {T : Tr} (h : T 0 47 = 0) : wS T = 1 := if_pos h
theorem wS_1 {T : Tr} (h : ¬ T 0 47 = 0) : wS T = 0 := if_neg h
theorem mS_0 {T : Tr} (h : T 0 47 = 0) : mS T = 20 * (64 - (T 0 46).toInt) + (T 0 45).toInt := by unfold mS; rw [if_pos h]
theorem mS_1 {T : Tr} (h : ¬ T 0 47 = 0) : mS T = 20 * (64 - (T 0 46).toInt) + (18 - (T 0 45).toInt) := by unfold mS; rw [if_neg h]
/-- a step of a sum: it failed, or the sum stands and less is left -/
def sQ (x : Nat) (z S : Tr) (q : Int32 × Tr) : Prop := rP x z q.2 ∧ (q.1 = 0 ∨ (q.1 = 1 ∧ sJ q.2 ∧ mS q.2 < mS S))
theorem q_wrong {x : Nat} {z S0 S : Tr} (h : rP x z S) (y : Int32) : D (bd (f_X8_wrong S y) fun q => lt q.1 fun r => lt q.2 fun S1 => ck (okB r) (some (r, S1))) (sQ x z S0) :=
  D_mono (r_wrong h y) (fun _ hq => ⟨hq.2, Or.inl hq.1⟩)
/-- the last token of a step -/
theorem q_end {x : Nat} {z S T : Tr} (h : rP x z T) {n : Nat} (hs : sI n (wS T) T) (hm : mS T < mS S) : D (bd (f_X8_token T) fun S1 => some ((1 : Int32), S1)) (sQ x z S) := by
  refine D_bd (r_token h) (fun q _ hq => ?_)
  have e47 := hq.2 0 47 rfl
  have e45 := hq.2 0 45 rfl
  have e46 := hq.2 0 46 rfl
  have ew : wS q = wS T := by unfold wS; rw [e47]
  have em : mS q = mS T := by unfold mS; rw [e47, e45, e46]
  refine D_some ⟨hq.1, Or.inr ⟨rfl, ⟨n, ?_⟩, ?_⟩⟩
  · show sI n (wS q) q
    rw [ew]; exact sI_K hs hq.2
  · show mS q < mS S
    rw [em]; exact hm
theorem q_bnd {x : Nat} {z S : Tr} {n : Nat} {w : Int} (h : rP x z S) (hs : sI n w S) : n < 90 ∧ cwO S n ≤ 8 ∧ (n : Int) - cwO S n ≤ 64 - (S 0 19).toInt ∧ (S 0 46).toInt ≤ 64 ∧ 0 ≤ (S 0 19).toInt := by
  have b45 : 0 ≤ (S 0 45).toInt ∧ (S 0 45).toInt ≤ 8 := h.1 0 45
  have b46 : 0 ≤ (S 0 46).toInt ∧ (S 0 46).toInt ≤ 64 := h.1 0 46
  have b19 : 0 ≤ (S 0 19).toInt ∧ (S 0 19).toInt ≤ 64 := h.1 0 19
  have h1 := hs.2.2.2.1
  have h2 := hs.2.2.2.2.1
  omega
theorem r_nameMet {x : Nat} {z S : Tr} (h : rP x z S) : D (f_X8_nameMet S) (fun r => r.toInt ≤ 6) := by
  unfold f_X8_nameMet
  refine D_ite (fun c => D_ite (fun _ => D_some (by decide)) (fun c1 => D_some ?_)) (fun _ => D_some (by decide))
  have c' : (S 0 8).toInt = 1 := by rw [c]; decide
  have k := h.2.2.2.1.2.1 c'
  have e : (S 0 9 - 22).toInt = (S 0 9).toInt - 22 := i_subK rfl (show (22 : Int32).toInt = 22 by decide) (by omega) (by omega)
  omega
theorem r_leafRead {x : Nat} {z S : Tr} (hx : x < 3) (h : rP x z S) (hw : ¬ S 0 47 = 0) {n : Nat} (hs : sI n 0 S) : D (f_X8_leafRead S) (sQ x z S) := by
  have qb := q_bnd h hs
  have cb := cw_b S n
  obtain ⟨s43, sW, s44, s45, s19, s1⟩ := hs
  have hm := mS_1 hw
  have h160 : ∀ (T : Tr) (v t : Int32), rP x z T → (T 0 46).toInt = (S 0 46).toInt + 1 → (S 0 46).toInt < 64 → (∀ a j, ¬ (a = 0 ∧ j = 46) → T a j = S a j) → nvOK t v 0 → D (fJ_X8_leafRead_J160 v t T) (sQ x z S) := by
    intro T v t hT h46 hl he hv
    unfold fJ_X8_leafRead_J160
    have e19 : T 0 19 = S 0 19 := he 0 19 (by decide)
    have e44 : T 0 44 = S 0 44 := he 0 44 (by decide)
    refine D_bd (r_grown hT hx hv (by rw [e19]; omega) (by rw [e44]; omega)) (fun q _ hq => ?_)
    refine D_lt (fun T2 e2 => ?_)
    have h2 : rP x z T2 := by
      rw [e2]; refine rP_set (a := 0) hq.1 ?_ ?_ rfl rfl (fun _ => Or.inr (by decide)) <;> decide
    have z2 : ∀ j, ¬ j = 47 → T2 0 j = q 0 j := fun j hj => by rw [e2, st_ne hj]
    have e47 : T2 0 47 = 0 := by rw [e2, st_same]
    have e42 : ∀ j, T2 42 j = S 42 j := fun j => by rw [e2, st_oth (by decide), hq.2.2.2.2 j, he 42 j (by omega)]
    have a : ∀ j, ¬ j = 47 → ¬ j = 44 → ¬ j = 19 → ¬ j = 46 → T2 0 j = S 0 j := fun j h1 h3 h4 h5 => by
      rw [z2 j h1, hq.2.2.2.1 j h3 h4, he 0 j (fun hz => h5 hz.2)]
    have a46 : (T2 0 46).toInt = (S 0 46).toInt + 1 := by rw [z2 46 (by decide), hq.2.2.2.1 46 (by decide) (by decide)]; exact h46
    refine q_end (n := n) h2 ?_ ?_
    · rw [wS_0 e47]
      unfold sI
      rw [cwB_eq n (fun i _ => e42 i), cwO_eq n (fun i _ => e42 i), a 43 (by decide) (by decide) (by decide) (by decide), a 45 (by decide) (by decide) (by decide) (by decide), a46, z2 44 (by decide), z2 19 (by decide), hq.2.1, hq.2.2.1, e19, e44]
      exact ⟨s43, fun i hi => by rw [e42]; exact sW i hi, by omega, s45, by omega, fun _ => by omega⟩
    · rw [mS_0 e47, hm, a46, a 45 (by decide) (by decide) (by decide) (by decide)]; omega
  have h129 : ∀ x1 : Int32, x1.toInt ≤ 6 → D (fJ_X8_leafRead_J129 x1 S) (sQ x z S) := by
    intro x1 hx1
    unfold fJ_X8_leafRead_J129
    refine D_bd (r_isCounted hx h) (fun q _ hq => ?_)
    refine D_ite (fun _ => D_some ⟨hq.1, Or.inl rfl⟩) (fun c => ?_)
    have g := hq.2.resolve_left c
    refine D_ite (fun c1 => ?_) (fun c1 => ?_)
    · unfold fJ_X8_leafRead_J148
      refine D_ite (fun _ => ?_) (fun hz => absurd c1 hz)
      exact h160 _ _ _ hq.1 g.2.2.1 g.2.1 g.2.2.2 (Or.inl rfl)
    · unfold fJ_X8_leafRead_J148
      refine D_ite (fun hz => absurd hz c1) (fun _ => ?_)
      have k := tq_ltn (x := x1) (y := (0 : Int32)) rfl (b := 0) (by decide) c1
      exact h160 _ _ _ hq.1 g.2.2.1 g.2.1 g.2.2.2 (Or.inr (Or.inl ⟨rfl, k, hx1⟩))
  have h86 : D (fJ_X8_leafRead_J86 S) (sQ x z S) := by
    unfold fJ_X8_leafRead_J86
    refine D_bd (r_nameMet h) (fun r _ hr => ?_)
    have h109 : D (fJ_X8_leafRead_J109 r S) (sQ x z S) := by
      unfold fJ_X8_leafRead_J109
      exact D_ite (fun _ => h129 r hr) (fun _ => D_ite (fun _ => h129 r hr) (fun _ => q_wrong h 2))
    exact D_ite (fun _ => h109) (fun _ => D_ite (fun _ => h109) (fun _ => q_wrong h 1))
  unfold f_X8_leafRead
  refine D_bd (t_X8_isSign S 40 h.1) (fun r1 _ _ => D_ite (fun _ => ?_) (fun _ => ?_))
  · refine D_bd (t_X8_isKey S 21 h.1) (fun r5 _ _ => D_ite (fun _ => h86) (fun _ => D_ite (fun _ => h86) (fun _ => ?_)))
    refine D_bd (r_isCounted hx h) (fun q _ hq => ?_)
    refine D_ite (fun _ => D_some ⟨hq.1, Or.inl rfl⟩) (fun c => ?_)
    have g := hq.2.resolve_left c
    have he := g.2.2.2
    refine D_bd (r_waitsFor hq.1 (n := n) (v := 2) (by rw [he 0 43 (by decide)]; exact s43) qb.1 (by decide)) (fun T _ hT => ?_)
    have e42 : ∀ i, i < n → T 42 i = S 42 i := fun i hi => (hT.2.2.2.1 i (by omega)).trans (he 42 i (by omega))
    have ez : ∀ j, ¬ j = 43 → ¬ j = 46 → T 0 j = S 0 j := fun j h1 h2 => (hT.2.2.2.2 j h1).trans (he 0 j (fun hz => h2 hz.2))
    have a46 : (T 0 46).toInt = (S 0 46).toInt + 1 := by rw [hT.2.2.2.2 46 (by decide)]; exact g.2.2.1
    have e47 : ¬ T 0 47 = 0 := by rw [ez 47 (by decide) (by decide)]; exact hw
    have cc := cw_2 hT.2.2.1
    refine q_end (n := n + 1) hT.1 ?_ ?_
    · rw [wS_1 e47]
      unfold sI
      rw [cc.1, cc.2, cwB_eq n e42, cwO_eq n e42, ez 44 (by decide) (by decide), ez 45 (by decide) (by decide), ez 19 (by decide) (by decide), a46]
      refine ⟨hT.2.1, fun i hi => ?_, s44, s45, by omega, fun hz => absurd hz (by decide)⟩
      rcases (by omega : i < n ∨ i = n) with hz | hz
      · rw [e42 i hz]; exact sW i hz
      · subst hz; exact Or.inr (by rw [hT.2.2.1]; decide)
    · rw [mS_1 e47, hm, a46, ez 45 (by decide) (by decide)]; omega
  · refine D_ite (fun _ => q_wrong h 2) (fun c8 => ?_)
    have b45 : 0 ≤ (S 0 45).toInt ∧ (S 0 45).toInt ≤ 8 := h.1 0 45
    have c45 : ¬ (S 0 45).toInt = 8 := fun hz => c8 (Int32.toInt_inj.mp (hz.trans (by decide)))
    have f45 : (S 0 45 + 1).toInt = (S 0 45).toInt + 1 := i_addK rfl (show (1 : Int32).toInt = 1 by decide) (by omega) (by omega)
    refine D_lt (fun S5 e5 => ?_)
    have h5 : rP x z S5 := by
      rw [e5]; refine rP_set (a := 0) h ?_ ?_ rfl rfl (fun _ => Or.inr (by decide))
      · show (0 : Int) ≤ _; omega
      · show _ ≤ (8 : Int); omega
    refine D_bd (r_waitsFor h5 (n := n) (v := 0) (by rw [e5, st_ne (by decide)]; exact s43) qb.1 (by decide)) (fun T _ hT => ?_)
    refine D_lt (fun T2 e2 => ?_)
    have h2 : rP x z T2 := by
      rw [e2]; refine rP_set (a := 0) hT.1 ?_ ?_ rfl rfl (fun _ => Or.inr (by decide)) <;> decide
    have e42 : ∀ i, i < n → T2 42 i = S 42 i := fun i hi => by rw [e2, st_oth (by decide), hT.2.2.2.1 i (by omega), e5, st_oth (by decide)]
    have n42 : T2 42 n = 0 := by rw [e2, st_oth (by decide)]; exact hT.2.2.1
    have ez : ∀ j, ¬ j = 43 → ¬ j = 45 → ¬ j = 48 → T2 0 j = S 0 j := fun j h1 h2 h3 => by
      rw [e2, st_ne h3, hT.2.2.2.2 j h1, e5, st_ne h2]
    have a45 : (T2 0 45).toInt = (S 0 45).toInt + 1 := by rw [e2, st_ne (by decide), hT.2.2.2.2 45 (by decide), e5, st_same]; exact f45
    have a43 : (T2 0 43).toInt = (n + 1 : Nat) := by rw [e2, st_ne (by decide)]; exact hT.2.1
    have e47 : ¬ T2 0 47 = 0 := by rw [ez 47 (by decide) (by decide) (by decide)]; exact hw
    have cc := cw_0 n42
    refine q_end (n := n + 1) h2 ?_ ?_
    · rw [wS_1 e47]
      unfold sI
      rw [cc.1, cc.2, cwB_eq n e42, cwO_eq n e42, ez 44 (by decide) (by decide) (by decide), a45, ez 19 (by decide) (by decide) (by decide), ez 46 (by decide) (by decide) (by decide)]
      refine ⟨a43, fun i hi => ?_, s44, by omega, by omega, fun hz => absurd hz (by decide)⟩
      rcases (by omega : i < n ∨ i = n) with hz | hz
      · rw [e42 i hz]; exact sW i hz
      · subst hz; exact Or.inl n42
    · rw [mS_1 e47, hm, a45, ez 46 (by decide) (by decide) (by decide)]; omega
-- 57.m
theorem r_217 {x : Nat} {z S0 S : Tr} (hx : x < 3) (h : rP x z S) {n : Nat} (hs : sI n 1 S) {x1 : Int32} (h1 : 3 ≤ x1.toInt ∧ x1.toInt ≤ 14) (hm : mS S0 = 20 * (64 - (S 0 46).toInt) + (S 0 45).toInt) : D (fJ_X8_signs_J217 x1 S) (sQ x z S0) := by
  have qb := q_bnd h hs
  obtain ⟨s43, sW, s44, s45, s19, s1⟩ := hs
  have b45 : 0 ≤ (S 0 45).toInt ∧ (S 0 45).toInt ≤ 8 := h.1 0 45
  unfold fJ_X8_signs_J217
  refine D_bd (r_isCounted hx h) (fun q _ hq => ?_)
  refine D_ite (fun _ => D_some ⟨hq.1, Or.inl rfl⟩) (fun c => ?_)
  have g := hq.2.resolve_left c
  have he := g.2.2.2
  refine D_bd (r_waitsFor hq.1 (n := n) (v := x1) (by rw [he 0 43 (by decide)]; exact s43) qb.1 (by omega)) (fun T _ hT => ?_)
  refine D_lt (fun T2 e2 => ?_)
  have h2 : rP x z T2 := by
    rw [e2]; refine rP_set (a := 0) hT.1 ?_ ?_ rfl rfl (fun _ => Or.inr (by decide)) <;> decide
  have e42 : ∀ i, i < n → T2 42 i = S 42 i := fun i hi => by rw [e2, st_oth (by decide), hT.2.2.2.1 i (by omega), he 42 i (by omega)]
  have n42 : T2 42 n = x1 := by rw [e2, st_oth (by decide)]; exact hT.2.2.1
  have ez : ∀ j, ¬ j = 43 → ¬ j = 46 → ¬ j = 47 → T2 0 j = S 0 j := fun j h1 h2 h3 => by
    rw [e2, st_ne h3, hT.2.2.2.2 j h1, he 0 j (fun hz => h2 hz.2)]
  have a46 : (T2 0 46).toInt = (S 0 46).toInt + 1 := by rw [e2, st_ne (by decide), hT.2.2.2.2 46 (by decide)]; exact g.2.2.1
  have a43 : (T2 0 43).toInt = (n + 1 : Nat) := by rw [e2, st_ne (by decide)]; exact hT.2.1
  have e47 : ¬ T2 0 47 = 0 := by rw [e2, st_same]; decide
  have cc := cw_3 (T := T2) (n := n) (fun hz => by rw [n42] at hz; rw [hz] at h1; exact absurd h1.1 (by decide)) (fun hz => by rw [n42] at hz; rw [hz] at h1; exact absurd h1.1 (by decide))
  have hJ : ∀ s0 : Int32, (s0 = 0 ∨ s0 = 1) → D (fJ_X8_signs_J250 s0 T2) (sQ x z S0) := fun s0 hs0 => by
    unfold fJ_X8_signs_J250
    refine D_ck (by rcases hs0 with e | e <;> subst e <;> decide) (D_lt (fun T3 e3 => ?_))
    have h3 : rP x z T3 := by
      rw [e3]; refine rP_set (a := 0) h2 ?_ ?_ rfl rfl (fun _ => Or.inr (by decide)) <;> rcases hs0 with e | e <;> subst e <;> decide
    have z3 : ∀ j, ¬ j = 48 → T3 0 j = T2 0 j := fun j hj => by rw [e3, st_ne hj]
    have a3 : ∀ j, T3 42 j = T2 42 j := fun j => by rw [e3, st_oth (by decide)]
    have f47 : ¬ T3 0 47 = 0 := by rw [z3 47 (by decide)]; exact e47
    refine q_end (n := n + 1) h3 ?_ ?_
    · rw [wS_1 f47]
      refine sI_eq (T := T2) ?_ (z3 43 (by decide)) (z3 44 (by decide)) (z3 45 (by decide)) (z3 19 (by decide)) (z3 46 (by decide)) a3
      unfold sI
      rw [cc.1, cc.2, cwB_eq n e42, cwO_eq n e42, ez 44 (by decide) (by decide) (by decide), ez 45 (by decide) (by decide) (by decide), ez 19 (by decide) (by decide) (by decide), a46]
      refine ⟨a43, fun i hi => ?_, by omega, s45, by omega, fun hz => absurd hz (by decide)⟩
      rcases (by omega : i < n ∨ i = n) with hz | hz
      · rw [e42 i hz]; exact sW i hz
      · subst hz; exact Or.inr (by rw [n42]; omega)
    · rw [mS_1 f47, hm, z3 46 (by decide), z3 45 (by decide), a46, ez 45 (by decide) (by decide) (by decide)]; omega
  refine D_bd (t_X8_rank x1) (fun r _ _ => D_ite (fun _ => hJ 0 (Or.inl rfl)) (fun _ => hJ 1 (Or.inr rfl)))
theorem r_175 {x : Nat} {z S : Tr} (hx : x < 3) (h : rP x z S) (hw : S 0 47 = 0) {n : Nat} (hs : sI n 1 S) {x1 s0 : Int32} (h1 : 3 ≤ x1.toInt ∧ x1.toInt ≤ 14) (h0 : 1 ≤ s0.toInt) : D (fJ_X8_signs_J175 x1 s0 S) (sQ x z S) := by
  unfold fJ_X8_signs_J175
  refine D_bd (r_bindS hx h0 h hs) (fun T _ hT => ?_)
  obtain ⟨hT1, hTj, m, hTs, _⟩ := hT
  have hJ : D (fJ_X8_signs_J217 x1 T) (sQ x z S) := r_217 hx hT1 hTs h1 (by rw [mS_0 hw, hTj 45 (by decide) (by decide), hTj 46 (by decide) (by decide)])
  have b43 : 0 ≤ (T 0 43).toInt ∧ (T 0 43).toInt ≤ 96 := hT1.1 0 43
  refine D_bd (t_X8_rank x1) (fun r _ _ => D_ite (fun _ => D_ite (fun _ => hJ) (fun c => ?_)) (fun _ => hJ))
  have k0 := tq_len (x := T 0 43) (y := (0 : Int32)) rfl (b := 0) (by decide) c
  have e1 : (T 0 43 - 1).toInt = (T 0 43).toInt - 1 := i_subK rfl (show (1 : Int32).toInt = 1 by decide) (by omega) (by omega)
  refine D_ck (okI_of (by omega) (by omega)) ?_
  exact D_bd (t_X8_rank _) (fun r _ _ => D_ite (fun _ => q_wrong hT1 1) (fun _ => hJ))
theorem r_147 {x : Nat} {z S : Tr} (hx : x < 3) (h : rP x z S) (hw : S 0 47 = 0) {n : Nat} (hs : sI n 1 S) {s0 : Int32} (h1 : s0 = 0 ∨ (3 ≤ s0.toInt ∧ s0.toInt ≤ 14)) : D (fJ_X8_signs_J147 s0 S) (sQ x z S) := by
  unfold fJ_X8_signs_J147
  refine D_ite (fun _ => q_wrong h 1) (fun c => ?_)
  have h2 := h1.resolve_left c
  refine D_bd (t2_rank s0) (fun r _ _ => D_ite (fun _ => r_175 hx h hw hs h2 (by decide)) (fun _ => ?_))
  exact D_bd (t2_rank s0) (fun r _ hr => r_175 hx h hw hs h2 (hr.2.2 (by omega)))
theorem r_47 {x : Nat} {z S : Tr} (hx : x < 3) (h : rP x z S) (hw : S 0 47 = 0) {n : Nat} (hs : sI n 1 S) : D (fJ_X8_signs_J47 S) (sQ x z S) := by
  have hL : ∀ s0 : Int32, (3 ≤ s0.toInt ∧ s0.toInt ≤ 14) → D (fJ_X8_signs_J147 s0 S) (sQ x z S) := fun s0 h1 => r_147 hx h hw hs (Or.inr h1)
  unfold fJ_X8_signs_J47
  refine D_bd (t_X8_isKey S 19 h.1) (fun r _ _ => D_ite (fun _ => ?_) (fun _ => hL 3 (by decide)))
  refine D_bd (t_X8_isKey S 20 h.1) (fun r _ _ => D_ite (fun _ => ?_) (fun _ => hL 4 (by decide)))
  refine D_ite (fun c5 => ?_) (fun _ => ?_)
  · have c' : (S 0 8).toInt = 5 := by rw [c5]; decide
    have k := h.2.2.2.1.2.2.2 c'
    have e : ((5 : Int32) + S 0 9).toInt = 5 + (S 0 9).toInt := i_addK (by decide) rfl (by omega) (by omega)
    exact hL _ (by omega)
  refine D_bd (t_X8_isSign S 43 h.1) (fun r _ _ => D_ite (fun _ => ?_) (fun _ => hL 11 (by decide)))
  refine D_bd (t_X8_isSign S 45 h.1) (fun r _ _ => D_ite (fun _ => ?_) (fun _ => hL 12 (by decide)))
  refine D_bd (t_X8_isSign S 42 h.1) (fun r _ _ => D_ite (fun _ => ?_) (fun _ => hL 13 (by decide)))
  exact D_bd (t_X8_isSign S 47 h.1) (fun r _ _ => D_ite (fun _ => r_147 hx h hw hs (Or.inl rfl)) (fun _ => hL 14 (by decide)))
theorem r_signs {x : Nat} {z S : Tr} (hx : x < 3) (h : rP x z S) (hw : S 0 47 = 0) {n : Nat} (hs : sI n 1 S) : D (f_X8_signs S) (sQ x z S) := by
  unfold f_X8_signs
  refine D_bd (t_X8_isSign S 41 h.1) (fun r _ _ => D_ite (fun _ => r_47 hx h hw hs) (fun _ => D_ite (fun _ => r_47 hx h hw hs) (fun c => ?_)))
  have k := tq_len (x := S 0 45) (y := (0 : Int32)) rfl (b := 0) (by decide) c
  have b45 : 0 ≤ (S 0 45).toInt ∧ (S 0 45).toInt ≤ 8 := h.1 0 45
  refine D_bd (r_bindS hx (by decide) h hs) (fun T _ hT => ?_)
  obtain ⟨hT1, hTj, m, hTs, hTm⟩ := hT
  obtain ⟨t43, tW, t44, t45, t19, t1⟩ := hTs
  have e45 : T 0 45 = S 0 45 := hTj 45 (by decide) (by decide)
  have e46 : T 0 46 = S 0 46 := hTj 46 (by decide) (by decide)
  have e47 : T 0 47 = 0 := (hTj 47 (by decide) (by decide)).trans hw
  rw [e45] at t45
  rcases hTm with hz | ⟨m', rfl, hz⟩
  · subst hz
    have : cwO T 0 = 0 := rfl
    omega
  · have z0 := hz rfl
    have cc := cw_0 z0
    have b43 : 0 ≤ (T 0 43).toInt ∧ (T 0 43).toInt ≤ 96 := hT1.1 0 43
    have f43 : (T 0 43 - 1).toInt = (T 0 43).toInt - 1 := i_subK rfl (show (1 : Int32).toInt = 1 by decide) (by omega) (by omega)
    have f45 : (S 0 45 - 1).toInt = (S 0 45).toInt - 1 := i_subK rfl (show (1 : Int32).toInt = 1 by decide) (by omega) (by omega)
    refine D_lt (fun S3 e3 => D_lt (fun S4 e4 => ?_))
    have h3 : rP x z S3 := by
      rw [e3]; refine rP_set (a := 0) hT1 ?_ ?_ rfl rfl (fun _ => Or.inr (by decide))
      · show (0 : Int) ≤ _; omega
      · show _ ≤ (96 : Int); omega
    have g45 : S3 0 45 = S 0 45 := by rw [e3, st_ne (by decide), e45]
    rw [g45] at e4
    have h4 : rP x z S4 := by
      rw [e4]; refine rP_set (a := 0) h3 ?_ ?_ rfl rfl (fun _ => Or.inr (by decide))
      · show (0 : Int) ≤ _; omega
      · show _ ≤ (8 : Int); omega
    have ez : ∀ j, ¬ j = 43 → ¬ j = 45 → S4 0 j = T 0 j := fun j h1 h2 => by rw [e4, st_ne h2, e3, st_ne h1]
    have a42 : ∀ j, S4 42 j = T 42 j := fun j => by rw [e4, st_oth (by decide), e3, st_oth (by decide)]
    have a45 : (S4 0 45).toInt = (S 0 45).toInt - 1 := by rw [e4, st_same]; exact f45
    have a43 : (S4 0 43).toInt = (T 0 43).toInt - 1 := by rw [e4, st_ne (by decide), e3, st_same]; exact f43
    have f47 : S4 0 47 = 0 := (ez 47 (by decide) (by decide)).trans e47
    refine q_end (n := m') h4 ?_ ?_
    · rw [wS_0 f47]
      unfold sI
      rw [cwB_eq m' (fun i _ => a42 i), cwO_eq m' (fun i _ => a42 i), a43, a45, ez 44 (by decide) (by decide), ez 19 (by decide) (by decide), ez 46 (by decide) (by decide)]
      exact ⟨by omega, fun i hi => by rw [a42]; exact tW i (by omega), by omega, by omega, by omega, t1⟩
    · rw [mS_0 f47, mS_0 hw, a45, ez 46 (by decide) (by decide), e46]; omega
/-- a sum has been read -/
def sE (x : Nat) (z : Tr) (q : Int32 × Tr) : Prop := rP x z q.2 ∧ (q.1 = 0 ∨ (q.1 = 1 ∧ q.2 0 19 = q.2 0 46 ∧ 1 ≤ (q.2 0 19).toInt))
theorem r_L25 {x : Nat} {z : Tr} (hx : x < 3) (N : Nat) : ∀ S : Tr, rP x z S → sJ S → mS S < (N : Int) → D (lpF (fun _ => none) fB_X8_sumRead_L25 N S) (sE x z) := by
  induction N with
  | zero =>
    intro S h _ hn
    have b45 : 0 ≤ (S 0 45).toInt ∧ (S 0 45).toInt ≤ 8 := h.1 0 45
    have b46 : 0 ≤ (S 0 46).toInt ∧ (S 0 46).toInt ≤ 64 := h.1 0 46
    exfalso
    by_cases hw : S 0 47 = 0
    · rw [mS_0 hw] at hn; omega
    · rw [mS_1 hw] at hn; omega
  | succ N ih =>
    intro S h hJ hn
    show D (fB_X8_sumRead_L25 (lpF (fun _ => none) fB_X8_sumRead_L25 N) S) _
    generalize lpF (fun _ => none) fB_X8_sumRead_L25 N = k at ih ⊢
    obtain ⟨n, hs⟩ := hJ
    have hN : ∀ q : Int32 × Tr, sQ x z S q → ¬ q.1 = 0 → D (k q.2) (sE x z) := fun q hq hc => by
      have g := hq.2.resolve_left hc
      exact ih q.2 hq.1 g.2.1 (by have := g.2.2; omega)
    have h48 : D (fJ_X8_sumRead_J48 k S) (sE x z) := by
      unfold fJ_X8_sumRead_J48
      refine D_ite (fun hw => ?_) (fun hw => ?_)
      · rw [wS_0 hw] at hs
        exact D_bd (r_signs hx h hw hs) (fun q _ hq => D_ite (fun _ => D_some ⟨hq.1, Or.inl rfl⟩) (fun c => hN q hq c))
      · rw [wS_1 hw] at hs
        exact D_bd (r_leafRead hx h hw hs) (fun q _ hq => D_ite (fun _ => D_some ⟨hq.1, Or.inl rfl⟩) (fun c => hN q hq c))
    unfold fB_X8_sumRead_L25
    refine D_bd (t_X8_isSign S 59 h.1) (fun r _ _ => D_ite (fun _ => h48) (fun _ => D_ite (fun hw => D_ite (fun c => ?_) (fun _ => h48)) (fun _ => h48)))
    rw [wS_0 hw] at hs
    have k0 := tq_le (x := S 0 45) (y := (0 : Int32)) rfl (b := 0) (by decide) c
    unfold fJ_X8_sumRead_J74
    refine D_bd (r_bindS hx (by decide) h hs) (fun T _ hT => ?_)
    obtain ⟨hT1, hTj, m, hTs, hTm⟩ := hT
    obtain ⟨t43, tW, t44, t45, t19, t1⟩ := hTs
    rw [hTj 45 (by decide) (by decide)] at t45
    have hm0 : m = 0 := by
      rcases hTm with hz | ⟨m', rfl, hz⟩
      · exact hz
      · exfalso
        have cc := cw_0 (hz rfl)
        have cb := cw_b T m'
        omega
    subst hm0
    have c0 : cwO T 0 = 0 := rfl
    refine D_some ⟨hT1, Or.inr ⟨rfl, Int32.toInt_inj.mp ?_, t1 rfl⟩⟩
    show (T 0 19).toInt = (T 0 46).toInt
    omega
theorem r_sumRead {x : Nat} {z S : Tr} (hx : x < 3) (h : rP x z S) (he : S 0 19 = S 0 46) : D (f_X8_sumRead S) (sE x z) := by
  unfold f_X8_sumRead
  refine D_lt (fun S1 e1 => D_lt (fun S2 e2 => D_lt (fun S3 e3 => D_lt (fun S4 e4 => D_lt (fun S5 e5 => ?_)))))
  have h1 : rP x z S1 := by
    rw [e1]; refine rP_set (a := 0) h ?_ ?_ rfl rfl (fun _ => Or.inr (by decide)) <;> decide
  have h2 : rP x z S2 := by
    rw [e2]; refine rP_set (a := 0) h1 ?_ ?_ rfl rfl (fun _ => Or.inr (by decide)) <;> decide
  have h3 : rP x z S3 := by
    rw [e3]; refine rP_set (a := 0) h2 ?_ ?_ rfl rfl (fun _ => Or.inr (by decide)) <;> decide
  have h4 : rP x z S4 := by
    rw [e4]; refine rP_set (a := 0) h3 ?_ ?_ rfl rfl (fun _ => Or.inr (by decide)) <;> decide
  have h5 : rP x z S5 := by
    rw [e5]; refine rP_set (a := 0) h4 ?_ ?_ rfl rfl (fun _ => Or.inr (by decide)) <;> decide
  have ez : ∀ j, ¬ j = 43 → ¬ j = 44 → ¬ j = 45 → ¬ j = 47 → ¬ j = 48 → S5 0 j = S 0 j := fun j n1 n2 n3 n4 n5 => by
    rw [e5, st_ne n5, e4, st_ne n4, e3, st_ne n3, e2, st_ne n2, e1, st_ne n1]
  have e43 : S5 0 43 = 0 := by rw [e5, st_ne (by decide), e4, st_ne (by decide), e3, st_ne (by decide), e2, st_ne (by decide), e1, st_same]
  have e44 : S5 0 44 = 0 := by rw [e5, st_ne (by decide), e4, st_ne (by decide), e3, st_ne (by decide), e2, st_same]
  have e45 : S5 0 45 = 0 := by rw [e5, st_ne (by decide), e4, st_ne (by decide), e3, st_same]
  have e47 : ¬ S5 0 47 = 0 := by rw [e5, st_ne (by decide), e4, st_same]; decide
  have l0 : (0 : Int32).toInt = 0 := by decide
  have b46 : 0 ≤ (S5 0 46).toInt ∧ (S5 0 46).toInt ≤ 64 := h5.1 0 46
  refine r_L25 hx 2000 S5 h5 ⟨0, ?_⟩ ?_
  · rw [wS_1 e47]
    unfold sI
    have c0 : cwO S5 0 = 0 := rfl
    have c1 : cwB S5 0 = 0 := rfl
    rw [c0, c1, e43, e44, e45, ez 19 (by decide) (by decide) (by decide) (by decide) (by decide), ez 46 (by decide) (by decide) (by decide) (by decide) (by decide), he]
    exact ⟨l0, fun i hi => absurd hi (by omega), l0, l0, by omega, fun hz => absurd hz (by decide)⟩
  · rw [mS_1 e47, e45, l0]; omega
