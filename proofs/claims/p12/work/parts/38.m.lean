/-! remember -/
theorem BM_put {S : Tr} {A o : Nat} (hS : iR BM S) (hA : A = 84 ∨ A = 86) (ho : o % 61 = 0) : iR BM (putM S A o) := by
  have hu : ∀ j, BM A j = uB (j % 61) := fun j => by rcases hA with e | e <;> subst e <;> rfl
  intro a j
  by_cases h : a = A ∧ o ≤ j ∧ j < o + 61
  · obtain ⟨e, h1, h2⟩ := h
    subst e
    obtain ⟨t, ht⟩ : ∃ t, j = o + t := ⟨j - o, by omega⟩
    subst ht
    rw [hu]
    by_cases t1 : t < 50
    · rw [put_s t1, uB_s (by omega)]; exact BM55 hS t
    · by_cases t2 : t < 55
      · have := put_m (z := S) (A := a) (o := o) (j := t - 50) (by omega) (by omega)
        rw [show o + 50 + (t - 50) = o + t by omega] at this
        rw [this, uB_m (by omega) (by omega)]; exact BM56 hS _
      · rw [uB_a (by omega) (by omega)]; exact full_at _
  · rw [put_o h]; exact hS a j
theorem row_b {S : Tr} {A o : Nat} (hS : iR BM S) (hA : A = 84 ∨ A = 86) (ho : o % 61 = 0) {p : Nat} (hp : p < 5) : mnR S A o p ≤ 10 := by
  have hu : BM A (o + 50 + p) = uB ((o + 50 + p) % 61) := by rcases hA with e | e <;> subst e <;> rfl
  have h := hS A (o + 50 + p)
  rw [hu, uB_m (by omega) (by omega)] at h
  exact h.2
theorem rem_core (S : Tr) (hS : iR BM S) (hg : gI 0 S) (hu : uI S) (h19 : (S 0 82).toInt ≤ 19) : D (fJ_X8_remember_J49 S) (fun q => iR BM q ∧ uI q ∧ (∀ a j, a ≠ 84 → ¬ (a = 0 ∧ j = 82) → q a j = S a j)) := by
  have b : (0 : Int) ≤ (S 0 82).toInt ∧ (S 0 82).toInt ≤ 20 := hS 0 82
  have e1 := i_mulL (a := (61 : Int32)) (b := S 0 82) 61 (by decide) (by omega) (by omega)
  obtain ⟨u, hu1⟩ : ∃ u : Nat, (S 0 82).toInt = u := ⟨(S 0 82).toInt.toNat, by omega⟩
  have eo : ((61 : Int32) * (S 0 82)).toNatClampNeg = 61 * u := by rw [i_cl]; omega
  unfold fJ_X8_remember_J49
  refine D_bd (t_X8_put_84 S ((61 : Int32) * (S 0 82)) ⟨by omega, by omega⟩) (fun S2 _ h2 => ?_)
  rw [eo] at h2
  refine D_lt (fun S5 e5 => ?_)
  have h82 : S2 0 82 = S 0 82 := by rw [h2, put_o (by omega)]
  have f1 : (S2 0 82 + 1).toInt = (S 0 82).toInt + 1 := by rw [h82]; exact i_addK rfl (by decide) (by omega) (by omega)
  have hB2 : iR BM S2 := by rw [h2]; exact BM_put hS (Or.inl rfl) (by omega)
  have fr : ∀ a j, ¬ (a = 84 ∧ 61 * u ≤ j ∧ j < 61 * u + 61) → ¬ (a = 0 ∧ j = 82) → S5 a j = S a j := fun a j q1 q2 => by
    rw [e5]
    rcases st_or (S := S2) (a := 0) (i := 82) (b := a) (j := j) (v := S2 0 82 + 1) with w | w
    · rw [w, h2, put_o q1]
    · exact absurd w q2
  have f84 : ∀ j, S5 84 j = S2 84 j := fun j => by rw [e5, st_oth (by decide)]
  have n82 : (S5 0 82).toInt = u + 1 := by rw [e5, st_same, f1, hu1]
  refine D_some ⟨?_, fun r hr => ?_, fun a j q1 q2 => fr a j (fun z => q1 z.1) q2⟩
  · rw [e5]
    exact iR_set hB2 (show (0 : Int) ≤ _ by omega) (show _ ≤ (20 : Int) by omega)
  · rw [n82] at hr
    by_cases q : r = u
    · subst q
      refine row_put hS hg (fun j hj => ?_) (fun j hj => ?_) (fun j hj => ?_) (fr 0 13 (by omega) (by omega)) (fr 0 14 (by omega) (by omega)) (fun i hi => fr 53 i (by omega) (by omega))
      · rw [f84, h2, put_s hj]
      · rw [f84, h2, put_m (by decide) hj]
      · rw [f84, h2, put_a (by decide) hj]
    · refine row_eq (hu r (by omega)) (fun p hp => row_b hS (Or.inl rfl) (by omega) hp) (fun j hj => fr 84 _ (by omega) (by omega)) (fr 0 13 (by omega) (by omega)) (fr 0 14 (by omega) (by omega)) (fun i hi => fr 53 i (by omega) (by omega))
theorem dwn_o {z : Tr} {n a j : Nat} (h : ¬ (a = 84 ∧ j < n)) : dwn z n a j = z a j := by unfold dwn; rw [if_neg h]
theorem dwn_i {z : Tr} {n j : Nat} (h : j < n) : dwn z n 84 j = z 84 (j + 61) := by unfold dwn; rw [if_pos ⟨rfl, h⟩]
theorem t_X8_remember (S : Tr) (hS : iR BM S) (hg : gI 0 S) (hu : uI S) : D (f_X8_remember S) (fun q => iR BM q ∧ uI q ∧ (∀ a j, a ≠ 84 → ¬ (a = 0 ∧ j = 82) → q a j = S a j)) := by
  have b : (0 : Int) ≤ (S 0 82).toInt ∧ (S 0 82).toInt ≤ 20 := hS 0 82
  unfold f_X8_remember
  refine D_ite (fun c => ?_) (fun c => ?_)
  · have k := tq_eq (b := 20) rfl (by decide) c
    unfold fL_X8_remember_L11
    have last : D (fJ_X8_remember_J39 (dwn S 1159)) (fun q => iR BM q ∧ uI q ∧ (∀ a j, a ≠ 84 → ¬ (a = 0 ∧ j = 82) → q a j = S a j)) := by
      unfold fJ_X8_remember_J39
      refine D_lt (fun w ew => ?_)
      rw [dwn_o (by omega)] at ew
      have hd : iR BM (dwn S 1159) := fun a j => by
        by_cases q : a = 84 ∧ j < 1159
        · obtain ⟨q1, q2⟩ := q
          subst q1
          rw [dwn_i q2]
          have h := hS 84 (j + 61)
          have e1 : BM 84 (j + 61) = uB ((j + 61) % 61) := rfl
          have e2 : BM 84 j = uB (j % 61) := rfl
          rw [e1, show (j + 61) % 61 = j % 61 by omega] at h
          rw [e2]
          exact h
        · rw [dwn_o q]; exact hS a j
      have f1 : (S 0 82 - 1).toInt = 19 := by rw [c]; decide
      have hw : iR BM w := by rw [ew]; exact iR_set hd (show (0 : Int) ≤ _ by omega) (show _ ≤ (20 : Int) by omega)
      have fr : ∀ a j, ¬ (a = 84 ∧ j < 1159) → ¬ (a = 0 ∧ j = 82) → w a j = S a j := fun a j q1 q2 => by
        rw [ew]
        rcases st_or (S := dwn S 1159) (a := 0) (i := 82) (b := a) (j := j) (v := S 0 82 - 1) with z | z
        · rw [z, dwn_o q1]
        · exact absurd z q2
      have n82 : (w 0 82).toInt = 19 := by rw [ew, st_same]; exact f1
      have f84 : ∀ j, j < 1159 → w 84 j = S 84 (j + 61) := fun j hj => by rw [ew, st_oth (by decide), dwn_i hj]
      have hgw : gI 0 w := gI_fr hg (fun j => fr 53 j (by omega) (by omega)) (fun j => fr 54 j (by omega) (by omega)) (fun j => fr 55 j (by omega) (by omega)) (fun j => fr 56 j (by omega) (by omega)) (fun j => fr 58 j (by omega) (by omega)) (fr 0 13 (by omega) (by omega)) (fr 0 14 (by omega) (by omega))
      have huw : uI w := fun r hr => by
        rw [n82] at hr
        refine row_eq (hu (r + 1) (by omega)) (fun p hp => row_b hS (Or.inl rfl) (by omega) hp) (fun j hj => ?_) (fr 0 13 (by omega) (by omega)) (fr 0 14 (by omega) (by omega)) (fun i hi => fr 53 i (by omega) (by omega))
        rw [f84 _ (by omega), show 61 * r + j + 61 = 61 * (r + 1) + j by omega]
      refine D_mono (rem_core w hw hgw huw (by omega)) (fun q hq => ⟨hq.1, hq.2.1, fun a j q1 q2 => (hq.2.2 a j q1 q2).trans (fr a j (fun z => q1 z.1) q2)⟩)
    have go : ∀ (n : Nat) (x1 : Int32) (T : Tr), 0 ≤ x1.toInt → x1.toInt ≤ 1159 → T = dwn S x1.toNatClampNeg → 1160 - x1.toInt < (n : Int) → D (lpF (fun _ _ => none) fB_X8_remember_L11 n x1 T) (fun q => iR BM q ∧ uI q ∧ (∀ a j, a ≠ 84 → ¬ (a = 0 ∧ j = 82) → q a j = S a j)) := by
      intro n
      induction n with
      | zero => intro x1 T a1 a2 a3 a4; exfalso; omega
      | succ n ih =>
        intro x1 T a1 a2 a3 a4
        show D (fB_X8_remember_L11 (lpF (fun _ _ => none) fB_X8_remember_L11 n) x1 T) _
        generalize lpF (fun _ _ => none) fB_X8_remember_L11 n = kk at ih ⊢
        unfold fB_X8_remember_L11
        refine D_ite (fun c => ?_) (fun c => ?_)
        · have k := tq_le (a := 1159) (by decide) rfl c
          have e : x1.toNatClampNeg = 1159 := by rw [i_cl]; omega
          rw [a3, e]
          exact last
        · have k := tq_len (a := 1159) (by decide) rfl c
          have f : (x1 + 61).toInt = x1.toInt + 61 := i_addK rfl (by decide) (by omega) (by omega)
          refine D_ck (okI_of (by omega) (by omega)) ?_
          refine D_ck (okI_of (by omega) (by omega)) ?_
          refine D_lt (fun S1 e1 => ?_)
          refine D_lt (fun y ey => ?_)
          have h1 : (x1 + 1).toInt = x1.toInt + 1 := i_addK rfl (by decide) (by omega) (by omega)
          exact ih y S1 (by rw [ey]; omega) (by rw [ey]; omega) (by rw [ey]; exact dwn_b a3 e1 rfl (by simp only [i_cl]; omega) (by simp only [i_cl]; omega)) (by rw [ey]; omega)
    exact go 2000 0 S (by decide) (by decide) dwn_0.symm (by decide)
  · have k := tq_eqn (b := 20) rfl (by decide) c
    exact rem_core S hS hg hu (by omega)
