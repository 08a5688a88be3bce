theorem rP_full {z T : Tr} (h : rP z T) {a i : Nat} (v : Int32) (hb : BM a i = (-2147483648, 2147483647)) (hw : Wp a i = true) (hc : Hc a i = false) (h0 : a = 0 → i < 6 ∨ 9 < i) : rP z (st T a i v) := by
  have r := i_rng v
  refine rP_set h ?_ ?_ hw hc h0
  · rw [hb]; exact r.1
  · rw [hb]; show v.toInt ≤ 2147483647; omega
theorem r_waitLine {z S : Tr} (h : rP z S) : D (f_X8_waitLine S) (lP z) := by
  have b20 : 0 ≤ (S 0 20).toInt ∧ (S 0 20).toInt ≤ 10 := h.1 0 20
  unfold f_X8_waitLine
  refine D_ite (fun _ => r_wrong h 2) (fun c => ?_)
  have c20 : ¬ (S 0 20).toInt = 10 := fun hz => c (Int32.toInt_inj.mp (hz.trans (by decide)))
  refine D_bd (r_token h) (fun S2 _ h2 => ?_)
  refine D_bd (r_number h2.1 0 19) (fun q _ hq => ?_)
  refine D_ite (fun _ => D_some ⟨Or.inl rfl, hq.2.1⟩) (fun c1 => ?_)
  have h11 := hq.1.resolve_left c1
  have l0 : (0 : Int32).toInt = 0 := by decide
  have l19 : (19 : Int32).toInt = 19 := by decide
  rw [l0, l19] at h11
  refine D_lt (fun y ey => ?_)
  have hy : 0 ≤ y.toInt ∧ y.toInt ≤ 19 := by rw [ey]; exact h11.2
  refine D_ck (okI_of (by omega) (by omega)) (D_ite (fun _ => ?_) (fun _ => ?_))
  · refine D_lt (fun S14 e14 => ?_)
    have h14 : rP z S14 := by rw [e14]; exact rP_full hq.2.1 _ rfl rfl rfl (fun hz => absurd hz (by decide))
    refine D_bd (r_number h14 0 999) (fun q1 _ hq1 => ?_)
    refine D_ite (fun _ => D_some ⟨Or.inl rfl, hq1.2.1⟩) (fun _ => ?_)
    have e21 : ((21 : Int32) + y).toInt = 21 + y.toInt := i_addK (by decide) rfl (by omega) (by omega)
    refine D_ck (okI_of (by omega) (by omega)) (D_lt (fun S21 e => ?_))
    have h21 : rP z S21 := by rw [e]; exact rP_full hq1.2.1 _ rfl (Wp_34 (by simp only [i_cl]; omega)) rfl (fun hz => absurd hz (by decide))
    have ee : S21 0 20 = S 0 20 := by
      rw [e, st_oth (by decide), hq1.2.2 0 20 rfl, e14, st_oth (by decide), hq.2.2 0 20 rfl, h2.2 0 20 rfl]
    have e1 : (S21 0 20 + 1).toInt = (S 0 20).toInt + 1 := by
      rw [ee]; exact i_addK rfl (show (1 : Int32).toInt = 1 by decide) (by omega) (by omega)
    refine D_some ⟨Or.inr rfl, rP_set h21 ?_ ?_ rfl rfl (fun _ => Or.inr (by decide))⟩
    · show (0 : Int) ≤ _; omega
    · show _ ≤ (10 : Int); omega
  · refine D_lt (fun S23 e => ?_)
    have h23 : rP z S23 := by rw [e]; exact rP_full hq.2.1 _ rfl rfl rfl (fun _ => Or.inr (by decide))
    exact r_wrong h23 3
