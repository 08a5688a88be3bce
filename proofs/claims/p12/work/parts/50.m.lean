theorem r_waitLine {x : Nat} {z S : Tr} (h : rP x z S) : D (f_X8_waitLine S) (lP x z) := by
  have b20 : 0 ≤ (S 0 20).toInt ∧ (S 0 20).toInt ≤ 10 := h.1 0 20
  unfold f_X8_waitLine
  refine D_ite (fun _ => l_wrong h 2) (fun c => ?_)
  have c20 : ¬ (S 0 20).toInt = 10 := fun hz => c (Int32.toInt_inj.mp (hz.trans (by decide)))
  refine D_bd (r_token h) (fun S2 _ h2 => ?_)
  refine D_bd (r_number h2.1 0 19) (fun q _ hq => ?_)
  refine D_ite (fun _ => D_some ⟨Or.inl rfl, hq.2.1⟩) (fun c1 => ?_)
  have h11 := hq.1.resolve_left c1
  have l0 : (0 : Int32).toInt = 0 := by decide
  have l19 : (19 : Int32).toInt = 19 := by decide
  rw [l0, l19] at h11
  refine D_lt (fun y ey => ?_)
  have hy : 0 ≤ y.toInt ∧ y.toInt ≤ 19 := by rw [ey]; exact h11.2
  refine D_ck (okI_of (by omega) (by omega)) (D_ite (fun _ => ?_) (fun _ => ?_))
  · refine D_lt (fun S14 e14 => ?_)
    have h14 : rP x z S14 := by rw [e14]; exact rP_full hq.2.1 _ rfl rfl rfl (fun hz => absurd hz (by decide))
    refine D_bd (r_number h14 0 999) (fun q1 _ hq1 => ?_)
    refine D_ite (fun _ => D_some ⟨Or.inl rfl, hq1.2.1⟩) (fun _ => ?_)
    have e21 : ((21 : Int32) + y).toInt = 21 + y.toInt := i_addK (by decide) rfl (by omega) (by omega)
    refine D_ck (okI_of (by omega) (by omega)) (D_lt (fun S21 e => ?_))
    have h21 : rP x z S21 := by rw [e]; exact rP_full hq1.2.1 _ rfl (Wp_34 (by simp only [i_cl]; omega)) rfl (fun hz => absurd hz (by decide))
    have ee : S21 0 20 = S 0 20 := by
      rw [e, st_oth (by decide), hq1.2.2 0 20 rfl, e14, st_oth (by decide), hq.2.2 0 20 rfl, h2.2 0 20 rfl]
    have hE := rP_20 h21 (by rw [ee]; omega)
    exact D_some ⟨Or.inr ⟨rfl, hE.2⟩, hE.1⟩
  · refine D_lt (fun S23 e => ?_)
    have h23 : rP x z S23 := by rw [e]; exact rP_full hq.2.1 _ rfl rfl rfl (fun _ => Or.inr (by decide))
    exact l_wrong h23 3
