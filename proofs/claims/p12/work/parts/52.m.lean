theorem r_isOnce {x : Nat} {z S : Tr} (h : rP x z S) {x1 : Int32} (hx : 0 ≤ x1.toInt ∧ x1.toInt ≤ 2) : D (f_X8_isOnce S x1) (lP x z) := by
  unfold f_X8_isOnce
  refine D_ck (okI_of (by omega) (by omega)) (D_ite (fun c0 => ?_) (fun _ => l_wrong h 3))
  refine D_lt (fun S3 e3 => ?_)
  have h3 := rP_22 h (i := x1.toNatClampNeg) (by simp only [i_cl]; omega) (v := vp_nar .boolean 1) (by decide) c0
  rw [← e3] at h3
  exact D_bd (r_token h3.1) (fun S4 _ h4 => D_some ⟨Or.inr ⟨rfl, by rw [mu_K h4.2]; exact h3.2⟩, h4.1⟩)
