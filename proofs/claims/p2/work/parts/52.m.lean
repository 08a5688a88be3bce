theorem r_isOnce {z S : Tr} (h : rP z S) {x1 : Int32} (hx : 0 ≤ x1.toInt ∧ x1.toInt ≤ 2) : D (f_X8_isOnce S x1) (lP z) := by
  unfold f_X8_isOnce
  refine D_ck (okI_of (by omega) (by omega)) (D_ite (fun _ => ?_) (fun _ => r_wrong h 3))
  refine D_lt (fun S3 e3 => ?_)
  have h3 : rP z S3 := by rw [e3]; exact rP_full h _ rfl rfl rfl (fun hz => absurd hz (by decide))
  exact D_bd (r_token h3) (fun S4 _ h4 => D_some ⟨Or.inr rfl, h4.1⟩)
