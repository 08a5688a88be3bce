theorem r_placeLine {x : Nat} {z S : Tr} (h : rP x z S) : D (f_X8_placeLine S) (lP x z) := by
  have b16 : 0 ≤ (S 0 16).toInt ∧ (S 0 16).toInt ≤ 5 := h.1 0 16
  unfold f_X8_placeLine
  refine D_ite (fun _ => l_wrong h 2) (fun c => ?_)
  have c16 : ¬ (S 0 16).toInt = 5 := fun hz => c (Int32.toInt_inj.mp (hz.trans (by decide)))
  refine D_bd (r_token h) (fun S2 _ h2 => ?_)
  have hJ : D (fJ_X8_placeLine_J44 S2) (lP x z) := l_wrong h2.1 1
  have e16 : S2 0 16 = S 0 16 := h2.2 0 16 rfl
  refine D_ite (fun _ => D_ite (fun _ => hJ) (fun _ => D_ite (fun _ => ?_) (fun _ => hJ))) (fun _ => hJ)
  have i5 : ∀ v : Int32, v = S 0 16 → ((5 : Int32) + v).toInt = 5 + (S 0 16).toInt := fun v hv => by
    rw [hv]; exact i_addK (by decide) rfl (by omega) (by omega)
  have i2 := i5 _ e16
  refine D_ck (okI_of (by omega) (by omega)) (D_lt (fun S14 e14 => ?_))
  have h14 : rP x z S14 := by rw [e14]; exact rP_full h2.1 _ rfl (Wp_24 (by simp only [i_cl]; omega)) rfl (fun hz => absurd hz (by decide))
  refine D_bd (r_token h14) (fun S15 _ h15 => ?_)
  refine D_bd (r_number h15.1 0 999) (fun q _ hq => ?_)
  refine D_ite (fun _ => D_some ⟨Or.inl rfl, hq.2.1⟩) (fun _ => ?_)
  have e19 : q.2 0 16 = S 0 16 := by rw [hq.2.2 0 16 rfl, h15.2 0 16 rfl, e14, st_oth (by decide), e16]
  have i3 := i5 _ e19
  refine D_ck (okI_of (by omega) (by omega)) (D_lt (fun S24 e24 => ?_))
  have h24 : rP x z S24 := by rw [e24]; exact rP_full hq.2.1 _ rfl (Wp_25 (by simp only [i_cl]; omega)) rfl (fun hz => absurd hz (by decide))
  have ee : S24 0 16 = S 0 16 := by rw [e24, st_oth (by decide), e19]
  have hE := rP_16 h24 (by rw [ee]; omega)
  exact D_some ⟨Or.inr ⟨rfl, hE.2⟩, hE.1⟩
