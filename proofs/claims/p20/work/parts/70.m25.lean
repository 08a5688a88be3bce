theorem wT_S0M : wT S0M := fun j hj => (show ∀ j, j < 153 → S0M 4 j = wr j by decide +kernel) j hj
theorem I_keep {S : Tr} (L : Lo) (hi : iR BM S) (hq : aP S0M S) (h2 : S 0 16 = 0 ∧ S 0 17 = 0 ∧ S 0 18 = 0 ∧ S 0 19 = 0 ∧ S 0 46 = 0 ∧ (∀ w : Nat, w < 3 → S 36 (3 + w) = 0) ∧ (∀ j, j < 16 → S 0 j = S0M 0 j) ∧ (∀ a, ¬ a = 0 → ¬ a = 34 → ¬ a = 35 → ¬ a = 22 → ¬ a = 23 → ¬ a = 36 → S a = S0M a)) : D (f_X8_keepText S L) (fun q => jX q.1 ∧ q.1 0 1 = 0 ∧ wT q.1) := by
  obtain ⟨y16, y17, y18, y19, y46, y36, y0, yo⟩ := h2
  have l0 : (0 : Int32).toInt = 0 := by decide
  have o : ∀ a, ¬ a = 0 → ¬ a = 4 → ¬ a = 34 → ¬ a = 35 → ¬ a = 22 → ¬ a = 23 → ¬ a = 36 → ∀ j, S a j = 0 := fun a g0 g4 g1 g2 g3 g5 g6 j => by rw [yo a g0 g1 g2 g3 g5 g6]; exact z_S0M g4 g0 j
  have hw : wK S := wK_S (fun j => by rw [yo 4 (by decide) (by decide) (by decide) (by decide) (by decide) (by decide)]) wK_S0M
  have e8 : S 0 8 = 0 := y0 8 (by decide)
  have e7 : S 0 7 = 0 := y0 7 (by decide)
  have e6 : S 0 6 = 0 := y0 6 (by decide)
  have e1 : S 0 1 = 0 := y0 1 (by decide)
  have hz : zI S := fun k _ => by rw [o 81 (by decide) (by decide) (by decide) (by decide) (by decide) (by decide) (by decide)]; decide
  have r : rP 3 S S := by
    refine ⟨hi, aP_rfl, hw, ⟨?_, fun hq => ?_, fun hq => ?_, fun hq => ?_⟩, ⟨fun i _ hl => ?_, fun p _ hl => ?_, fun k => Or.inl (o 39 (by decide) (by decide) (by decide) (by decide) (by decide) (by decide) (by decide) k), fun w hw _ hl => absurd (y36 w hw) hl, fun _ => by rw [y19, y46]⟩, Int.le_refl _⟩
    · rw [e7, e6]; exact Int.le_refl _
    · rw [e8] at hq; exact absurd hq (by decide)
    · rw [e8] at hq; exact absurd hq (by decide)
    · rw [e8] at hq; exact absurd hq (by decide)
    · rw [y18, l0] at hl; omega
    · rw [y17, l0] at hl; omega
  exact D_mono (r_keepText L hz r) (fun q hq => ⟨⟨hq.1, wK_S hq.2.1 hw⟩, by rw [hq.2.2]; exact e1, fun j hj => by rw [hq.2.1 j, yo 4 (by decide) (by decide) (by decide) (by decide) (by decide) (by decide)]; exact wT_S0M j hj⟩)
