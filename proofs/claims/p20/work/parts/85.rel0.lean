theorem REL8_0 {pa : Nat → Nat} {qa : Nat → Nat} {X : Tr} {K : Tr} {R : Tr} {P : Tr} {L : Lo} {P2 : Tr} {L2 : Lo} {Tn : Tr} {Ti : Tr} {Tu : Tr} {Tv : Tr} {C : Tr} {Z : Tr} {q0 : Nat} {q1 : Nat} {q2 : Nat} {q3 : Nat} {q4 : Nat} {q5 : Nat} {S : Tr} {LM : Lo} (hok : xOK pa qa X K R P P2 Tn Ti Tu Tv C Z q0 q1 q4 q5) (h : (K 0 0 = 0 ∧ wC K) ∧ R = R0Z ∧ X = T0Z ∧ C = T0Z ∧ Z = Z0Z ∧ f_X2_clear T0Z = some P ∧ ∃ T1 q9, f_X6_begin pa T0Z P 0 = some (T1, q9) ∧ Tn = st (st (st T1 0 5 0) 0 6 1) 0 7 1) (hj : jX S) (hS0 : S 0 1 = 0) (hSw : wT S) (hKT : ∃ S1, f_X8_plain S0M = some S1 ∧ f_X8_keepText S1 L0M = some (S, LM)) : REL8 X K R P L P2 L2 Tn Ti Tu Tv C Z q0 q1 q2 q3 q4 q5 S LM := by
  obtain ⟨S1, k1, k2⟩ := hKT
  have a := (e_plain S0M _ k1).2.2.2
  have b : fk S1 S := fz_X8_keepText S1 L0M fk_r _ k2
  have kz := k_kz S1 L0M _ k2
  have kz84 : S 0 84 = 0 := kz.2.2.2
  have s0 : S 62 0 = 0 := k_k62 S1 L0M _ k2
  have x4 : X 0 4 = 0 := by rw [h.2.2.1]; rfl
  obtain ⟨T1, q9, b1, b2⟩ := h.2.2.2.2.2.2
  have t0 : Tn 0 0 = 0 := by rw [b2, st_ne (by decide), st_ne (by decide), st_ne (by decide)]; exact e_bgn pa T0Z P 0 _ b1
  refine ⟨⟨⟨h.1.1.trans hS0.symm, fun j hj => by rw [h.1.1, show (0 : Int32).toInt = 0 by decide] at hj; omega⟩, h.1.2, hSw⟩, ?_, nm_0 h.2.2.2.2.2.1 k1 k2, by rw [h.2.2.2.2.1]; exact zR_0 rfl rfl kz, t0.trans s0.symm, ⟨fun _ => kz84, fun _ => x4⟩, fun g => absurd x4 g⟩
  rw [h.2.1]
  exact ⟨by rw [b.1, a 0 4 (by omega)]; decide, by rw [b.2, a 0 5 (by omega)]; decide⟩
theorem REL_0 {pa : Nat → Nat} {qa : Nat → Nat} {X : Tr} {K : Tr} {R : Tr} {P : Tr} {L : Lo} {P2 : Tr} {L2 : Lo} {Tn : Tr} {Ti : Tr} {Tu : Tr} {Tv : Tr} {C : Tr} {Z : Tr} {q0 : Nat} {q1 : Nat} {q2 : Nat} {q3 : Nat} {q4 : Nat} {q5 : Nat} {S : Tr} {LM : Lo} (hok : xOK pa qa X K R P P2 Tn Ti Tu Tv C Z q0 q1 q4 q5) (h : (K 0 0 = 0 ∧ wC K) ∧ R = R0Z ∧ X = T0Z ∧ C = T0Z ∧ Z = Z0Z ∧ f_X2_clear T0Z = some P ∧ ∃ T1 q9, f_X6_begin pa T0Z P 0 = some (T1, q9) ∧ Tn = st (st (st T1 0 5 0) 0 6 1) 0 7 1) (hj : jX S) (hS0 : S 0 1 = 0) (hSw : wT S) (hKT : ∃ S1, f_X8_plain S0M = some S1 ∧ f_X8_keepText S1 L0M = some (S, LM)) : REL X K R P L P2 L2 Tn Ti Tu Tv C Z q0 q1 q2 q3 q4 q5 S LM := by
  refine ⟨REL8_0 hok h hj hS0 hSw hKT, ?_⟩
  obtain ⟨S1, k1, k2⟩ := hKT
  obtain ⟨T2, q9, b1, b2⟩ := h.2.2.2.2.2.2
  exact Nw_0 h.2.2.2.2.2.1 k1 k2 ⟨T2, b1, b2⟩ (fun _ _ => rfl) hj.1 (fun a j => by rw [h.2.2.2.1]; rfl) (by rw [h.2.2.1]; rfl)
