/-- whom a name belongs to: none, or one of those read so far -/
theorem t2_find_26 (S : Tr) (x1 x2 x3 : Int32) (hx1 : 0 ≤ x1.toInt ∧ x1.toInt ≤ 6) (hx2 : 0 ≤ x2.toInt ∧ x2.toInt ≤ 6) : D (f_X8_find_26 S x1 x2 x3) (fun q => -1 ≤ q.toInt ∧ q.toInt < x2.toInt) := by
  have main : ∀ N : Nat, ∀ x4 : Int32, 0 ≤ x4.toInt → x4.toInt ≤ x2.toInt → 10 - x4.toInt < (N : Int) → D (lpF (fun _ => none) (fB_X8_find_26_L3 S x1 x2 x3) N x4) (fun q => -1 ≤ q.toInt ∧ q.toInt < x2.toInt) := by
    intro N
    induction N with
    | zero => intro x4 h1 h2 h3; omega
    | succ N ih =>
      intro x4 h1 h2 h3
      show D (fB_X8_find_26_L3 S x1 x2 x3 (lpF (fun _ => none) (fB_X8_find_26_L3 S x1 x2 x3) N) x4) _
      generalize lpF (fun _ => none) (fB_X8_find_26_L3 S x1 x2 x3) N = k at ih ⊢
      unfold fB_X8_find_26_L3
      have l1 : (-1 : Int32).toInt = -1 := by decide
      refine D_ite (fun _ => D_some ⟨by omega, by omega⟩) (fun c => ?_)
      have k1 := tq_len (x := x2) (y := x4) rfl rfl c
      have e1 : (x1 + x4).toInt = x1.toInt + x4.toInt := i_addK rfl rfl (by omega) (by omega)
      refine D_ck (okI_of (by omega) (by omega)) (D_ite (fun _ => D_some ⟨by omega, k1⟩) (fun _ => D_lt (fun y ey => ?_)))
      have e2 : y.toInt = x4.toInt + 1 := by rw [ey]; exact i_addK rfl (show (1 : Int32).toInt = 1 by decide) (by omega) (by omega)
      exact ih y (by omega) (by omega) (by omega)
  exact main 2000 0 (by decide) (by have : (0 : Int32).toInt = 0 := by decide
                                    omega) (by decide)
theorem r_personLine {x : Nat} {z S : Tr} (h : rP x z S) : D (f_X8_personLine S) (lP x z) := by
  have b17 : 0 ≤ (S 0 17).toInt ∧ (S 0 17).toInt ≤ 6 := h.1 0 17
  have l0 : (0 : Int32).toInt = 0 := by decide
  have l1 : (1 : Int32).toInt = 1 := by decide
  have l19 : (19 : Int32).toInt = 19 := by decide
  have l20 : (20 : Int32).toInt = 20 := by decide
  have l99 : (99 : Int32).toInt = 99 := by decide
  unfold f_X8_personLine
  refine D_ite (fun _ => l_wrong h 2) (fun c => ?_)
  have c17 : ¬ (S 0 17).toInt = 6 := fun hz => c (Int32.toInt_inj.mp (hz.trans (by decide)))
  refine D_bd (r_token h) (fun S2 _ h2 => ?_)
  have e17 : S2 0 17 = S 0 17 := h2.2 0 17 rfl
  refine D_ite (fun _ => ?_) (fun _ => l_wrong h2.1 1)
  refine D_bd (t2_find_26 S2 6 (S2 0 17) (S2 0 9) (by decide) (by rw [e17]; exact b17)) (fun r6 _ _ => ?_)
  refine D_ite (fun _ => ?_) (fun _ => l_wrong h2.1 3)
  refine D_lt (fun y ey => ?_)
  have iy : y.toInt = 6 + (S 0 17).toInt := by rw [ey, e17]; exact i_addK (by decide) rfl (by omega) (by omega)
  have cy : y.toNatClampNeg = 6 + (S 0 17).toInt.toNat := by simp only [i_cl]; omega
  refine D_ck (okI_of (by omega) (by omega)) (D_lt (fun S12 e12 => ?_))
  rw [cy] at e12 ⊢
  have h12 : rP x z S12 := by rw [e12]; exact rP_full h2.1 _ rfl (Wp_26 (by omega)) rfl (fun hz => absurd hz (by decide))
  refine D_bd (r_token h12) (fun S13 _ h13 => ?_)
  refine D_bd (r_number h13.1 0 19) (fun q _ hq => ?_)
  refine D_ite (fun _ => D_some ⟨Or.inl rfl, hq.2.1⟩) (fun c1 => ?_)
  have n1 := hq.1.resolve_left c1
  rw [l0, l19] at n1
  refine D_lt (fun S21 e21 => ?_)
  have h21 : rP x z S21 := by rw [e21]; exact rP_full hq.2.1 _ rfl (Wp_27 (by omega)) rfl (fun hz => absurd hz (by decide))
  have v27 : S21 27 (6 + (S 0 17).toInt.toNat) = q.2 0 11 := by rw [e21, st_same]
  have i27 : (S21 27 (6 + (S 0 17).toInt.toNat) + 1).toInt = (q.2 0 11).toInt + 1 := by rw [v27]; exact i_addK rfl l1 (by omega) (by omega)
  refine D_bd (r_number h21 (S21 27 (6 + (S 0 17).toInt.toNat) + 1) 20) (fun q2 _ hq2 => ?_)
  refine D_ite (fun _ => D_some ⟨Or.inl rfl, hq2.2.1⟩) (fun c2 => ?_)
  have n2 := hq2.1.resolve_left c2
  rw [i27, l20] at n2
  refine D_lt (fun S27 e27 => ?_)
  have h27 : rP x z S27 := by
    rw [e27]; refine rP_set (a := 28) hq2.2.1 ?_ ?_ (Wp_28 (by omega)) rfl (fun hz => absurd hz (by decide))
    · show (0 : Int) ≤ _; omega
    · show _ ≤ (20 : Int); omega
  refine D_bd (r_number h27 1 99) (fun q3 _ hq3 => ?_)
  refine D_ite (fun _ => D_some ⟨Or.inl rfl, hq3.2.1⟩) (fun c3 => ?_)
  have n3 := hq3.1.resolve_left c3
  rw [l1, l99] at n3
  have ee : q3.2 0 17 = S 0 17 := by
    rw [hq3.2.2 0 17 rfl, e27, st_oth (by decide), hq2.2.2 0 17 rfl, e21, st_oth (by decide), hq.2.2 0 17 rfl, h13.2 0 17 rfl, e12, st_oth (by decide), e17]
  refine D_lt (fun S33 e33 => ?_)
  have h33 : rP x z S33 := by rw [e33]; exact rP_29 hq3.2.1 _ (by rw [ee]; omega)
  have e33' : S33 0 17 = S 0 17 := by rw [e33, st_oth (by decide), ee]
  have hE := rP_17 h33 (by rw [e33']; omega) (by rw [e33', e33, st_same]; omega)
  exact D_some ⟨Or.inr ⟨rfl, hE.2⟩, hE.1⟩
theorem r_pieceLine {x : Nat} {z S : Tr} (h : rP x z S) : D (f_X8_pieceLine S) (lP x z) := by
  have b18 : 0 ≤ (S 0 18).toInt ∧ (S 0 18).toInt ≤ 10 := h.1 0 18
  have b17 : 0 ≤ (S 0 17).toInt ∧ (S 0 17).toInt ≤ 6 := h.1 0 17
  have b16 : 0 ≤ (S 0 16).toInt ∧ (S 0 16).toInt ≤ 5 := h.1 0 16
  have l1 : (-1 : Int32).toInt = -1 := by decide
  unfold f_X8_pieceLine
  refine D_ite (fun _ => l_wrong h 2) (fun c => ?_)
  have c18 : ¬ (S 0 18).toInt = 10 := fun hz => c (Int32.toInt_inj.mp (hz.trans (by decide)))
  refine D_bd (r_token h) (fun S2 _ h2 => ?_)
  have e17 : S2 0 17 = S 0 17 := h2.2 0 17 rfl
  have e18 : S2 0 18 = S 0 18 := h2.2 0 18 rfl
  have e16 : S2 0 16 = S 0 16 := h2.2 0 16 rfl
  refine D_ite (fun _ => ?_) (fun _ => l_wrong h2.1 1)
  refine D_bd (t2_find_26 S2 6 (S2 0 17) (S2 0 9) (by decide) (by rw [e17]; exact b17)) (fun r6 _ hr6 => ?_)
  rw [e17] at hr6
  refine D_ite (fun c6 => ?_) (fun _ => l_wrong h2.1 4)
  have k6 := tq_le (x := (0 : Int32)) (y := r6) (a := 0) (by decide) rfl c6
  refine D_lt (fun y ey => ?_)
  have iy : y.toInt = 10 + (S 0 18).toInt := by rw [ey, e18]; exact i_addK (by decide) rfl (by omega) (by omega)
  have cy : y.toNatClampNeg = 10 + (S 0 18).toInt.toNat := by simp only [i_cl]; omega
  refine D_ck (okI_of (by omega) (by omega)) (D_lt (fun S12 e12 => ?_))
  rw [cy] at e12 ⊢
  have h12 : rP x z S12 := by rw [e12]; exact rP_30 h2.1 (by omega) (by rw [e18]; omega)
  have v30 : S12 30 (10 + (S 0 18).toInt.toNat) = r6 := by rw [e12, st_same]
  refine D_bd (r_token h12) (fun S13 _ h13 => ?_)
  refine D_bd (r_number h13.1 1 99) (fun q _ hq => ?_)
  refine D_ite (fun _ => D_some ⟨Or.inl rfl, hq.2.1⟩) (fun c1 => ?_)
  refine D_lt (fun S21 e21 => ?_)
  have h21 : rP x z S21 := by rw [e21]; exact rP_full hq.2.1 _ rfl (Wp_31 (by omega)) rfl (fun hz => absurd hz (by decide))
  refine D_bd (r_number h21 0 9) (fun q2 _ hq2 => ?_)
  refine D_ite (fun _ => D_some ⟨Or.inl rfl, hq2.2.1⟩) (fun c2 => ?_)
  refine D_lt (fun S27 e27 => ?_)
  have h27 : rP x z S27 := by rw [e27]; exact rP_full hq2.2.1 _ rfl (Wp_32 (by omega)) rfl (fun hz => absurd hz (by decide))
  refine D_lt (fun S28 e28 => ?_)
  have h28 : rP x z S28 := by
    rw [e28]; refine rP_set (a := 33) h27 ?_ ?_ (Wp_33 (by omega)) rfl (fun hz => absurd hz (by decide))
    · show (-1 : Int) ≤ _; omega
    · show _ ≤ (4 : Int); omega
  have e0 : ∀ j, Wn 0 j = false → (bif Nat.beq 0 0 then (Nat.ble 7 j && Nat.ble j 10) else false) = false → S28 0 j = S 0 j := fun j hj hj1 => by
    rw [e28, st_oth (by decide), e27, st_oth (by decide), hq2.2.2 0 j hj, e21, st_oth (by decide), hq.2.2 0 j hj, h13.2 0 j hj1, e12, st_oth (by decide), h2.2 0 j hj1]
  have e30 : ∀ j, S28 30 j = S12 30 j := fun j => by
    rw [e28, st_oth (by decide), e27, st_oth (by decide), hq2.2.2 30 j rfl, e21, st_oth (by decide), hq.2.2 30 j rfl, h13.2 30 j rfl]
  have hJ : ∀ T : Tr, rP x z T → T 0 17 = S 0 17 → T 0 18 = S 0 18 → (∀ j, T 30 j = S12 30 j) → D (fJ_X8_pieceLine_J170 T) (lP x z) := fun T hT t17 t18 t30 => by
    unfold fJ_X8_pieceLine_J170
    have hE := rP_18 hT (by rw [t18]; omega) (by rw [t18, t17, t30, v30]; omega)
    exact D_some ⟨Or.inr ⟨rfl, hE.2⟩, hE.1⟩
  refine D_ite (fun c3 => ?_) (fun _ => hJ S28 h28 (e0 17 rfl rfl) (e0 18 rfl rfl) e30)
  have c3' : (S28 0 8).toInt = 3 := by rw [c3]; decide
  have k9 := h28.2.2.2.1.2.2.1 c3'
  refine D_ite (fun c4 => ?_) (fun _ => l_wrong h28 4)
  have k4 := tq_lt (x := S28 0 9) (y := S28 0 16) rfl rfl c4
  rw [e0 16 rfl rfl] at k4
  refine D_lt (fun S32 e32 => ?_)
  have h32 : rP x z S32 := by
    rw [e32]; refine rP_set (a := 33) h28 ?_ ?_ (Wp_33 (by omega)) rfl (fun hz => absurd hz (by decide))
    · show (-1 : Int) ≤ _; omega
    · show _ ≤ (4 : Int); omega
  refine D_bd (r_token h32) (fun S33 _ h33 => ?_)
  refine hJ S33 h33.1 ?_ ?_ (fun j => ?_)
  · rw [h33.2 0 17 rfl, e32, st_oth (by decide)]; exact e0 17 rfl rfl
  · rw [h33.2 0 18 rfl, e32, st_oth (by decide)]; exact e0 18 rfl rfl
  · rw [h33.2 30 j rfl, e32, st_oth (by decide)]; exact e30 j
