theorem e_149 {K : Tr} : Ep (fJ_X5_advance_J149 K) (fun q => q 0 7 = K 0 7 + 1 ∧ q 0 1 = K 0 1) := by
  unfold fJ_X5_advance_J149
  exact Ep_lt (fun K1 e1 => Ep_some ⟨by rw [e1, st_same], by rw [e1, st_ne (by decide)]⟩)
theorem e_signC {K T : Tr} (h : kT K T) {n : Nat} (hx : (T 0 7).toInt = n) (hl : (n : Int) < (T 0 6).toInt) (c : Int32) : Ep (lt (st K 0 7 ((K 0 7) + 1)) fun K_15 => bd (f_X5_at K_15 (K_15 0 7)) fun r16 => bd (f_X5_sign c r16) fun r19 => lt (st K_15 0 1 r19) fun K_22 => if (K_22 0 1) = 30 then (fJ_X5_advance_J149  K_22) else (if (K_22 0 1) = 32 then (fJ_X5_advance_J149  K_22) else (if (K_22 0 1) = 33 then (fJ_X5_advance_J149  K_22) else (some K_22)))) (fun q => ∃ d, sgC c.toInt d (q 0 1).toInt ∧ ((((q 0 1).toInt = 30 ∨ (q 0 1).toInt = 32 ∨ (q 0 1).toInt = 33) ∧ (q 0 7).toInt = n + 2) ∨ ((¬ ((q 0 1).toInt = 30 ∨ (q 0 1).toInt = 32 ∨ (q 0 1).toInt = 33)) ∧ (q 0 7).toInt = n + 1)) ∧ (((n : Int) + 1 < (T 0 6).toInt ∧ d = (T 1 (n + 1)).toInt) ∨ ((T 0 6).toInt ≤ (n : Int) + 1 ∧ d = -1))) := by
  have b := h.2.2.1
  refine Ep_lt (fun K1 e1 => ?_)
  have e7 : (K1 0 7).toInt = n + 1 := by
    rw [e1, st_same, h.2.1]
    have : (T 0 7 + 1).toInt = (T 0 7).toInt + 1 := i_addK rfl (by decide) (by omega) (by omega)
    omega
  have hat : ∃ d : Int32, f_X5_at K1 (K1 0 7) = some d ∧ (((n : Int) + 1 < (T 0 6).toInt ∧ d.toInt = (T 1 (n + 1)).toInt) ∨ ((T 0 6).toInt ≤ (n : Int) + 1 ∧ d.toInt = -1)) := by
    by_cases hq : (n : Int) + 1 < (T 0 6).toInt
    · have h1 : kT K1 (st T 0 7 (T 0 7 + 1)) := kT_of h (by rw [e1, st_ne (by decide)]) (by rw [st_ne (by decide)]) (by rw [e1, st_same, st_same, h.2.1]) (by
        rw [st_same]
        have : (T 0 7 + 1).toInt = (T 0 7).toInt + 1 := i_addK rfl (by decide) (by omega) (by omega)
        omega) (by rw [e1, st_oth (by decide)]) (by rw [st_oth (by decide)])
      have := at_in h1 (x := K1 0 7) (n := n + 1) (by omega) (by rw [st_ne (by decide)]; omega)
      rw [st_oth (by decide)] at this
      exact ⟨_, this, Or.inl ⟨hq, rfl⟩⟩
    · have h1 : kT K1 (st T 0 7 (T 0 7 + 1)) := kT_of h (by rw [e1, st_ne (by decide)]) (by rw [st_ne (by decide)]) (by rw [e1, st_same, st_same, h.2.1]) (by
        rw [st_same]
        have : (T 0 7 + 1).toInt = (T 0 7).toInt + 1 := i_addK rfl (by decide) (by omega) (by omega)
        omega) (by rw [e1, st_oth (by decide)]) (by rw [st_oth (by decide)])
      have := at_out h1 (x := K1 0 7) (by rw [st_ne (by decide)]; omega)
      exact ⟨_, this, Or.inr ⟨by omega, by decide⟩⟩
  obtain ⟨d, hd, hd2⟩ := hat
  rw [hd]
  show Ep (bd (f_X5_sign c d) _) _
  refine Ep_bd (e_sign c d) (fun r hr => Ep_lt (fun K2 e2 => ?_))
  have f1 : K2 0 1 = r := by rw [e2, st_same]
  have f7 : K2 0 7 = K1 0 7 := by rw [e2, st_ne (by decide)]
  have f8 : (K2 0 7 + 1).toInt = n + 2 := by
    rw [f7]
    have : (K1 0 7 + 1).toInt = (K1 0 7).toInt + 1 := i_addK rfl (by decide) (by omega) (by omega)
    omega
  have j : (K2 0 1).toInt = 30 ∨ (K2 0 1).toInt = 32 ∨ (K2 0 1).toInt = 33 → Ep (fJ_X5_advance_J149 K2) (fun q => ∃ d, sgC c.toInt d (q 0 1).toInt ∧ ((((q 0 1).toInt = 30 ∨ (q 0 1).toInt = 32 ∨ (q 0 1).toInt = 33) ∧ (q 0 7).toInt = n + 2) ∨ ((¬ ((q 0 1).toInt = 30 ∨ (q 0 1).toInt = 32 ∨ (q 0 1).toInt = 33)) ∧ (q 0 7).toInt = n + 1)) ∧ (((n : Int) + 1 < (T 0 6).toInt ∧ d = (T 1 (n + 1)).toInt) ∨ ((T 0 6).toInt ≤ (n : Int) + 1 ∧ d = -1))) := by
    intro hk
    refine Ep_mono e_149 (fun q hq => ?_)
    rw [← f1] at hr
    exact ⟨_, by rw [hq.2]; exact hr, Or.inl ⟨by rw [hq.2]; exact hk, by rw [hq.1]; exact f8⟩, hd2⟩
  refine Ep_ite (fun c1 => j (Or.inl (i_is (by decide) c1))) (fun c1 => Ep_ite (fun c2 => j (Or.inr (Or.inl (i_is (by decide) c2)))) (fun c2 => Ep_ite (fun c3 => j (Or.inr (Or.inr (i_is (by decide) c3)))) (fun c3 => Ep_some ?_)))
  have k1 := i_isn (k := 30) (by decide) c1
  have k2 := i_isn (k := 32) (by decide) c2
  have k3 := i_isn (k := 33) (by decide) c3
  exact ⟨_, by rw [f1]; exact hr, Or.inr ⟨by omega, by rw [f7]; exact e7⟩, hd2⟩
theorem sg_join {c d d' r k w m : Int} (a : sgC c d r) (b : sgR c d' k w m) (hd : d = d' ∨ (d = -1 ∧ d' = 0)) : kI r k w ∧ 4 ≤ k ∧ (((r = 30 ∨ r = 32 ∨ r = 33) ∧ m = 2) ∨ (¬ (r = 30 ∨ r = 32 ∨ r = 33) ∧ m = 1)) := by
  unfold sgR at b
  rcases b with ⟨rfl, rfl, b⟩ | ⟨rfl, rfl, b⟩ | ⟨rfl, rfl, rfl, rfl⟩ | ⟨b0, rfl, rfl, rfl⟩ | b
  · simp [sgC] at a
    rcases a with ⟨a, rfl⟩ | ⟨a, rfl⟩ | ⟨a, a2, rfl⟩ <;> rcases b with ⟨b, rfl, rfl⟩ | ⟨b, rfl, rfl⟩ | ⟨b, b2, rfl, rfl⟩ <;> first | (exfalso; omega) | simp [kI]
  · simp [sgC] at a
    rcases a with ⟨a, rfl⟩ | ⟨a, rfl⟩ <;> rcases b with ⟨b, rfl, rfl⟩ | ⟨b, rfl, rfl⟩ <;> first | (exfalso; omega) | simp [kI]
  · simp [sgC] at a
    subst a
    simp [kI]
  · rcases b0 with rfl | rfl | rfl | rfl | rfl | rfl | rfl | rfl <;> simp [sgC] at a <;> subst a <;> simp [kI]
  · obtain ⟨b1, b2, b3, b4, b5, b6, b7, b8, b9, b10, b11, rfl, rfl⟩ := b
    simp [sgC, b1, b2, b3, b4, b5, b6, b7, b8, b9, b10] at a
    subst a
    simp [kI]
/-- what a token's reading leaves: next, kind and value -/
def tkQ (T K1 T1 : Tr) : Prop := K1 0 7 = T1 0 7 ∧ kI (K1 0 1).toInt (T1 0 8).toInt (T1 0 9).toInt ∧ ((T1 0 8).toInt = 2 → K1 0 3 = T1 0 9) ∧ ((T1 0 8).toInt = 3 → nR (K1 0 3) (T1 0 9)) ∧ ((T 0 7).toInt < (T1 0 7).toInt ∧ (T1 0 7).toInt ≤ (T 0 6).toInt)
theorem q_sign {K T : Tr} (h : kT K T) {n : Nat} (hx : (T 0 7).toInt = n) (hl : (n : Int) < (T 0 6).toInt) {x : Option Tr} {c : Int32} (hc : c = T 1 n) (hx2 : x = (lt (st K 0 7 ((K 0 7) + 1)) fun K_15 => bd (f_X5_at K_15 (K_15 0 7)) fun r16 => bd (f_X5_sign c r16) fun r19 => lt (st K_15 0 1 r19) fun K_22 => if (K_22 0 1) = 30 then (fJ_X5_advance_J149  K_22) else (if (K_22 0 1) = 32 then (fJ_X5_advance_J149  K_22) else (if (K_22 0 1) = 33 then (fJ_X5_advance_J149  K_22) else (some K_22))))) : E2 x (f_X8_signToken T) (tkQ T) := by
  rw [hx2]
  refine E2_ep (e_signC h hx hl c) (e_signT hx hl h.2.2.1.2.2) (fun K1 T1 h1 h2 => ?_)
  obtain ⟨d, a1, a2, a3⟩ := h1
  obtain ⟨m, d', b1, b2, b3⟩ := h2
  rw [hc] at a1
  obtain ⟨c1, c2, c3⟩ := sg_join a1 b1 (by rcases a3 with ⟨g1, g2⟩ | ⟨g1, g2⟩ <;> rcases b3 with ⟨g3, g4⟩ | ⟨g3, g4⟩ <;> omega)
  have e7 : (K1 0 7).toInt = (T1 0 7).toInt := by
    rcases a2 with ⟨g1, g2⟩ | ⟨g1, g2⟩ <;> rcases c3 with ⟨g3, g4⟩ | ⟨g3, g4⟩
    · omega
    · exact absurd g1 g3
    · exact absurd g3 g1
    · omega
  have e8 : m = 1 ∨ (m = 2 ∧ (n : Int) + 1 < (T 0 6).toInt) := by
    rcases b3 with ⟨g3, g4⟩ | ⟨g3, g4⟩
    · rcases c3 with ⟨g5, g6⟩ | ⟨g5, g6⟩
      · exact Or.inr ⟨g6, g3⟩
      · exact Or.inl g6
    · left
      unfold sgR at b1
      rcases b1 with ⟨_, _, b1⟩ | ⟨_, _, b1⟩ | ⟨_, _, _, b1⟩ | ⟨_, _, _, b1⟩ | b1
      · rcases b1 with ⟨b, _⟩ | ⟨b, _⟩ | ⟨_, _, _, b⟩
        · exfalso; omega
        · exfalso; omega
        · exact b
      · rcases b1 with ⟨b, _⟩ | ⟨_, _, b⟩
        · exfalso; omega
        · exact b
      · exact b1
      · exact b1
      · exact b1.2.2.2.2.2.2.2.2.2.2.2.2
  exact ⟨Int32.toInt_inj.mp e7, c1, fun g => by omega, fun g => by omega, by omega, by omega⟩
