/-! the class's rows of changes, exactly -/
theorem cpv_i {f g : Nat → Int32} {sp dp n j : Nat} (h : j < n) : va_cpy f g sp dp n (dp + j) = f (sp + j) := by
  unfold va_cpy
  rw [if_pos ⟨by omega, by omega⟩, Nat.add_sub_cancel_left]
theorem cpv_o {f g : Nat → Int32} {sp dp n k : Nat} (h : ¬ (dp ≤ k ∧ k < dp + n)) : va_cpy f g sp dp n k = g k := by
  unfold va_cpy
  rw [if_neg h]
def srQ (T C : Tr) (a o n : Nat) (q : Int32 × Tr) : Prop := q.1.toInt = ((o + n : Nat) : Int) ∧ (∀ j, j < n → q.2 3 (o + j) = T a j) ∧ (∀ k, ¬ (o ≤ k ∧ k < o + n) → q.2 3 k = C 3 k) ∧ ∀ c j, c ≠ 3 → q.2 c j = C c j
def svQ (T C q : Tr) (m : Nat) : Prop := (∀ j, j < 50 → q 3 (76 * m + j) = T 16 j) ∧ (∀ j, j < 5 → q 3 (76 * m + 50 + j) = T 17 j) ∧ (∀ j, j < 5 → q 3 (76 * m + 55 + j) = T 18 j) ∧ (∀ j, j < 10 → q 3 (76 * m + 60 + j) = T 15 j) ∧ (∀ j, j < 6 → q 3 (76 * m + 70 + j) = T 10 j) ∧ (∀ k, ¬ (76 * m ≤ k ∧ k < 76 * m + 76) → q 3 k = C 3 k) ∧ (q 0 1).toInt = (((m + 1) % 20 : Nat) : Int) ∧ q 0 0 = if C 0 0 = 20 then 20 else C 0 0 + 1
theorem k_sr_na16 (pa qa : Nat → Nat) (Tn C : Tr) {x : Int32} {o : Nat} (hx : x.toInt = o) (ho : o ≤ 10000) : Ep (f_X0_saveRow_x_na16 pa qa Tn C x) (srQ Tn C 16 o 50) := by
  unfold f_X0_saveRow_x_na16
  refine Ep_ck (Ep_lt (fun C2 e2 => Ep_some ⟨?_, fun j hj => ?_, fun k hk => ?_, fun c j hc => ?_⟩))
  · show (x + 50).toInt = _
    rw [i_addK hx (y := 50) (by decide) (by omega) (by omega)]; omega
  · show C2 3 (o + j) = _
    rw [e2, stC_same, i_cn hx, cpv_i hj, Nat.zero_add]
  · show C2 3 k = _
    rw [e2, stC_same, i_cn hx, cpv_o hk]
  · show C2 c j = _
    rw [e2, stC_oth hc]
theorem k_sr_na17 (pa qa : Nat → Nat) (Tn C : Tr) {x : Int32} {o : Nat} (hx : x.toInt = o) (ho : o ≤ 10000) : Ep (f_X0_saveRow_x_na17 pa qa Tn C x) (srQ Tn C 17 o 5) := by
  unfold f_X0_saveRow_x_na17
  refine Ep_ck (Ep_lt (fun C2 e2 => Ep_some ⟨?_, fun j hj => ?_, fun k hk => ?_, fun c j hc => ?_⟩))
  · show (x + 5).toInt = _
    rw [i_addK hx (y := 5) (by decide) (by omega) (by omega)]; omega
  · show C2 3 (o + j) = _
    rw [e2, stC_same, i_cn hx, cpv_i hj, Nat.zero_add]
  · show C2 3 k = _
    rw [e2, stC_same, i_cn hx, cpv_o hk]
  · show C2 c j = _
    rw [e2, stC_oth hc]
theorem k_sr_na18 (pa qa : Nat → Nat) (Tn C : Tr) {x : Int32} {o : Nat} (hx : x.toInt = o) (ho : o ≤ 10000) : Ep (f_X0_saveRow_x_na18 pa qa Tn C x) (srQ Tn C 18 o 5) := by
  unfold f_X0_saveRow_x_na18
  refine Ep_ck (Ep_lt (fun C2 e2 => Ep_some ⟨?_, fun j hj => ?_, fun k hk => ?_, fun c j hc => ?_⟩))
  · show (x + 5).toInt = _
    rw [i_addK hx (y := 5) (by decide) (by omega) (by omega)]; omega
  · show C2 3 (o + j) = _
    rw [e2, stC_same, i_cn hx, cpv_i hj, Nat.zero_add]
  · show C2 3 k = _
    rw [e2, stC_same, i_cn hx, cpv_o hk]
  · show C2 c j = _
    rw [e2, stC_oth hc]
theorem k_sr_na15 (pa qa : Nat → Nat) (Tn C : Tr) {x : Int32} {o : Nat} (hx : x.toInt = o) (ho : o ≤ 10000) : Ep (f_X0_saveRow_x_na15 pa qa Tn C x) (srQ Tn C 15 o 10) := by
  unfold f_X0_saveRow_x_na15
  refine Ep_ck (Ep_lt (fun C2 e2 => Ep_some ⟨?_, fun j hj => ?_, fun k hk => ?_, fun c j hc => ?_⟩))
  · show (x + 10).toInt = _
    rw [i_addK hx (y := 10) (by decide) (by omega) (by omega)]; omega
  · show C2 3 (o + j) = _
    rw [e2, stC_same, i_cn hx, cpv_i hj, Nat.zero_add]
  · show C2 3 k = _
    rw [e2, stC_same, i_cn hx, cpv_o hk]
  · show C2 c j = _
    rw [e2, stC_oth hc]
theorem k_sr_na10 (pa qa : Nat → Nat) (Tn C : Tr) {x : Int32} {o : Nat} (hx : x.toInt = o) (ho : o ≤ 10000) : Ep (f_X0_saveRow_x_na10 pa qa Tn C x) (srQ Tn C 10 o 6) := by
  unfold f_X0_saveRow_x_na10
  refine Ep_ck (Ep_lt (fun C2 e2 => Ep_some ⟨?_, fun j hj => ?_, fun k hk => ?_, fun c j hc => ?_⟩))
  · show (x + 6).toInt = _
    rw [i_addK hx (y := 6) (by decide) (by omega) (by omega)]; omega
  · show C2 3 (o + j) = _
    rw [e2, stC_same, i_cn hx, cpv_i hj, Nat.zero_add]
  · show C2 3 k = _
    rw [e2, stC_same, i_cn hx, cpv_o hk]
  · show C2 c j = _
    rw [e2, stC_oth hc]
theorem k_sav_na (pa qa : Nat → Nat) (Tn C : Tr) {m : Nat} (hm : (C 0 1).toInt = m) (h19 : m ≤ 19) : Ep (f_X0_save_x_na0 pa qa Tn C) (fun q => svQ Tn C q m) := by
  unfold f_X0_save_x_na0
  refine Ep_lt (fun y1 ey => ?_)
  have hy : y1.toInt = ((76 * m : Nat) : Int) := by rw [ey, i_mulR (b := (76 : Int32)) 76 (by decide) (by omega) (by omega), hm]; omega
  refine Ep_bd (k_sr_na16 pa qa Tn C hy (by omega)) (fun q1 h1 => Ep_lt (fun r2 er2 => Ep_lt (fun C3 ec3 => ?_)))
  unfold srQ at h1
  rw [← er2, ← ec3] at h1
  obtain ⟨a1, a2, a3, a4⟩ := h1
  refine Ep_bd (k_sr_na17 pa qa Tn C3 a1 (by omega)) (fun q2 h2 => Ep_lt (fun r6 er6 => Ep_lt (fun C7 ec7 => ?_)))
  unfold srQ at h2
  rw [← er6, ← ec7] at h2
  obtain ⟨b1, b2, b3, b4⟩ := h2
  refine Ep_bd (k_sr_na18 pa qa Tn C7 b1 (by omega)) (fun q3 h3 => Ep_lt (fun r10 er10 => Ep_lt (fun C11 ec11 => ?_)))
  unfold srQ at h3
  rw [← er10, ← ec11] at h3
  obtain ⟨c1, c2, c3, c4⟩ := h3
  refine Ep_bd (k_sr_na15 pa qa Tn C11 c1 (by omega)) (fun q4 h4 => Ep_lt (fun r14 er14 => Ep_lt (fun C15 ec15 => ?_)))
  unfold srQ at h4
  rw [← er14, ← ec15] at h4
  obtain ⟨d1, d2, d3, d4⟩ := h4
  refine Ep_bd (k_sr_na10 pa qa Tn C15 d1 (by omega)) (fun q5 h5 => Ep_lt (fun r18 _ => Ep_lt (fun C19 ec19 => Ep_lt (fun C22 e22 => ?_))))
  unfold srQ at h5
  rw [← ec19] at h5
  obtain ⟨_, f2, f3, f4⟩ := h5
  have z : ∀ j, C19 0 j = C 0 j := fun j => by rw [f4 0 j (by decide), d4 0 j (by decide), c4 0 j (by decide), b4 0 j (by decide), a4 0 j (by decide)]
  have n1 : (C19 0 1 + 1).toInt = (m : Int) + 1 := i_addK (by rw [z]; exact hm) (by decide) (by omega) (by omega)
  have n2 : (C22 0 1).toInt = (((m + 1) % 20 : Nat) : Int) := by
    rw [e22, st_same, i_rem (b := (20 : Int32)) 20 (by decide) (by decide) (by omega), n1]; omega
  have g3 : ∀ k, C22 3 k = C19 3 k := fun k => by rw [e22, st_oth (by decide)]
  have z0 : C22 0 0 = C 0 0 := by rw [e22, st_ne (by decide), z]
  have fin : ∀ q : Tr, (∀ k, q 3 k = C19 3 k) → q 0 1 = C22 0 1 → q 0 0 = (if C 0 0 = 20 then 20 else C 0 0 + 1) → svQ Tn C q m := fun q h3 h1 h0 => by
    refine ⟨fun j hj => ?_, fun j hj => ?_, fun j hj => ?_, fun j hj => ?_, fun j hj => ?_, fun k hk => ?_, by rw [h1]; exact n2, h0⟩
    · rw [h3, f3 _ (by omega), d3 _ (by omega), c3 _ (by omega), b3 _ (by omega)]; exact a2 j hj
    · rw [h3, f3 _ (by omega), d3 _ (by omega), c3 _ (by omega)]; exact b2 j hj
    · rw [h3, f3 _ (by omega), d3 _ (by omega), show 76 * m + 55 + j = 76 * m + 50 + 5 + j by omega]; exact c2 j hj
    · rw [h3, f3 _ (by omega), show 76 * m + 60 + j = 76 * m + 50 + 5 + 5 + j by omega]; exact d2 j hj
    · rw [h3, show 76 * m + 70 + j = 76 * m + 50 + 5 + 5 + 10 + j by omega]; exact f2 j hj
    · rw [h3, f3 _ (by omega), d3 _ (by omega), c3 _ (by omega), b3 _ (by omega), a3 _ (by omega)]
  rw [z0]
  refine Ep_ite (fun c => ?_) (fun c => ?_)
  · unfold fJ_X0_save_x_na0_J92
    refine Ep_lt (fun C24 e24 => Ep_some (fin C24 (fun k => by rw [e24, st_oth (by decide), g3]) (by rw [e24, st_ne (by decide)]) ?_))
    rw [e24, st_same, if_pos c]
  · unfold fJ_X0_save_x_na0_J92
    refine Ep_lt (fun C24 e24 => Ep_some (fin C24 (fun k => by rw [e24, st_oth (by decide), g3]) (by rw [e24, st_ne (by decide)]) ?_))
    rw [e24, st_same, if_neg c]
theorem k_sr_va16 (pa qa : Nat → Nat) (Tv C : Tr) {x : Int32} {o : Nat} (hx : x.toInt = o) (ho : o ≤ 10000) : Ep (f_X0_saveRow_x_va16 pa qa Tv C x) (srQ Tv C 16 o 50) := by
  unfold f_X0_saveRow_x_va16
  refine Ep_ck (Ep_lt (fun C2 e2 => Ep_some ⟨?_, fun j hj => ?_, fun k hk => ?_, fun c j hc => ?_⟩))
  · show (x + 50).toInt = _
    rw [i_addK hx (y := 50) (by decide) (by omega) (by omega)]; omega
  · show C2 3 (o + j) = _
    rw [e2, stC_same, i_cn hx, cpv_i hj, Nat.zero_add]
  · show C2 3 k = _
    rw [e2, stC_same, i_cn hx, cpv_o hk]
  · show C2 c j = _
    rw [e2, stC_oth hc]
theorem k_sr_va17 (pa qa : Nat → Nat) (Tv C : Tr) {x : Int32} {o : Nat} (hx : x.toInt = o) (ho : o ≤ 10000) : Ep (f_X0_saveRow_x_va17 pa qa Tv C x) (srQ Tv C 17 o 5) := by
  unfold f_X0_saveRow_x_va17
  refine Ep_ck (Ep_lt (fun C2 e2 => Ep_some ⟨?_, fun j hj => ?_, fun k hk => ?_, fun c j hc => ?_⟩))
  · show (x + 5).toInt = _
    rw [i_addK hx (y := 5) (by decide) (by omega) (by omega)]; omega
  · show C2 3 (o + j) = _
    rw [e2, stC_same, i_cn hx, cpv_i hj, Nat.zero_add]
  · show C2 3 k = _
    rw [e2, stC_same, i_cn hx, cpv_o hk]
  · show C2 c j = _
    rw [e2, stC_oth hc]
theorem k_sr_va18 (pa qa : Nat → Nat) (Tv C : Tr) {x : Int32} {o : Nat} (hx : x.toInt = o) (ho : o ≤ 10000) : Ep (f_X0_saveRow_x_va18 pa qa Tv C x) (srQ Tv C 18 o 5) := by
  unfold f_X0_saveRow_x_va18
  refine Ep_ck (Ep_lt (fun C2 e2 => Ep_some ⟨?_, fun j hj => ?_, fun k hk => ?_, fun c j hc => ?_⟩))
  · show (x + 5).toInt = _
    rw [i_addK hx (y := 5) (by decide) (by omega) (by omega)]; omega
  · show C2 3 (o + j) = _
    rw [e2, stC_same, i_cn hx, cpv_i hj, Nat.zero_add]
  · show C2 3 k = _
    rw [e2, stC_same, i_cn hx, cpv_o hk]
  · show C2 c j = _
    rw [e2, stC_oth hc]
theorem k_sr_va15 (pa qa : Nat → Nat) (Tv C : Tr) {x : Int32} {o : Nat} (hx : x.toInt = o) (ho : o ≤ 10000) : Ep (f_X0_saveRow_x_va15 pa qa Tv C x) (srQ Tv C 15 o 10) := by
  unfold f_X0_saveRow_x_va15
  refine Ep_ck (Ep_lt (fun C2 e2 => Ep_some ⟨?_, fun j hj => ?_, fun k hk => ?_, fun c j hc => ?_⟩))
  · show (x + 10).toInt = _
    rw [i_addK hx (y := 10) (by decide) (by omega) (by omega)]; omega
  · show C2 3 (o + j) = _
    rw [e2, stC_same, i_cn hx, cpv_i hj, Nat.zero_add]
  · show C2 3 k = _
    rw [e2, stC_same, i_cn hx, cpv_o hk]
  · show C2 c j = _
    rw [e2, stC_oth hc]
theorem k_sr_va10 (pa qa : Nat → Nat) (Tv C : Tr) {x : Int32} {o : Nat} (hx : x.toInt = o) (ho : o ≤ 10000) : Ep (f_X0_saveRow_x_va10 pa qa Tv C x) (srQ Tv C 10 o 6) := by
  unfold f_X0_saveRow_x_va10
  refine Ep_ck (Ep_lt (fun C2 e2 => Ep_some ⟨?_, fun j hj => ?_, fun k hk => ?_, fun c j hc => ?_⟩))
  · show (x + 6).toInt = _
    rw [i_addK hx (y := 6) (by decide) (by omega) (by omega)]; omega
  · show C2 3 (o + j) = _
    rw [e2, stC_same, i_cn hx, cpv_i hj, Nat.zero_add]
  · show C2 3 k = _
    rw [e2, stC_same, i_cn hx, cpv_o hk]
  · show C2 c j = _
    rw [e2, stC_oth hc]
theorem k_sav_va (pa qa : Nat → Nat) (Tv C : Tr) {m : Nat} (hm : (C 0 1).toInt = m) (h19 : m ≤ 19) : Ep (f_X0_save_x_va0 pa qa Tv C) (fun q => svQ Tv C q m) := by
  unfold f_X0_save_x_va0
  refine Ep_lt (fun y1 ey => ?_)
  have hy : y1.toInt = ((76 * m : Nat) : Int) := by rw [ey, i_mulR (b := (76 : Int32)) 76 (by decide) (by omega) (by omega), hm]; omega
  refine Ep_bd (k_sr_va16 pa qa Tv C hy (by omega)) (fun q1 h1 => Ep_lt (fun r2 er2 => Ep_lt (fun C3 ec3 => ?_)))
  unfold srQ at h1
  rw [← er2, ← ec3] at h1
  obtain ⟨a1, a2, a3, a4⟩ := h1
  refine Ep_bd (k_sr_va17 pa qa Tv C3 a1 (by omega)) (fun q2 h2 => Ep_lt (fun r6 er6 => Ep_lt (fun C7 ec7 => ?_)))
  unfold srQ at h2
  rw [← er6, ← ec7] at h2
  obtain ⟨b1, b2, b3, b4⟩ := h2
  refine Ep_bd (k_sr_va18 pa qa Tv C7 b1 (by omega)) (fun q3 h3 => Ep_lt (fun r10 er10 => Ep_lt (fun C11 ec11 => ?_)))
  unfold srQ at h3
  rw [← er10, ← ec11] at h3
  obtain ⟨c1, c2, c3, c4⟩ := h3
  refine Ep_bd (k_sr_va15 pa qa Tv C11 c1 (by omega)) (fun q4 h4 => Ep_lt (fun r14 er14 => Ep_lt (fun C15 ec15 => ?_)))
  unfold srQ at h4
  rw [← er14, ← ec15] at h4
  obtain ⟨d1, d2, d3, d4⟩ := h4
  refine Ep_bd (k_sr_va10 pa qa Tv C15 d1 (by omega)) (fun q5 h5 => Ep_lt (fun r18 _ => Ep_lt (fun C19 ec19 => Ep_lt (fun C22 e22 => ?_))))
  unfold srQ at h5
  rw [← ec19] at h5
  obtain ⟨_, f2, f3, f4⟩ := h5
  have z : ∀ j, C19 0 j = C 0 j := fun j => by rw [f4 0 j (by decide), d4 0 j (by decide), c4 0 j (by decide), b4 0 j (by decide), a4 0 j (by decide)]
  have n1 : (C19 0 1 + 1).toInt = (m : Int) + 1 := i_addK (by rw [z]; exact hm) (by decide) (by omega) (by omega)
  have n2 : (C22 0 1).toInt = (((m + 1) % 20 : Nat) : Int) := by
    rw [e22, st_same, i_rem (b := (20 : Int32)) 20 (by decide) (by decide) (by omega), n1]; omega
  have g3 : ∀ k, C22 3 k = C19 3 k := fun k => by rw [e22, st_oth (by decide)]
  have z0 : C22 0 0 = C 0 0 := by rw [e22, st_ne (by decide), z]
  have fin : ∀ q : Tr, (∀ k, q 3 k = C19 3 k) → q 0 1 = C22 0 1 → q 0 0 = (if C 0 0 = 20 then 20 else C 0 0 + 1) → svQ Tv C q m := fun q h3 h1 h0 => by
    refine ⟨fun j hj => ?_, fun j hj => ?_, fun j hj => ?_, fun j hj => ?_, fun j hj => ?_, fun k hk => ?_, by rw [h1]; exact n2, h0⟩
    · rw [h3, f3 _ (by omega), d3 _ (by omega), c3 _ (by omega), b3 _ (by omega)]; exact a2 j hj
    · rw [h3, f3 _ (by omega), d3 _ (by omega), c3 _ (by omega)]; exact b2 j hj
    · rw [h3, f3 _ (by omega), d3 _ (by omega), show 76 * m + 55 + j = 76 * m + 50 + 5 + j by omega]; exact c2 j hj
    · rw [h3, f3 _ (by omega), show 76 * m + 60 + j = 76 * m + 50 + 5 + 5 + j by omega]; exact d2 j hj
    · rw [h3, show 76 * m + 70 + j = 76 * m + 50 + 5 + 5 + 10 + j by omega]; exact f2 j hj
    · rw [h3, f3 _ (by omega), d3 _ (by omega), c3 _ (by omega), b3 _ (by omega), a3 _ (by omega)]
  rw [z0]
  refine Ep_ite (fun c => ?_) (fun c => ?_)
  · unfold fJ_X0_save_x_va0_J92
    refine Ep_lt (fun C24 e24 => Ep_some (fin C24 (fun k => by rw [e24, st_oth (by decide), g3]) (by rw [e24, st_ne (by decide)]) ?_))
    rw [e24, st_same, if_pos c]
  · unfold fJ_X0_save_x_va0_J92
    refine Ep_lt (fun C24 e24 => Ep_some (fin C24 (fun k => by rw [e24, st_oth (by decide), g3]) (by rw [e24, st_ne (by decide)]) ?_))
    rw [e24, st_same, if_neg c]
/-! and brought back -/
def brQ (T C : Tr) (a o n : Nat) (q : Int32 × Tr) : Prop := q.1.toInt = ((o + n : Nat) : Int) ∧ (∀ j, j < n → q.2 a j = C 3 (o + j)) ∧ ∀ c j, c ≠ a → q.2 c j = T c j
theorem k_br_16 (pa qa : Nat → Nat) (Tn C : Tr) {x : Int32} {o : Nat} (hx : x.toInt = o) (ho : o ≤ 10000) : Ep (f_X0_bringRow_x_na16 pa qa Tn C x) (brQ Tn C 16 o 50) := by
  unfold f_X0_bringRow_x_na16
  refine Ep_ck (Ep_lt (fun T2 e2 => Ep_some ⟨?_, fun j hj => ?_, fun c j hc => ?_⟩))
  · show (x + 50).toInt = _
    rw [i_addK hx (y := 50) (by decide) (by omega) (by omega)]; omega
  · show T2 16 j = _
    have h := cpv_i (f := C 3) (g := Tn 16) (sp := o) (dp := 0) hj
    rw [Nat.zero_add] at h
    rw [e2, stC_same, i_cn hx, h]
  · show T2 c j = _
    rw [e2, stC_oth hc]
theorem k_br_17 (pa qa : Nat → Nat) (Tn C : Tr) {x : Int32} {o : Nat} (hx : x.toInt = o) (ho : o ≤ 10000) : Ep (f_X0_bringRow_x_na17 pa qa Tn C x) (brQ Tn C 17 o 5) := by
  unfold f_X0_bringRow_x_na17
  refine Ep_ck (Ep_lt (fun T2 e2 => Ep_some ⟨?_, fun j hj => ?_, fun c j hc => ?_⟩))
  · show (x + 5).toInt = _
    rw [i_addK hx (y := 5) (by decide) (by omega) (by omega)]; omega
  · show T2 17 j = _
    have h := cpv_i (f := C 3) (g := Tn 17) (sp := o) (dp := 0) hj
    rw [Nat.zero_add] at h
    rw [e2, stC_same, i_cn hx, h]
  · show T2 c j = _
    rw [e2, stC_oth hc]
theorem k_br_18 (pa qa : Nat → Nat) (Tn C : Tr) {x : Int32} {o : Nat} (hx : x.toInt = o) (ho : o ≤ 10000) : Ep (f_X0_bringRow_x_na18 pa qa Tn C x) (brQ Tn C 18 o 5) := by
  unfold f_X0_bringRow_x_na18
  refine Ep_ck (Ep_lt (fun T2 e2 => Ep_some ⟨?_, fun j hj => ?_, fun c j hc => ?_⟩))
  · show (x + 5).toInt = _
    rw [i_addK hx (y := 5) (by decide) (by omega) (by omega)]; omega
  · show T2 18 j = _
    have h := cpv_i (f := C 3) (g := Tn 18) (sp := o) (dp := 0) hj
    rw [Nat.zero_add] at h
    rw [e2, stC_same, i_cn hx, h]
  · show T2 c j = _
    rw [e2, stC_oth hc]
theorem k_br_15 (pa qa : Nat → Nat) (Tn C : Tr) {x : Int32} {o : Nat} (hx : x.toInt = o) (ho : o ≤ 10000) : Ep (f_X0_bringRow_x_na15 pa qa Tn C x) (brQ Tn C 15 o 10) := by
  unfold f_X0_bringRow_x_na15
  refine Ep_ck (Ep_lt (fun T2 e2 => Ep_some ⟨?_, fun j hj => ?_, fun c j hc => ?_⟩))
  · show (x + 10).toInt = _
    rw [i_addK hx (y := 10) (by decide) (by omega) (by omega)]; omega
  · show T2 15 j = _
    have h := cpv_i (f := C 3) (g := Tn 15) (sp := o) (dp := 0) hj
    rw [Nat.zero_add] at h
    rw [e2, stC_same, i_cn hx, h]
  · show T2 c j = _
    rw [e2, stC_oth hc]
theorem k_br_10 (pa qa : Nat → Nat) (Tn C : Tr) {x : Int32} {o : Nat} (hx : x.toInt = o) (ho : o ≤ 10000) : Ep (f_X0_bringRow_x_na10 pa qa Tn C x) (brQ Tn C 10 o 6) := by
  unfold f_X0_bringRow_x_na10
  refine Ep_ck (Ep_lt (fun T2 e2 => Ep_some ⟨?_, fun j hj => ?_, fun c j hc => ?_⟩))
  · show (x + 6).toInt = _
    rw [i_addK hx (y := 6) (by decide) (by omega) (by omega)]; omega
  · show T2 10 j = _
    have h := cpv_i (f := C 3) (g := Tn 10) (sp := o) (dp := 0) hj
    rw [Nat.zero_add] at h
    rw [e2, stC_same, i_cn hx, h]
  · show T2 c j = _
    rw [e2, stC_oth hc]
def bbQ (T C : Tr) (m : Nat) (q : Tr × Tr) : Prop := (∀ j, j < 50 → q.1 16 j = C 3 (76 * m + j)) ∧ (∀ j, j < 5 → q.1 17 j = C 3 (76 * m + 50 + j)) ∧ (∀ j, j < 5 → q.1 18 j = C 3 (76 * m + 55 + j)) ∧ (∀ j, j < 10 → q.1 15 j = C 3 (76 * m + 60 + j)) ∧ (∀ j, j < 6 → q.1 10 j = C 3 (76 * m + 70 + j)) ∧ (∀ a j, ¬ (a = 10 ∨ (15 ≤ a ∧ a ≤ 18)) → q.1 a j = T a j) ∧ (∀ k, q.2 3 k = C 3 k) ∧ (q.2 0 1).toInt = m ∧ q.2 0 0 = C 0 0 - 1
theorem k_bb (pa qa : Nat → Nat) (Tn C : Tr) {m : Nat} (hm : (C 0 1).toInt = m) (h19 : m ≤ 19) (h0 : ¬ C 0 0 = 0) : Ep (f_X0_bringBack_x_na0 pa qa Tn C) (bbQ Tn C ((m + 19) % 20)) := by
  unfold f_X0_bringBack_x_na0
  rw [if_neg h0]
  refine Ep_lt (fun C2 e2 => Ep_lt (fun C3 e3 => Ep_lt (fun y4 e4 => ?_)))
  have n1 : (C 0 1 + 20).toInt = (m : Int) + 20 := i_addK hm (by decide) (by omega) (by omega)
  have n2 : (C 0 1 + 20 - 1).toInt = (m : Int) + 19 := by
    have := i_subK (b := (1 : Int32)) n1 (y := 1) (by decide) (by omega) (by omega)
    rw [this]; omega
  have n3 : (C3 0 1).toInt = (((m + 19) % 20 : Nat) : Int) := by
    rw [e3, st_ne (by decide), e2, st_same, i_rem (b := (20 : Int32)) 20 (by decide) (by decide) (by omega), n2]; omega
  have g3 : ∀ k, C3 3 k = C 3 k := fun k => by rw [e3, st_oth (by decide), e2, st_oth (by decide)]
  have z0 : C3 0 0 = C 0 0 - 1 := by rw [e3, st_same, e2, st_ne (by decide)]
  obtain ⟨w, hw⟩ : ∃ w : Nat, w = (m + 19) % 20 := ⟨_, rfl⟩
  rw [← hw] at n3 ⊢
  have hy : y4.toInt = ((76 * w : Nat) : Int) := by rw [e4, i_mulR (b := (76 : Int32)) 76 (by decide) (by omega) (by omega), n3]; omega
  refine Ep_bd (k_br_16 pa qa Tn C3 hy (by omega)) (fun q1 h1 => Ep_lt (fun r5 er5 => Ep_lt (fun T6 et6 => ?_)))
  unfold brQ at h1
  rw [← er5, ← et6] at h1
  obtain ⟨a1, a2, a3⟩ := h1
  refine Ep_bd (k_br_17 pa qa T6 C3 a1 (by omega)) (fun q2 h2 => Ep_lt (fun r9 er9 => Ep_lt (fun T10 et10 => ?_)))
  unfold brQ at h2
  rw [← er9, ← et10] at h2
  obtain ⟨b1, b2, b3⟩ := h2
  refine Ep_bd (k_br_18 pa qa T10 C3 b1 (by omega)) (fun q3 h3 => Ep_lt (fun r13 er13 => Ep_lt (fun T14 et14 => ?_)))
  unfold brQ at h3
  rw [← er13, ← et14] at h3
  obtain ⟨c1, c2, c3⟩ := h3
  refine Ep_bd (k_br_15 pa qa T14 C3 c1 (by omega)) (fun q4 h4 => Ep_lt (fun r17 er17 => Ep_lt (fun T18 et18 => ?_)))
  unfold brQ at h4
  rw [← er17, ← et18] at h4
  obtain ⟨d1, d2, d3⟩ := h4
  refine Ep_bd (k_br_10 pa qa T18 C3 d1 (by omega)) (fun q5 h5 => Ep_lt (fun r21 _ => Ep_lt (fun T22 et22 => Ep_some ?_)))
  unfold brQ at h5
  rw [← et22] at h5
  obtain ⟨_, f2, f3⟩ := h5
  refine ⟨fun j hj => ?_, fun j hj => ?_, fun j hj => ?_, fun j hj => ?_, fun j hj => ?_, fun a j ha => ?_, g3, n3, z0⟩
  · show T22 16 j = _
    rw [f3 16 j (by decide), d3 16 j (by decide), c3 16 j (by decide), b3 16 j (by decide), a2 j hj, g3]
  · show T22 17 j = _
    rw [f3 17 j (by decide), d3 17 j (by decide), c3 17 j (by decide), b2 j hj, g3]
  · show T22 18 j = _
    rw [f3 18 j (by decide), d3 18 j (by decide), c2 j hj, g3, show 76 * w + 50 + 5 + j = 76 * w + 55 + j by omega]
  · show T22 15 j = _
    rw [f3 15 j (by decide), d2 j hj, g3, show 76 * w + 50 + 5 + 5 + j = 76 * w + 60 + j by omega]
  · show T22 10 j = _
    rw [f2 j hj, g3, show 76 * w + 50 + 5 + 5 + 10 + j = 76 * w + 70 + j by omega]
  · show T22 a j = _
    rw [f3 a j (by omega), d3 a j (by omega), c3 a j (by omega), b3 a j (by omega), a3 a j (by omega)]
