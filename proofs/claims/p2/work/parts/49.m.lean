/-! what has been read so far -/
def hP (T : Tr) : Prop := (∀ i : Nat, i < 10 → (i : Int) < (T 0 18).toInt → (T 30 (10 + i)).toInt < (T 0 17).toInt) ∧ (∀ p : Nat, p < 6 → (p : Int) < (T 0 17).toInt → 1 ≤ (T 29 (6 + p)).toInt) ∧ (∀ k, nodeOK T k) ∧ (∀ w : Nat, w < 3 → ¬ T 36 (3 + w) = 0 → 1 ≤ (T 38 (3 + w)).toInt)
def Hc (a j : Nat) : Bool := bif Nat.beq a 0 then (Nat.beq j 17 || Nat.beq j 18) else (Nat.beq a 4 || Nat.beq a 29 || Nat.beq a 30 || Nat.beq a 36 || Nat.beq a 38 || Nat.beq a 39 || Nat.beq a 40 || Nat.beq a 41)
theorem hP_eq {T T1 : Tr} (h : hP T) (e : ∀ a j, Hc a j = true → T1 a j = T a j) : hP T1 := by
  refine ⟨fun i hi hl => ?_, fun p hp hl => ?_, fun k => ?_, fun w hw hl => ?_⟩
  · rw [e 30 _ rfl, e 0 17 rfl]; rw [e 0 18 rfl] at hl; exact h.1 i hi hl
  · rw [e 29 _ rfl]; rw [e 0 17 rfl] at hl; exact h.2.1 p hp hl
  · have := h.2.2.1 k
    unfold nodeOK at this ⊢
    rw [e 39 _ rfl, e 40 _ rfl, e 41 _ rfl]; exact this
  · rw [e 38 _ rfl]; rw [e 36 _ rfl] at hl; exact h.2.2.2 w hw hl
def rP (z T : Tr) : Prop := iR BM T ∧ aP z T ∧ wK T ∧ kP T ∧ hP T
theorem Wn_p {a j : Nat} (h : Wp a j = false) : Wn a j = false := by
  unfold Wp at h
  unfold Wn
  cases hq : Nat.beq a 0 with
  | false => rfl
  | true =>
    rw [hq] at h
    have h1 : Wp0 j = false := h
    cases hn : (Nat.beq j 4 || Nat.beq j 5 || (Nat.ble 7 j && Nat.ble j 11)) with
    | false => rfl
    | true =>
      exfalso
      have h2 : 4 ≤ j ∧ j ≤ 11 := by
        simp only [Bool.or_eq_true, Bool.and_eq_true] at hn
        rcases hn with (e | e) | ⟨e1, e2⟩
        · have := Nat.eq_of_beq_eq_true e; omega
        · have := Nat.eq_of_beq_eq_true e; omega
        · have := Nat.le_of_ble_eq_true e1; have := Nat.le_of_ble_eq_true e2; omega
      unfold Wp0 at h1
      rw [Nat.ble_eq_true_of_le h2.1, Nat.ble_eq_true_of_le h2.2] at h1
      simp at h1
theorem Hc_n {a j : Nat} (h : Hc a j = true) : Wn a j = false := by
  unfold Hc at h
  unfold Wn
  cases hq : Nat.beq a 0 with
  | false => rfl
  | true =>
    rw [hq] at h
    simp only [cond_true, Bool.or_eq_true] at h
    rcases h with e | e
    · have := Nat.eq_of_beq_eq_true e; subst this; rfl
    · have := Nat.eq_of_beq_eq_true e; subst this; rfl
theorem rP_N {z T T1 : Tr} (h : rP z T) (hi : iR BM T1) (hn : aN T T1) (hk : kP T1) : rP z T1 :=
  ⟨hi, fun a j hf => (hn a j (Wn_p hf)).trans (h.2.1 a j hf), wK_S (fun j => hn 4 j rfl) h.2.2.1, hk, hP_eq h.2.2.2.2 (fun a j hc => hn a j (Hc_n hc))⟩
theorem r_token {z S : Tr} (h : rP z S) : D (f_X8_token S) (fun q => rP z q ∧ aK S q) :=
  D_mono (t_X8_token S h.1 h.2.2.1 h.2.2.2.1.1) (fun _ hq => ⟨rP_N h hq.1 (aN_K hq.2.1) hq.2.2, hq.2.1⟩)
theorem r_number {z S : Tr} (h : rP z S) (x1 x2 : Int32) : D (f_X8_number S x1 x2) (fun q => (q.1 = 0 ∨ (q.1 = 1 ∧ x1.toInt ≤ (q.2 0 11).toInt ∧ (q.2 0 11).toInt ≤ x2.toInt)) ∧ rP z q.2 ∧ aN S q.2) :=
  D_mono (t_X8_number S x1 x2 h.1 h.2.2.1 h.2.2.2.1) (fun _ hq => ⟨hq.1, rP_N h hq.2.1 hq.2.2.1 hq.2.2.2, hq.2.2.1⟩)
/-- a line's answer -/
def lP (z : Tr) (q : Int32 × Tr) : Prop := (q.1 = 0 ∨ q.1 = 1) ∧ rP z q.2
theorem r_wrong {z S : Tr} (h : rP z S) (y : Int32) : D (bd (f_X8_wrong S y) fun q => lt q.1 fun r => lt q.2 fun S1 => ck (okB r) (some (r, S1))) (lP z) := by
  refine D_bd (t2_wrong S y h.1 h.2.2.2.1) (fun q _ hq => ?_)
  refine D_ck ?_ (D_some ⟨Or.inl hq.1, rP_N h hq.2.1 hq.2.2.1 hq.2.2.2⟩)
  rw [hq.1]; decide
/-- a write at a cell of which nothing is told -/
theorem rP_set {z T : Tr} (h : rP z T) {a i : Nat} {v : Int32} (h1 : (BM a i).1 ≤ v.toInt) (h2 : v.toInt ≤ (BM a i).2) (hw : Wp a i = true) (hc : Hc a i = false) (h0 : a = 0 → i < 6 ∨ 9 < i) : rP z (st T a i v) := by
  have e : ∀ c j, Hc c j = true → st T a i v c j = T c j := fun c j hj => by
    rcases st_or (S := T) (a := a) (i := i) (b := c) (j := j) (v := v) with e | ⟨e1, e2⟩
    · exact e
    · subst e1; subst e2; rw [hj] at hc; cases hc
  have e0 : ∀ j, 6 ≤ j → j ≤ 9 → st T a i v 0 j = T 0 j := fun j hj1 hj2 => by
    rcases st_or (S := T) (a := a) (i := i) (b := 0) (j := j) (v := v) with e | ⟨e1, e2⟩
    · exact e
    · have := h0 e1.symm; omega
  exact ⟨iR_set h.1 h1 h2, aP_set h.2.1 hw, wK_S (fun j => e 4 j rfl) h.2.2.1, kP_of h.2.2.2.1 (e0 6 (by decide) (by decide)) (e0 7 (by decide) (by decide)) (e0 8 (by decide) (by decide)) (e0 9 (by decide) (by decide)), hP_eq h.2.2.2.2 e⟩
