/-! a number: what it may change -/
def Wn (a j : Nat) : Bool := bif Nat.beq a 0 then (Nat.beq j 4 || Nat.beq j 5 || (Nat.ble 7 j && Nat.ble j 11)) else false
def aN (T T1 : Tr) : Prop := ∀ a j, Wn a j = false → T1 a j = T a j
theorem aN_rfl {T : Tr} : aN T T := fun _ _ _ => rfl
theorem aN_tr {T T1 T2 : Tr} (h1 : aN T T1) (h2 : aN T1 T2) : aN T T2 := fun a j h => (h2 a j h).trans (h1 a j h)
theorem aN_set {z T : Tr} {a i : Nat} {v : Int32} (h : aN z T) (hw : Wn a i = true) : aN z (st T a i v) := fun c j hf => by
  rcases st_or (S := T) (a := a) (i := i) (b := c) (j := j) (v := v) with e | ⟨e1, e2⟩
  · rw [e]; exact h c j hf
  · subst e1; subst e2; rw [hw] at hf; cases hf
theorem aN_K {z T : Tr} (h : aK z T) : aN z T := fun a j hf => h a j (by
  unfold Wn at hf
  cases hq : Nat.beq a 0 with
  | false => rfl
  | true =>
    rw [hq] at hf
    simp only [cond_true, Bool.or_eq_false_iff] at hf
    show (Nat.ble 7 j && Nat.ble j 10) = false
    cases h7 : Nat.ble 7 j with
    | false => rfl
    | true =>
      have h8 : Nat.ble j 11 = false := by have := hf.2; rw [h7] at this; exact this
      cases h9 : Nat.ble j 10 with
      | false => rfl
      | true =>
        have := Nat.le_of_ble_eq_true h9
        rw [Nat.ble_eq_true_of_le (by omega : j ≤ 11)] at h8
        cases h8)
theorem kP_of {T T1 : Tr} (h : kP T) (h6 : T1 0 6 = T 0 6) (h7 : T1 0 7 = T 0 7) (h8 : T1 0 8 = T 0 8) (h9 : T1 0 9 = T 0 9) : kP T1 := by
  unfold kP; rw [h6, h7, h8, h9]; exact h
/-- wrong, as a number sees it -/
theorem t2_wrong (S : Tr) (x1 : Int32) (hS : iR BM S) (hk : kP S) : D (f_X8_wrong S x1) (fun q => q.1 = 0 ∧ iR BM q.2 ∧ aN S q.2 ∧ kP q.2) := by
  refine D_mono (t_X8_wrong S x1 hS) (fun q h => ⟨h.1, h.2.1, ?_, ?_⟩)
  · intro a j hf
    refine h.2.2.2 a j (fun hz => ?_)
    rcases hz with ⟨e, e1 | e1⟩ <;> subst e <;> subst e1 <;> exact absurd hf (by decide)
  · exact kP_of hk (h.2.2.2 0 6 (by decide)) (h.2.2.2 0 7 (by decide)) (h.2.2.2 0 8 (by decide)) (h.2.2.2 0 9 (by decide))
theorem wK_S {T T1 : Tr} (h : ∀ j, T1 4 j = T 4 j) (hw : wK T) : wK T1 := by
  have hc : ∀ n, cw T1 n = cw T n := by
    intro n
    induction n with
    | zero => rfl
    | succ n ih => show cw T1 n + (if T1 4 n = 32 then 1 else 0) = cw T n + (if T 4 n = 32 then 1 else 0); rw [ih, h n]
  exact ⟨by rw [hc]; exact hw.1, by rw [h]; exact hw.2⟩
theorem t_X8_number (S : Tr) (x1 x2 : Int32) (hS : iR BM S) (hw : wK S) (hk : kP S) : D (f_X8_number S x1 x2) (fun q => (q.1 = 0 ∨ (q.1 = 1 ∧ x1.toInt ≤ (q.2 0 11).toInt ∧ (q.2 0 11).toInt ≤ x2.toInt)) ∧ iR BM q.2 ∧ aN S q.2 ∧ kP q.2) := by
  have hwr : ∀ y, D (bd (f_X8_wrong S y) fun q => lt q.1 fun r10 => lt q.2 fun S_11 => ck (okB r10) (some (r10, S_11))) (fun q => (q.1 = 0 ∨ (q.1 = 1 ∧ x1.toInt ≤ (q.2 0 11).toInt ∧ (q.2 0 11).toInt ≤ x2.toInt)) ∧ iR BM q.2 ∧ aN S q.2 ∧ kP q.2) := by
    intro y
    refine D_bd (t2_wrong S y hS hk) (fun q _ hq => ?_)
    refine D_ck ?_ (D_some ⟨Or.inl hq.1, hq.2⟩)
    rw [hq.1]; decide
  unfold f_X8_number
  refine D_ite (fun c => ?_) (fun c => hwr 1)
  refine D_bd (t_X8_isIn (S 0 9) x1 x2) (fun r _ hr => D_ite (fun _ => hwr 2) (fun c1 => ?_))
  have hr1 := hr.2 (one_of hr.1 c1)
  have rr := i_rng (S 0 9)
  refine D_lt (fun y ey => ?_)
  have hy : iR BM y := by
    rw [ey]
    refine iR_set (a := 0) (i := 11) hS ?_ ?_
    · show (-2147483648 : Int) ≤ _; omega
    · show _ ≤ (2147483647 : Int); omega
  have e11 : y 0 11 = S 0 9 := by rw [ey, st_same]
  have aY : aN S y := by rw [ey]; exact aN_set aN_rfl rfl
  refine D_bd (t_X8_token y hy (wK_S (fun j => aY 4 j rfl) hw) (by rw [ey, st_ne (by decide), st_ne (by decide)]; exact hk.1)) (fun q _ hq => ?_)
  refine D_some ⟨Or.inr ⟨rfl, ?_⟩, hq.1, aN_tr aY (aN_K hq.2.1), hq.2.2⟩
  show x1.toInt ≤ (q 0 11).toInt ∧ (q 0 11).toInt ≤ x2.toInt
  rw [hq.2.1 0 11 rfl, e11]; exact hr1
