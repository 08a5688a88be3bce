/-! two functions side by side: if both answer, the answers belong together -/
def E2 {α β : Type} (x : Option α) (y : Option β) (Q : α → β → Prop) : Prop := ∀ a b, x = some a → y = some b → Q a b
section
variable {α β γ δ : Type} {Q : α → β → Prop}
theorem E2_some {a : α} {b : β} (h : Q a b) : E2 (some a) (some b) Q := fun _ _ e1 e2 => by cases e1; cases e2; exact h
theorem E2_nl {y : Option β} : E2 (none : Option α) y Q := fun _ _ e _ => by cases e
theorem E2_nr {x : Option α} : E2 x (none : Option β) Q := fun _ _ _ e => by cases e
theorem E2_itl {c : Prop} {d : Decidable c} {a b : Option α} {y : Option β} (h1 : c → E2 a y Q) (h2 : ¬ c → E2 b y Q) : E2 (@ite (Option α) c d a b) y Q := by
  by_cases hc : c
  · rw [if_pos hc]; exact h1 hc
  · rw [if_neg hc]; exact h2 hc
theorem E2_itr {c : Prop} {d : Decidable c} {a b : Option β} {x : Option α} (h1 : c → E2 x a Q) (h2 : ¬ c → E2 x b Q) : E2 x (@ite (Option β) c d a b) Q := by
  by_cases hc : c
  · rw [if_pos hc]; exact h1 hc
  · rw [if_neg hc]; exact h2 hc
theorem E2_it {c c' : Prop} {d : Decidable c} {d' : Decidable c'} {a b : Option α} {a' b' : Option β} (hi : c ↔ c') (h1 : c → c' → E2 a a' Q) (h2 : ¬ c → ¬ c' → E2 b b' Q) : E2 (@ite (Option α) c d a b) (@ite (Option β) c' d' a' b') Q :=
  E2_itl (fun h => E2_itr (fun h' => h1 h h') (fun h' => absurd (hi.mp h) h')) (fun h => E2_itr (fun h' => absurd (hi.mpr h') h) (fun h' => h2 h h'))
theorem E2_pl {c : Prop} {d : Decidable c} {a b : Option α} {y : Option β} (hc : c) (h : E2 a y Q) : E2 (@ite (Option α) c d a b) y Q := by rw [if_pos hc]; exact h
theorem E2_ql {c : Prop} {d : Decidable c} {a b : Option α} {y : Option β} (hc : ¬ c) (h : E2 b y Q) : E2 (@ite (Option α) c d a b) y Q := by rw [if_neg hc]; exact h
theorem E2_pr {c : Prop} {d : Decidable c} {a b : Option β} {x : Option α} (hc : c) (h : E2 x a Q) : E2 x (@ite (Option β) c d a b) Q := by rw [if_pos hc]; exact h
theorem E2_qr {c : Prop} {d : Decidable c} {a b : Option β} {x : Option α} (hc : ¬ c) (h : E2 x b Q) : E2 x (@ite (Option β) c d a b) Q := by rw [if_neg hc]; exact h
theorem E2_ckl {g : Bool} {k : Option α} {y : Option β} (h : g = true → E2 k y Q) : E2 (ck g k) y Q := fun a b e1 e2 => h (tx_ck e1).1 a b (tx_ck e1).2 e2
theorem E2_ckr {g : Bool} {k : Option β} {x : Option α} (h : g = true → E2 x k Q) : E2 x (ck g k) Q := fun a b e1 e2 => h (tx_ck e2).1 a b e1 (tx_ck e2).2
theorem E2_ltl {v : γ} {k : γ → Option α} {y : Option β} (h : ∀ z, z = v → E2 (k z) y Q) : E2 (lt v k) y Q := h v rfl
theorem E2_ltr {v : γ} {k : γ → Option β} {x : Option α} (h : ∀ z, z = v → E2 x (k z) Q) : E2 x (lt v k) Q := h v rfl
theorem E2_bd {x : Option γ} {y : Option δ} {k : γ → Option α} {k' : δ → Option β} {R : γ → δ → Prop} (h1 : E2 x y R) (h : ∀ a b, R a b → E2 (k a) (k' b) Q) : E2 (bd x k) (bd y k') Q := fun a b e1 e2 => by
  obtain ⟨c, hc, hk⟩ := tx_bd e1
  obtain ⟨d, hd, hk'⟩ := tx_bd e2
  exact h c d (h1 c d hc hd) a b hk hk'
theorem E2_bl {x : Option γ} {k : γ → Option α} {y : Option β} {R : γ → Prop} (h1 : Ep x R) (h : ∀ a, R a → E2 (k a) y Q) : E2 (bd x k) y Q := fun a b e1 e2 => by
  obtain ⟨c, hc, hk⟩ := tx_bd e1
  exact h c (h1 c hc) a b hk e2
theorem E2_br {x : Option α} {y : Option δ} {k' : δ → Option β} {R : δ → Prop} (h1 : Ep y R) (h : ∀ b, R b → E2 x (k' b) Q) : E2 x (bd y k') Q := fun a b e1 e2 => by
  obtain ⟨d, hd, hk'⟩ := tx_bd e2
  exact h d (h1 d hd) a b e1 hk'
theorem E2_mono {x : Option α} {y : Option β} {R : α → β → Prop} (h1 : E2 x y R) (h : ∀ a b, R a b → Q a b) : E2 x y Q := fun a b e1 e2 => h a b (h1 a b e1 e2)
theorem E2_ep {x : Option α} {y : Option β} {R : α → Prop} {R' : β → Prop} (h1 : Ep x R) (h2 : Ep y R') (h : ∀ a b, R a → R' b → Q a b) : E2 x y Q := fun a b e1 e2 => h a b (h1 a e1) (h2 b e2)
theorem E2_and {x : Option α} {y : Option β} {R : α → Prop} {R' : β → Prop} (h1 : Ep x R) (h2 : Ep y R') (h : E2 x y Q) : E2 x y (fun a b => Q a b ∧ R a ∧ R' b) := fun a b e1 e2 => ⟨h a b e1 e2, h1 a e1, h2 b e2⟩
theorem Ep_mono {ρ : Type} {x : Option ρ} {Q1 Q2 : ρ → Prop} (h1 : Ep x Q1) (h : ∀ r, Q1 r → Q2 r) : Ep x Q2 := fun r e => h r (h1 r e)
theorem Ep_and {ρ : Type} {x : Option ρ} {Q1 Q2 : ρ → Prop} (h1 : Ep x Q1) (h2 : Ep x Q2) : Ep x (fun r => Q1 r ∧ Q2 r) := fun r e => ⟨h1 r e, h2 r e⟩
theorem D_to {ρ : Type} {x : Option ρ} {Q1 : ρ → Prop} (h : D x Q1) : Ep x Q1 := fun r e => by
  obtain ⟨r1, e1, h1⟩ := h
  rw [e] at e1; cases e1; exact h1
end
/-- kinds of tokens: the class's, the reference's, and which of its kind the reference's is -/
def kI (c k w : Int) : Prop := (c = 45 ∧ k = 0) ∨ (k = 1 ∧ 0 ≤ w ∧ w ≤ 28 ∧ ((w = 19 ∧ c = 20) ∨ (w = 20 ∧ c = 19) ∨ (w ≠ 19 ∧ w ≠ 20 ∧ c = w))) ∨ (c = 43 ∧ k = 2) ∨ (c = 42 ∧ k = 3) ∨ (k = 5 ∧ 0 ≤ w ∧ w ≤ 5 ∧ c = 29 + w) ∨ (k = 4 ∧ ((w = 59 ∧ c = 41) ∨ (w = 40 ∧ c = 39) ∨ (w = 41 ∧ c = 40) ∨ (w = 43 ∧ c = 35) ∨ (w = 45 ∧ c = 36) ∨ (w = 42 ∧ c = 37) ∨ (w = 47 ∧ c = 38) ∨ (w = 37 ∧ c = 44))) ∨ (c = 44 ∧ k = 6)
/-- what the class tells of a sign -/
def sgC (c d r : Int) : Prop := (c = 40 ∧ r = 39) ∨ (c = 41 ∧ r = 40) ∨ (c = 42 ∧ r = 37) ∨ (c = 43 ∧ r = 35) ∨ (c = 45 ∧ r = 36) ∨ (c = 47 ∧ r = 38) ∨ (c = 59 ∧ r = 41) ∨ (c = 60 ∧ ((d = 61 ∧ r = 30) ∨ (d = 62 ∧ r = 32) ∨ (d ≠ 61 ∧ d ≠ 62 ∧ r = 29))) ∨ (c = 61 ∧ r = 31) ∨ (c = 62 ∧ ((d = 61 ∧ r = 33) ∨ (d ≠ 61 ∧ r = 34))) ∨ (c ≠ 40 ∧ c ≠ 41 ∧ c ≠ 42 ∧ c ≠ 43 ∧ c ≠ 45 ∧ c ≠ 47 ∧ c ≠ 59 ∧ c ≠ 60 ∧ c ≠ 61 ∧ c ≠ 62 ∧ r = 44)
theorem i_is {x y : Int32} {k : Int} (hk : y.toInt = k) (h : x = y) : x.toInt = k := by rw [h]; exact hk
theorem i_isn {x y : Int32} {k : Int} (hk : y.toInt = k) (h : ¬ x = y) : ¬ x.toInt = k := fun e => h (Int32.toInt_inj.mp (e.trans hk.symm))
theorem e_sign (c d : Int32) : Ep (f_X5_sign c d) (fun r => sgC c.toInt d.toInt r.toInt) := by
  unfold f_X5_sign sgC
  refine Ep_ite (fun c1 => Ep_some ?_) (fun c1 => Ep_ite (fun c2 => Ep_some ?_) (fun c2 => Ep_ite (fun c3 => Ep_some ?_) (fun c3 => Ep_ite (fun c4 => Ep_some ?_) (fun c4 => Ep_ite (fun c5 => Ep_some ?_) (fun c5 => Ep_ite (fun c6 => Ep_some ?_) (fun c6 => Ep_ite (fun c7 => Ep_some ?_) (fun c7 => Ep_ite (fun c8 => Ep_ite (fun c9 => Ep_some ?_) (fun c9 => Ep_ite (fun c10 => Ep_some ?_) (fun c10 => Ep_some ?_))) (fun c8 => Ep_ite (fun c9 => Ep_some ?_) (fun c9 => Ep_ite (fun c10 => Ep_ite (fun c11 => Ep_some ?_) (fun c11 => Ep_some ?_)) (fun c10 => Ep_some ?_))))))))))
  all_goals ((try simp only [Int32.le_iff_toInt_le, Int32.lt_iff_toInt_lt, ← Int32.toInt_inj, Int32.reduceToInt, and_true, true_and, true_or, or_true, and_false, false_and, or_false, false_or, Int.reduceEq, Int.reduceLE, Int.reduceLT, not_true_eq_false, not_false_eq_true, ne_eq] at *) <;> omega)
