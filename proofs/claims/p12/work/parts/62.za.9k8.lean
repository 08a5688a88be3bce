/-! what class and reference keep of a text, row by row -/
def cK (a j : Nat) : Prop := (a = 0 ∧ 12 ≤ j ∧ j ≤ 15) ∨ (a = 23 ∧ j < 3) ∨ ((a = 24 ∨ a = 25) ∧ j < 5) ∨ ((a = 26 ∨ a = 27 ∨ a = 28 ∨ a = 29) ∧ j < 6) ∨ ((a = 30 ∨ a = 31 ∨ a = 32 ∨ a = 33) ∧ j < 10) ∨ (a = 34 ∧ j < 21)
theorem b_lt {n j : Nat} (h : j < n) : Nat.ble n j = false := by
  rw [← Bool.not_eq_true]; intro c; have := Nat.le_of_ble_eq_true c; omega
theorem Wp_k {a j : Nat} (h : cK a j) : Wp a j = false := by
  rcases h with ⟨rfl, h1, h2⟩ | ⟨rfl, h⟩ | ⟨rfl | rfl, h⟩ | ⟨rfl | rfl | rfl | rfl, h⟩ | ⟨rfl | rfl | rfl | rfl, h⟩ | ⟨rfl, h⟩
  · rcases (by omega : j = 12 ∨ j = 13 ∨ j = 14 ∨ j = 15) with rfl | rfl | rfl | rfl <;> rfl
  all_goals (unfold Wp; rw [b_lt h]; rfl)
theorem Wg_k {a j : Nat} (h : cK a j) : Wg a j = false := by
  rcases h with ⟨rfl, h1, h2⟩ | ⟨rfl, h⟩ | ⟨rfl | rfl, h⟩ | ⟨rfl | rfl | rfl | rfl, h⟩ | ⟨rfl | rfl | rfl | rfl, h⟩ | ⟨rfl, h⟩
  · rcases (by omega : j = 12 ∨ j = 13 ∨ j = 14 ∨ j = 15) with rfl | rfl | rfl | rfl <;> rfl
  all_goals rfl
def nmR (P S : Tr) : Prop := (P 0 0 = S 0 12 ∧ P 0 1 = S 0 13 ∧ P 0 2 = S 0 14 ∧ P 0 3 = S 0 15 ∧ P 0 4 = S 23 0 ∧ P 0 5 = S 23 1 ∧ P 0 6 = S 23 2) ∧ (∀ i : Nat, (i : Int) < (S 0 12).toInt → P 8 i = S 24 i ∧ P 9 i = S 25 i) ∧ (∀ p : Nat, (p : Int) < (S 0 13).toInt → P 10 p = S 26 p ∧ P 11 p = S 27 p ∧ P 12 p = S 28 p ∧ P 13 p = S 29 p) ∧ (∀ i : Nat, (i : Int) < (S 0 14).toInt → P 14 i = S 30 i ∧ P 15 i = S 31 i ∧ P 16 i = S 32 i ∧ P 17 i = S 33 i) ∧ ∀ t : Nat, t < 21 → P 18 t = S 34 t
theorem nm_k {P S S1 : Tr} (h : nmR P S) (hS : iR BM S) (e : ∀ a j, cK a j → S1 a j = S a j) : nmR P S1 := by
  have b12 : 0 ≤ (S 0 12).toInt ∧ (S 0 12).toInt ≤ 5 := hS 0 12
  have b13 : 0 ≤ (S 0 13).toInt ∧ (S 0 13).toInt ≤ 6 := hS 0 13
  have b14 : 0 ≤ (S 0 14).toInt ∧ (S 0 14).toInt ≤ 10 := hS 0 14
  have z : ∀ j, 12 ≤ j → j ≤ 15 → S1 0 j = S 0 j := fun j h1 h2 => e 0 j (Or.inl ⟨rfl, h1, h2⟩)
  have y : ∀ j, j < 3 → S1 23 j = S 23 j := fun j h1 => e 23 j (Or.inr (Or.inl ⟨rfl, h1⟩))
  obtain ⟨h1, h2, h3, h4, h5⟩ := h
  refine ⟨?_, fun i hi => ?_, fun p hp => ?_, fun i hi => ?_, fun t ht => ?_⟩
  · rw [z 12 (by decide) (by decide), z 13 (by decide) (by decide), z 14 (by decide) (by decide), z 15 (by decide) (by decide), y 0 (by decide), y 1 (by decide), y 2 (by decide)]; exact h1
  · rw [z 12 (by decide) (by decide)] at hi
    rw [e 24 i (Or.inr (Or.inr (Or.inl ⟨by omega, by omega⟩))), e 25 i (Or.inr (Or.inr (Or.inl ⟨by omega, by omega⟩)))]; exact h2 i hi
  · rw [z 13 (by decide) (by decide)] at hp
    have q : ∀ a, a = 26 ∨ a = 27 ∨ a = 28 ∨ a = 29 → S1 a p = S a p := fun a ha => e a p (Or.inr (Or.inr (Or.inr (Or.inl ⟨ha, by omega⟩))))
    rw [q 26 (by omega), q 27 (by omega), q 28 (by omega), q 29 (by omega)]; exact h3 p hp
  · rw [z 14 (by decide) (by decide)] at hi
    have q : ∀ a, a = 30 ∨ a = 31 ∨ a = 32 ∨ a = 33 → S1 a i = S a i := fun a ha => e a i (Or.inr (Or.inr (Or.inr (Or.inr (Or.inl ⟨ha, by omega⟩)))))
    rw [q 30 (by omega), q 31 (by omega), q 32 (by omega), q 33 (by omega)]; exact h4 i hi
  · rw [e 34 t (Or.inr (Or.inr (Or.inr (Or.inr (Or.inr ⟨rfl, ht⟩)))))]; exact h5 t ht
theorem nm_W {P S S1 : Tr} (h : nmR P S) (hS : iR BM S) (a : aW S S1) : nmR P S1 := nm_k h hS (fun c j q => a c j (Wg_k q))
theorem nm_T {P S S1 : Tr} (h : nmR P S) (hS : iR BM S) (a : kFT S S1) : nmR P S1 := nm_k h hS (fun c j q => a c j (Wp_k q) (fun g => by
  rcases q with ⟨_, h1, _⟩ | ⟨h1, _⟩ | ⟨h1, _⟩ | ⟨h1, _⟩ | ⟨h1, _⟩ | ⟨h1, _⟩ <;> omega))
theorem nm_f {P S S1 : Tr} (h : nmR P S) (hS : iR BM S) (a : kfT S S1) : nmR P S1 := nm_k h hS (fun c j q => a c j (by
  rcases q with ⟨h0, h1, h2⟩ | ⟨h1, _⟩ | ⟨h1, _⟩ | ⟨h1, _⟩ | ⟨h1, _⟩ | ⟨h1, _⟩ <;> omega))
theorem nm_KT {R P T S1 : Tr} (h : RD R P T) (k : KT T S1) : nmR P S1 := by
  obtain ⟨⟨a0, a1, a2⟩, ⟨b0, b1, b2⟩, ⟨c0, c1, c2⟩, hW, hO, hL⟩ := h
  obtain ⟨_, _, _, _, hw⟩ := hW
  obtain ⟨_, _, _, _, o4, o5, o6⟩ := hO
  obtain ⟨k0, k23, k24, k25, k26, k27, k28, k29, k30, k31, k32, k33, k34, _⟩ := k
  have z12 := k0 12 (by decide) (by decide)
  have z13 := k0 13 (by decide) (by decide)
  have z14 := k0 14 (by decide) (by decide)
  have z15 := k0 15 (by decide) (by decide)
  refine ⟨⟨a0.trans z12.symm, b0.trans z13.symm, c0.trans z14.symm, ?_, o4.trans (k23 0 (by decide)).symm, o5.trans (k23 1 (by decide)).symm, o6.trans (k23 2 (by decide)).symm⟩, fun i hi => ?_, fun p hp => ?_, fun i hi => ?_, fun t ht => ?_⟩
  · rw [z15, hL.1]; exact hL.2.1.symm
  · rw [z12] at hi
    have a1 := a1
    have hi : (i : Int) < (T 0 16).toInt := hi
    rw [k24 i (by omega), k25 i (by omega)]; exact a2 i hi
  · rw [z13] at hp
    have hp : (p : Int) < (T 0 17).toInt := hp
    rw [k26 p (by omega), k27 p (by omega), k28 p (by omega), k29 p (by omega)]; exact b2 p hp
  · rw [z14] at hi
    have hi : (i : Int) < (T 0 18).toInt := hi
    rw [k30 i (by omega), k31 i (by omega), k32 i (by omega), k33 i (by omega)]; exact c2 i hi
  · rw [k34 t ht]; exact hw t ht
/-- at the start -/
theorem nm_0 {P S S1 A B : Tr} {L LM : Lo} (hP : f_X2_clear A = some P) (h1 : f_X8_plain B = some S1) (h2 : f_X8_keepText S1 L = some (S, LM)) : nmR P S := by
  obtain ⟨p1, p2, _⟩ := e_clr _ _ hP
  obtain ⟨q1, q2, q3, _⟩ := e_plain _ _ h1
  have k := k_keepText S1 L _ h2
  obtain ⟨k0, k23, k24, k25, k26, k27, k28, k29, k30, k31, k32, k33, k34, _⟩ := k
  have z : ∀ j, 12 ≤ j → j ≤ 15 → S 0 j = 0 := fun j g1 g2 => (k0 j g1 g2).trans (q3 (j + 4) (by omega))
  have l0 : (0 : Int32).toInt = 0 := by decide
  refine ⟨⟨?_, ?_, ?_, ?_, ?_, ?_, ?_⟩, fun i hi => ?_, fun p hp => ?_, fun i hi => ?_, fun t ht => ?_⟩
  · rw [p1 0 (by decide), z 12 (by decide) (by decide)]
  · rw [p1 1 (by decide), z 13 (by decide) (by decide)]
  · rw [p1 2 (by decide), z 14 (by decide) (by decide)]
  · rw [p1 3 (by decide), z 15 (by decide) (by decide)]
  · rw [p1 4 (by decide), show S 23 0 = S1 23 (3 + 0) from k23 0 (by decide), (q2 0 (by decide)).2.1]
  · rw [p1 5 (by decide), show S 23 1 = S1 23 (3 + 1) from k23 1 (by decide), (q2 1 (by decide)).2.1]
  · rw [p1 6 (by decide), show S 23 2 = S1 23 (3 + 2) from k23 2 (by decide), (q2 2 (by decide)).2.1]
  · rw [z 12 (by decide) (by decide), l0] at hi; omega
  · rw [z 13 (by decide) (by decide), l0] at hp; omega
  · rw [z 14 (by decide) (by decide), l0] at hi; omega
  · rw [p2 t ht, show S 34 t = S1 34 (21 + t) from k34 t ht, (q1 t ht).1]
/-! who is named -/
theorem e_fnd (pa qa : Nat → Nat) {P S : Tr} (h : nmR P S) (b : 0 ≤ (S 0 13).toInt ∧ (S 0 13).toInt ≤ 6) (x : Int32) (N : Nat) : ∀ (i : Int32), 0 ≤ i.toInt → i.toInt ≤ 6 → E2 (lpF (fun _ => none) (fB_X2_personNamed_x_L2 pa qa P x) N i) (lpF (fun _ => none) (fB_X8_find_26_L3 S 0 (S 0 13) x) N i) (fun a b => a = b) := by
  induction N with
  | zero => intro i _ _; exact E2_nl
  | succ N ih =>
    intro i i0 i6
    show E2 (fB_X2_personNamed_x_L2 pa qa P x (lpF (fun _ => none) (fB_X2_personNamed_x_L2 pa qa P x) N) i) (fB_X8_find_26_L3 S 0 (S 0 13) x (lpF (fun _ => none) (fB_X8_find_26_L3 S 0 (S 0 13) x) N) i) _
    generalize lpF (fun _ => none) (fB_X2_personNamed_x_L2 pa qa P x) N = k at ih ⊢
    generalize lpF (fun _ => none) (fB_X8_find_26_L3 S 0 (S 0 13) x) N = k' at ih ⊢
    unfold fB_X2_personNamed_x_L2 fB_X8_find_26_L3
    rw [h.1.2.1, Int32.zero_add]
    refine E2_it Iff.rfl (fun _ _ => E2_some rfl) (fun c _ => E2_ckl (fun _ => E2_ckr (fun _ => ?_)))
    have k1 := tq_len (x := S 0 13) (y := i) rfl rfl c
    have hi : ((i.toNatClampNeg : Nat) : Int) = i.toInt := by rw [i_cl]; omega
    rw [(h.2.2.1 i.toNatClampNeg (by rw [hi]; omega)).1]
    refine E2_it Iff.rfl (fun _ _ => E2_some rfl) (fun _ _ => E2_ltl (fun y ey => E2_ltr (fun y' ey' => ?_)))
    subst ey ey'
    have e2 : (i + 1).toInt = i.toInt + 1 := i_addK rfl (by decide) (by omega) (by omega)
    exact ih (i + 1) (by omega) (by omega)
theorem e_named (pa qa : Nat → Nat) {P S : Tr} (q4 : Nat) (h : nmR P S) (hS : iR BM S) (x : Int32) : E2 (f_X7_named pa qa P q4 x) (f_X8_named S x) (fun r q => r = q.1) := by
  unfold f_X7_named f_X8_named f_X2_personNamed_x fL_X2_personNamed_x_L2 f_X8_find_26 fL_X8_find_26_L3
  refine E2_ckl (fun _ => E2_ltr (fun S1 e1 => ?_))
  have n1 : nmR P S1 := nm_k h hS (fun a j q => by rw [e1, st_no (fun g => by rcases q with ⟨_, h1, _⟩ | ⟨h1, _⟩ | ⟨h1, _⟩ | ⟨h1, _⟩ | ⟨h1, _⟩ | ⟨h1, _⟩ <;> omega)])
  have b1 : 0 ≤ (S1 0 13).toInt ∧ (S1 0 13).toInt ≤ 6 := by rw [e1, st_ne (by decide)]; exact hS 0 13
  exact E2_bd (e_fnd pa qa n1 b1 x 2000 0 (by decide) (by decide)) (fun a b hab => E2_some hab)
/-! for whom one waits -/
theorem e_waits (pa qa : Nat → Nat) {P S : Tr} (q4 : Nat) (h : nmR P S) (x : Int32) : E2 (f_X7_waits pa qa P q4 x) (f_X8_waits S x) (fun r q => r = q.1) := by
  unfold f_X7_waits f_X8_waits f_X8_isIn
  refine E2_ltr (fun S1 e1 => ?_)
  have e34 : S1 34 = S 34 := by rw [e1, st_oth (by decide)]
  by_cases c : x < 0
  · refine E2_pl c ?_
    rw [if_pos c]
    exact E2_sr (E2_pr rfl (E2_some rfl))
  · refine E2_ql c ?_
    rw [if_neg c]
    have k := tq_ltn (x := x) (y := (0 : Int32)) rfl (b := 0) (by decide) c
    by_cases f : x ≤ 20
    · have g := tq_le (x := x) (y := (20 : Int32)) rfl (b := 20) (by decide) f
      refine E2_pl f (E2_ckl (fun _ => E2_ckl (fun _ => ?_)))
      rw [if_neg (Int32.not_lt.mpr f)]
      refine E2_sr (E2_qr (by decide) (E2_ckr (fun _ => E2_some ?_)))
      show P 18 x.toNatClampNeg = S1 34 x.toNatClampNeg
      rw [e34]
      exact h.2.2.2.2 _ (by rw [i_cl]; omega)
    · refine E2_ql f ?_
      rw [if_pos (Int32.not_le.mp f)]
      exact E2_sr (E2_pr rfl (E2_some rfl))
