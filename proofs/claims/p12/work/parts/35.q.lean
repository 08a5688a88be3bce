theorem uB_s {m : Nat} (h : m < 50) : uB m = (0, 9) := by
  unfold uB; rw [show Nat.blt m 50 = true from Nat.blt_eq.mpr h]; rfl
theorem uB_m {m : Nat} (h0 : 50 ≤ m) (h : m < 55) : uB m = (0, 10) := by
  rcases (show m = 50 ∨ m = 51 ∨ m = 52 ∨ m = 53 ∨ m = 54 by omega) with rfl | rfl | rfl | rfl | rfl <;> rfl
theorem uB_a {m : Nat} (h0 : 55 ≤ m) (h : m < 61) : uB m = fullB := by
  rcases (show m = 55 ∨ m = 56 ∨ m = 57 ∨ m = 58 ∨ m = 59 ∨ m = 60 by omega) with rfl | rfl | rfl | rfl | rfl | rfl <;> rfl
def tkR (S : Tr) (A o : Nat) : Tr := cnM (cpY (cpY (cpY S A o 55 50) A (o + 50) 56 5) A (o + 55) 58 6) 10
theorem tr_54 {S : Tr} {A o j : Nat} (h : j < 10) : tkR S A o 54 j = -1 := by unfold tkR cnM; rw [if_pos ⟨rfl, h⟩]
theorem tr_55 {S : Tr} {A o j : Nat} (h : j < 50) : tkR S A o 55 j = S A (o + j) := by
  unfold tkR cnM; rw [if_neg (by omega)]
  unfold cpY; rw [if_neg (by omega), if_neg (by omega), if_pos ⟨rfl, h⟩]
theorem tr_56 {S : Tr} {A o j : Nat} (hA : A ≠ 55) (h : j < 5) : tkR S A o 56 j = S A (o + 50 + j) := by
  unfold tkR cnM; rw [if_neg (by omega)]
  unfold cpY; rw [if_neg (by omega), if_pos ⟨rfl, h⟩, if_neg (fun q => hA q.1)]
theorem tr_58 {S : Tr} {A o j : Nat} (hA : A ≠ 55) (hB : A ≠ 56) (h : j < 6) : tkR S A o 58 j = S A (o + 55 + j) := by
  unfold tkR cnM; rw [if_neg (by omega)]
  unfold cpY; rw [if_pos ⟨rfl, h⟩, if_neg (fun q => hB q.1), if_neg (fun q => hA q.1)]
theorem tr_o {S : Tr} {A o a j : Nat} (h : ¬ (a = 54 ∧ j < 10)) (h5 : ¬ (a = 55 ∧ j < 50)) (h6 : ¬ (a = 56 ∧ j < 5)) (h8 : ¬ (a = 58 ∧ j < 6)) : tkR S A o a j = S a j := by
  unfold tkR cnM; rw [if_neg h]
  unfold cpY; rw [if_neg h8, if_neg h6, if_neg h5]
theorem tr_BM {S : Tr} {A o : Nat} (hS : iR BM S) (hA : A = 84 ∨ A = 86) (ho : o % 61 = 0) : iR BM (tkR S A o) := by
  have hu : ∀ j, BM A j = uB (j % 61) := fun j => by rcases hA with e | e <;> subst e <;> rfl
  have e5 : A ≠ 55 := by omega
  have e6 : A ≠ 56 := by omega
  intro a j
  by_cases h4 : a = 54 ∧ j < 10
  · obtain ⟨q1, q2⟩ := h4
    subst q1
    rw [tr_54 q2]
    show (-1 : Int) ≤ _ ∧ _ ≤ (4 : Int)
    decide
  by_cases h5 : a = 55 ∧ j < 50
  · obtain ⟨q1, q2⟩ := h5
    subst q1
    rw [tr_55 q2]
    have h := hS A (o + j)
    rw [hu, uB_s (by omega)] at h
    exact h
  by_cases h6 : a = 56 ∧ j < 5
  · obtain ⟨q1, q2⟩ := h6
    subst q1
    rw [tr_56 e5 q2]
    have h := hS A (o + 50 + j)
    rw [hu, uB_m (by omega) (by omega)] at h
    exact h
  by_cases h8 : a = 58 ∧ j < 6
  · obtain ⟨q1, q2⟩ := h8
    subst q1
    exact full_at _
  rw [tr_o h4 h5 h6 h8]
  exact hS a j

theorem t_X8_take_84 (S : Tr) (x2 : Int32) (H : Nat → Int32) (hS : iR BM S) (hx2 : 0 ≤ x2.toInt ∧ x2.toInt ≤ 1159) (hmod : x2.toNatClampNeg % 61 = 0) (hrow : rowOK S 84 x2.toNatClampNeg H) : D (f_X8_take_84 S x2) (fun q => iR BM q ∧ gS 0 q ∧ (∀ i, i < 10 → (H i = 1 ↔ 0 ≤ lyM q 0 i)) ∧ gA 0 q ∧ (∀ a j, a ≠ 54 → a ≠ 55 → a ≠ 56 → a ≠ 58 → q a j = S a j) ∧ aG 0 S q) := by
  obtain ⟨ly, r1, r2, r3, r4⟩ := hrow
  have hw : iR BM (tkR S 84 x2.toNatClampNeg) := tr_BM hS (by decide) hmod
  have e0 : ∀ j, tkR S 84 x2.toNatClampNeg 0 j = S 0 j := fun j => tr_o (by omega) (by omega) (by omega) (by omega)
  have e6 : ∀ p, p < 5 → mnM (tkR S 84 x2.toNatClampNeg) 0 p = mnR S 84 x2.toNatClampNeg p := fun p hp => by unfold mnM mnR; rw [show 5 * 0 + p = p by omega, tr_56 (by decide) hp]
  have m10 : ∀ p, p < 5 → mnR S 84 x2.toNatClampNeg p ≤ 10 := fun p hp => by rw [← e6 p hp]; exact (BM56 hw _).2
  have gw : gF (mnM (tkR S 84 x2.toNatClampNeg) 0) (skM (tkR S 84 x2.toNatClampNeg) 0) ly (tkR S 84 x2.toNatClampNeg 0 14).toInt := by
    rw [e0]
    obtain ⟨h1, h2, h3⟩ := r1
    have hs : ∀ p k, p < 5 → k < 10 → skM (tkR S 84 x2.toNatClampNeg) 0 p k = skR S 84 x2.toNatClampNeg p k := fun p k hp hk => by unfold skM skR; rw [show 50 * 0 + 10 * p + k = 10 * p + k by omega, tr_55 (by omega)]
    refine ⟨fun p k hp hk => ?_, fun i p hi hl => ?_, fun p k l hp hk hl e => ?_⟩
    · rw [e6 p hp] at hk
      rw [hs p k hp (by have := m10 p hp; omega)]
      exact h1 p k hp hk
    · obtain ⟨k, c1, c2⟩ := h2 i p hi hl
      have := r2 i
      have hp : p < 5 := by omega
      exact ⟨k, by rw [e6 p hp]; exact c1, by rw [hs p k hp (by have := m10 p hp; omega)]; exact c2⟩
    · rw [e6 p hp] at hk hl
      have := m10 p hp
      rw [hs p k hp (by omega), hs p l hp (by omega)] at e
      exact h3 p k l hp hk hl e
  unfold f_X8_take_84
  refine k_X8_take_84_L2 S x2 hx2 (k_X8_take_84_L27 _ x2 hx2 (k_X8_take_84_L54 _ x2 hx2 (k_X8_take_84_L82 _ (D_mono (k_X8_take_84_L103 (tkR S 84 x2.toNatClampNeg) hw ly gw r2 (fun i hi => tr_54 hi)) (fun q hq => ?_)))))
  obtain ⟨q1, q2⟩ := hq
  have qo : ∀ a j, a ≠ 54 → q a j = tkR S 84 x2.toNatClampNeg a j := fun a j h => q1 a j (fun z => h z.1)
  have ql : ∀ i, i < 10 → lyM q 0 i = ly i := fun i hi => by unfold lyM; rw [show 10 * 0 + i = i by omega]; exact q2 i hi
  refine ⟨fun a j => ?_, ?_, fun i hi => by rw [ql i hi]; exact r3 i hi, fun p hp hq => ?_, fun a j h4 h5 h6 h8 => ?_, fun a j hf => ?_⟩
  · by_cases h4 : a = 54 ∧ j < 10
    · obtain ⟨z1, z2⟩ := h4
      subst z1
      show (-1 : Int) ≤ _ ∧ _ ≤ (4 : Int)
      rw [q2 j z2]
      have := r2 j
      omega
    · rw [q1 a j h4]; exact hw a j
  · show gF _ _ _ _
    rw [qo 0 14 (by decide)]
    have hm : mnM q 0 = mnM (tkR S 84 x2.toNatClampNeg) 0 := by funext p; unfold mnM; rw [qo 56 _ (by decide)]
    have hk : skM q 0 = skM (tkR S 84 x2.toNatClampNeg) 0 := by funext p k; unfold skM; rw [qo 55 _ (by decide)]
    rw [hm, hk]
    obtain ⟨h1, h2, h3⟩ := gw
    refine ⟨fun p k hp hk => ?_, fun i p hi hl => h2 i p hi (by rw [← ql i hi]; exact hl), h3⟩
    have b5 : 0 ≤ skM (tkR S 84 x2.toNatClampNeg) 0 p k ∧ skM (tkR S 84 x2.toNatClampNeg) 0 p k ≤ 9 := BM55 hw _
    rw [ql _ (by omega)]
    exact h1 p k hp hk
  · rw [qo 0 13 (by decide), e0] at hq
    rw [qo 58 _ (by decide), show 6 * 0 + p = p by omega, tr_58 (by decide) (by decide) hp]
    exact r4 p hp hq
  · rw [qo a j h4, tr_o (fun z => h4 z.1) (fun z => h5 z.1) (fun z => h6 z.1) (fun z => h8 z.1)]
  · have w5 := Wb_f hf
    have h8 : a = 58 → ¬ j < 6 := fun e hj => by subst e; rw [Wb_58 (inB_of (by omega) (by omega))] at hf; cases hf
    by_cases h4 : a = 54
    · have := w5.2.1 h4
      rw [q1 a j (by omega), tr_o (by omega) (by omega) (by omega) (by omega)]
    · rw [qo a j h4]
      refine tr_o (by omega) (fun z => ?_) (fun z => ?_) (fun z => h8 z.1 z.2)
      · have := w5.2.2.1 z.1; omega
      · have := w5.2.2.2 z.1; omega

theorem t_X8_take_86 (S : Tr) (x2 : Int32) (H : Nat → Int32) (hS : iR BM S) (hx2 : 0 ≤ x2.toInt ∧ x2.toInt ≤ 0) (hmod : x2.toNatClampNeg % 61 = 0) (hrow : rowOK S 86 x2.toNatClampNeg H) : D (f_X8_take_86 S x2) (fun q => iR BM q ∧ gS 0 q ∧ (∀ i, i < 10 → (H i = 1 ↔ 0 ≤ lyM q 0 i)) ∧ gA 0 q ∧ (∀ a j, a ≠ 54 → a ≠ 55 → a ≠ 56 → a ≠ 58 → q a j = S a j) ∧ aG 0 S q) := by
  obtain ⟨ly, r1, r2, r3, r4⟩ := hrow
  have hw : iR BM (tkR S 86 x2.toNatClampNeg) := tr_BM hS (by decide) hmod
  have e0 : ∀ j, tkR S 86 x2.toNatClampNeg 0 j = S 0 j := fun j => tr_o (by omega) (by omega) (by omega) (by omega)
  have e6 : ∀ p, p < 5 → mnM (tkR S 86 x2.toNatClampNeg) 0 p = mnR S 86 x2.toNatClampNeg p := fun p hp => by unfold mnM mnR; rw [show 5 * 0 + p = p by omega, tr_56 (by decide) hp]
  have m10 : ∀ p, p < 5 → mnR S 86 x2.toNatClampNeg p ≤ 10 := fun p hp => by rw [← e6 p hp]; exact (BM56 hw _).2
  have gw : gF (mnM (tkR S 86 x2.toNatClampNeg) 0) (skM (tkR S 86 x2.toNatClampNeg) 0) ly (tkR S 86 x2.toNatClampNeg 0 14).toInt := by
    rw [e0]
    obtain ⟨h1, h2, h3⟩ := r1
    have hs : ∀ p k, p < 5 → k < 10 → skM (tkR S 86 x2.toNatClampNeg) 0 p k = skR S 86 x2.toNatClampNeg p k := fun p k hp hk => by unfold skM skR; rw [show 50 * 0 + 10 * p + k = 10 * p + k by omega, tr_55 (by omega)]
    refine ⟨fun p k hp hk => ?_, fun i p hi hl => ?_, fun p k l hp hk hl e => ?_⟩
    · rw [e6 p hp] at hk
      rw [hs p k hp (by have := m10 p hp; omega)]
      exact h1 p k hp hk
    · obtain ⟨k, c1, c2⟩ := h2 i p hi hl
      have := r2 i
      have hp : p < 5 := by omega
      exact ⟨k, by rw [e6 p hp]; exact c1, by rw [hs p k hp (by have := m10 p hp; omega)]; exact c2⟩
    · rw [e6 p hp] at hk hl
      have := m10 p hp
      rw [hs p k hp (by omega), hs p l hp (by omega)] at e
      exact h3 p k l hp hk hl e
  unfold f_X8_take_86
  refine k_X8_take_86_L2 S x2 hx2 (k_X8_take_86_L27 _ x2 hx2 (k_X8_take_86_L54 _ x2 hx2 (k_X8_take_86_L82 _ (D_mono (k_X8_take_86_L103 (tkR S 86 x2.toNatClampNeg) hw ly gw r2 (fun i hi => tr_54 hi)) (fun q hq => ?_)))))
  obtain ⟨q1, q2⟩ := hq
  have qo : ∀ a j, a ≠ 54 → q a j = tkR S 86 x2.toNatClampNeg a j := fun a j h => q1 a j (fun z => h z.1)
  have ql : ∀ i, i < 10 → lyM q 0 i = ly i := fun i hi => by unfold lyM; rw [show 10 * 0 + i = i by omega]; exact q2 i hi
  refine ⟨fun a j => ?_, ?_, fun i hi => by rw [ql i hi]; exact r3 i hi, fun p hp hq => ?_, fun a j h4 h5 h6 h8 => ?_, fun a j hf => ?_⟩
  · by_cases h4 : a = 54 ∧ j < 10
    · obtain ⟨z1, z2⟩ := h4
      subst z1
      show (-1 : Int) ≤ _ ∧ _ ≤ (4 : Int)
      rw [q2 j z2]
      have := r2 j
      omega
    · rw [q1 a j h4]; exact hw a j
  · show gF _ _ _ _
    rw [qo 0 14 (by decide)]
    have hm : mnM q 0 = mnM (tkR S 86 x2.toNatClampNeg) 0 := by funext p; unfold mnM; rw [qo 56 _ (by decide)]
    have hk : skM q 0 = skM (tkR S 86 x2.toNatClampNeg) 0 := by funext p k; unfold skM; rw [qo 55 _ (by decide)]
    rw [hm, hk]
    obtain ⟨h1, h2, h3⟩ := gw
    refine ⟨fun p k hp hk => ?_, fun i p hi hl => h2 i p hi (by rw [← ql i hi]; exact hl), h3⟩
    have b5 : 0 ≤ skM (tkR S 86 x2.toNatClampNeg) 0 p k ∧ skM (tkR S 86 x2.toNatClampNeg) 0 p k ≤ 9 := BM55 hw _
    rw [ql _ (by omega)]
    exact h1 p k hp hk
  · rw [qo 0 13 (by decide), e0] at hq
    rw [qo 58 _ (by decide), show 6 * 0 + p = p by omega, tr_58 (by decide) (by decide) hp]
    exact r4 p hp hq
  · rw [qo a j h4, tr_o (fun z => h4 z.1) (fun z => h5 z.1) (fun z => h6 z.1) (fun z => h8 z.1)]
  · have w5 := Wb_f hf
    have h8 : a = 58 → ¬ j < 6 := fun e hj => by subst e; rw [Wb_58 (inB_of (by omega) (by omega))] at hf; cases hf
    by_cases h4 : a = 54
    · have := w5.2.1 h4
      rw [q1 a j (by omega), tr_o (by omega) (by omega) (by omega) (by omega)]
    · rw [qo a j h4]
      refine tr_o (by omega) (fun z => ?_) (fun z => ?_) (fun z => h8 z.1 z.2)
      · have := w5.2.2.1 z.1; omega
      · have := w5.2.2.2 z.1; omega
