/-! what a trial leaves of the train that is now -/
def h0c (a j : Nat) : Prop := (a = 0 ∧ 12 ≤ j ∧ j ≤ 15) ∨ (23 ≤ a ∧ a ≤ 41) ∨ ((a = 53 ∨ a = 54) ∧ j < 10) ∨ (a = 55 ∧ j < 50) ∨ (a = 56 ∧ j < 5) ∨ (57 ≤ a ∧ a ≤ 60 ∧ j < 6) ∨ ((a = 61 ∨ a = 62) ∧ j < 1)
theorem inB_no {n b j : Nat} (h : ¬ (n * b ≤ j ∧ j < n * b + n)) : inB n b j = false := by
  unfold inB
  by_cases g : n * b ≤ j
  · have : Nat.blt j (n * b + n) = false := by
      rw [← Bool.not_eq_true]; intro q
      exact h ⟨g, Nat.le_of_ble_eq_true q⟩
    rw [this, Bool.and_false]
  · have : Nat.ble (n * b) j = false := by
      rw [← Bool.not_eq_true]; intro q
      exact g (Nat.le_of_ble_eq_true q)
    rw [this, Bool.false_and]
theorem Wb_h {a j : Nat} (h : h0c a j) : Wb 1 a j = false := by
  rcases h with ⟨rfl, h1, h2⟩ | ⟨h1, h2⟩ | ⟨rfl | rfl, h1⟩ | ⟨rfl, h1⟩ | ⟨rfl, h1⟩ | ⟨h1, h2, h3⟩ | ⟨rfl | rfl, h1⟩
  · rcases (by omega : j = 12 ∨ j = 13 ∨ j = 14 ∨ j = 15) with rfl | rfl | rfl | rfl <;> rfl
  · rcases (by omega : a = 23 ∨ a = 24 ∨ a = 25 ∨ a = 26 ∨ a = 27 ∨ a = 28 ∨ a = 29 ∨ a = 30 ∨ a = 31 ∨ a = 32 ∨ a = 33 ∨ a = 34 ∨ a = 35 ∨ a = 36 ∨ a = 37 ∨ a = 38 ∨ a = 39 ∨ a = 40 ∨ a = 41) with rfl | rfl | rfl | rfl | rfl | rfl | rfl | rfl | rfl | rfl | rfl | rfl | rfl | rfl | rfl | rfl | rfl | rfl | rfl <;> rfl
  · unfold Wb; rw [inB_no (n := 10) (b := 1) (by omega)]; rfl
  · unfold Wb; rw [inB_no (n := 10) (b := 1) (by omega)]; rfl
  · unfold Wb; rw [inB_no (n := 50) (b := 1) (by omega)]; rfl
  · unfold Wb; rw [inB_no (n := 5) (b := 1) (by omega)]; rfl
  · unfold Wb; rw [inB_no (n := 6) (b := 1) (by omega)]
    rcases (by omega : a = 57 ∨ a = 58 ∨ a = 59 ∨ a = 60) with rfl | rfl | rfl | rfl <;> rfl
  · unfold Wb; rw [inB_no (n := 1) (b := 1) (by omega)]; rfl
  · unfold Wb; rw [inB_no (n := 1) (b := 1) (by omega)]; rfl
theorem inv0_of {S S2 : Tr} (hS : rI 0 S) (hv : inv 0 S) (f : ∀ a j, h0c a j → S2 a j = S a j) : inv 0 S2 := by
  have h13 : 0 ≤ (S 0 13).toInt ∧ (S 0 13).toInt ≤ 6 := hS.1 0 13
  have h14 : 0 ≤ (S 0 14).toInt ∧ (S 0 14).toInt ≤ 10 := hS.1 0 14
  have z : ∀ j, 12 ≤ j → j ≤ 15 → S2 0 j = S 0 j := fun j h1 h2 => f 0 j (Or.inl ⟨rfl, h1, h2⟩)
  refine ⟨fun i hi => ?_, fun p hp => ?_⟩
  · rw [z 14 (by omega) (by omega)] at hi
    have x := hv.1 i hi
    have ow := own_lt hS i hi
    rw [f 30 i (Or.inr (Or.inl (by omega))), z 12 (by omega) (by omega), f 53 (10 * 0 + i) (Or.inr (Or.inr (Or.inl ⟨Or.inl rfl, by omega⟩))), f 54 (10 * 0 + i) (Or.inr (Or.inr (Or.inl ⟨Or.inr rfl, by omega⟩))), f 59 (6 * 0 + (S 30 i).toNatClampNeg) (Or.inr (Or.inr (Or.inr (Or.inr (Or.inr (Or.inl ⟨by omega, by omega, by omega⟩))))))]
    exact x
  · rw [z 13 (by omega) (by omega)] at hp
    have x := hv.2 p hp
    rw [f 57 (6 * 0 + p) (Or.inr (Or.inr (Or.inr (Or.inr (Or.inr (Or.inl ⟨by omega, by omega, by omega⟩)))))), f 59 (6 * 0 + p) (Or.inr (Or.inr (Or.inr (Or.inr (Or.inr (Or.inl ⟨by omega, by omega, by omega⟩))))))]
    exact x
theorem dyn0_of {P T S S2 : Tr} (hS : rI 0 S) (hd : dyn 0 P T S) (f : ∀ a j, h0c a j → S2 a j = S a j) : dyn 0 P T S2 := by
  have h13 : 0 ≤ (S 0 13).toInt ∧ (S 0 13).toInt ≤ 6 := hS.1 0 13
  have h14 : 0 ≤ (S 0 14).toInt ∧ (S 0 14).toInt ≤ 10 := hS.1 0 14
  have z : ∀ j, 12 ≤ j → j ≤ 15 → S2 0 j = S 0 j := fun j h1 h2 => f 0 j (Or.inl ⟨rfl, h1, h2⟩)
  obtain ⟨d1, d2, d3, d4, d5⟩ := hd
  refine ⟨?_, ?_, fun p hp => ?_, fun i hi => ?_, fun p hp => ⟨?_, fun k hk => ?_, (d5 p hp).2.2⟩⟩
  · rw [f 62 0 (Or.inr (Or.inr (Or.inr (Or.inr (Or.inr (Or.inr ⟨Or.inr rfl, by omega⟩))))))]; exact d1
  · rw [f 61 0 (Or.inr (Or.inr (Or.inr (Or.inr (Or.inr (Or.inr ⟨Or.inl rfl, by omega⟩))))))]; exact d2
  · rw [z 13 (by omega) (by omega)] at hp
    rw [f 59 (6 * 0 + p) (Or.inr (Or.inr (Or.inr (Or.inr (Or.inr (Or.inl ⟨by omega, by omega, by omega⟩)))))), f 60 (6 * 0 + p) (Or.inr (Or.inr (Or.inr (Or.inr (Or.inr (Or.inl ⟨by omega, by omega, by omega⟩))))))]
    exact d3 p hp
  · rw [z 14 (by omega) (by omega)] at hi
    rw [f 53 (10 * 0 + i) (Or.inr (Or.inr (Or.inl ⟨Or.inl rfl, by omega⟩))), f 54 (10 * 0 + i) (Or.inr (Or.inr (Or.inl ⟨Or.inr rfl, by omega⟩)))]
    exact d4 i hi
  · rw [f 56 (5 * 0 + p) (Or.inr (Or.inr (Or.inr (Or.inr (Or.inl ⟨rfl, by omega⟩)))))]; exact (d5 p hp).1
  · rw [f 56 (5 * 0 + p) (Or.inr (Or.inr (Or.inr (Or.inr (Or.inl ⟨rfl, by omega⟩)))))] at hk
    have b56 := BM56 hS.1 (5 * 0 + p)
    rw [f 55 (50 * 0 + 10 * p + k) (Or.inr (Or.inr (Or.inr (Or.inl ⟨rfl, by omega⟩))))]
    exact (d5 p hp).2.1 k hk
theorem Nw_of {P T S S2 : Tr} {L L2 : Lo} (h : Nw P T S L) (hI : rI 0 S2) (f : ∀ a j, h0c a j → S2 a j = S a j) (h65 : S2 0 65 = 0) (h63 : L2 0 63 = L 0 63) : Nw P T S2 L2 := by
  obtain ⟨hS, hK, hd, hv, n9, n13, nr, nl, na⟩ := h
  have h13 : 0 ≤ (S 0 13).toInt ∧ (S 0 13).toInt ≤ 6 := hS.1 0 13
  have z : ∀ j, 12 ≤ j → j ≤ 15 → S2 0 j = S 0 j := fun j h1 h2 => f 0 j (Or.inl ⟨rfl, h1, h2⟩)
  have r : ∀ a j, 23 ≤ a → a ≤ 41 → S2 a j = S a j := fun a j h1 h2 => f a j (Or.inr (Or.inl ⟨h1, h2⟩))
  have s6 : ∀ a p, 57 ≤ a → a ≤ 60 → p < 6 → S2 a p = S a p := fun a p h1 h2 h3 => f a p (Or.inr (Or.inr (Or.inr (Or.inr (Or.inr (Or.inl ⟨h1, h2, h3⟩))))))
  refine ⟨hI, pK_o hK z r, dyn0_of hS hd f, inv0_of hS hv f, fun p hp => ?_, fun i hi => ?_, ?_, ⟨by rw [h63]; exact nl.1, nl.2.1, h65⟩, fun p hp hq => ?_⟩
  · rw [z 13 (by omega) (by omega)] at hp
    rw [s6 57 p (by omega) (by omega) (by omega), s6 58 p (by omega) (by omega) (by omega)]; exact n9 p hp
  · rw [z 14 (by omega) (by omega)] at hi
    rw [r 33 i (by omega) (by omega)]; exact n13 i hi
  · rw [r 23 0 (by omega) (by omega), r 23 1 (by omega) (by omega)]; exact nr
  · rw [z 13 (by omega) (by omega)] at hp
    rw [s6 57 p (by omega) (by omega) (by omega), f 62 0 (Or.inr (Or.inr (Or.inr (Or.inr (Or.inr (Or.inr ⟨Or.inr rfl, by omega⟩))))))] at hq
    rw [s6 59 p (by omega) (by omega) (by omega)]; exact na p hp hq
/-- a query's end: nothing of the train that is now has changed -/
theorem Nw_q {P T S S2 : Tr} {L L2 : Lo} (h : Nw P T S L) (hS : iR BM S2) (hp : pI S2) (hg : gI 0 S2) (a : aG 1 S S2) (h65 : S2 0 65 = 0) (h63 : L2 0 63 = L 0 63) : Nw P T S2 L2 := Nw_of h ⟨hS, hp, hg⟩ (fun c j q => a c j (Wb_h q)) h65 h63
