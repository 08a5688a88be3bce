def R0Z : Tr := fun a j => bif Nat.beq a 0 then (bif Nat.beq j 2 then -1 else 0) else 0
def Z0Z : Tr := fun a j => bif Nat.beq a 0 then (bif Nat.beq j 1 then -1 else 0) else 0
def KZ (f1 f2 : Nat → Int32) : Tr := fun a => bif Nat.beq a 5 then f1 else bif Nat.beq a 6 then f2 else fun _ => 0
theorem okZ_R (a j : Nat) : okZ (BR a j) := by
  unfold BR fullB
  repeat (first | exact (show okZ _ from ⟨by decide, by decide⟩) | refine okZ_c ?_ ?_)
theorem okZ_K (a j : Nat) : okZ (BK a j) := by
  unfold BK fullB
  repeat (first | exact (show okZ _ from ⟨by decide, by decide⟩) | refine okZ_c ?_ ?_)
theorem okZ_C (a j : Nat) : okZ (BC a j) := by
  unfold BC rB fullB
  repeat (first | exact (show okZ _ from ⟨by decide, by decide⟩) | refine okZ_c ?_ ?_)
theorem okZ_Z (a j : Nat) : okZ (BZ a j) := by
  unfold BZ fullB
  repeat (first | exact (show okZ _ from ⟨by decide, by decide⟩) | refine okZ_c ?_ ?_)
theorem okZ_X (a j : Nat) : okZ (BX a j) := by
  unfold BX fullB
  repeat (first | exact (show okZ _ from ⟨by decide, by decide⟩) | refine okZ_c ?_ ?_)
theorem iR_one {B : Nat → Nat → Int × Int} (h : ∀ a j, okZ (B a j)) {k : Nat} (hk : (B 0 k).1 ≤ -1) : iR B (fun a j => bif Nat.beq a 0 then (bif Nat.beq j k then -1 else 0) else 0) := fun a j => by
  have l0 : (0 : Int32).toInt = 0 := by decide
  have l1 : (-1 : Int32).toInt = -1 := by decide
  have z := h a j
  unfold okZ at z
  cases ha : Nat.beq a 0 with
  | false => show (B a j).1 ≤ ((bif Nat.beq a 0 then (bif Nat.beq j k then (-1 : Int32) else 0) else 0)).toInt ∧ ((bif Nat.beq a 0 then (bif Nat.beq j k then (-1 : Int32) else 0) else 0)).toInt ≤ (B a j).2; rw [ha]; exact (by rw [show (bif false then (bif Nat.beq j k then (-1 : Int32) else 0) else 0) = 0 from rfl, l0]; exact z)
  | true =>
    have ea := Nat.eq_of_beq_eq_true ha
    subst ea
    cases hj : Nat.beq j k with
    | false => show (B 0 j).1 ≤ (bif Nat.beq j k then (-1 : Int32) else 0).toInt ∧ (bif Nat.beq j k then (-1 : Int32) else 0).toInt ≤ (B 0 j).2; rw [hj]; exact (by rw [show (bif false then (-1 : Int32) else 0) = 0 from rfl, l0]; exact z)
    | true =>
      have ej := Nat.eq_of_beq_eq_true hj
      subst ej
      show (B 0 j).1 ≤ (bif Nat.beq j j then (-1 : Int32) else 0).toInt ∧ (bif Nat.beq j j then (-1 : Int32) else 0).toInt ≤ (B 0 j).2
      rw [hj]
      exact (by rw [show (bif true then (-1 : Int32) else 0) = -1 from rfl, l1]; omega)
theorem iR_R0 : iR BR R0Z := iR_one okZ_R (by decide)
theorem iR_Z0 : iR BZ Z0Z := iR_one okZ_Z (by decide)
theorem dZ_Z0 : dZ Z0Z := fun i _ => by show (0 : Int32).toInt ≤ 9; decide
theorem iR_KZ (f1 f2 : Nat → Int32) : iR BK (KZ f1 f2) := fun a j => by
  have l0 : (0 : Int32).toInt = 0 := by decide
  by_cases h0 : a = 0
  · subst h0
    have e : KZ f1 f2 0 j = 0 := rfl
    rw [e, l0]; exact okZ_K 0 j
  · have eb : BK a j = fullB := by unfold BK; rw [tq_bne h0]; rfl
    have r := i_rng (KZ f1 f2 a j)
    rw [eb]
    refine ⟨?_, ?_⟩
    · show (-2147483648 : Int) ≤ _; omega
    · show _ ≤ (2147483647 : Int); omega
