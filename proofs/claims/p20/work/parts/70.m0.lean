/-! the reference when it is new -/
def tqBm : List Int32 := [112, 108, 97, 99, 101, 32, 112, 101, 114, 115, 111, 110, 32, 112, 105, 101, 99, 101, 32, 119, 97, 105, 116, 32, 114, 117, 108, 101, 32, 99, 117, 114, 118, 101, 32, 115, 101, 101, 100, 32, 108, 97, 119, 32, 110, 101, 116, 32, 115, 104, 101, 108, 102, 32, 102, 108, 111, 111, 114, 32, 115, 101, 97, 116, 32, 104, 97, 108, 108, 32, 102, 105, 114, 115, 116, 32, 108, 105, 103, 104, 116, 32, 108, 97, 115, 116, 32, 108, 105, 102, 116, 32, 102, 97, 108, 108, 32, 115, 116, 101, 97, 108, 32, 97, 110, 100, 32, 111, 114, 32, 110, 111, 116, 32, 104, 101, 97, 118, 121, 32, 102, 114, 97, 105, 108, 32, 97, 98, 111, 118, 101, 32, 107, 105, 110, 100, 32, 97, 98, 108, 101, 32, 115, 116, 111, 112, 32, 98, 101, 97, 114, 115, 32]
def wfn (k : Nat) : Nat → Int32 := fun j => if j < k then tqBm.getD j 0 else 0
theorem wfn_0 : wfn 0 = fun _ => 0 := funext (fun j => if_neg (Nat.not_lt_zero j))
theorem wfn_s {k : Nat} {v : Int32} (h : tqBm.getD k 0 = v) : upd (wfn k) k v = wfn (k + 1) := by
  funext j
  unfold upd wfn
  by_cases hj : j = k
  · subst hj; simp; exact h.symm
  · simp only [hj, if_false]
    by_cases h1 : j < k
    · rw [if_pos h1, if_pos (by omega)]
    · rw [if_neg h1, if_neg (by omega)]
theorem tq_bne {a b : Nat} (h : ¬ a = b) : Nat.beq a b = false := by
  cases hq : Nat.beq a b with
  | false => rfl
  | true => exact absurd (Nat.eq_of_beq_eq_true hq) h
def S0M : Tr := fun a j => bif Nat.beq a 4 then wfn 153 j else bif Nat.beq a 0 then (bif Nat.beq j 5 then -1 else bif Nat.beq j 79 then -1 else 0) else 0
def L0M : Lo := fun _ _ => 0
def okZ (x : Int × Int) : Prop := x.1 ≤ 0 ∧ 0 ≤ x.2
theorem okZ_c {c : Bool} {x y : Int × Int} (hx : okZ x) (hy : okZ y) : okZ (bif c then x else y) := by cases c; exact hy; exact hx
theorem okZ_M (a j : Nat) : okZ (BM a j) := by
  unfold BM BM0 uB fullB
  repeat (first | exact (show okZ _ from ⟨by decide, by decide⟩) | refine okZ_c ?_ ?_)
theorem iR_S0M : iR BM S0M := fun a j => by
  have z := okZ_M a j
  have l0 : (0 : Int32).toInt = 0 := by decide
  by_cases h4 : a = 4
  · subst h4
    have r := i_rng (S0M 4 j)
    refine ⟨?_, ?_⟩
    · show (-2147483648 : Int) ≤ _; omega
    · show _ ≤ (2147483647 : Int); omega
  · by_cases h0 : a = 0
    · subst h0
      by_cases h5 : j = 5
      · subst h5; decide
      · by_cases h9 : j = 79
        · subst h9; decide
        · have e : S0M 0 j = 0 := by
            show (bif Nat.beq j 5 then (-1 : Int32) else bif Nat.beq j 79 then -1 else 0) = 0
            rw [tq_bne h5, tq_bne h9]; rfl
          rw [e, l0]; exact z
    · have e : S0M a j = 0 := by
        show (bif Nat.beq a 4 then wfn 153 j else bif Nat.beq a 0 then (bif Nat.beq j 5 then (-1 : Int32) else bif Nat.beq j 79 then -1 else 0) else 0) = 0
        rw [tq_bne h4, tq_bne h0]; rfl
      rw [e, l0]; exact z
theorem wK_S0M : wK S0M := by
  constructor
  · decide +kernel
  · decide +kernel
theorem z_S0M {a : Nat} (h4 : ¬ a = 4) (h0 : ¬ a = 0) (j : Nat) : S0M a j = 0 := by
  show (bif Nat.beq a 4 then wfn 153 j else bif Nat.beq a 0 then (bif Nat.beq j 5 then (-1 : Int32) else bif Nat.beq j 79 then -1 else 0) else 0) = 0
  rw [tq_bne h4, tq_bne h0]; rfl
def kM8 (G : va_G) (cA : Nat → ClassId) (A : Nat → Prop) (h0 : Nat) (t : State) : Prop := ∃ (aa : Nat → Nat) (S : Tr) (LM : Lo), aa 0 = h0 ∧ jX S ∧ S 0 1 = 0 ∧ wT S ∧ (∃ S1, f_X8_plain S0M = some S1 ∧ f_X8_keepText S1 L0M = some (S, LM)) ∧ va_P G vwCl (wM cA aa S LM) t.heap ∧ va_D A (wM cA aa S LM)
abbrev GI8 (p : Program) (l : Launch) (e : Env) (s : State) (m : MethodId) (below : List Frame) (meth : Method) (c : Code) (G : va_G) (cA : Nat → ClassId) (A : Nat → Prop) (h0 : Nat) (H : Heap) (locs : List Loc) (cells slots : Nat) (g : JFrame) : Prop := W p l e (headSpec (.code yX8_init cX8_init 1 none :: T0) ({ frames := 3, cells := 49, slots := 3443, locals := 63 } : Room)).room s m ([.ref h0] : List Value).toArray below meth c H locs cells slots (MQ below (va_Qv (fun (_ : Unit) => True) (fun _ t => kM8 G cA A h0 t) A) ([.ref h0] : List Value).toArray s 49 3443 A) g
