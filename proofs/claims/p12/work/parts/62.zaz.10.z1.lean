/-! class and reference side by side: what is kept of a text, a train -/
def lwK (P S : Tr) (k : Nat) : Prop := (P (30 + 3 * k) 1 = 0 ∧ S 36 k = 0) ∨ (S 36 k = 1 ∧ ∃ f s : Nat, 1 ≤ s ∧ (P (30 + 3 * k) 1).toInt = s ∧ (S 37 k).toInt = f ∧ (S 38 k).toInt = f + s ∧ f + s ≤ 64 ∧ (hs (P (31 + 3 * k)) s).length = 1 ∧ ∀ i, i < s → nd (P (31 + 3 * k)) (S 39) (S 40) (S 41) f i)
def pKa (P S : Tr) : Prop := ∀ i : Nat, (i : Int) < (S 0 12).toInt → P 8 i = S 24 i ∧ P 9 i = S 25 i
def pKe (P S : Tr) : Prop := ∀ p : Nat, (p : Int) < (S 0 13).toInt → P 10 p = S 26 p ∧ P 11 p = S 27 p ∧ P 12 p = S 28 p ∧ P 13 p = S 29 p ∧ 0 ≤ (S 27 p).toInt ∧ (S 27 p).toInt ≤ 19
def pKi (P S : Tr) : Prop := ∀ i : Nat, (i : Int) < (S 0 14).toInt → P 14 i = S 30 i ∧ P 15 i = S 31 i ∧ P 16 i = S 32 i ∧ P 17 i = S 33 i ∧ 1 ≤ (S 31 i).toInt ∧ (S 31 i).toInt ≤ 99 ∧ (S 33 i).toInt < (S 0 12).toInt
def pKn (P S : Tr) : Prop := P 0 0 = S 0 12 ∧ P 0 1 = S 0 13 ∧ P 0 2 = S 0 14 ∧ P 0 3 = S 0 15 ∧ P 0 4 = S 23 0 ∧ P 0 5 = S 23 1 ∧ P 0 6 = S 23 2 ∧ ∀ i : Nat, (i : Int) < (S 0 12).toInt → 0 ≤ (S 24 i).toInt
def pK (P S : Tr) : Prop := pKn P S ∧ pKa P S ∧ pKe P S ∧ pKi P S ∧ (∀ t : Nat, t < 21 → P 18 t = S 34 t) ∧ ∀ k, k < 3 → lwK P S k
/-- the sum of the first n -/
def wsm (g : Nat → Int32) : Nat → Int32
  | 0 => 0
  | n + 1 => wsm g n + g n
theorem wsm_cg {g g' : Nat → Int32} : ∀ {n : Nat}, (∀ k, k < n → g k = g' k) → wsm g n = wsm g' n
  | 0, _ => rfl
  | n + 1, h => by
    show wsm g n + g n = wsm g' n + g' n
    rw [wsm_cg (fun k hk => h k (by omega)), h n (by omega)]
def wgt (P T : Tr) (p k : Nat) : Int32 := P 15 (T 16 (10 * p + k)).toNatClampNeg
/-- one stack -/
def stk1 (b : Nat) (P T S : Tr) (p : Nat) : Prop := T 17 p = S 56 (5 * b + p) ∧ (∀ k : Nat, (k : Int) < (S 56 (5 * b + p)).toInt → T 16 (10 * p + k) = S 55 (50 * b + 10 * p + k)) ∧ T 18 p = wsm (wgt P T p) (T 17 p).toNatClampNeg
def stk (b : Nat) (P T S : Tr) : Prop := ∀ p, p < 5 → stk1 b P T S p
/-- persons and pieces of a train, what changes on the way -/
def pcs (b : Nat) (T S : Tr) : Prop := ∀ i : Nat, (i : Int) < (S 0 14).toInt → T 14 i = S 53 (10 * b + i) ∧ T 15 i = S 54 (10 * b + i)
def prs (b : Nat) (T S : Tr) : Prop := ∀ p : Nat, (p : Int) < (S 0 13).toInt → T 11 p = S 59 (6 * b + p) ∧ T 12 p = S 60 (6 * b + p)
def dyn (b : Nat) (P T S : Tr) : Prop := T 0 0 = S 62 b ∧ T 0 1 = S 61 b ∧ prs b T S ∧ pcs b T S ∧ stk b P T S
/-- what doesn't -/
def sta (b : Nat) (T S : Tr) : Prop := (∀ p : Nat, (p : Int) < (S 0 13).toInt → T 9 p = S 57 (6 * b + p) ∧ T 10 p = (if S 0 69 = 0 then S 58 (6 * b + p) else 99)) ∧ (∀ i : Nat, (i : Int) < (S 0 14).toInt → T 13 i = (if (S 72 i).toInt < 0 then S 33 i else S 72 i) ∧ (T 13 i).toInt < (S 0 12).toInt) ∧ T 0 3 = S 0 64 ∧ T 0 4 = (if S 0 68 = 0 then S 23 1 else 0) ∧ T 0 5 = S 0 65 ∧ (T 0 6 = 0 ↔ ¬ S 0 66 = 0) ∧ (T 0 7 = 0 ↔ ¬ S 0 67 = 0) ∧ 0 ≤ (S 0 64).toInt ∧ (S 0 64).toInt ≤ 2
/-- what holds of a train of the reference -/
def inv (b : Nat) (S : Tr) : Prop := (∀ i : Nat, (i : Int) < (S 0 14).toInt → (S 53 (10 * b + i) = 1 → S 59 (6 * b + (S 30 i).toNatClampNeg) = 1) ∧ (S 59 (6 * b + (S 30 i).toNatClampNeg) = 0 → S 53 (10 * b + i) = 0) ∧ (S 54 (10 * b + i)).toInt < (S 0 12).toInt) ∧ ∀ p : Nat, (p : Int) < (S 0 13).toInt → (S 59 (6 * b + p) = 0 ∨ S 59 (6 * b + p) = 1 ∨ S 59 (6 * b + p) = 2) ∧ 0 ≤ (S 57 (6 * b + p)).toInt ∧ (S 57 (6 * b + p)).toInt ≤ 19
def drw (T : Tr) (L : Lo) : Prop := ¬ T 0 5 = 0 → L 0 63 = (T 0 2).toInt64 ∧ 0 ≤ (T 0 2).toInt
/-- all that the reference keeps by itself -/
def rI (b : Nat) (S : Tr) : Prop := iR BM S ∧ pI S ∧ gI b S
/-! frames -/
def o51 (S S1 : Tr) : Prop := (∀ a j, ¬ (a = 0 ∧ j = 51) → S1 a j = S a j) ∧ (S1 0 51 = S 0 51 ∨ S1 0 51 = 0 ∨ S1 0 51 = 1)
def oL (L L1 : Lo) : Prop := ∀ a j, a ≠ 50 → a ≠ 51 → L1 a j = L a j
def o19 (T T1 : Tr) : Prop := ∀ a j, a ≠ 19 → T1 a j = T a j
/-- what moves of a train of the class may change -/
def Mc (a j : Nat) : Bool := (Nat.beq a 0 && Nat.ble j 2) || Nat.beq a 11 || Nat.beq a 12 || (Nat.ble 14 a && Nat.ble a 19)
def cM (T T1 : Tr) : Prop := ∀ a j, Mc a j = false → T1 a j = T a j
/-- of a train of the reference -/
def Mb (b a j : Nat) : Bool := (Nat.beq a 0 && (Nat.beq j 51 || Nat.beq j 72)) || Nat.beq a 74 || ((Nat.beq a 53 || Nat.beq a 54) && inB 10 b j) || (Nat.beq a 55 && inB 50 b j) || (Nat.beq a 56 && inB 5 b j) || ((Nat.beq a 59 || Nat.beq a 60) && inB 6 b j) || ((Nat.beq a 61 || Nat.beq a 62 || Nat.beq a 63) && inB 1 b j)
def aM (b : Nat) (S S1 : Tr) : Prop := ∀ a j, Mb b a j = false → S1 a j = S a j
theorem cM_r {T : Tr} : cM T T := fun _ _ _ => rfl
theorem cM_t {T T1 T2 : Tr} (h1 : cM T T1) (h2 : cM T1 T2) : cM T T2 := fun a j h => (h2 a j h).trans (h1 a j h)
theorem cM_s {T T1 : Tr} {a i : Nat} {v : Int32} (h : cM T T1) (hw : Mc a i = true) : cM T (st T1 a i v) := fun c j hf => by
  rcases st_or (S := T1) (a := a) (i := i) (b := c) (j := j) (v := v) with e | ⟨e1, e2⟩
  · rw [e]; exact h c j hf
  · subst e1; subst e2; rw [hw] at hf; cases hf
theorem cM_19 {T T1 : Tr} (h : o19 T T1) : cM T T1 := fun a j hf => h a j (fun e => by subst e; cases hf)
theorem aM_r {b : Nat} {S : Tr} : aM b S S := fun _ _ _ => rfl
theorem aM_t {b : Nat} {S S1 S2 : Tr} (h1 : aM b S S1) (h2 : aM b S1 S2) : aM b S S2 := fun a j h => (h2 a j h).trans (h1 a j h)
theorem aM_s {b : Nat} {z S : Tr} {a i : Nat} {v : Int32} (h : aM b z S) (hw : Mb b a i = true) : aM b z (st S a i v) := fun c j hf => by
  rcases st_or (S := S) (a := a) (i := i) (b := c) (j := j) (v := v) with e | ⟨e1, e2⟩
  · rw [e]; exact h c j hf
  · subst e1; subst e2; rw [hw] at hf; cases hf
theorem aM_51 {b : Nat} {S S1 : Tr} (h : o51 S S1) : aM b S S1 := fun a j hf => h.1 a j (fun e => by obtain ⟨rfl, rfl⟩ := e; simp [Mb] at hf)
theorem Mb_53 {b j : Nat} (h : inB 10 b j = true) : Mb b 53 j = true := by unfold Mb; rw [h]; simp
theorem Mb_54 {b j : Nat} (h : inB 10 b j = true) : Mb b 54 j = true := by unfold Mb; rw [h]; simp
theorem Mb_55 {b j : Nat} (h : inB 50 b j = true) : Mb b 55 j = true := by unfold Mb; rw [h]; simp
theorem Mb_56 {b j : Nat} (h : inB 5 b j = true) : Mb b 56 j = true := by unfold Mb; rw [h]; simp
theorem Mb_59 {b j : Nat} (h : inB 6 b j = true) : Mb b 59 j = true := by unfold Mb; rw [h]; simp
theorem Mb_60 {b j : Nat} (h : inB 6 b j = true) : Mb b 60 j = true := by unfold Mb; rw [h]; simp
theorem Mb_61 {b : Nat} : Mb b 61 b = true := by unfold Mb; rw [inB_of (n := 1) (by omega) (by omega)]; simp
theorem Mb_62 {b : Nat} : Mb b 62 b = true := by unfold Mb; rw [inB_of (n := 1) (by omega) (by omega)]; simp
theorem Mb_63 {b : Nat} : Mb b 63 b = true := by unfold Mb; rw [inB_of (n := 1) (by omega) (by omega)]; simp
/-- the text's cells stay -/
theorem aM_p {b a j : Nat} (h : a ≤ 52) (h0 : a ≠ 0) : Mb b a j = false := by
  have e : ∀ k, 53 ≤ k → Nat.beq a k = false := fun k hk => by
    rw [← Bool.not_eq_true]; intro q; have := Nat.eq_of_beq_eq_true q; omega
  have e0 : Nat.beq a 0 = false := by rw [← Bool.not_eq_true]; intro q; exact h0 (Nat.eq_of_beq_eq_true q)
  unfold Mb
  rw [e 53 (by omega), e 54 (by omega), e 55 (by omega), e 56 (by omega), e 59 (by omega), e 60 (by omega), e 61 (by omega), e 62 (by omega), e 63 (by omega), e 74 (by omega), e0]
  rfl
theorem aM_0 {b j : Nat} (h : j ≠ 51) (h2 : j ≠ 72) : Mb b 0 j = false := by
  have e1 : Nat.beq j 51 = false := by rw [← Bool.not_eq_true]; intro q; exact h (Nat.eq_of_beq_eq_true q)
  have e2 : Nat.beq j 72 = false := by rw [← Bool.not_eq_true]; intro q; exact h2 (Nat.eq_of_beq_eq_true q)
  unfold Mb
  rw [e1, e2]; rfl
theorem pKn_o {P S S1 : Tr} (h : pKn P S) (e0 : ∀ j, 12 ≤ j → j ≤ 15 → S1 0 j = S 0 j) (e : ∀ j, S1 23 j = S 23 j) (e24 : ∀ j, S1 24 j = S 24 j) : pKn P S1 := by
  obtain ⟨h0, h1, h2, h3, h4, h5, h6, h7⟩ := h
  have z12 := e0 12 (by omega) (by omega)
  exact ⟨h0.trans z12.symm, h1.trans (e0 13 (by omega) (by omega)).symm, h2.trans (e0 14 (by omega) (by omega)).symm, h3.trans (e0 15 (by omega) (by omega)).symm, h4.trans (e 0).symm, h5.trans (e 1).symm, h6.trans (e 2).symm, fun i hi => by rw [z12] at hi; rw [e24]; exact h7 i hi⟩
theorem pK_o {P S S1 : Tr} (h : pK P S) (e0 : ∀ j, 12 ≤ j → j ≤ 15 → S1 0 j = S 0 j) (e : ∀ a j, 23 ≤ a → a ≤ 41 → S1 a j = S a j) : pK P S1 := by
  obtain ⟨h1, h2, h3, h4, h5, h6⟩ := h
  have f12 := e0 12 (by omega) (by omega)
  have f13 := e0 13 (by omega) (by omega)
  have f14 := e0 14 (by omega) (by omega)
  refine ⟨pKn_o h1 e0 (fun j => e 23 j (by omega) (by omega)) (fun j => e 24 j (by omega) (by omega)), fun i hi => ?_, fun i hi => ?_, fun i hi => ?_, fun t ht => ?_, fun k hk => ?_⟩
  · rw [f12] at hi; rw [e 24 i (by omega) (by omega), e 25 i (by omega) (by omega)]; exact h2 i hi
  · rw [f13] at hi; rw [e 26 i (by omega) (by omega), e 27 i (by omega) (by omega), e 28 i (by omega) (by omega), e 29 i (by omega) (by omega)]; exact h3 i hi
  · rw [f14] at hi; rw [f12, e 30 i (by omega) (by omega), e 31 i (by omega) (by omega), e 32 i (by omega) (by omega), e 33 i (by omega) (by omega)]; exact h4 i hi
  · rw [e 34 t (by omega) (by omega)]; exact h5 t ht
  · have e39 : S1 39 = S 39 := funext (fun j => e 39 j (by omega) (by omega))
    have e40 : S1 40 = S 40 := funext (fun j => e 40 j (by omega) (by omega))
    have e41 : S1 41 = S 41 := funext (fun j => e 41 j (by omega) (by omega))
    unfold lwK
    rw [e 36 k (by omega) (by omega), e 37 k (by omega) (by omega), e 38 k (by omega) (by omega), e39, e40, e41]
    exact h6 k hk
theorem pK_M {b : Nat} {P S S1 : Tr} (h : pK P S) (a : aM b S S1) : pK P S1 := pK_o h (fun j h1 h2 => a 0 j (aM_0 (by omega) (by omega))) (fun c j h1 h2 => a c j (aM_p (by omega) (by omega)))
theorem pK_51 {P S S1 : Tr} (h : pK P S) (a : o51 S S1) : pK P S1 := pK_M (b := 0) h (aM_51 a)
theorem Mb_rows {b a j : Nat} (h : a = 57 ∨ a = 58 ∨ a = 72) : Mb b a j = false := by
  rcases h with rfl | rfl | rfl <;> rfl
theorem sta_M {b : Nat} {T T1 S S1 : Tr} (h : sta b T S) (c : cM T T1) (a : aM b S S1) : sta b T1 S1 := by
  obtain ⟨h1, h2, h3, h4, h5, h6, h7, h8⟩ := h
  have z : ∀ j, j ≠ 51 → j ≠ 72 → S1 0 j = S 0 j := fun j q q2 => a 0 j (aM_0 q q2)
  refine ⟨fun p hp => ?_, fun i hi => ?_, ?_, ?_, ?_, ?_, ?_, by rw [z 64 (by omega) (by omega)]; exact h8⟩
  · rw [z 13 (by omega) (by omega)] at hp
    rw [c 9 p rfl, c 10 p rfl, z 69 (by omega) (by omega), a 57 _ (Mb_rows (by omega)), a 58 _ (Mb_rows (by omega))]; exact h1 p hp
  · rw [z 14 (by omega) (by omega)] at hi
    rw [c 13 i rfl, z 12 (by omega) (by omega), a 72 _ (Mb_rows (by omega)), a 33 _ (aM_p (by omega) (by omega))]; exact h2 i hi
  · rw [c 0 3 rfl, z 64 (by omega) (by omega)]; exact h3
  · rw [c 0 4 rfl, z 68 (by omega) (by omega), a 23 _ (aM_p (by omega) (by omega))]; exact h4
  · rw [c 0 5 rfl, z 65 (by omega) (by omega)]; exact h5
  · rw [c 0 6 rfl, z 66 (by omega) (by omega)]; exact h6
  · rw [c 0 7 rfl, z 67 (by omega) (by omega)]; exact h7
theorem stk1_o {b p : Nat} {P T T1 S S1 : Tr} (h : stk1 b P T S p) (e16 : ∀ j, 10 * p ≤ j → j < 10 * p + 10 → T1 16 j = T 16 j) (e17 : T1 17 p = T 17 p) (e18 : T1 18 p = T 18 p) (f55 : ∀ j, 50 * b + 10 * p ≤ j → j < 50 * b + 10 * p + 10 → S1 55 j = S 55 j) (f56 : S1 56 (5 * b + p) = S 56 (5 * b + p)) (hm : 0 ≤ (S 56 (5 * b + p)).toInt ∧ (S 56 (5 * b + p)).toInt ≤ 10) : stk1 b P T1 S1 p := by
  obtain ⟨h1, h2, h3⟩ := h
  have hn : (T 17 p).toNatClampNeg ≤ 10 := by rw [h1, i_cl]; omega
  refine ⟨by rw [e17, f56]; exact h1, fun k hk => ?_, ?_⟩
  · rw [f56] at hk
    rw [e16 _ (by omega) (by omega), f55 _ (by omega) (by omega)]; exact h2 k hk
  · rw [e18, e17, h3]
    refine wsm_cg (fun k hk => ?_)
    unfold wgt
    rw [e16 _ (by omega) (by omega)]
theorem stk_e {b : Nat} {P T T1 S S1 : Tr} (h : stk b P T S) (e16 : ∀ j, T1 16 j = T 16 j) (e17 : ∀ j, T1 17 j = T 17 j) (e18 : ∀ j, T1 18 j = T 18 j) (f55 : ∀ j, S1 55 j = S 55 j) (f56 : ∀ j, S1 56 j = S 56 j) (hS : iR BM S) : stk b P T1 S1 := fun p hp => stk1_o (h p hp) (fun j _ _ => e16 j) (e17 p) (e18 p) (fun j _ _ => f55 j) (f56 _) (BM56 hS _)
theorem dyn_e {b : Nat} {P T T1 S S1 : Tr} (h : dyn b P T S) (hS : iR BM S) (e : ∀ a j, (a = 0 ∧ j ≤ 1) ∨ a = 11 ∨ a = 12 ∨ (14 ≤ a ∧ a ≤ 18) → T1 a j = T a j) (f : ∀ a j, (a = 0 ∧ 12 ≤ j ∧ j ≤ 15) ∨ (53 ≤ a ∧ a ≤ 62) → S1 a j = S a j) : dyn b P T1 S1 := by
  obtain ⟨h1, h2, h3, h4, h5⟩ := h
  refine ⟨by rw [e 0 0 (by omega), f 62 _ (by omega)]; exact h1, by rw [e 0 1 (by omega), f 61 _ (by omega)]; exact h2, fun p hp => ?_, fun i hi => ?_, ?_⟩
  · rw [f 0 13 (by omega)] at hp
    rw [e 11 p (by omega), e 12 p (by omega), f 59 _ (by omega), f 60 _ (by omega)]; exact h3 p hp
  · rw [f 0 14 (by omega)] at hi
    rw [e 14 i (by omega), e 15 i (by omega), f 53 _ (by omega), f 54 _ (by omega)]; exact h4 i hi
  · exact stk_e h5 (fun j => e 16 j (by omega)) (fun j => e 17 j (by omega)) (fun j => e 18 j (by omega)) (fun j => f 55 j (by omega)) (fun j => f 56 j (by omega)) hS
theorem dyn_19 {b : Nat} {P T T1 S S1 : Tr} (h : dyn b P T S) (hS : iR BM S) (e : o19 T T1) (f : o51 S S1) : dyn b P T1 S1 := dyn_e h hS (fun a j q => e a j (by omega)) (fun a j q => f.1 a j (by omega))
theorem inv_e {b : Nat} {S S1 : Tr} (h : inv b S) (e : ∀ a j, (a = 0 ∧ 12 ≤ j ∧ j ≤ 15) ∨ a = 30 ∨ a = 53 ∨ a = 54 ∨ a = 57 ∨ a = 59 → S1 a j = S a j) : inv b S1 := by
  refine ⟨fun i hi => ?_, fun p hp => ?_⟩
  · rw [e 0 14 (by omega)] at hi
    rw [e 53 _ (by omega), e 54 _ (by omega), e 30 _ (by omega), e 59 _ (by omega), e 0 12 (by omega)]; exact h.1 i hi
  · rw [e 0 13 (by omega)] at hp
    rw [e 59 _ (by omega), e 57 _ (by omega)]; exact h.2 p hp
theorem inv_51 {b : Nat} {S S1 : Tr} (h : inv b S) (f : o51 S S1) : inv b S1 := inv_e h (fun a j q => f.1 a j (by omega))
theorem drw_e {T T1 : Tr} {L L1 : Lo} (h : drw T L) (e5 : T1 0 5 = T 0 5) (e2 : T1 0 2 = T 0 2) (eL : L1 0 63 = L 0 63) : drw T1 L1 := by unfold drw at h ⊢; rw [e5, e2, eL]; exact h
theorem o51_r {S : Tr} : o51 S S := ⟨fun _ _ _ => rfl, Or.inl rfl⟩
theorem o51_t {S T U : Tr} (h1 : o51 S T) (h2 : o51 T U) : o51 S U := ⟨fun a j h => (h2.1 a j h).trans (h1.1 a j h), by
  rcases h2.2 with e | e
  · rw [e]; exact h1.2
  · exact Or.inr e⟩
theorem o51_s {S T : Tr} {v : Int32} (h : o51 S T) (hv : v = 0 ∨ v = 1 := by decide) : o51 S (st T 0 51 v) := ⟨fun a j hn => by rw [st_no hn]; exact h.1 a j hn, Or.inr (by rw [st_same]; exact hv)⟩
theorem oL_r {L : Lo} : oL L L := fun _ _ _ _ => rfl
theorem oL_t {L M N : Lo} (h1 : oL L M) (h2 : oL M N) : oL L N := fun a j h h' => (h2 a j h h').trans (h1 a j h h')
theorem stL_oth {L : Lo} {a b i : Nat} {v : Int64} (h : b ≠ a) : stL L a i v b = L b := by
  have : Nat.beq b a = false := by rw [← Bool.not_eq_true]; intro e; exact h (Nat.eq_of_beq_eq_true e)
  simp [stL, this]
theorem stL_same {L : Lo} {a i : Nat} {v : Int64} : stL L a i v a i = v := by simp [stL, vp_updL]
theorem stL_ne {L : Lo} {a i j : Nat} {v : Int64} (h : j ≠ i) : stL L a i v a j = L a j := by simp [stL, vp_updL, h]
theorem oL_s {L M : Lo} {a i : Nat} {v : Int64} (h : oL L M) (ha : a = 50 ∨ a = 51) : oL L (stL M a i v) := fun c j h1 h2 => by rw [stL_oth (by omega)]; exact h c j h1 h2
theorem o19_r {T : Tr} : o19 T T := fun _ _ _ => rfl
theorem o19_t {S T U : Tr} (h1 : o19 S T) (h2 : o19 T U) : o19 S U := fun a j h => (h2 a j h).trans (h1 a j h)
theorem o19_s {S T : Tr} {i : Nat} {v : Int32} (h : o19 S T) : o19 S (st T 19 i v) := fun a j hn => by rw [st_oth hn]; exact h a j hn
theorem BM_51 {S S1 : Tr} (h : iR BM S) (f : o51 S S1) : iR BM S1 := fun a j => by
  by_cases c : a = 0 ∧ j = 51
  · obtain ⟨rfl, rfl⟩ := c
    rcases f.2 with e | e | e
    · rw [e]; exact h 0 51
    · rw [e]; exact (by decide : (0 : Int) ≤ (0 : Int32).toInt ∧ (0 : Int32).toInt ≤ (1 : Int))
    · rw [e]; exact (by decide : (0 : Int) ≤ (1 : Int32).toInt ∧ (1 : Int32).toInt ≤ (1 : Int))
  · rw [f.1 a j c]; exact h a j
theorem rI_51 {b : Nat} {S S1 : Tr} (h : rI b S) (f : o51 S S1) : rI b S1 := by
  have a : aT S S1 := fun c j q => f.1 c j (fun e => by obtain ⟨rfl, rfl⟩ := e; cases q)
  exact ⟨BM_51 h.1 f, pI_aT h.2.1 a, gI_aT h.2.2 a⟩
/-! places -/
theorem jx {c x y : Int32} (k : Nat) {n : Nat} (hc : c.toInt = k) (hk : k ≤ 100) (hx : 0 ≤ x.toInt ∧ x.toInt ≤ 1) (hy : y.toInt = n) (hn : n ≤ 1000) : ((c * x) + y).toNatClampNeg = k * x.toNatClampNeg + n := by
  rw [(ix1 k hc hk hx (y := y) ⟨by omega, by omega⟩).2, i_cn hy]
theorem jx3 {x y z : Int32} {p k : Nat} (hx : 0 ≤ x.toInt ∧ x.toInt ≤ 1) (hy : y.toInt = p) (hp : p ≤ 4) (hz : z.toInt = k) (hk : k ≤ 1000) : ((((50 : Int32) * x) + ((10 : Int32) * y)) + z).toNatClampNeg = 50 * x.toNatClampNeg + 10 * p + k := by
  rw [(ix2 hx (y := y) (z := z) ⟨by omega, by omega⟩ ⟨by omega, by omega⟩).2, i_cn hy, i_cn hz]
theorem jy {y z : Int32} {p k : Nat} (hy : y.toInt = p) (hp : p ≤ 4) (hz : z.toInt = k) (hk : k ≤ 1000) : ((y * 10) + z).toNatClampNeg = 10 * p + k ∧ ((y * 10) + z).toInt = 10 * p + k := by
  have e1 : (y * 10).toInt = y.toInt * 10 := i_mulR 10 (by decide) (by omega) (by omega)
  have e2 : ((y * 10) + z).toInt = 10 * p + k := by rw [i_addK (x := 10 * p) (y := k) (by rw [e1, hy]; omega) hz (by omega) (by omega)]
  exact ⟨i_cn (n := 10 * p + k) (by rw [e2]; omega), e2⟩
theorem i_p1 {x : Int32} {n : Nat} (hx : x.toInt = n) (hn : n ≤ 100000) : (x + 1).toInt = ((n + 1 : Nat) : Int) := by rw [i_addK hx (y := 1) (by decide) (by omega) (by omega)]; omega
/-- where a piece lies -/
theorem wh {b i : Nat} {S : Tr} (hS : iR BM S) (hg : gS b S) (hi : i < 10) (hl : 0 ≤ (S 54 (10 * b + i)).toInt) : ∃ p pos : Nat, p < 5 ∧ (S 54 (10 * b + i)).toInt = p ∧ (pos : Int) < (S 56 (5 * b + p)).toInt ∧ (S 55 (50 * b + 10 * p + pos)).toInt = i ∧ (∀ k : Nat, (k : Int) < (S 56 (5 * b + p)).toInt → (S 55 (50 * b + 10 * p + k)).toInt = i → k = pos) ∧ pos ≤ 9 := by
  have hb := BM54 hS (10 * b + i)
  obtain ⟨p, hp⟩ : ∃ p : Nat, (S 54 (10 * b + i)).toInt = p := ⟨(S 54 (10 * b + i)).toInt.toNat, by omega⟩
  have hp5 : p < 5 := by omega
  obtain ⟨g1, g2, g3⟩ := hg
  obtain ⟨pos, hk, hs⟩ := g2 i p hi hp
  have hk : (pos : Int) < (S 56 (5 * b + p)).toInt := hk
  have hs : (S 55 (50 * b + 10 * p + pos)).toInt = i := hs
  have := BM56 hS (5 * b + p)
  exact ⟨p, pos, hp5, hp, hk, hs, fun k h1 h2 => g3 p k pos hp5 h1 hk (show (S 55 (50 * b + 10 * p + k)).toInt = (S 55 (50 * b + 10 * p + pos)).toInt by omega), by omega⟩
/-- what lies at a level -/
theorem sk_at {b p k : Nat} {S : Tr} (hS : iR BM S) (hg : gS b S) (hp : p < 5) (hk : (k : Int) < (S 56 (5 * b + p)).toInt) : ∃ i : Nat, i < 10 ∧ (S 55 (50 * b + 10 * p + k)).toInt = i ∧ (i : Int) < (S 0 14).toInt ∧ (S 54 (10 * b + i)).toInt = p := by
  have hb := BM55 hS (50 * b + 10 * p + k)
  obtain ⟨i, hi⟩ : ∃ i : Nat, (S 55 (50 * b + 10 * p + k)).toInt = i := ⟨(S 55 (50 * b + 10 * p + k)).toInt.toNat, by omega⟩
  obtain ⟨h1, h2⟩ := hg.1 p k hp hk
  have h1 : (S 54 (10 * b + (S 55 (50 * b + 10 * p + k)).toInt.toNat)).toInt = p := h1
  have h2 : (S 55 (50 * b + 10 * p + k)).toInt < (S 0 14).toInt := h2
  rw [show (S 55 (50 * b + 10 * p + k)).toInt.toNat = i by omega] at h1
  exact ⟨i, by omega, hi, by omega, h1⟩
