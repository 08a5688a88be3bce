/-! rows that are kept -/
def cpX (z : Tr) (A o B n : Nat) : Tr := fun a j => if a = A ∧ o ≤ j ∧ j < o + n then z B (j - o) else z a j
theorem cpX_0 {z : Tr} {A o B : Nat} : cpX z A o B 0 = z := by
  funext a j
  unfold cpX
  rw [if_neg (by omega)]
theorem cpX_b {z S S1 : Tr} {A o B n n1 i k : Nat} (h : S = cpX z A o B n) (e : S1 = st S A i (S B k)) (hi : i = o + n) (hk : k = n) (hn : n1 = n + 1) (hAB : B ≠ A) : S1 = cpX z A o B n1 := by
  subst hi; subst hk; subst hn
  rw [e]
  have eB : S B k = z B k := by rw [h]; unfold cpX; rw [if_neg (fun q => hAB q.1)]
  rw [eB]
  funext a j
  rcases st_or (S := S) (a := A) (i := o + k) (b := a) (j := j) (v := z B k) with q | ⟨q1, q2⟩
  · by_cases hq : a = A ∧ j = o + k
    · obtain ⟨q1, q2⟩ := hq
      subst q1; subst q2
      rw [st_same]
      unfold cpX
      rw [if_pos (by omega), Nat.add_sub_cancel_left]
    · rw [q, h]
      unfold cpX
      by_cases h1 : a = A ∧ o ≤ j ∧ j < o + k
      · rw [if_pos h1, if_pos (by omega)]
      · rw [if_neg h1, if_neg (by omega)]
  · subst q1; subst q2
    rw [st_same]
    unfold cpX
    rw [if_pos (by omega), Nat.add_sub_cancel_left]
def cpY (z : Tr) (A o B n : Nat) : Tr := fun a j => if a = B ∧ j < n then z A (o + j) else z a j
theorem cpY_0 {z : Tr} {A o B : Nat} : cpY z A o B 0 = z := by
  funext a j
  unfold cpY
  rw [if_neg (by omega)]
theorem cpY_b {z S S1 : Tr} {A o B n n1 i k : Nat} (h : S = cpY z A o B n) (e : S1 = st S B i (S A k)) (hi : i = n) (hk : k = o + n) (hn : n1 = n + 1) (hAB : A ≠ B) : S1 = cpY z A o B n1 := by
  subst hi; subst hk; subst hn
  rw [e]
  have eA : S A (o + i) = z A (o + i) := by rw [h]; unfold cpY; rw [if_neg (fun q => hAB q.1)]
  rw [eA]
  funext a j
  rcases st_or (S := S) (a := B) (i := i) (b := a) (j := j) (v := z A (o + i)) with q | ⟨q1, q2⟩
  · by_cases hq : a = B ∧ j = i
    · obtain ⟨q1, q2⟩ := hq
      subst q1; subst q2
      rw [st_same]
      unfold cpY
      rw [if_pos (by omega)]
    · rw [q, h]
      unfold cpY
      by_cases h1 : a = B ∧ j < i
      · rw [if_pos h1, if_pos (by omega)]
      · rw [if_neg h1, if_neg (by omega)]
  · subst q1; subst q2
    rw [st_same]
    unfold cpY
    rw [if_pos (by omega)]
def putM (z : Tr) (A o : Nat) : Tr := cpX (cpX (cpX z A o 55 50) A (o + 50) 56 5) A (o + 55) 58 6
/-- all goes down by a row -/
def dwn (z : Tr) (n : Nat) : Tr := fun a j => if a = 84 ∧ j < n then z 84 (j + 61) else z a j
theorem dwn_0 {z : Tr} : dwn z 0 = z := by
  funext a j
  unfold dwn
  rw [if_neg (by omega)]
theorem dwn_b {z S S1 : Tr} {n n1 i k : Nat} (h : S = dwn z n) (e : S1 = st S 84 i (S 84 k)) (hi : i = n) (hk : k = n + 61) (hn : n1 = n + 1) : S1 = dwn z n1 := by
  subst hi; subst hk; subst hn
  rw [e]
  have eA : S 84 (i + 61) = z 84 (i + 61) := by rw [h]; unfold dwn; rw [if_neg (by omega)]
  rw [eA]
  funext a j
  rcases st_or (S := S) (a := 84) (i := i) (b := a) (j := j) (v := z 84 (i + 61)) with q | ⟨q1, q2⟩
  · by_cases hq : a = 84 ∧ j = i
    · obtain ⟨q1, q2⟩ := hq
      subst q1; subst q2
      rw [st_same]
      unfold dwn
      rw [if_pos (by omega)]
    · rw [q, h]
      unfold dwn
      by_cases h1 : a = 84 ∧ j < i
      · rw [if_pos h1, if_pos (by omega)]
      · rw [if_neg h1, if_neg (by omega)]
  · subst q1; subst q2
    rw [st_same]
    unfold dwn
    rw [if_pos (by omega)]
/-! what is remembered -/
theorem cpX_o {z : Tr} {A o B n a j : Nat} (h : ¬ (a = A ∧ o ≤ j ∧ j < o + n)) : cpX z A o B n a j = z a j := by unfold cpX; rw [if_neg h]
theorem cpX_i {z : Tr} {A o B n j : Nat} (h : j < n) : cpX z A o B n A (o + j) = z B j := by unfold cpX; rw [if_pos (by omega), Nat.add_sub_cancel_left]
theorem put_o {z : Tr} {A o a j : Nat} (h : ¬ (a = A ∧ o ≤ j ∧ j < o + 61)) : putM z A o a j = z a j := by
  unfold putM
  rw [cpX_o (by omega), cpX_o (by omega), cpX_o (by omega)]
theorem put_s {z : Tr} {A o j : Nat} (h : j < 50) : putM z A o A (o + j) = z 55 j := by
  unfold putM
  rw [cpX_o (by omega), cpX_o (by omega), cpX_i h]
theorem put_m {z : Tr} {A o j : Nat} (h5 : A ≠ 56) (h : j < 5) : putM z A o A (o + 50 + j) = z 56 j := by
  unfold putM
  rw [cpX_o (by omega), cpX_i h, cpX_o (by omega)]
theorem put_a {z : Tr} {A o j : Nat} (h5 : A ≠ 58) (h : j < 6) : putM z A o A (o + 55 + j) = z 58 j := by
  unfold putM
  rw [cpX_i h, cpX_o (by omega), cpX_o (by omega)]
def mnR (S : Tr) (A o p : Nat) : Int := (S A (o + 50 + p)).toInt
def skR (S : Tr) (A o p k : Nat) : Int := (S A (o + (10 * p + k))).toInt
/-- a row in which a train's stacks are kept -/
def rowOK (S : Tr) (A o : Nat) (how : Nat → Int32) : Prop := ∃ ly : Nat → Int, gF (mnR S A o) (skR S A o) ly (S 0 14).toInt ∧ (∀ i, -1 ≤ ly i ∧ ly i < 5) ∧ (∀ i, i < 10 → (how i = 1 ↔ 0 ≤ ly i)) ∧ (∀ p : Nat, p < 6 → (p : Int) < (S 0 13).toInt → 1 ≤ (S A (o + 55 + p)).toInt)
def uI (S : Tr) : Prop := ∀ r : Nat, (r : Int) < (S 0 82).toInt → rowOK S 84 (61 * r) (fun i => S 53 i)
def vI (S : Tr) : Prop := ¬ S 0 84 = 0 → rowOK S 86 0 (fun i => S 87 i)
theorem gF_eq {mn mn' : Nat → Int} {sk sk' : Nat → Nat → Int} {ly : Nat → Int} {pc : Int} (h : gF mn sk ly pc) (hm : ∀ p, p < 5 → mn' p = mn p) (hs : ∀ p k, p < 5 → k < 10 → sk' p k = sk p k) (m10 : ∀ p, p < 5 → mn p ≤ 10) (l5 : ∀ i, ly i < 5) : gF mn' sk' ly pc := by
  obtain ⟨h1, h2, h3⟩ := h
  refine ⟨fun p k hp hk => ?_, fun i p hi hl => ?_, fun p k l hp hk hl e => ?_⟩
  · rw [hm p hp] at hk
    rw [hs p k hp (by have := m10 p hp; omega)]
    exact h1 p k hp hk
  · obtain ⟨k, c1, c2⟩ := h2 i p hi hl
    have := l5 i
    have hp : p < 5 := by omega
    exact ⟨k, by rw [hm p hp]; exact c1, by rw [hs p k hp (by have := m10 p hp; omega)]; exact c2⟩
  · rw [hm p hp] at hk hl
    have := m10 p hp
    rw [hs p k hp (by omega), hs p l hp (by omega)] at e
    exact h3 p k l hp hk hl e
/-- what is put into a row is a train's -/
theorem row_put {S S1 : Tr} {A o : Nat} {how : Nat → Int32} (hS : iR BM S) (hg : gI 0 S) (hs : ∀ j, j < 50 → S1 A (o + j) = S 55 j) (hm : ∀ j, j < 5 → S1 A (o + 50 + j) = S 56 j) (ha : ∀ j, j < 6 → S1 A (o + 55 + j) = S 58 j) (e13 : S1 0 13 = S 0 13) (e14 : S1 0 14 = S 0 14) (hh : ∀ i, i < 10 → how i = S 53 i) : rowOK S1 A o how := by
  obtain ⟨g1, g2, g3⟩ := hg
  refine ⟨lyM S 0, ?_, fun i => ?_, fun i hi => ?_, fun p hp hq => ?_⟩
  · rw [e14]
    refine gF_eq g1 (fun p hp => ?_) (fun p k hp hk => ?_) (fun p _ => (BM56 hS _).2) (fun i => by have := (BM54 hS (10 * 0 + i)).2; unfold lyM; omega)
    · unfold mnR mnM; rw [hm p hp, show 5 * 0 + p = p by omega]
    · unfold skR skM; rw [hs _ (by omega), show 50 * 0 + 10 * p + k = 10 * p + k by omega]
  · have := BM54 hS (10 * 0 + i); unfold lyM; omega
  · rw [hh i hi]
    have := g2 i hi
    rw [show 10 * 0 + i = i by omega] at this
    exact this
  · rw [ha p hp]
    rw [e13] at hq
    have := g3 p hp hq
    rw [show 6 * 0 + p = p by omega] at this
    exact this
theorem row_eq {S S1 : Tr} {A A1 o o1 : Nat} {how how1 : Nat → Int32} (h : rowOK S A o how) (hb : ∀ p, p < 5 → mnR S A o p ≤ 10) (e : ∀ j, j < 61 → S1 A1 (o1 + j) = S A (o + j)) (e13 : S1 0 13 = S 0 13) (e14 : S1 0 14 = S 0 14) (hh : ∀ i, i < 10 → how1 i = how i) : rowOK S1 A1 o1 how1 := by
  obtain ⟨ly, h1, h2, h3, h4⟩ := h
  refine ⟨ly, ?_, h2, fun i hi => by rw [hh i hi]; exact h3 i hi, fun p hp hq => ?_⟩
  · rw [e14]
    refine gF_eq h1 (fun p hp => ?_) (fun p k hp hk => ?_) hb (fun i => (h2 i).2)
    · unfold mnR; rw [Nat.add_assoc, Nat.add_assoc, e _ (by omega)]
    · unfold skR; rw [e _ (by omega)]
  · rw [Nat.add_assoc, e _ (by omega), ← Nat.add_assoc]
    rw [e13] at hq
    exact h4 p hp hq
