/-! the tokens: both read the same -/
theorem bd_some {α ρ : Type} {a : α} {k : α → Option ρ} : bd (some a) k = k a := rfl
theorem st_self {T : Tr} {a i : Nat} : st T a i (T a i) = T := by
  funext b j
  rcases st_or (S := T) (a := a) (i := i) (b := b) (j := j) (v := T a i) with g | ⟨g1, g2⟩
  · exact g
  · subst g1; subst g2; rw [st_same]
def kT (K T : Tr) : Prop := K 0 6 = T 0 6 ∧ K 0 7 = T 0 7 ∧ (0 ≤ (T 0 7).toInt ∧ (T 0 7).toInt ≤ (T 0 6).toInt ∧ (T 0 6).toInt ≤ 700) ∧ ∀ j : Nat, (j : Int) < (T 0 6).toInt → K 5 j &&& 255 = T 1 j
theorem kT_of {K T K1 T1 : Tr} (h : kT K T) (e6 : K1 0 6 = K 0 6) (f6 : T1 0 6 = T 0 6) (e7 : K1 0 7 = T1 0 7) (hb : 0 ≤ (T1 0 7).toInt ∧ (T1 0 7).toInt ≤ (T 0 6).toInt) (e5 : K1 5 = K 5) (f1 : T1 1 = T 1) : kT K1 T1 := by
  refine ⟨by rw [e6, f6]; exact h.1, e7, by rw [f6]; exact ⟨hb.1, hb.2, h.2.2.1.2.2⟩, fun j hj => ?_⟩
  rw [f6] at hj; rw [e5, f1]; exact h.2.2.2 j hj
theorem at_in {K T : Tr} (h : kT K T) {x : Int32} {n : Nat} (hx : x.toInt = n) (hn : (n : Int) < (T 0 6).toInt) : f_X5_at K x = some (T 1 n) := by
  have b := h.2.2.1
  unfold f_X5_at
  have c1 : ¬ x < 0 := fun q => by have := tq_lt (x := x) (y := (0 : Int32)) rfl (b := 0) (by decide) q; omega
  have c2 : ¬ (K 0 6) ≤ x := fun q => by have := tq_le (x := K 0 6) (y := x) rfl rfl q; rw [h.1] at this; omega
  have c3 : ¬ 700 ≤ x := fun q => by have := tq_le (x := (700 : Int32)) (y := x) (a := 700) (by decide) rfl q; omega
  have c4 : okI x 700 = true := okI_of (by omega) (by omega)
  have c5 : x.toNatClampNeg = n := by simp only [i_cl]; omega
  rw [if_neg c1, if_neg c2, if_neg c3, c4, c5, h.2.2.2 n hn]; rfl
theorem at_out {K T : Tr} (h : kT K T) {x : Int32} (hx : (T 0 6).toInt ≤ x.toInt) : f_X5_at K x = some (-1) := by
  unfold f_X5_at
  by_cases c1 : x < 0
  · rw [if_pos c1]
  · have c2 : (K 0 6) ≤ x := by rw [h.1]; exact Int32.le_iff_toInt_le.mpr hx
    rw [if_neg c1, if_pos c2]
theorem dg_in {K T : Tr} (h : kT K T) {x : Int32} {n : Nat} (hx : x.toInt = n) (hn : (n : Int) < (T 0 6).toInt) : f_X8_isDigit T x = f_X5_isDigit (T 1 n) := by
  have b := h.2.2.1
  unfold f_X8_isDigit f_X5_isDigit
  have c2 : ¬ (T 0 6) ≤ x := fun q => by have := tq_le (x := T 0 6) (y := x) rfl rfl q; omega
  have c4 : okI x 700 = true := okI_of (by omega) (by omega)
  have c5 : x.toNatClampNeg = n := by simp only [i_cl]; omega
  rw [if_neg c2, c4, c5]; rfl
theorem dg_out {T : Tr} {x : Int32} (hx : (T 0 6).toInt ≤ x.toInt) : f_X8_isDigit T x = some 0 := by
  unfold f_X8_isDigit
  rw [if_pos (Int32.le_iff_toInt_le.mpr hx)]
theorem sm_in {K T : Tr} (h : kT K T) {x : Int32} {n : Nat} (hx : x.toInt = n) (hn : (n : Int) < (T 0 6).toInt) : f_X8_isSmall T x = f_X5_isLetter (T 1 n) := by
  have b := h.2.2.1
  unfold f_X8_isSmall f_X5_isLetter
  have c2 : ¬ (T 0 6) ≤ x := fun q => by have := tq_le (x := T 0 6) (y := x) rfl rfl q; omega
  have c4 : okI x 700 = true := okI_of (by omega) (by omega)
  have c5 : x.toNatClampNeg = n := by simp only [i_cl]; omega
  rw [if_neg c2, c4, c5]; rfl
theorem sm_out {T : Tr} {x : Int32} (hx : (T 0 6).toInt ≤ x.toInt) : f_X8_isSmall T x = some 0 := by
  unfold f_X8_isSmall
  rw [if_pos (Int32.le_iff_toInt_le.mpr hx)]
theorem dg_val (c : Int32) : (f_X5_isDigit c = some 0 ∧ ¬ (48 ≤ c.toInt ∧ c.toInt ≤ 57)) ∨ (f_X5_isDigit c = some 1 ∧ 48 ≤ c.toInt ∧ c.toInt ≤ 57) := by
  unfold f_X5_isDigit
  by_cases c1 : c < 48
  · have := tq_lt (x := c) (y := (48 : Int32)) rfl (b := 48) (by decide) c1
    rw [if_pos c1]; exact Or.inl ⟨rfl, by omega⟩
  · have k1 := tq_ltn (x := c) (y := (48 : Int32)) rfl (b := 48) (by decide) c1
    by_cases c2 : 57 < c
    · have := tq_lt (x := (57 : Int32)) (y := c) (a := 57) (by decide) rfl c2
      rw [if_neg c1, if_pos c2]; exact Or.inl ⟨rfl, by omega⟩
    · have k2 := tq_ltn (x := (57 : Int32)) (y := c) (a := 57) (by decide) rfl c2
      rw [if_neg c1, if_neg c2]; exact Or.inr ⟨rfl, k1, k2⟩
/-- a number as both hold it: alike, or beyond all limits in both -/
def nR (v w : Int32) : Prop := (v = w ∧ 0 ≤ w.toInt ∧ w.toInt ≤ 99999) ∨ (100000 ≤ v.toInt ∧ v.toInt ≤ 20000000 ∧ 100000 ≤ w.toInt ∧ w.toInt ≤ 1000000)
theorem num_eq (N : Nat) : ∀ K T : Tr, kT K T → nR (K 0 3) (T 0 9) → T 0 8 = 3 → 800 - (T 0 7).toInt < (N : Int) → ∃ K1 T1, lpF (fun _ => none) fB_X5_readNumber_L5 N K = some K1 ∧ lpF (fun _ => none) fB_X8_token_L213 N T = some T1 ∧ kT K1 T1 ∧ K1 0 1 = 42 ∧ T1 0 8 = 3 ∧ nR (K1 0 3) (T1 0 9) ∧ (∀ a j, ¬ (a = 0 ∧ (j = 1 ∨ j = 3 ∨ j = 7)) → K1 a j = K a j) ∧ (∀ a j, ¬ (a = 0 ∧ (j = 7 ∨ j = 9)) → T1 a j = T a j) := by
  induction N with
  | zero => intro K T h _ _ hn; have := h.2.2.1; omega
  | succ N ih =>
    intro K T h hv h8 hn
    show ∃ K1 T1, fB_X5_readNumber_L5 (lpF (fun _ => none) fB_X5_readNumber_L5 N) K = some K1 ∧ fB_X8_token_L213 (lpF (fun _ => none) fB_X8_token_L213 N) T = some T1 ∧ _
    generalize lpF (fun _ => none) fB_X5_readNumber_L5 N = k1 at ih ⊢
    generalize lpF (fun _ => none) fB_X8_token_L213 N = k2 at ih ⊢
    have b := h.2.2.1
    have hend : ∀ K1 : Tr, K1 = st K 0 1 42 → kT K1 T ∧ K1 0 1 = 42 ∧ nR (K1 0 3) (T 0 9) ∧ (∀ a j, ¬ (a = 0 ∧ (j = 1 ∨ j = 3 ∨ j = 7)) → K1 a j = K a j) := by
      intro K1 e
      refine ⟨kT_of h (by rw [e, st_ne (by decide)]) rfl (by rw [e, st_ne (by decide)]; exact h.2.1) ⟨b.1, b.2.1⟩ (by rw [e, st_oth (by decide)]) rfl, by rw [e, st_same], by rw [e, st_ne (by decide)]; exact hv, fun a j hq => ?_⟩
      rcases st_or (S := K) (a := 0) (i := 1) (b := a) (j := j) (v := 42) with g | ⟨g1, g2⟩
      · rw [e]; exact g
      · exact absurd ⟨g1, Or.inl g2⟩ hq
    obtain ⟨n, hx⟩ : ∃ n : Nat, (T 0 7).toInt = n := ⟨(T 0 7).toInt.toNat, by omega⟩
    unfold fB_X5_readNumber_L5 fB_X8_token_L213
    by_cases hl : (n : Int) < (T 0 6).toInt
    · have c1 : ¬ (K 0 6) ≤ (K 0 7) := fun q => by have := tq_le (x := K 0 6) (y := K 0 7) rfl rfl q; rw [h.1, h.2.1] at this; omega
      have ea : f_X5_at K (K 0 7) = some (T 1 n) := at_in h (by rw [h.2.1]; exact hx) hl
      rw [if_neg c1, ea, bd_some, dg_in h hx hl]
      rcases dg_val (T 1 n) with ⟨e0, _⟩ | ⟨e1, d1, d2⟩
      · have z := hend _ rfl
        exact ⟨st K 0 1 42, T, by rw [e0]; rfl, by rw [e0]; rfl, z.1, z.2.1, h8, z.2.2.1, z.2.2.2, fun _ _ _ => rfl⟩
      · rw [e1]
        have n10 : ¬ (1 : Int32) = 0 := by decide
        have hx7 : okI (T 0 7) 700 = true := okI_of (by omega) (by omega)
        have c5 : (T 0 7).toNatClampNeg = n := by simp only [i_cl]; omega
        have e7 : (T 0 7 + 1).toInt = (T 0 7).toInt + 1 := i_addK rfl (by decide) (by omega) (by omega)
        have go : ∀ v w : Int32, nR v w → ∃ K1 T1, k1 (st (st K 0 3 v) 0 7 (K 0 7 + 1)) = some K1 ∧ k2 (st (st T 0 9 w) 0 7 (T 0 7 + 1)) = some T1 ∧ kT K1 T1 ∧ K1 0 1 = 42 ∧ T1 0 8 = 3 ∧ nR (K1 0 3) (T1 0 9) ∧ (∀ a j, ¬ (a = 0 ∧ (j = 1 ∨ j = 3 ∨ j = 7)) → K1 a j = K a j) ∧ (∀ a j, ¬ (a = 0 ∧ (j = 7 ∨ j = 9)) → T1 a j = T a j) := by
          intro v w hvw
          obtain ⟨K1, T1, q1, q2, q3, q4, q5, q6, q7, q8⟩ := ih (st (st K 0 3 v) 0 7 (K 0 7 + 1)) (st (st T 0 9 w) 0 7 (T 0 7 + 1)) (kT_of h (by rw [st_ne (by decide), st_ne (by decide)]) (by rw [st_ne (by decide), st_ne (by decide)]) (by rw [st_same, st_same, h.2.1]) (by rw [st_same]; omega) (by rw [st_oth (by decide), st_oth (by decide)]) (by rw [st_oth (by decide), st_oth (by decide)])) (by rw [st_ne (by decide), st_same, st_ne (by decide), st_same]; exact hvw) (by rw [st_ne (by decide), st_ne (by decide)]; exact h8) (by rw [st_same]; omega)
          refine ⟨K1, T1, q1, q2, q3, q4, q5, q6, fun a j hq => ?_, fun a j hq => ?_⟩
          · rw [q7 a j hq]
            rcases st_or (S := st K 0 3 v) (a := 0) (i := 7) (b := a) (j := j) (v := K 0 7 + 1) with g | ⟨g1, g2⟩
            · rw [g]
              rcases st_or (S := K) (a := 0) (i := 3) (b := a) (j := j) (v := v) with g | ⟨g1, g2⟩
              · exact g
              · exact absurd ⟨g1, Or.inr (Or.inl g2)⟩ hq
            · exact absurd ⟨g1, Or.inr (Or.inr g2)⟩ hq
          · rw [q8 a j hq]
            rcases st_or (S := st T 0 9 w) (a := 0) (i := 7) (b := a) (j := j) (v := T 0 7 + 1) with g | ⟨g1, g2⟩
            · rw [g]
              rcases st_or (S := T) (a := 0) (i := 9) (b := a) (j := j) (v := w) with g | ⟨g1, g2⟩
              · exact g
              · exact absurd ⟨g1, Or.inr g2⟩ hq
            · exact absurd ⟨g1, Or.inl g2⟩ hq
        have keepK : st K 0 7 (K 0 7 + 1) = st (st K 0 3 (K 0 3)) 0 7 (K 0 7 + 1) := by rw [st_self]
        have keepT : st T 0 7 (T 0 7 + 1) = st (st T 0 9 (T 0 9)) 0 7 (T 0 7 + 1) := by rw [st_self]
        show ∃ K1 T1, (if (1 : Int32) = 0 then fJ_X5_readNumber_J75 K else if 1000000 ≤ K 0 3 then fJ_X5_readNumber_J62 k1 K else bd (some (T 1 n)) fun r13 => lt (st K 0 3 (K 0 3 * 10 + r13 - 48)) fun K_16 => fJ_X5_readNumber_J62 k1 K_16) = some K1 ∧ (if (1 : Int32) = 0 then some T else if T 0 9 ≤ 99999 then ck (okI (T 0 7) 700) (fJ_X8_token_J261 k2 ((10 : Int32) * T 0 9 + T 1 (T 0 7).toNatClampNeg - 48) T) else fJ_X8_token_J261 k2 (T 0 9) T) = some T1 ∧ _
        rw [if_neg n10, if_neg n10, hx7, c5]
        rcases hv with ⟨ev, w0, w1⟩ | ⟨v0, v1, w0, w1⟩
        · have cv : ¬ 1000000 ≤ K 0 3 := fun q => by have := tq_le (x := (1000000 : Int32)) (y := K 0 3) (a := 1000000) (by decide) rfl q; rw [ev] at this; omega
          have cw : T 0 9 ≤ 99999 := Int32.le_iff_toInt_le.mpr (by rw [show (99999 : Int32).toInt = 99999 by decide]; exact w1)
          rw [if_neg cv, if_pos cw]
          have m1 : ((10 : Int32) * T 0 9).toInt = 10 * (T 0 9).toInt := by
            rw [Int32.toInt_mul, show (10 : Int32).toInt = 10 by decide]; exact i_bm (by omega) (by omega)
          have m2 : ((10 : Int32) * T 0 9 + T 1 n).toInt = 10 * (T 0 9).toInt + (T 1 n).toInt := i_addK m1 rfl (by omega) (by omega)
          have m3 : ((10 : Int32) * T 0 9 + T 1 n - 48).toInt = 10 * (T 0 9).toInt + (T 1 n).toInt - 48 := i_subK m2 (by decide) (by omega) (by omega)
          have em : K 0 3 * 10 + T 1 n - 48 = (10 : Int32) * T 0 9 + T 1 n - 48 := by rw [ev, Int32.mul_comm]
          have := go (K 0 3 * 10 + T 1 n - 48) ((10 : Int32) * T 0 9 + T 1 n - 48) (by
            rw [em]
            rcases (by omega : 10 * (T 0 9).toInt + (T 1 n).toInt - 48 ≤ 99999 ∨ 100000 ≤ 10 * (T 0 9).toInt + (T 1 n).toInt - 48) with g | g
            · exact Or.inl ⟨rfl, by omega, by omega⟩
            · exact Or.inr ⟨by omega, by omega, by omega, by omega⟩)
          exact this
        · have cw : ¬ T 0 9 ≤ 99999 := fun q => by have := tq_le (x := T 0 9) (y := (99999 : Int32)) rfl (b := 99999) (by decide) q; omega
          rw [if_neg cw]
          by_cases cv : 1000000 ≤ K 0 3
          · rw [if_pos cv]
            have := go (K 0 3) (T 0 9) (Or.inr ⟨v0, v1, w0, w1⟩)
            show ∃ K1 T1, k1 (st K 0 7 (K 0 7 + 1)) = some K1 ∧ _
            rw [keepK]; exact this
          · have k3 := tq_len (x := (1000000 : Int32)) (y := K 0 3) (a := 1000000) (by decide) rfl cv
            rw [if_neg cv]
            have m1 : (K 0 3 * 10).toInt = (K 0 3).toInt * 10 := by
              rw [Int32.toInt_mul, show (10 : Int32).toInt = 10 by decide]; exact i_bm (by omega) (by omega)
            have m2 : (K 0 3 * 10 + T 1 n).toInt = (K 0 3).toInt * 10 + (T 1 n).toInt := i_addK m1 rfl (by omega) (by omega)
            have m3 : (K 0 3 * 10 + T 1 n - 48).toInt = (K 0 3).toInt * 10 + (T 1 n).toInt - 48 := i_subK m2 (by decide) (by omega) (by omega)
            exact go (K 0 3 * 10 + T 1 n - 48) (T 0 9) (Or.inr ⟨by omega, by omega, w0, w1⟩)
    · have c1 : (K 0 6) ≤ (K 0 7) := by rw [h.1, h.2.1]; exact Int32.le_iff_toInt_le.mpr (by omega)
      rw [if_pos c1, dg_out (by omega)]
      have z := hend _ rfl
      exact ⟨_, _, rfl, rfl, z.1, z.2.1, h8, z.2.2.1, z.2.2.2, fun _ _ _ => rfl⟩
