/-! a word, packed by both -/
def ltt (T : Tr) (a n : Nat) : Prop := ∀ i, i < n → 97 ≤ (T 1 (a + i)).toInt ∧ (T 1 (a + i)).toInt ≤ 122
theorem ltr_bd {T : Tr} {a n : Nat} (h : ltt T a n) (i : Nat) : 0 ≤ ltr T a n i ∧ ltr T a n i < 32 := by
  unfold ltr
  by_cases c : i < n
  · rw [if_pos c]; have := h i c; omega
  · rw [if_neg c]; omega
theorem pk6 {f : Nat → Int} (h : ∀ i, 0 ≤ f i ∧ f i < 32) {i : Nat} (hi : i < 6) : 0 ≤ pkL f i ∧ pkL f i < 33554432 := by
  have h1 := pkL_bd (f := f) (n := i) (fun i _ => h i)
  refine ⟨h1.1, ?_⟩
  have : i = 0 ∨ i = 1 ∨ i = 2 ∨ i = 3 ∨ i = 4 ∨ i = 5 := by omega
  rcases this with rfl | rfl | rfl | rfl | rfl | rfl <;> (have := h1.2; omega)
theorem e_packed {T : Tr} {a n : Nat} {x1 x2 : Int32} (hx1 : x1.toInt = a) (hx2 : x2.toInt = a + n) (han : a + n ≤ 700) (hl : ltt T a n) : Ep (f_X8_packed T x1 x2) (fun r => r.toInt = pkL (ltr T a n) 6) := by
  unfold f_X8_packed fL_X8_packed_L5
  have main : ∀ (N i : Nat) (x3 x4 : Int32), i ≤ 6 → x4.toInt = a + i → x3.toInt = pkL (ltr T a n) i → Ep (lpF (fun _ _ => none) (fB_X8_packed_L5 T x1 x2) N x3 x4) (fun r => r.toInt = pkL (ltr T a n) 6) := by
    intro N
    induction N with
    | zero => intro i x3 x4 _ _ _; exact Ep_none
    | succ N ih =>
      intro i x3 x4 hi h4 h3
      show Ep (fB_X8_packed_L5 T x1 x2 (lpF (fun _ _ => none) (fB_X8_packed_L5 T x1 x2) N) x3 x4) _
      generalize lpF (fun _ _ => none) (fB_X8_packed_L5 T x1 x2) N = k5 at ih ⊢
      unfold fB_X8_packed_L5
      have q6 : (x1 + 6).toInt = a + 6 := i_addK hx1 (by decide) (by omega) (by omega)
      refine Ep_ite (fun c => Ep_some ?_) (fun c => ?_)
      · have c := tq_le q6 h4 c
        have : i = 6 := by omega
        rw [h3, this]
      · have c := tq_len q6 h4 c
        have hi : i < 6 := by omega
        have p6 := pk6 (ltr_bd hl) hi
        have q1 : (x4 + 1).toInt = a + ((i + 1 : Nat) : Int) := by rw [i_addK h4 (y := 1) (by decide) (by omega) (by omega)]; omega
        refine Ep_ite (fun c2 => Ep_lt (fun y e => Ep_lt (fun z f => ih (i + 1) y z (by omega) (by rw [f]; exact q1) ?_))) (fun c2 => Ep_ck (Ep_lt (fun y e => Ep_lt (fun z f => ih (i + 1) y z (by omega) (by rw [f]; exact q1) ?_))))
        · have c2 := tq_le hx2 h4 c2
          rw [e, sh5 (by rw [h3]; exact p6) (by decide), h3]
          show pkL (ltr T a n) i * 32 + 0 = pkL (ltr T a n) i * 32 + ltr T a n i
          rw [show ltr T a n i = 0 from if_neg (by omega)]
        · have c2 := tq_len hx2 h4 c2
          have q3 : x4.toNatClampNeg = a + i := by simp only [i_cl]; omega
          have q4 := hl i (by omega)
          have q5 : (T 1 (a + i) - 96).toInt = (T 1 (a + i)).toInt - 96 := i_subK rfl (by decide) (by omega) (by omega)
          rw [e, q3, sh5 (by rw [h3]; exact p6) (by rw [q5]; omega), h3, q5]
          show pkL (ltr T a n) i * 32 + ((T 1 (a + i)).toInt - 96) = pkL (ltr T a n) i * 32 + ltr T a n i
          rw [show ltr T a n i = (T 1 (a + i)).toInt - 96 from if_pos (by omega)]
  exact main 2000 0 0 x1 (by omega) (by omega) (by show (0 : Int32).toInt = 0; decide)
def wg (k i : Nat) : Int := if i < wln k then (wr (wst k + i)).toInt - 96 else 0
theorem wg_bd {k : Nat} (hk : k < 29) (i : Nat) : 0 ≤ wg k i ∧ wg k i < 32 := by
  unfold wg
  by_cases c : i < wln k
  · rw [if_pos c]; have := w_lt k hk i c; omega
  · rw [if_neg c]; omega
theorem w_pk : ∀ k, k < 29 → (wv (cOf k)).toInt = pkL (wg k) 6 := by decide +kernel
theorem w_ne : ∀ k, k < 29 → ∀ j, j < 29 → wv k = wv j → k = j := by decide +kernel
theorem w_key {T : Tr} {a n k : Nat} (hl : ltt T a n) (hn : n ≤ 6) (hk : k < 29) : wm T a n k ↔ (wv (cOf k)).toInt = pkL (ltr T a n) 6 := by
  rw [w_pk k hk]
  constructor
  · rintro ⟨h1, h2⟩
    refine pkL_cg (fun i _ => ?_)
    unfold wg ltr
    rw [h1]
    by_cases c : i < n
    · rw [if_pos c, if_pos c, h2 i c]
    · rw [if_neg c, if_neg c]
  · intro e
    have e := pkL_inj (fun i _ => wg_bd hk i) (fun i _ => ltr_bd hl i) e
    have h4 := w_st k hk
    have e1 : wln k = n := by
      rcases Nat.lt_trichotomy (wln k) n with q | q | q
      · have e := e (wln k) (by omega)
        have e1 : wg k (wln k) = 0 := if_neg (by omega)
        have e2 : ltr T a n (wln k) = (T 1 (a + wln k)).toInt - 96 := if_pos q
        have := hl (wln k) q
        omega
      · exact q
      · have e := e n (by omega)
        have e1 : wg k n = (wr (wst k + n)).toInt - 96 := if_pos q
        have e2 : ltr T a n n = 0 := if_neg (by omega)
        have := w_lt k hk n q
        omega
    refine ⟨e1, fun i hi => Int32.toInt_inj.mp ?_⟩
    have e := e i (by omega)
    have e2 : wg k i = (wr (wst k + i)).toInt - 96 := if_pos (by omega)
    have e3 : ltr T a n i = (T 1 (a + i)).toInt - 96 := if_pos hi
    omega
def wC (K : Tr) : Prop := ∀ j, j < 29 → K 6 j = wv j
theorem e_L115 {K0 : Tr} (hw : wC K0) (M : Nat) : ∀ (w : Nat) (x3 : Int32) (K : Tr), w ≤ 29 → x3.toInt = w → (∀ a j, ¬ (a = 0 ∧ j = 1) → K a j = K0 a j) → (((K 0 1).toInt = 43 ∧ ∀ v, v < w → ¬ wv v = K0 0 3) ∨ (∃ v, v < 29 ∧ (K 0 1).toInt = (v : Nat) ∧ wv v = K0 0 3)) → Ep (lpF (fun _ _ => none) fB_X5_readWord_L115 M x3 K) (fun q => (∀ a j, ¬ (a = 0 ∧ j = 1) → q a j = K0 a j) ∧ (((q 0 1).toInt = 43 ∧ ∀ v, v < 29 → ¬ wv v = K0 0 3) ∨ (∃ v, v < 29 ∧ (q 0 1).toInt = (v : Nat) ∧ wv v = K0 0 3))) := by
  induction M with
  | zero => intro w x3 K _ _ _ _; exact Ep_none
  | succ M ih =>
    intro w x3 K hw1 h3 hf hi
    show Ep (fB_X5_readWord_L115 (lpF (fun _ _ => none) fB_X5_readWord_L115 M) x3 K) _
    generalize lpF (fun _ _ => none) fB_X5_readWord_L115 M = k5 at ih ⊢
    unfold fB_X5_readWord_L115
    refine Ep_ite (fun c => Ep_some ⟨hf, ?_⟩) (fun c => ?_)
    · have c := tq_le (a := 29) (by decide) h3 c
      rcases hi with ⟨g1, g2⟩ | g
      · exact Or.inl ⟨g1, fun v hv => g2 v (by omega)⟩
      · exact Or.inr g
    · have c := tq_len (a := 29) (by decide) h3 c
      have q3 : x3.toNatClampNeg = w := by simp only [i_cl]; omega
      have q1 : (x3 + 1).toInt = ((w + 1 : Nat) : Int) := by rw [i_addK h3 (y := 1) (by decide) (by omega) (by omega)]; omega
      rw [q3, hf 6 w (by omega), hf 0 3 (by omega), hw w (by omega)]
      refine Ep_ck (Ep_ite (fun c2 => Ep_lt (fun K1 e1 => Ep_lt (fun y e => ih (w + 1) y K1 (by omega) (by rw [e]; exact q1) ?_ ?_))) (fun c2 => Ep_lt (fun y e => ih (w + 1) y K (by omega) (by rw [e]; exact q1) hf ?_)))
      · intro b j hb
        rw [e1]
        rcases st_or (S := K) (a := 0) (i := 1) (b := b) (j := j) (v := x3) with g | g
        · rw [g]; exact hf b j hb
        · exact absurd g hb
      · exact Or.inr ⟨w, by omega, by rw [e1, st_same]; exact h3, c2⟩
      · rcases hi with ⟨g1, g2⟩ | g
        · refine Or.inl ⟨g1, fun v hv => ?_⟩
          rcases Nat.lt_succ_iff_lt_or_eq.mp hv with q | q
          · exact g2 v q
          · rw [q]; exact c2
        · exact Or.inr g
