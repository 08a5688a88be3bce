/-! numbers with their bounds; faults -/
theorem k_num {c k w : Int} (h : kI c k w) : c = 42 ↔ k = 3 := by unfold kI at h; omega
theorem k_name {c k w : Int} (h : kI c k w) : c = 43 ↔ k = 2 := by unfold kI at h; omega
theorem k_end {c k w : Int} (h : kI c k w) : c = 45 ↔ k = 0 := by unfold kI at h; omega
theorem k_word {c k w : Int} (h : kI c k w) {a b : Int} (ha : 0 ≤ a) (hb : b ≤ 18) : (a ≤ c ∧ c ≤ b) ↔ (k = 1 ∧ a ≤ w ∧ w ≤ b) := by unfold kI at h; omega
theorem k_weq {c k w : Int} (h : kI c k w) (hk : k = 1) (hw : w ≤ 18) : c = w := by unfold kI at h; omega
theorem k_semi {c k w : Int} (h : kI c k w) : c = 41 ↔ (k = 4 ∧ w = 59) := by unfold kI at h; omega
def flt (R T : Tr) : Prop := R 0 1 = T 0 4 ∧ R 0 2 = T 0 5 ∧ ¬ R 0 1 = 0
def frR (T q : Tr) : Prop := ∀ a j, ¬ (a = 0 ∧ 7 ≤ j ∧ j ≤ 11) → q a j = T a j
theorem frR_T {T q : Tr} (h : frT T q) : frR T q := fun a j hn => h a j (fun g => hn ⟨g.1, g.2.1, by omega⟩)
theorem frR_t {T q r : Tr} (h1 : frR T q) (h2 : frR q r) : frR T r := fun a j hn => (h2 a j hn).trans (h1 a j hn)
theorem ex0 {K R : Tr} {c : Int32} : f_X3_expect K R 0 c = some (0, st (st R 0 1 c) 0 2 (K 0 2)) := rfl
theorem ex1 {K R : Tr} {c : Int32} : f_X3_expect K R 1 c = some (1, R) := rfl
theorem wr0 {T : Tr} {c : Int32} : f_X8_wrong T c = some (0, st (st T 0 4 c) 0 5 (T 0 10)) := by
  show some ((0 : Int32), st (st T 0 4 c) 0 5 ((st T 0 4 c) 0 10)) = _
  rw [st_ne (by decide)]
theorem flt_of {K R T : Tr} {c : Int32} (h : K 0 2 = T 0 10) (hc : ¬ c = 0) : flt (st (st R 0 1 c) 0 2 (K 0 2)) (st (st T 0 4 c) 0 5 (T 0 10)) := by
  refine ⟨?_, ?_, ?_⟩
  · rw [st_ne (by decide), st_same, st_ne (by decide), st_same]
  · rw [st_same, st_same, h]
  · rw [st_ne (by decide), st_same]; exact hc
theorem wrE {T : Tr} {c : Int32} : (bd (f_X8_wrong T c) fun q => lt q.1 fun r3 => lt q.2 fun S_4 => ck (okB r3) (some (r3, S_4))) = some (0, st (st T 0 4 c) 0 5 (T 0 10)) := by
  rw [wr0]; rfl
section
variable {α β γ δ ε ζ : Type} {Q : α → β → Prop} {a : γ} {b : δ} {c : ε} {d : ζ} {x : Option α} {y : Option β}
theorem E2_p2l {k : γ → δ → Option α} (h : E2 (k a b) y Q) : E2 (bd (some (a, b)) fun q => lt q.1 fun r => lt q.2 fun s => k r s) y Q := h
theorem E2_p2r {k : γ → δ → Option β} (h : E2 x (k a b) Q) : E2 x (bd (some (a, b)) fun q => lt q.1 fun r => lt q.2 fun s => k r s) Q := h
theorem E2_v2l {k : γ → δ → Option α} (h : E2 (k a b) y Q) : E2 (lt (a, b).1 fun r => lt (a, b).2 fun s => k r s) y Q := h
theorem E2_v2r {k : γ → δ → Option β} (h : E2 x (k a b) Q) : E2 x (lt (a, b).1 fun r => lt (a, b).2 fun s => k r s) Q := h
theorem E2_v3l {k : γ → δ → ε → Option α} (h : E2 (k a b c) y Q) : E2 (lt (a, b, c).1 fun r => lt (a, b, c).2.1 fun s => lt (a, b, c).2.2 fun t => k r s t) y Q := h
theorem E2_v4l {k : γ → δ → ε → ζ → Option α} (h : E2 (k a b c d) y Q) : E2 (lt (a, b, c, d).1 fun r => lt (a, b, c, d).2.1 fun s => lt (a, b, c, d).2.2.1 fun t => lt (a, b, c, d).2.2.2 fun u => k r s t u) y Q := h
end
def nmQ (K R T : Tr) (lo hi : Int32) (q : Int32 × Tr × Tr) (q' : Int32 × Tr) : Prop := (q.1 = -1 ∧ q'.1 = 0 ∧ flt q.2.2 q'.2) ∨ (q'.1 = 1 ∧ lo.toInt ≤ q.1.toInt ∧ q.1.toInt ≤ hi.toInt ∧ q'.2 0 11 = q.1 ∧ tkS q.2.1 q'.2 ∧ q.2.2 = R ∧ frK K q.2.1 ∧ frR T q'.2 ∧ (T 0 7).toInt ≤ (q'.2 0 10).toInt)
theorem e_num {K R T : Tr} {lo hi : Int32} (h : tkS K T) (hlo : 0 ≤ lo.toInt) (hhi : hi.toInt ≤ 99999) : E2 (f_X3_takeNumber K R lo hi) (f_X8_number T lo hi) (nmQ K R T lo hi) := by
  unfold f_X3_takeNumber f_X8_number
  refine E2_ltl (fun y ey => ?_)
  have hk := k_num h.2.2.2.2.1
  by_cases c : (T 0 8).toInt = 3
  · have c8 : T 0 8 = 3 := Int32.toInt_inj.mp (by rw [c]; decide)
    have c1 : K 0 1 = 42 := Int32.toInt_inj.mp (by rw [hk.mpr c]; decide)
    rw [if_pos c1, if_pos c8]
    unfold fJ_X3_takeNumber_J26
    rw [ex1]
    refine E2_p2l (E2_ql (by decide) ?_)
    have nr := h.2.2.2.2.2.2.1 c
    have fail : E2 (fJ_X3_takeNumber_J48 y K R) (bd (f_X8_wrong T (2 : Int32)) fun q => lt q.1 fun r10 => lt q.2 fun S_11 => ck (okB r10) (some (r10, S_11))) (nmQ K R T lo hi) := by
      unfold fJ_X3_takeNumber_J48 fJ_X3_takeNumber_J49
      rw [ex0, wrE]
      exact E2_p2l (E2_pl rfl (E2_some (Or.inl ⟨rfl, rfl, flt_of h.2.2.2.1 (by decide)⟩)))
    have good : lo.toInt ≤ y.toInt → y.toInt ≤ hi.toInt → E2 (fJ_X3_takeNumber_J49 y 1 K R) (lt (st T 0 11 (T 0 9)) fun S_6 => bd (f_X8_token S_6) fun S_7 => some (1, S_7)) (nmQ K R T lo hi) := by
      intro g1 g2
      unfold fJ_X3_takeNumber_J49
      rw [ex1]
      refine E2_p2l (E2_ltr (fun T2 f2 => E2_ql (by decide) ?_))
      have h2 : tkS K T2 := tkS_T h (fun j h1 h2 => by rw [f2, st_ne (by omega)]) (by rw [f2]; rfl) (by rw [f2]; rfl)
      refine E2_bd (e_advS h2) (fun K1 T1 hq => E2_some (Or.inr ⟨rfl, g1, g2, ?_, hq.1, rfl, hq.2.1, ?_, ?_⟩))
      · show T1 0 11 = y
        rw [hq.2.2.1 0 11 (by omega), f2, st_same]
        rcases nr with ⟨n1, _⟩ | ⟨n1, _⟩
        · rw [← n1, ey]
        · rw [← ey] at n1; omega
      · intro a j hn
        show T1 a j = T a j
        rw [hq.2.2.1 a j (fun g => hn ⟨g.1, g.2.1, by omega⟩), f2]
        rcases st_or (S := T) (a := 0) (i := 11) (b := a) (j := j) (v := T 0 9) with g | g
        · exact g
        · exact absurd ⟨g.1, by omega⟩ hn
      · show (T 0 7).toInt ≤ (T1 0 10).toInt
        have := hq.2.2.2
        rw [f2, st_ne (by decide)] at this
        exact this
    unfold f_X8_isIn
    rcases nr with ⟨n1, n2, n3⟩ | ⟨n1, n2, n3, n4⟩
    · rw [← n1, ← ey]
      by_cases d1 : y < lo
      · rw [if_pos d1, if_pos d1]
        exact E2_sr (E2_pr rfl fail)
      · rw [if_neg d1, if_neg d1]
        by_cases d2 : hi < y
        · rw [if_pos d2, if_pos d2]
          exact E2_sr (E2_pr rfl fail)
        · rw [if_neg d2, if_neg d2]
          have g := good (tq_ltn rfl rfl d1) (tq_ltn rfl rfl d2)
          rw [← n1, ← ey] at g
          exact E2_sr (E2_qr (by decide) g)
    · have d1 : ¬ y < lo ∨ hi < lo := by
        by_cases q : hi < lo
        · exact Or.inr q
        · left
          intro q2
          have := tq_lt rfl rfl q2
          have := tq_ltn rfl rfl q
          rw [← ey] at n1
          omega
      have d2 : hi < y := Int32.lt_iff_toInt_lt.mpr (by rw [ey]; omega)
      have d3 : hi < (T 0 9) := Int32.lt_iff_toInt_lt.mpr (by omega)
      rw [if_pos d2, if_pos d3]
      refine E2_itl (fun _ => ?_) (fun _ => ?_)
      · by_cases d4 : T 0 9 < lo
        · rw [if_pos d4]; exact E2_sr (E2_pr rfl fail)
        · rw [if_neg d4]; exact E2_sr (E2_pr rfl fail)
      · by_cases d4 : T 0 9 < lo
        · rw [if_pos d4]; exact E2_sr (E2_pr rfl fail)
        · rw [if_neg d4]; exact E2_sr (E2_pr rfl fail)
  · have c8 : ¬ T 0 8 = 3 := fun q => c (by rw [q]; decide)
    have c1 : ¬ K 0 1 = 42 := fun q => c (hk.mp (by rw [q]; decide))
    rw [if_neg c1, if_neg c8]
    unfold fJ_X3_takeNumber_J26
    rw [ex0, wrE]
    exact E2_p2l (E2_pl rfl (E2_some (Or.inl ⟨rfl, rfl, flt_of h.2.2.2.1 (by decide)⟩)))
