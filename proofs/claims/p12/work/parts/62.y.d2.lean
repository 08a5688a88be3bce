/-! the words of the language, as the reference lays them, and as the class packs them -/
def wr (j : Nat) : Int32 := List.getD [112, 108, 97, 99, 101, 32, 112, 101, 114, 115, 111, 110, 32, 112, 105, 101, 99, 101, 32, 119, 97, 105, 116, 32, 114, 117, 108, 101, 32, 99, 117, 114, 118, 101, 32, 115, 101, 101, 100, 32, 108, 97, 119, 32, 110, 101, 116, 32, 115, 104, 101, 108, 102, 32, 102, 108, 111, 111, 114, 32, 115, 101, 97, 116, 32, 104, 97, 108, 108, 32, 102, 105, 114, 115, 116, 32, 108, 105, 103, 104, 116, 32, 108, 97, 115, 116, 32, 108, 105, 102, 116, 32, 102, 97, 108, 108, 32, 115, 116, 101, 97, 108, 32, 97, 110, 100, 32, 111, 114, 32, 110, 111, 116, 32, 104, 101, 97, 118, 121, 32, 102, 114, 97, 105, 108, 32, 97, 98, 111, 118, 101, 32, 107, 105, 110, 100, 32, 97, 98, 108, 101, 32, 115, 116, 111, 112, 32, 98, 101, 97, 114, 115, 32] j 0
def wst (k : Nat) : Nat := List.getD [0, 6, 13, 19, 24, 29, 35, 40, 44, 48, 54, 60, 65, 70, 76, 82, 87, 92, 97, 103, 107, 110, 114, 120, 126, 132, 137, 142, 147, 153] k 0
def wln (k : Nat) : Nat := List.getD [5, 6, 5, 4, 4, 5, 4, 3, 3, 5, 5, 4, 4, 5, 5, 4, 4, 4, 5, 3, 2, 3, 5, 5, 5, 4, 4, 4, 5] k 0
def wv (k : Nat) : Int32 := List.getD [549489824, 542723566, 546475168, 773115904, 626398208, 123295904, 642945024, 404455424, 475660288, 646099136, 214416960, 642830336, 269889536, 211373696, 412328576, 404344832, 412307456, 202780672, 658670976, 522190848, 48365568, 486146048, 273734432, 220243328, 36165792, 378998784, 36049920, 659013632, 72403552] k 0
def cOf (k : Nat) : Nat := if k = 19 then 20 else if k = 20 then 19 else k
def wT (T : Tr) : Prop := ∀ j, j < 153 → T 4 j = wr j
def wm (T : Tr) (a n k : Nat) : Prop := wln k = n ∧ ∀ i, i < n → T 1 (a + i) = wr (wst k + i)
theorem w_st : ∀ k, k < 29 → wst (k + 1) = wst k + wln k + 1 ∧ wst k + wln k < 153 ∧ 1 ≤ wln k ∧ wln k ≤ 6 := by decide +kernel
theorem w_bl : ∀ k, k < 29 → wr (wst k + wln k) = 32 := by decide +kernel
theorem w_nb : ∀ k, k < 29 → ∀ i, i < wln k → ¬ wr (wst k + i) = 32 := by decide +kernel
theorem w_lt : ∀ k, k < 29 → ∀ i, i < wln k → 97 ≤ (wr (wst k + i)).toInt ∧ (wr (wst k + i)).toInt ≤ 122 := by decide +kernel
theorem w_in {k : Nat} (hk : k < 29) {i : Nat} (hi : i ≤ wln k) : wst k + i < 153 := by have := w_st k hk; omega
def wQ (T : Tr) (a n : Nat) (r : Int32) : Prop := (∃ k : Nat, k < 29 ∧ r.toInt = (k : Int) ∧ wm T a n k) ∨ (r.toInt = -1 ∧ ∀ k : Nat, k < 29 → ¬ wm T a n k)
theorem e_wordAt {T : Tr} (hw : wT T) {a n : Nat} {x1 x2 : Int32} (hx1 : x1.toInt = a) (hx2 : x2.toInt = a + n) (han : a + n ≤ 700) : Ep (f_X8_wordAt T x1 x2) (wQ T a n) := by
  unfold f_X8_wordAt fL_X8_wordAt_L5
  have main : ∀ (N k : Nat) (x3 x4 : Int32), k ≤ 29 → x3.toInt = k → x4.toInt = wst k → (∀ j, j < k → ¬ wm T a n j) → Ep (lpF (fun _ _ => none) (fB_X8_wordAt_L5 T x1 x2) N x3 x4) (wQ T a n) := by
    intro N
    induction N with
    | zero => intro k x3 x4 _ _ _ _; exact Ep_none
    | succ N ih =>
      intro k x3 x4 hk h3 h4 hno
      show Ep (fB_X8_wordAt_L5 T x1 x2 (lpF (fun _ _ => none) (fB_X8_wordAt_L5 T x1 x2) N) x3 x4) _
      generalize lpF (fun _ _ => none) (fB_X8_wordAt_L5 T x1 x2) N = k5 at ih ⊢
      unfold fB_X8_wordAt_L5
      refine Ep_ite (fun c => Ep_some ?_) (fun c => ?_)
      · have c := tq_le (a := 153) (by decide) h4 c
        right
        refine ⟨by decide, fun j hj => ?_⟩
        rcases Nat.lt_or_ge k 29 with q | q
        · have := w_st k q; omega
        · exact hno j (by omega)
      · have c := tq_len (a := 153) (by decide) h4 c
        have hk : k < 29 := by
          rcases Nat.lt_or_ge k 29 with q | q
          · exact q
          · have : k = 29 := by omega
            subst this
            have : wst 29 = 153 := by decide
            omega
        obtain ⟨s1, s2, s3, s4⟩ := w_st k hk
        have nxt : ∀ x5 : Int32, x5.toInt = wln k → ¬ wm T a n k → Ep (lt (x4 + (x5 + 1)) fun y7 => lt (x3 + 1) fun y8 => k5 y8 y7) (wQ T a n) := by
          intro x5 h5 hm
          refine Ep_lt (fun y7 e7 => Ep_lt (fun y8 e8 => ih (k + 1) y8 y7 (by omega) ?_ ?_ ?_))
          · rw [e8, i_addK h3 (y := 1) (by decide) (by omega) (by omega)]; omega
          · have q1 : (x5 + 1).toInt = wln k + 1 := i_addK h5 (by decide) (by omega) (by omega)
            have q2 : (x4 + (x5 + 1)).toInt = wst k + (wln k + 1) := i_addK h4 q1 (by omega) (by omega)
            rw [e7, q2, s1]; omega
          · intro j hj
            rcases Nat.lt_succ_iff_lt_or_eq.mp hj with q | q
            · exact hno j q
            · rw [q]; exact hm
        have cmp : ∀ (M j : Nat) (x5 x6 x7 : Int32), x5.toInt = wln k → j ≤ wln k → x7.toInt = j → ((x6 = 1 ∧ wln k = n ∧ ∀ i, i < j → T 1 (a + i) = wr (wst k + i)) ∨ (x6 = 0 ∧ ¬ wm T a n k)) → Ep (lpF (fun _ _ => none) (fB_X8_wordAt_L57 k5 T x1 x2 x3 x4 x5) M x6 x7) (wQ T a n) := by
          intro M
          induction M with
          | zero => intro j x5 x6 x7 _ _ _ _; exact Ep_none
          | succ M ihM =>
            intro j x5 x6 x7 h5 hj h7 h6
            show Ep (fB_X8_wordAt_L57 k5 T x1 x2 x3 x4 x5 (lpF (fun _ _ => none) (fB_X8_wordAt_L57 k5 T x1 x2 x3 x4 x5) M) x6 x7) _
            have ihM := ihM (x5 := x5)
            generalize lpF (fun _ _ => none) (fB_X8_wordAt_L57 k5 T x1 x2 x3 x4 x5) M = k57 at ihM ⊢
            unfold fB_X8_wordAt_L57
            refine Ep_ite (fun c1 => ?_) (fun c1 => ?_)
            · have c1 := tq_le h5 h7 c1
              unfold fJ_X8_wordAt_J104
              refine Ep_ite (fun c2 => ?_) (fun c2 => Ep_some ?_)
              · rcases h6 with ⟨g, _⟩ | ⟨_, g⟩
                · rw [g] at c2; exact absurd c2 (by decide)
                · exact nxt x5 h5 g
              · rcases h6 with ⟨_, g1, g2⟩ | ⟨g, _⟩
                · exact Or.inl ⟨k, hk, h3, g1, fun i hi => g2 i (by omega)⟩
                · exact absurd g c2
            · have c1 := tq_len h5 h7 c1
              refine Ep_ite (fun c2 => ?_) (fun c2 => ?_)
              · unfold fJ_X8_wordAt_J104
                rw [if_pos c2]
                rcases h6 with ⟨g, _⟩ | ⟨_, g⟩
                · rw [g] at c2; exact absurd c2 (by decide)
                · exact nxt x5 h5 g
              · rcases h6 with ⟨_, g1, g2⟩ | ⟨g, _⟩
                · have q1 : (x4 + x7).toInt = wst k + j := i_addK h4 h7 (by omega) (by omega)
                  have q2 : (x1 + x7).toInt = a + j := i_addK hx1 h7 (by omega) (by omega)
                  have q3 : (x4 + x7).toNatClampNeg = wst k + j := by simp only [i_cl]; omega
                  have q4 : (x1 + x7).toNatClampNeg = a + j := by simp only [i_cl]; omega
                  rw [q3, q4, hw (wst k + j) (w_in hk hj)]
                  have q5 : (x7 + 1).toInt = ((j + 1 : Nat) : Int) := by rw [i_addK h7 (y := 1) (by decide) (by omega) (by omega)]; omega
                  refine Ep_ck (Ep_ck (Ep_ite (fun c3 => Ep_lt (fun y e => ihM (j + 1) 1 y h5 (by omega) (by rw [e]; exact q5) (Or.inl ⟨rfl, g1, fun i hi => ?_⟩))) (fun c3 => Ep_lt (fun y e => ihM (j + 1) 0 y h5 (by omega) (by rw [e]; exact q5) (Or.inr ⟨rfl, fun g => c3 (g.2 j (by omega)).symm⟩)))))
                  rcases Nat.lt_succ_iff_lt_or_eq.mp hi with q | q
                  · exact g2 i q
                  · rw [q]; exact c3.symm
                · exact absurd g c2
        have fnd : ∀ (M i : Nat) (x5 : Int32), i ≤ wln k → x5.toInt = i → Ep (lpF (fun _ => none) (fB_X8_wordAt_L18 k5 T x1 x2 x3 x4) M x5) (wQ T a n) := by
          intro M
          induction M with
          | zero => intro i x5 _ _; exact Ep_none
          | succ M ihM =>
            intro i x5 hi h5
            show Ep (fB_X8_wordAt_L18 k5 T x1 x2 x3 x4 (lpF (fun _ => none) (fB_X8_wordAt_L18 k5 T x1 x2 x3 x4) M) x5) _
            generalize lpF (fun _ => none) (fB_X8_wordAt_L18 k5 T x1 x2 x3 x4) M = k18 at ihM ⊢
            unfold fB_X8_wordAt_L18
            have q1 : (x4 + x5).toInt = wst k + i := i_addK h4 h5 (by omega) (by omega)
            have q3 : (x4 + x5).toNatClampNeg = wst k + i := by simp only [i_cl]; omega
            rw [q3, hw (wst k + i) (w_in hk hi)]
            refine Ep_ck (Ep_ite (fun c1 => ?_) (fun c1 => Ep_lt (fun y e => ihM (i + 1) y ?_ (by rw [e, i_addK h5 (y := 1) (by decide) (by omega) (by omega)]; omega))))
            · have hi2 : i = wln k := by
                rcases Nat.lt_or_eq_of_le hi with q | q
                · exact absurd c1 (w_nb k hk i q)
                · exact q
              subst hi2
              unfold fJ_X8_wordAt_J39 fL_X8_wordAt_L57
              have q6 : (x2 - x1).toInt = n := by rw [i_subK hx2 hx1 (by omega) (by omega)]; omega
              refine Ep_ite (fun c2 => cmp 2000 0 x5 1 0 h5 (by omega) (by decide) (Or.inl ⟨rfl, ?_, fun i hi => absurd hi (Nat.not_lt_zero i)⟩)) (fun c2 => cmp 2000 0 x5 0 0 h5 (by omega) (by decide) (Or.inr ⟨rfl, fun g => c2 (Int32.toInt_inj.mp ?_)⟩))
              · rw [c2, q6] at h5; omega
              · rw [q6, h5, g.1]
            · rcases Nat.lt_or_eq_of_le hi with q | q
              · exact q
              · rw [q] at c1; exact absurd (w_bl k hk) c1
        unfold fL_X8_wordAt_L18
        exact fnd 2000 0 0 (by omega) (by decide)
  exact main 2000 0 0 0 (by omega) (by decide) (by decide) (fun j hj => absurd hj (Nat.not_lt_zero j))
