/-! a word, read by both -/
theorem sm_val (c : Int32) : (f_X5_isLetter c = some 0 ∧ ¬ (97 ≤ c.toInt ∧ c.toInt ≤ 122)) ∨ (f_X5_isLetter c = some 1 ∧ 97 ≤ c.toInt ∧ c.toInt ≤ 122) := by
  unfold f_X5_isLetter
  by_cases c1 : c < 97
  · have := tq_lt (x := c) (y := (97 : Int32)) rfl (b := 97) (by decide) c1
    rw [if_pos c1]; exact Or.inl ⟨rfl, by omega⟩
  · have k1 := tq_ltn (x := c) (y := (97 : Int32)) rfl (b := 97) (by decide) c1
    by_cases c2 : 122 < c
    · have := tq_lt (x := (122 : Int32)) (y := c) (a := 122) (by decide) rfl c2
      rw [if_neg c1, if_pos c2]; exact Or.inl ⟨rfl, by omega⟩
    · have k2 := tq_ltn (x := (122 : Int32)) (y := c) (a := 122) (by decide) rfl c2
      rw [if_neg c1, if_neg c2]; exact Or.inr ⟨rfl, k1, k2⟩
theorem E2_sl {α β γ : Type} {Q : α → β → Prop} {a : γ} {k : γ → Option α} {y : Option β} (h : E2 (k a) y Q) : E2 (bd (some a) k) y Q := h
theorem E2_sr {α β γ : Type} {Q : α → β → Prop} {a : γ} {k : γ → Option β} {x : Option α} (h : E2 x (k a) Q) : E2 x (bd (some a) k) Q := h
def min6 (n : Nat) : Nat := if n ≤ 6 then n else 6
/-- what reading a word, a number or a sign leaves: next, where it begins, kind and value -/
def tkW (K T K1 T1 : Tr) : Prop := kI (K1 0 1).toInt (T1 0 8).toInt (T1 0 9).toInt ∧ ((T1 0 8).toInt = 2 → K1 0 3 = T1 0 9) ∧ ((T1 0 8).toInt = 3 → nR (K1 0 3) (T1 0 9))
theorem shv {x y : Int32} {n : Nat} (hy : y.toInt = n) (h1 : 1 ≤ n) (h6 : n ≤ 6) (hx : 0 ≤ x.toInt) (hb : x.toInt < 32 ^ n) : (x <<< (((5 : Int32) * ((6 : Int32) - y)) &&& 31)).toInt = x.toInt * (2 ^ (5 * (6 - n)) : Nat) := by
  have : n = 1 ∨ n = 2 ∨ n = 3 ∨ n = 4 ∨ n = 5 ∨ n = 6 := by omega
  rcases this with rfl | rfl | rfl | rfl | rfl | rfl
  · have e : y = 1 := Int32.toInt_inj.mp (by rw [hy]; decide)
    subst e
    exact shT (k := 25) (by decide) (by decide) hx (by omega)
  · have e : y = 2 := Int32.toInt_inj.mp (by rw [hy]; decide)
    subst e
    exact shT (k := 20) (by decide) (by decide) hx (by omega)
  · have e : y = 3 := Int32.toInt_inj.mp (by rw [hy]; decide)
    subst e
    exact shT (k := 15) (by decide) (by decide) hx (by omega)
  · have e : y = 4 := Int32.toInt_inj.mp (by rw [hy]; decide)
    subst e
    exact shT (k := 10) (by decide) (by decide) hx (by omega)
  · have e : y = 5 := Int32.toInt_inj.mp (by rw [hy]; decide)
    subst e
    exact shT (k := 5) (by decide) (by decide) hx (by omega)
  · have e : y = 6 := Int32.toInt_inj.mp (by rw [hy]; decide)
    subst e
    exact shT (k := 0) (by decide) (by decide) hx (by omega)
theorem e_word_end {K T : Tr} (hC : wC K) (hT : wT T) {a n : Nat} {x1 : Int32} (h7 : K 0 7 = T 0 7) (h2 : (K 0 2).toInt = a) (h10 : (T 0 10).toInt = a) (ht7 : (T 0 7).toInt = a + n) (han : a + n ≤ 700) (hn : 1 ≤ n) (hl : ltt T a n) (hx : n ≤ 6 → x1.toInt = pkL (ltr T a n) n) : E2 (fJ_X5_readWord_J72 x1 K) (fJ_X8_token_J114 T) (fun K1 T1 => tkW K T K1 T1 ∧ K1 0 7 = T1 0 7 ∧ T1 0 7 = T 0 7 ∧ K1 0 2 = K 0 2 ∧ T1 0 10 = T 0 10) := by
  unfold fJ_X5_readWord_J72 fJ_X8_token_J114
  refine E2_ltl (fun y2 e2 => ?_)
  have ey : y2.toInt = n := by rw [e2, h7, i_subK ht7 h2 (by omega) (by omega)]; omega
  refine E2_br (e_wordAt hT h10 ht7 han) (fun r hr => E2_ltr (fun S1 f1 => ?_))
  have f9 : S1 0 9 = r := by rw [f1, st_same]
  have f7 : S1 0 7 = T 0 7 := by rw [f1, st_ne (by decide)]
  have f10 : S1 0 10 = T 0 10 := by rw [f1, st_ne (by decide)]
  have f1t : S1 1 = T 1 := by rw [f1]; rfl
  have fs : (S1 0 7 - S1 0 10).toInt = n := by rw [f7, f10, i_subK ht7 h10 (by omega) (by omega)]; omega
  by_cases c6 : n ≤ 6
  · refine E2_pl (Int32.le_iff_toInt_le.mpr (by rw [ey]; show (n : Int) ≤ 6; omega)) (E2_ltl (fun K4 e4 => E2_ltl (fun K5 e5 => ?_)))
    have hxx := hx c6
    have hbd := pkL_bd (f := ltr T a n) (n := n) (fun i _ => ltr_bd hl i)
    have hv : (K5 0 3).toInt = pkL (ltr T a n) 6 := by
      rw [e5, st_ne (by decide), e4, st_same, shv ey hn c6 (by rw [hxx]; exact hbd.1) (by rw [hxx]; exact hbd.2), hxx, pk_pad (f := ltr T a n) c6 (fun i hi => if_neg (Nat.not_lt.mpr hi))]
    have hC5 : wC K5 := fun j hj => by rw [e5, e4]; exact hC j hj
    have hk5 : (K5 0 1).toInt = 43 := by rw [e5, st_same]; decide
    have g7 : K5 0 7 = K 0 7 := by rw [e5, st_ne (by decide), e4, st_ne (by decide)]
    have g2 : K5 0 2 = K 0 2 := by rw [e5, st_ne (by decide), e4, st_ne (by decide)]
    have hL := e_L115 hC5 2000 0 0 K5 (by omega) (by decide) (fun _ _ _ => rfl) (Or.inl ⟨hk5, fun v hv => absurd hv (Nat.not_lt_zero v)⟩)
    unfold fL_X5_readWord_L115
    rcases hr with ⟨k, hk, hrk, hm⟩ | ⟨hr, hno⟩
    · refine E2_qr (fun q => by have := tq_lt (x := S1 0 9) (y := (0 : Int32)) (a := k) (b := 0) (by rw [f9]; exact hrk) (by decide) q; omega) ?_
      unfold fJ_X8_token_J162
      refine E2_ltr (fun S2 f2 => E2_qr (by rw [f2, st_same]; decide) ?_)
      refine E2_ep hL (Ep_some (r := S2) (Q := fun q => q = S2) rfl) (fun K1 T1 hK hT1 => ?_)
      subst hT1
      obtain ⟨fr, hK⟩ := hK
      have hw := (w_key hl c6 hk).mp hm
      rw [← hv] at hw
      have hw := Int32.toInt_inj.mp hw
      have hkk : cOf k < 29 ∧ ((k = 19 ∧ cOf k = 20) ∨ (k = 20 ∧ cOf k = 19) ∨ (k ≠ 19 ∧ k ≠ 20 ∧ cOf k = k)) := by
        unfold cOf
        split
        · omega
        · split
          · omega
          · omega
      have hc : (K1 0 1).toInt = cOf k := by
        rcases hK with ⟨_, g⟩ | ⟨v, hv1, hv2, hv3⟩
        · exact absurd hw (g (cOf k) hkk.1)
        · rw [hv2, w_ne v hv1 (cOf k) hkk.1 (hv3.trans hw.symm)]
      have t8 : (T1 0 8).toInt = 1 := by rw [f2, st_same]; decide
      have t9 : (T1 0 9).toInt = k := by rw [f2, st_ne (by decide), f9]; exact hrk
      refine ⟨⟨?_, fun g => by omega, fun g => by omega⟩, by rw [fr 0 7 (by omega), g7, h7, f2, st_ne (by decide), f7], by rw [f2, st_ne (by decide), f7], by rw [fr 0 2 (by omega), g2], by rw [f2, st_ne (by decide), f10]⟩
      unfold kI
      rw [hc, t8, t9]
      right; left
      omega
    · refine E2_pr (Int32.lt_iff_toInt_lt.mpr (by rw [f9, hr]; decide)) (E2_pr (Int32.le_iff_toInt_le.mpr (by rw [fs]; show (n : Int) ≤ 6; omega)) ?_)
      unfold fJ_X8_token_J162
      refine E2_ltr (fun S2 f2 => E2_pr (by rw [f2, st_same]) ?_)
      have s10 : S2 0 10 = T 0 10 := by rw [f2, st_ne (by decide), f10]
      have s7 : S2 0 7 = T 0 7 := by rw [f2, st_ne (by decide), f7]
      have s1 : S2 1 = T 1 := by rw [f2]; exact f1t
      have hl2 : ltt S2 a n := fun i hi => by rw [s1]; exact hl i hi
      have hlr : ltr S2 a n = ltr T a n := by funext i; unfold ltr; rw [s1]
      refine E2_ep (R' := fun q => (q 0 9).toInt = pkL (ltr T a n) 6 ∧ q 0 8 = S2 0 8 ∧ q 0 7 = S2 0 7 ∧ q 0 10 = S2 0 10) hL (Ep_bd (e_packed (T := S2) (a := a) (n := n) (by rw [s10]; exact h10) (by rw [s7]; exact ht7) han hl2) (fun r5 h5 => Ep_lt (fun S3 f3 => Ep_some ⟨by rw [f3, st_same, h5, hlr], by rw [f3, st_ne (by decide)], by rw [f3, st_ne (by decide)], by rw [f3, st_ne (by decide)]⟩))) (fun K1 T1 hK hT1 => ?_)
      obtain ⟨fr, hK⟩ := hK
      obtain ⟨u9, u8, u7, u10⟩ := hT1
      have t8 : (T1 0 8).toInt = 2 := by rw [u8, f2, st_same]; decide
      have hc : (K1 0 1).toInt = 43 := by
        rcases hK with ⟨g, _⟩ | ⟨v, hv1, hv2, hv3⟩
        · exact g
        · exfalso
          have hcc : cOf v < 29 ∧ cOf (cOf v) = v := by
            have : ∀ v, v < 29 → cOf v < 29 ∧ cOf (cOf v) = v := by decide +kernel
            exact this v hv1
          refine hno (cOf v) hcc.1 ((w_key hl c6 hcc.1).mpr ?_)
          rw [hcc.2, hv3, hv]
      refine ⟨⟨?_, fun g => Int32.toInt_inj.mp ?_, fun g => by omega⟩, by rw [fr 0 7 (by omega), g7, h7, u7, s7], by rw [u7, s7], by rw [fr 0 2 (by omega), g2], by rw [u10, s10]⟩
      · unfold kI
        rw [hc, t8]
        right; right; left
        exact ⟨rfl, rfl⟩
      · rw [fr 0 3 (by omega), hv, u9]
  · have k1 : ¬ y2 ≤ 6 := fun q => by have := tq_le (y := (6 : Int32)) (b := 6) ey (by decide) q; omega
    refine E2_ql k1 (E2_ltl (fun K2 e2 => ?_))
    rcases hr with ⟨k, hk, hrk, hm⟩ | ⟨hr, hno⟩
    · exfalso
      have := w_st k hk
      have := hm.1
      omega
    · refine E2_pr (Int32.lt_iff_toInt_lt.mpr (by rw [f9, hr]; decide)) (E2_qr (fun q => by have := tq_le (y := (6 : Int32)) (b := 6) fs (by decide) q; omega) ?_)
      unfold fJ_X8_token_J162
      refine E2_ltr (fun S2 f2 => E2_qr (by rw [f2, st_same]; decide) (E2_some ?_))
      have t8 : (S2 0 8).toInt = 6 := by rw [f2, st_same]; decide
      have hc : (K2 0 1).toInt = 44 := by rw [e2, st_same]; decide
      refine ⟨⟨?_, fun g => by omega, fun g => by omega⟩, by rw [e2, st_ne (by decide), h7, f2, st_ne (by decide), f7], by rw [f2, st_ne (by decide), f7], by rw [e2, st_ne (by decide)], by rw [f2, st_ne (by decide), f10]⟩
      unfold kI
      rw [hc, t8]
      right; right; right; right; right; right
      exact ⟨rfl, rfl⟩
theorem e_word (N : Nat) : ∀ (n : Nat) (x1 : Int32) (K T : Tr) (a : Nat), wC K → wT T → kT K T → (K 0 2).toInt = a → (T 0 10).toInt = a → (T 0 7).toInt = a + n → ltt T a n → x1.toInt = pkL (fun i => (T 1 (a + i)).toInt - 96) (min6 n) → (n = 0 → 97 ≤ (T 1 a).toInt ∧ (T 1 a).toInt ≤ 122 ∧ (a : Int) < (T 0 6).toInt) → E2 (lpF (fun _ _ => none) fB_X5_readWord_L2 N x1 K) (lpF (fun _ => none) fB_X8_token_L90 N T) (fun K1 T1 => tkW K T K1 T1 ∧ K1 0 7 = T1 0 7 ∧ a < (T1 0 7).toInt ∧ (T1 0 7).toInt ≤ (T 0 6).toInt ∧ K1 0 2 = K 0 2 ∧ T1 0 10 = T 0 10) := by
  induction N with
  | zero => intro n x1 K T a _ _ _ _ _ _ _ _ _; exact E2_nl
  | succ N ih =>
    intro n x1 K T a hC hT h h2 h10 h7 hl hx h0
    show E2 (fB_X5_readWord_L2 (lpF (fun _ _ => none) fB_X5_readWord_L2 N) x1 K) (fB_X8_token_L90 (lpF (fun _ => none) fB_X8_token_L90 N) T) _
    generalize lpF (fun _ _ => none) fB_X5_readWord_L2 N = k1 at ih ⊢
    generalize lpF (fun _ => none) fB_X8_token_L90 N = k2 at ih ⊢
    have b := h.2.2.1
    have hK7 : (K 0 7).toInt = a + n := by rw [h.2.1]; exact h7
    have fin : 1 ≤ n → E2 (fJ_X5_readWord_J72 x1 K) (fJ_X8_token_J114 T) (fun K1 T1 => tkW K T K1 T1 ∧ K1 0 7 = T1 0 7 ∧ a < (T1 0 7).toInt ∧ (T1 0 7).toInt ≤ (T 0 6).toInt ∧ K1 0 2 = K 0 2 ∧ T1 0 10 = T 0 10) := by
      intro hn
      refine E2_mono (e_word_end hC hT h.2.1 h2 h10 h7 (by omega) hn hl (fun c6 => ?_)) (fun K1 T1 q => ⟨q.1, q.2.1, by rw [q.2.2.1]; omega, by rw [q.2.2.1]; omega, q.2.2.2⟩)
      rw [hx, show min6 n = n from if_pos c6]
      exact pkL_cg (fun i hi => (show ltr T a n i = (T 1 (a + i)).toInt - 96 from if_pos hi).symm)
    unfold fB_X5_readWord_L2 fB_X8_token_L90
    by_cases c : (T 0 6).toInt ≤ (T 0 7).toInt
    · rw [sm_out c, bd_some, if_pos rfl]
      refine E2_pl (by rw [h.1, h.2.1]; exact Int32.le_iff_toInt_le.mpr c) (fin ?_)
      rcases Nat.eq_zero_or_pos n with q | q
      · have := h0 q; omega
      · exact q
    · have e7 : (T 0 7).toInt = ((a + n : Nat) : Int) := by omega
      have e7K : (K 0 7).toInt = ((a + n : Nat) : Int) := by omega
      rw [sm_in h e7 (by omega), at_in h e7K (by omega), bd_some]
      refine E2_ql (by rw [h.1, h.2.1]; exact fun q => c (Int32.le_iff_toInt_le.mp q)) ?_
      rcases sm_val (T 1 (a + n)) with ⟨g, g2⟩ | ⟨g, g2⟩
      · rw [g]
        refine E2_sl (E2_sr (E2_pl rfl (E2_pr rfl (fin ?_))))
        rcases Nat.eq_zero_or_pos n with q | q
        · have := h0 q; subst q; exact absurd ⟨this.1, this.2.1⟩ g2
        · exact q
      · rw [g]
        refine E2_sl (E2_sr (E2_ql (by decide) (E2_qr (by decide) (E2_ltr (fun T1 f1 => ?_)))))
        have hl1 : ltt T a (n + 1) := fun i hi => by
          rcases Nat.lt_succ_iff_lt_or_eq.mp hi with q | q
          · exact hl i q
          · rw [q]; exact g2
        have t1 : T1 1 = T 1 := by rw [f1]; rfl
        have t7 : (T1 0 7).toInt = a + ((n + 1 : Nat) : Int) := by rw [f1, st_same, i_addK h7 (y := 1) (by decide) (by omega) (by omega)]; omega
        have step : ∀ y : Int32, y.toInt = pkL (fun i => (T 1 (a + i)).toInt - 96) (min6 (n + 1)) → E2 (fJ_X5_readWord_J59 k1 y K) (k2 T1) (fun K1 T1 => tkW K T K1 T1 ∧ K1 0 7 = T1 0 7 ∧ a < (T1 0 7).toInt ∧ (T1 0 7).toInt ≤ (T 0 6).toInt ∧ K1 0 2 = K 0 2 ∧ T1 0 10 = T 0 10) := by
          intro y hy
          unfold fJ_X5_readWord_J59
          refine E2_ltl (fun K2 e2 => ?_)
          have k6 : K2 0 6 = K 0 6 := by rw [e2, st_ne (by decide)]
          have k5 : K2 5 = K 5 := by rw [e2]; rfl
          have t6 : T1 0 6 = T 0 6 := by rw [f1, st_ne (by decide)]
          have k02 : K2 0 2 = K 0 2 := by rw [e2, st_ne (by decide)]
          have t10 : T1 0 10 = T 0 10 := by rw [f1, st_ne (by decide)]
          refine E2_mono (ih (n + 1) y K2 T1 a (fun j hj => by rw [e2]; exact hC j hj) (fun j hj => by rw [f1]; exact hT j hj) (kT_of h k6 t6 (by rw [e2, f1, st_same, st_same, h.2.1]) ⟨by omega, by omega⟩ k5 t1) (by rw [k02]; exact h2) (by rw [t10]; exact h10) t7 (fun i hi => by rw [t1]; exact hl1 i hi) (by rw [t1]; exact hy) (fun q => by omega)) (fun K3 T3 q => ⟨q.1, q.2.1, q.2.2.1, by rw [← t6]; exact q.2.2.2.1, by rw [q.2.2.2.2.1, k02], by rw [q.2.2.2.2.2, t10]⟩)
        have es : (K 0 7 - K 0 2).toInt = n := by rw [i_subK hK7 h2 (by omega) (by omega)]; omega
        refine E2_itl (fun c3 => ?_) (fun c3 => ?_)
        · have c3 := tq_le (a := 6) (by decide) es c3
          refine step x1 ?_
          rw [hx]
          have e1 : min6 n = 6 := by unfold min6; split <;> omega
          have e2 : min6 (n + 1) = 6 := if_neg (by omega)
          rw [e1, e2]
        · have c3 := tq_len (a := 6) (by decide) es c3
          refine E2_sl (E2_ltl (fun y ey => step y ?_))
          have e1 : min6 n = n := if_pos (by omega)
          have e2 : min6 (n + 1) = n + 1 := if_pos (by omega)
          rw [e2]
          rw [e1] at hx
          have hxx : x1.toInt = pkL (ltr T a n) n := by rw [hx]; exact pkL_cg (fun i hi => (show ltr T a n i = (T 1 (a + i)).toInt - 96 from if_pos hi).symm)
          have p6 := pk6 (ltr_bd hl) (i := n) (by omega)
          have q4 := g2
          have q5 : (T 1 (a + n) - 97).toInt = (T 1 (a + n)).toInt - 97 := i_subK rfl (by decide) (by omega) (by omega)
          have q6 : (T 1 (a + n) - 97 + 1).toInt = (T 1 (a + n)).toInt - 96 := by rw [i_addK q5 (y := 1) (by decide) (by omega) (by omega)]; omega
          rw [ey, sh5 (by rw [hxx]; exact p6) (by rw [q6]; omega), q6, hx]
          rfl
