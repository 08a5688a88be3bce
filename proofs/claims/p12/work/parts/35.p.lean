/-! a row comes back -/
def cnM (z : Tr) (n : Nat) : Tr := fun a j => if a = 54 ∧ j < n then -1 else z a j
theorem cnM_0 {z : Tr} : cnM z 0 = z := by
  funext a j
  unfold cnM
  rw [if_neg (by omega)]
theorem cnM_b {z S S1 : Tr} {n n1 i : Nat} (h : S = cnM z n) (e : S1 = st S 54 i (-1)) (hi : i = n) (hn : n1 = n + 1) : S1 = cnM z n1 := by
  subst hi; subst hn
  rw [e]
  funext a j
  by_cases hq : a = 54 ∧ j = i
  · obtain ⟨q1, q2⟩ := hq
    subst q1; subst q2
    rw [st_same]
    unfold cnM
    rw [if_pos (by omega)]
  · rcases st_or (S := S) (a := 54) (i := i) (b := a) (j := j) (v := -1) with q | q
    · rw [q, h]
      unfold cnM
      by_cases h1 : a = 54 ∧ j < i
      · rw [if_pos h1, if_pos (by omega)]
      · rw [if_neg h1, if_neg (by omega)]
    · exact absurd q hq

theorem k_X8_take_84_L82 {Q : Tr → Prop} (z : Tr) (hQ : D (fL_X8_take_84_L103 0 (cnM z 10)) Q) : D (fL_X8_take_84_L82 0 z) Q := by
  unfold fL_X8_take_84_L82
  have go : ∀ (n : Nat) (x3 : Int32) (S : Tr), 0 ≤ x3.toInt → x3.toInt ≤ 10 → S = cnM z x3.toNatClampNeg → 1000 - x3.toInt < (n : Int) → D (lpF (fun _ _ => none) (fB_X8_take_84_L82 ) n x3 S) Q := by
    intro n
    induction n with
    | zero => intro x3 S a1 a2 a3 a4; exfalso; omega
    | succ n ih =>
      intro x3 S a1 a2 a3 a4
      show D (fB_X8_take_84_L82 (lpF (fun _ _ => none) (fB_X8_take_84_L82 ) n) x3 S) Q
      generalize lpF (fun _ _ => none) (fB_X8_take_84_L82 ) n = kk at ih ⊢
      unfold fB_X8_take_84_L82
      refine D_ite (fun c => ?_) (fun c => ?_)
      · have k := tq_le (a := 10) (by decide) rfl c
        have e : x3.toNatClampNeg = 10 := by rw [i_cl]; omega
        rw [a3, e]
        exact hQ
      · have k := tq_len (a := 10) (by decide) rfl c
        refine D_ck (okI_of (by omega) (by omega)) ?_
        refine D_lt (fun S1 e1 => ?_)
        refine D_lt (fun y ey => ?_)
        have h1 : (x3 + 1).toInt = x3.toInt + 1 := i_addK rfl (by decide) (by omega) (by omega)
        exact ih y S1 (by rw [ey]; omega) (by rw [ey]; omega) (by rw [ey]; exact cnM_b a3 e1 rfl (by simp only [i_cl]; omega)) (by rw [ey]; omega)
  exact go 2000 0 z (by decide) (by decide) cnM_0.symm (by decide)

theorem k_X8_take_84_L54 {Q : Tr → Prop} (z : Tr) (x2 : Int32) (hx2 : 0 ≤ x2.toInt ∧ x2.toInt ≤ 1159) (hQ : D (fL_X8_take_84_L82 0 (cpY z 84 (x2.toNatClampNeg + 55) 58 6)) Q) : D (fL_X8_take_84_L54 x2 0 z) Q := by
  unfold fL_X8_take_84_L54
  have go : ∀ (n : Nat) (x3 : Int32) (S : Tr), 0 ≤ x3.toInt → x3.toInt ≤ 6 → S = cpY z 84 (x2.toNatClampNeg + 55) 58 x3.toNatClampNeg → 1000 - x3.toInt < (n : Int) → D (lpF (fun _ _ => none) (fB_X8_take_84_L54 x2 ) n x3 S) Q := by
    intro n
    induction n with
    | zero => intro x3 S a1 a2 a3 a4; exfalso; omega
    | succ n ih =>
      intro x3 S a1 a2 a3 a4
      show D (fB_X8_take_84_L54 x2 (lpF (fun _ _ => none) (fB_X8_take_84_L54 x2 ) n) x3 S) Q
      generalize lpF (fun _ _ => none) (fB_X8_take_84_L54 x2 ) n = kk at ih ⊢
      unfold fB_X8_take_84_L54
      refine D_ite (fun c => ?_) (fun c => ?_)
      · have k := tq_le (a := 6) (by decide) rfl c
        have e : x3.toNatClampNeg = 6 := by rw [i_cl]; omega
        rw [a3, e]
        exact hQ
      · have k := tq_len (a := 6) (by decide) rfl c
        have f0 : (x2 + 55).toInt = x2.toInt + 55 := i_addK rfl (by decide) (by omega) (by omega)
        have f : ((x2 + 55) + x3).toInt = (x2 + 55).toInt + x3.toInt := i_addK rfl rfl (by omega) (by omega)
        refine D_ck (okI_of (by omega) (by omega)) ?_
        refine D_ck (okI_of (by omega) (by omega)) ?_
        refine D_lt (fun S1 e1 => ?_)
        refine D_lt (fun y ey => ?_)
        have h1 : (x3 + 1).toInt = x3.toInt + 1 := i_addK rfl (by decide) (by omega) (by omega)
        exact ih y S1 (by rw [ey]; omega) (by rw [ey]; omega) (by rw [ey]; exact cpY_b a3 e1 rfl (by simp only [i_cl]; omega) (by simp only [i_cl]; omega) (by decide)) (by rw [ey]; omega)
  exact go 2000 0 z (by decide) (by decide) cpY_0.symm (by decide)

theorem k_X8_take_84_L27 {Q : Tr → Prop} (z : Tr) (x2 : Int32) (hx2 : 0 ≤ x2.toInt ∧ x2.toInt ≤ 1159) (hQ : D (fL_X8_take_84_L54 x2 0 (cpY z 84 (x2.toNatClampNeg + 50) 56 5)) Q) : D (fL_X8_take_84_L27 x2 0 z) Q := by
  unfold fL_X8_take_84_L27
  have go : ∀ (n : Nat) (x3 : Int32) (S : Tr), 0 ≤ x3.toInt → x3.toInt ≤ 5 → S = cpY z 84 (x2.toNatClampNeg + 50) 56 x3.toNatClampNeg → 1000 - x3.toInt < (n : Int) → D (lpF (fun _ _ => none) (fB_X8_take_84_L27 x2 ) n x3 S) Q := by
    intro n
    induction n with
    | zero => intro x3 S a1 a2 a3 a4; exfalso; omega
    | succ n ih =>
      intro x3 S a1 a2 a3 a4
      show D (fB_X8_take_84_L27 x2 (lpF (fun _ _ => none) (fB_X8_take_84_L27 x2 ) n) x3 S) Q
      generalize lpF (fun _ _ => none) (fB_X8_take_84_L27 x2 ) n = kk at ih ⊢
      unfold fB_X8_take_84_L27
      refine D_ite (fun c => ?_) (fun c => ?_)
      · have k := tq_le (a := 5) (by decide) rfl c
        have e : x3.toNatClampNeg = 5 := by rw [i_cl]; omega
        rw [a3, e]
        exact hQ
      · have k := tq_len (a := 5) (by decide) rfl c
        have f0 : (x2 + 50).toInt = x2.toInt + 50 := i_addK rfl (by decide) (by omega) (by omega)
        have f : ((x2 + 50) + x3).toInt = (x2 + 50).toInt + x3.toInt := i_addK rfl rfl (by omega) (by omega)
        refine D_ck (okI_of (by omega) (by omega)) ?_
        refine D_ck (okI_of (by omega) (by omega)) ?_
        refine D_lt (fun S1 e1 => ?_)
        refine D_lt (fun y ey => ?_)
        have h1 : (x3 + 1).toInt = x3.toInt + 1 := i_addK rfl (by decide) (by omega) (by omega)
        exact ih y S1 (by rw [ey]; omega) (by rw [ey]; omega) (by rw [ey]; exact cpY_b a3 e1 rfl (by simp only [i_cl]; omega) (by simp only [i_cl]; omega) (by decide)) (by rw [ey]; omega)
  exact go 2000 0 z (by decide) (by decide) cpY_0.symm (by decide)

theorem k_X8_take_84_L2 {Q : Tr → Prop} (z : Tr) (x2 : Int32) (hx2 : 0 ≤ x2.toInt ∧ x2.toInt ≤ 1159) (hQ : D (fL_X8_take_84_L27 x2 0 (cpY z 84 x2.toNatClampNeg 55 50)) Q) : D (fL_X8_take_84_L2 x2 0 z) Q := by
  unfold fL_X8_take_84_L2
  have go : ∀ (n : Nat) (x3 : Int32) (S : Tr), 0 ≤ x3.toInt → x3.toInt ≤ 50 → S = cpY z 84 x2.toNatClampNeg 55 x3.toNatClampNeg → 1000 - x3.toInt < (n : Int) → D (lpF (fun _ _ => none) (fB_X8_take_84_L2 x2 ) n x3 S) Q := by
    intro n
    induction n with
    | zero => intro x3 S a1 a2 a3 a4; exfalso; omega
    | succ n ih =>
      intro x3 S a1 a2 a3 a4
      show D (fB_X8_take_84_L2 x2 (lpF (fun _ _ => none) (fB_X8_take_84_L2 x2 ) n) x3 S) Q
      generalize lpF (fun _ _ => none) (fB_X8_take_84_L2 x2 ) n = kk at ih ⊢
      unfold fB_X8_take_84_L2
      refine D_ite (fun c => ?_) (fun c => ?_)
      · have k := tq_le (a := 50) (by decide) rfl c
        have e : x3.toNatClampNeg = 50 := by rw [i_cl]; omega
        rw [a3, e]
        exact hQ
      · have k := tq_len (a := 50) (by decide) rfl c
        have f : (x2 + x3).toInt = x2.toInt + x3.toInt := i_addK rfl rfl (by omega) (by omega)
        refine D_ck (okI_of (by omega) (by omega)) ?_
        refine D_ck (okI_of (by omega) (by omega)) ?_
        refine D_lt (fun S1 e1 => ?_)
        refine D_lt (fun y ey => ?_)
        have h1 : (x3 + 1).toInt = x3.toInt + 1 := i_addK rfl (by decide) (by omega) (by omega)
        exact ih y S1 (by rw [ey]; omega) (by rw [ey]; omega) (by rw [ey]; exact cpY_b a3 e1 rfl (by simp only [i_cl]; omega) (by simp only [i_cl]; omega) (by decide)) (by rw [ey]; omega)
  exact go 2000 0 z (by decide) (by decide) cpY_0.symm (by decide)

/-- each piece is where its stack is -/
theorem k_X8_take_84_L103 (z : Tr) (hz : iR BM z) (ly : Nat → Int) (hg : gF (mnM z 0) (skM z 0) ly (z 0 14).toInt) (hl : ∀ i, -1 ≤ ly i ∧ ly i < 5) (h0 : ∀ i, i < 10 → z 54 i = -1) : D (fL_X8_take_84_L103 0 z) (fun q => (∀ a j, ¬ (a = 54 ∧ j < 10) → q a j = z a j) ∧ (∀ i, i < 10 → (q 54 i).toInt = ly i)) := by
  unfold fL_X8_take_84_L103
  have go : ∀ (n : Nat) (x3 : Int32) (S : Tr), 0 ≤ x3.toInt → x3.toInt ≤ 50 → (∀ a j, ¬ (a = 54 ∧ j < 10) → S a j = z a j) → (∀ i, i < 10 → (S 54 i).toInt = ly i ∨ ((S 54 i).toInt = -1 ∧ ∀ p k : Nat, p < 5 → k < 10 → (k : Int) < mnM z 0 p → ((10 * p + k : Nat) : Int) < x3.toInt → skM z 0 p k ≠ i)) → 1000 - x3.toInt < (n : Int) → D (lpF (fun _ _ => none) fB_X8_take_84_L103 n x3 S) (fun q => (∀ a j, ¬ (a = 54 ∧ j < 10) → q a j = z a j) ∧ (∀ i, i < 10 → (q 54 i).toInt = ly i)) := by
    intro n
    induction n with
    | zero => intro x3 S a1 a2 a3 a4 a5; exfalso; omega
    | succ n ih =>
      intro x3 S a1 a2 a3 a4 a5
      show D (fB_X8_take_84_L103 (lpF (fun _ _ => none) fB_X8_take_84_L103 n) x3 S) _
      generalize lpF (fun _ _ => none) fB_X8_take_84_L103 n = kk at ih ⊢
      unfold fB_X8_take_84_L103
      refine D_ite (fun c => ?_) (fun c => ?_)
      · have k := tq_le (a := 50) (by decide) rfl c
        refine D_some ⟨a3, fun i hi => ?_⟩
        rcases a4 i hi with q | ⟨q1, q2⟩
        · exact q
        · rw [q1]
          have l1 := hl i
          by_cases hn : 0 ≤ ly i
          · exfalso
            obtain ⟨k1, c1, c2⟩ := hg.2.1 i (ly i).toNat hi (by omega)
            have m10 : mnM z 0 (ly i).toNat ≤ 10 := (BM56 hz _).2
            exact q2 (ly i).toNat k1 (by omega) (by omega) c1 (by omega) c2
          · omega
      · have k := tq_len (a := 50) (by decide) rfl c
        have d1 := i_div (a := x3) (b := (10 : Int32)) 10 (by decide) (by decide) a1
        have d2 := i_rem (a := x3) (b := (10 : Int32)) 10 (by decide) (by decide) a1
        have h1 : (x3 + 1).toInt = x3.toInt + 1 := i_addK rfl (by decide) (by omega) (by omega)
        have cx : x3.toNatClampNeg = x3.toInt.toNat := rfl
        have cd : (x3 / 10).toNatClampNeg = (x3 / 10).toInt.toNat := rfl
        obtain ⟨P, hP⟩ : ∃ P, P = (x3 / 10).toNatClampNeg := ⟨_, rfl⟩
        obtain ⟨K, hK⟩ : ∃ K : Nat, (K : Int) = (x3 - x3 / 10 * 10).toInt := ⟨(x3 - x3 / 10 * 10).toInt.toNat, by omega⟩
        have hx : x3.toNatClampNeg = 10 * P + K := by omega
        refine D_ck (okI_of (by omega) (by omega)) ?_
        rw [a3 56 _ (by omega), ← hP]
        have em : mnM z 0 P = (z 56 P).toInt := by unfold mnM; rw [show 5 * 0 + P = P by omega]
        refine D_ite (fun c2 => ?_) (fun c2 => ?_)
        · have k2 := tq_le rfl rfl c2
          refine D_lt (fun y ey => ?_)
          refine ih y S (by rw [ey]; omega) (by rw [ey]; omega) a3 (fun i hi => ?_) (by rw [ey]; omega)
          rcases a4 i hi with q | ⟨q1, q2⟩
          · exact Or.inl q
          · refine Or.inr ⟨q1, fun p k hp hk hm hj => ?_⟩
            rw [ey, h1] at hj
            by_cases hh : ((10 * p + k : Nat) : Int) < x3.toInt
            · exact q2 p k hp hk hm hh
            · exfalso
              have ep : p = P := by omega
              subst ep
              omega
        · have k2 := tq_len rfl rfl c2
          have es : skM z 0 P K = (z 55 x3.toNatClampNeg).toInt := by unfold skM; rw [show 50 * 0 + 10 * P + K = x3.toNatClampNeg by omega]
          have b5 := BM55 hz x3.toNatClampNeg
          refine D_ck (okI_of (by omega) (by omega)) ?_
          rw [a3 55 _ (by omega)]
          refine D_ck (okI_of (by omega) (by omega)) ?_
          refine D_lt (fun S1 e1 => ?_)
          refine D_lt (fun y ey => ?_)
          have cs : (z 55 x3.toNatClampNeg).toNatClampNeg = (z 55 x3.toNatClampNeg).toInt.toNat := rfl
          have hlp := (hg.1 P K (by omega) (by omega)).1
          refine ih y S1 (by rw [ey]; omega) (by rw [ey]; omega) (fun a j q => ?_) (fun i hi => ?_) (by rw [ey]; omega)
          · rw [e1]
            rcases st_or (S := S) (a := 54) (i := (z 55 x3.toNatClampNeg).toNatClampNeg) (b := a) (j := j) (v := x3 / 10) with w | ⟨w1, w2⟩
            · rw [w]; exact a3 a j q
            · exfalso; omega
          · by_cases hii : i = (z 55 x3.toNatClampNeg).toNatClampNeg
            · refine Or.inl ?_
              rw [e1, hii, st_same]
              rw [es, ← cs] at hlp
              rw [hlp]
              omega
            · rw [e1, st_ne hii]
              rcases a4 i hi with q | ⟨q1, q2⟩
              · exact Or.inl q
              · refine Or.inr ⟨q1, fun p k hp hk hm hj => ?_⟩
                rw [ey, h1] at hj
                by_cases hh : ((10 * p + k : Nat) : Int) < x3.toInt
                · exact q2 p k hp hk hm hh
                · have ep : p = P := by omega
                  have ek : k = K := by omega
                  subst ep; subst ek
                  rw [es]
                  omega
  exact go 2000 0 z (by decide) (by decide) (fun a j _ => rfl) (fun i hi => Or.inr ⟨by rw [h0 i hi]; decide, fun p k _ _ _ hj => absurd hj (by show ¬ ((10 * p + k : Nat) : Int) < 0; omega)⟩) (by decide)

theorem k_X8_take_86_L82 {Q : Tr → Prop} (z : Tr) (hQ : D (fL_X8_take_86_L103 0 (cnM z 10)) Q) : D (fL_X8_take_86_L82 0 z) Q := by
  unfold fL_X8_take_86_L82
  have go : ∀ (n : Nat) (x3 : Int32) (S : Tr), 0 ≤ x3.toInt → x3.toInt ≤ 10 → S = cnM z x3.toNatClampNeg → 1000 - x3.toInt < (n : Int) → D (lpF (fun _ _ => none) (fB_X8_take_86_L82 ) n x3 S) Q := by
    intro n
    induction n with
    | zero => intro x3 S a1 a2 a3 a4; exfalso; omega
    | succ n ih =>
      intro x3 S a1 a2 a3 a4
      show D (fB_X8_take_86_L82 (lpF (fun _ _ => none) (fB_X8_take_86_L82 ) n) x3 S) Q
      generalize lpF (fun _ _ => none) (fB_X8_take_86_L82 ) n = kk at ih ⊢
      unfold fB_X8_take_86_L82
      refine D_ite (fun c => ?_) (fun c => ?_)
      · have k := tq_le (a := 10) (by decide) rfl c
        have e : x3.toNatClampNeg = 10 := by rw [i_cl]; omega
        rw [a3, e]
        exact hQ
      · have k := tq_len (a := 10) (by decide) rfl c
        refine D_ck (okI_of (by omega) (by omega)) ?_
        refine D_lt (fun S1 e1 => ?_)
        refine D_lt (fun y ey => ?_)
        have h1 : (x3 + 1).toInt = x3.toInt + 1 := i_addK rfl (by decide) (by omega) (by omega)
        exact ih y S1 (by rw [ey]; omega) (by rw [ey]; omega) (by rw [ey]; exact cnM_b a3 e1 rfl (by simp only [i_cl]; omega)) (by rw [ey]; omega)
  exact go 2000 0 z (by decide) (by decide) cnM_0.symm (by decide)

theorem k_X8_take_86_L54 {Q : Tr → Prop} (z : Tr) (x2 : Int32) (hx2 : 0 ≤ x2.toInt ∧ x2.toInt ≤ 0) (hQ : D (fL_X8_take_86_L82 0 (cpY z 86 (x2.toNatClampNeg + 55) 58 6)) Q) : D (fL_X8_take_86_L54 x2 0 z) Q := by
  unfold fL_X8_take_86_L54
  have go : ∀ (n : Nat) (x3 : Int32) (S : Tr), 0 ≤ x3.toInt → x3.toInt ≤ 6 → S = cpY z 86 (x2.toNatClampNeg + 55) 58 x3.toNatClampNeg → 1000 - x3.toInt < (n : Int) → D (lpF (fun _ _ => none) (fB_X8_take_86_L54 x2 ) n x3 S) Q := by
    intro n
    induction n with
    | zero => intro x3 S a1 a2 a3 a4; exfalso; omega
    | succ n ih =>
      intro x3 S a1 a2 a3 a4
      show D (fB_X8_take_86_L54 x2 (lpF (fun _ _ => none) (fB_X8_take_86_L54 x2 ) n) x3 S) Q
      generalize lpF (fun _ _ => none) (fB_X8_take_86_L54 x2 ) n = kk at ih ⊢
      unfold fB_X8_take_86_L54
      refine D_ite (fun c => ?_) (fun c => ?_)
      · have k := tq_le (a := 6) (by decide) rfl c
        have e : x3.toNatClampNeg = 6 := by rw [i_cl]; omega
        rw [a3, e]
        exact hQ
      · have k := tq_len (a := 6) (by decide) rfl c
        have f0 : (x2 + 55).toInt = x2.toInt + 55 := i_addK rfl (by decide) (by omega) (by omega)
        have f : ((x2 + 55) + x3).toInt = (x2 + 55).toInt + x3.toInt := i_addK rfl rfl (by omega) (by omega)
        refine D_ck (okI_of (by omega) (by omega)) ?_
        refine D_ck (okI_of (by omega) (by omega)) ?_
        refine D_lt (fun S1 e1 => ?_)
        refine D_lt (fun y ey => ?_)
        have h1 : (x3 + 1).toInt = x3.toInt + 1 := i_addK rfl (by decide) (by omega) (by omega)
        exact ih y S1 (by rw [ey]; omega) (by rw [ey]; omega) (by rw [ey]; exact cpY_b a3 e1 rfl (by simp only [i_cl]; omega) (by simp only [i_cl]; omega) (by decide)) (by rw [ey]; omega)
  exact go 2000 0 z (by decide) (by decide) cpY_0.symm (by decide)

theorem k_X8_take_86_L27 {Q : Tr → Prop} (z : Tr) (x2 : Int32) (hx2 : 0 ≤ x2.toInt ∧ x2.toInt ≤ 0) (hQ : D (fL_X8_take_86_L54 x2 0 (cpY z 86 (x2.toNatClampNeg + 50) 56 5)) Q) : D (fL_X8_take_86_L27 x2 0 z) Q := by
  unfold fL_X8_take_86_L27
  have go : ∀ (n : Nat) (x3 : Int32) (S : Tr), 0 ≤ x3.toInt → x3.toInt ≤ 5 → S = cpY z 86 (x2.toNatClampNeg + 50) 56 x3.toNatClampNeg → 1000 - x3.toInt < (n : Int) → D (lpF (fun _ _ => none) (fB_X8_take_86_L27 x2 ) n x3 S) Q := by
    intro n
    induction n with
    | zero => intro x3 S a1 a2 a3 a4; exfalso; omega
    | succ n ih =>
      intro x3 S a1 a2 a3 a4
      show D (fB_X8_take_86_L27 x2 (lpF (fun _ _ => none) (fB_X8_take_86_L27 x2 ) n) x3 S) Q
      generalize lpF (fun _ _ => none) (fB_X8_take_86_L27 x2 ) n = kk at ih ⊢
      unfold fB_X8_take_86_L27
      refine D_ite (fun c => ?_) (fun c => ?_)
      · have k := tq_le (a := 5) (by decide) rfl c
        have e : x3.toNatClampNeg = 5 := by rw [i_cl]; omega
        rw [a3, e]
        exact hQ
      · have k := tq_len (a := 5) (by decide) rfl c
        have f0 : (x2 + 50).toInt = x2.toInt + 50 := i_addK rfl (by decide) (by omega) (by omega)
        have f : ((x2 + 50) + x3).toInt = (x2 + 50).toInt + x3.toInt := i_addK rfl rfl (by omega) (by omega)
        refine D_ck (okI_of (by omega) (by omega)) ?_
        refine D_ck (okI_of (by omega) (by omega)) ?_
        refine D_lt (fun S1 e1 => ?_)
        refine D_lt (fun y ey => ?_)
        have h1 : (x3 + 1).toInt = x3.toInt + 1 := i_addK rfl (by decide) (by omega) (by omega)
        exact ih y S1 (by rw [ey]; omega) (by rw [ey]; omega) (by rw [ey]; exact cpY_b a3 e1 rfl (by simp only [i_cl]; omega) (by simp only [i_cl]; omega) (by decide)) (by rw [ey]; omega)
  exact go 2000 0 z (by decide) (by decide) cpY_0.symm (by decide)

theorem k_X8_take_86_L2 {Q : Tr → Prop} (z : Tr) (x2 : Int32) (hx2 : 0 ≤ x2.toInt ∧ x2.toInt ≤ 0) (hQ : D (fL_X8_take_86_L27 x2 0 (cpY z 86 x2.toNatClampNeg 55 50)) Q) : D (fL_X8_take_86_L2 x2 0 z) Q := by
  unfold fL_X8_take_86_L2
  have go : ∀ (n : Nat) (x3 : Int32) (S : Tr), 0 ≤ x3.toInt → x3.toInt ≤ 50 → S = cpY z 86 x2.toNatClampNeg 55 x3.toNatClampNeg → 1000 - x3.toInt < (n : Int) → D (lpF (fun _ _ => none) (fB_X8_take_86_L2 x2 ) n x3 S) Q := by
    intro n
    induction n with
    | zero => intro x3 S a1 a2 a3 a4; exfalso; omega
    | succ n ih =>
      intro x3 S a1 a2 a3 a4
      show D (fB_X8_take_86_L2 x2 (lpF (fun _ _ => none) (fB_X8_take_86_L2 x2 ) n) x3 S) Q
      generalize lpF (fun _ _ => none) (fB_X8_take_86_L2 x2 ) n = kk at ih ⊢
      unfold fB_X8_take_86_L2
      refine D_ite (fun c => ?_) (fun c => ?_)
      · have k := tq_le (a := 50) (by decide) rfl c
        have e : x3.toNatClampNeg = 50 := by rw [i_cl]; omega
        rw [a3, e]
        exact hQ
      · have k := tq_len (a := 50) (by decide) rfl c
        have f : (x2 + x3).toInt = x2.toInt + x3.toInt := i_addK rfl rfl (by omega) (by omega)
        refine D_ck (okI_of (by omega) (by omega)) ?_
        refine D_ck (okI_of (by omega) (by omega)) ?_
        refine D_lt (fun S1 e1 => ?_)
        refine D_lt (fun y ey => ?_)
        have h1 : (x3 + 1).toInt = x3.toInt + 1 := i_addK rfl (by decide) (by omega) (by omega)
        exact ih y S1 (by rw [ey]; omega) (by rw [ey]; omega) (by rw [ey]; exact cpY_b a3 e1 rfl (by simp only [i_cl]; omega) (by simp only [i_cl]; omega) (by decide)) (by rw [ey]; omega)
  exact go 2000 0 z (by decide) (by decide) cpY_0.symm (by decide)

/-- each piece is where its stack is -/
theorem k_X8_take_86_L103 (z : Tr) (hz : iR BM z) (ly : Nat → Int) (hg : gF (mnM z 0) (skM z 0) ly (z 0 14).toInt) (hl : ∀ i, -1 ≤ ly i ∧ ly i < 5) (h0 : ∀ i, i < 10 → z 54 i = -1) : D (fL_X8_take_86_L103 0 z) (fun q => (∀ a j, ¬ (a = 54 ∧ j < 10) → q a j = z a j) ∧ (∀ i, i < 10 → (q 54 i).toInt = ly i)) := by
  unfold fL_X8_take_86_L103
  have go : ∀ (n : Nat) (x3 : Int32) (S : Tr), 0 ≤ x3.toInt → x3.toInt ≤ 50 → (∀ a j, ¬ (a = 54 ∧ j < 10) → S a j = z a j) → (∀ i, i < 10 → (S 54 i).toInt = ly i ∨ ((S 54 i).toInt = -1 ∧ ∀ p k : Nat, p < 5 → k < 10 → (k : Int) < mnM z 0 p → ((10 * p + k : Nat) : Int) < x3.toInt → skM z 0 p k ≠ i)) → 1000 - x3.toInt < (n : Int) → D (lpF (fun _ _ => none) fB_X8_take_86_L103 n x3 S) (fun q => (∀ a j, ¬ (a = 54 ∧ j < 10) → q a j = z a j) ∧ (∀ i, i < 10 → (q 54 i).toInt = ly i)) := by
    intro n
    induction n with
    | zero => intro x3 S a1 a2 a3 a4 a5; exfalso; omega
    | succ n ih =>
      intro x3 S a1 a2 a3 a4 a5
      show D (fB_X8_take_86_L103 (lpF (fun _ _ => none) fB_X8_take_86_L103 n) x3 S) _
      generalize lpF (fun _ _ => none) fB_X8_take_86_L103 n = kk at ih ⊢
      unfold fB_X8_take_86_L103
      refine D_ite (fun c => ?_) (fun c => ?_)
      · have k := tq_le (a := 50) (by decide) rfl c
        refine D_some ⟨a3, fun i hi => ?_⟩
        rcases a4 i hi with q | ⟨q1, q2⟩
        · exact q
        · rw [q1]
          have l1 := hl i
          by_cases hn : 0 ≤ ly i
          · exfalso
            obtain ⟨k1, c1, c2⟩ := hg.2.1 i (ly i).toNat hi (by omega)
            have m10 : mnM z 0 (ly i).toNat ≤ 10 := (BM56 hz _).2
            exact q2 (ly i).toNat k1 (by omega) (by omega) c1 (by omega) c2
          · omega
      · have k := tq_len (a := 50) (by decide) rfl c
        have d1 := i_div (a := x3) (b := (10 : Int32)) 10 (by decide) (by decide) a1
        have d2 := i_rem (a := x3) (b := (10 : Int32)) 10 (by decide) (by decide) a1
        have h1 : (x3 + 1).toInt = x3.toInt + 1 := i_addK rfl (by decide) (by omega) (by omega)
        have cx : x3.toNatClampNeg = x3.toInt.toNat := rfl
        have cd : (x3 / 10).toNatClampNeg = (x3 / 10).toInt.toNat := rfl
        obtain ⟨P, hP⟩ : ∃ P, P = (x3 / 10).toNatClampNeg := ⟨_, rfl⟩
        obtain ⟨K, hK⟩ : ∃ K : Nat, (K : Int) = (x3 - x3 / 10 * 10).toInt := ⟨(x3 - x3 / 10 * 10).toInt.toNat, by omega⟩
        have hx : x3.toNatClampNeg = 10 * P + K := by omega
        refine D_ck (okI_of (by omega) (by omega)) ?_
        rw [a3 56 _ (by omega), ← hP]
        have em : mnM z 0 P = (z 56 P).toInt := by unfold mnM; rw [show 5 * 0 + P = P by omega]
        refine D_ite (fun c2 => ?_) (fun c2 => ?_)
        · have k2 := tq_le rfl rfl c2
          refine D_lt (fun y ey => ?_)
          refine ih y S (by rw [ey]; omega) (by rw [ey]; omega) a3 (fun i hi => ?_) (by rw [ey]; omega)
          rcases a4 i hi with q | ⟨q1, q2⟩
          · exact Or.inl q
          · refine Or.inr ⟨q1, fun p k hp hk hm hj => ?_⟩
            rw [ey, h1] at hj
            by_cases hh : ((10 * p + k : Nat) : Int) < x3.toInt
            · exact q2 p k hp hk hm hh
            · exfalso
              have ep : p = P := by omega
              subst ep
              omega
        · have k2 := tq_len rfl rfl c2
          have es : skM z 0 P K = (z 55 x3.toNatClampNeg).toInt := by unfold skM; rw [show 50 * 0 + 10 * P + K = x3.toNatClampNeg by omega]
          have b5 := BM55 hz x3.toNatClampNeg
          refine D_ck (okI_of (by omega) (by omega)) ?_
          rw [a3 55 _ (by omega)]
          refine D_ck (okI_of (by omega) (by omega)) ?_
          refine D_lt (fun S1 e1 => ?_)
          refine D_lt (fun y ey => ?_)
          have cs : (z 55 x3.toNatClampNeg).toNatClampNeg = (z 55 x3.toNatClampNeg).toInt.toNat := rfl
          have hlp := (hg.1 P K (by omega) (by omega)).1
          refine ih y S1 (by rw [ey]; omega) (by rw [ey]; omega) (fun a j q => ?_) (fun i hi => ?_) (by rw [ey]; omega)
          · rw [e1]
            rcases st_or (S := S) (a := 54) (i := (z 55 x3.toNatClampNeg).toNatClampNeg) (b := a) (j := j) (v := x3 / 10) with w | ⟨w1, w2⟩
            · rw [w]; exact a3 a j q
            · exfalso; omega
          · by_cases hii : i = (z 55 x3.toNatClampNeg).toNatClampNeg
            · refine Or.inl ?_
              rw [e1, hii, st_same]
              rw [es, ← cs] at hlp
              rw [hlp]
              omega
            · rw [e1, st_ne hii]
              rcases a4 i hi with q | ⟨q1, q2⟩
              · exact Or.inl q
              · refine Or.inr ⟨q1, fun p k hp hk hm hj => ?_⟩
                rw [ey, h1] at hj
                by_cases hh : ((10 * p + k : Nat) : Int) < x3.toInt
                · exact q2 p k hp hk hm hh
                · have ep : p = P := by omega
                  have ek : k = K := by omega
                  subst ep; subst ek
                  rw [es]
                  omega
  exact go 2000 0 z (by decide) (by decide) (fun a j _ => rfl) (fun i hi => Or.inr ⟨by rw [h0 i hi]; decide, fun p k _ _ _ hj => absurd hj (by show ¬ ((10 * p + k : Nat) : Int) < 0; omega)⟩) (by decide)
