theorem r_217 {x : Nat} {z S0 S : Tr} (hx : x < 3) (h : rP x z S) {n : Nat} (hs : sI n 1 S) {x1 : Int32} (h1 : 3 ≤ x1.toInt ∧ x1.toInt ≤ 14) (hm : mS S0 = 20 * (64 - (S 0 46).toInt) + (S 0 45).toInt) : D (fJ_X8_signs_J217 x1 S) (sQ x z S0) := by
  have qb := q_bnd h hs
  obtain ⟨s43, sW, s44, s45, s19, s1⟩ := hs
  have b45 : 0 ≤ (S 0 45).toInt ∧ (S 0 45).toInt ≤ 8 := h.1 0 45
  unfold fJ_X8_signs_J217
  refine D_bd (r_isCounted hx h) (fun q _ hq => ?_)
  refine D_ite (fun _ => D_some ⟨hq.1, Or.inl rfl⟩) (fun c => ?_)
  have g := hq.2.resolve_left c
  have he := g.2.2.2
  refine D_bd (r_waitsFor hq.1 (n := n) (v := x1) (by rw [he 0 43 (by decide)]; exact s43) qb.1 (by omega)) (fun T _ hT => ?_)
  refine D_lt (fun T2 e2 => ?_)
  have h2 : rP x z T2 := by
    rw [e2]; refine rP_set (a := 0) hT.1 ?_ ?_ rfl rfl (fun _ => Or.inr (by decide)) <;> decide
  have e42 : ∀ i, i < n → T2 42 i = S 42 i := fun i hi => by rw [e2, st_oth (by decide), hT.2.2.2.1 i (by omega), he 42 i (by omega)]
  have n42 : T2 42 n = x1 := by rw [e2, st_oth (by decide)]; exact hT.2.2.1
  have ez : ∀ j, ¬ j = 43 → ¬ j = 46 → ¬ j = 47 → T2 0 j = S 0 j := fun j h1 h2 h3 => by
    rw [e2, st_ne h3, hT.2.2.2.2 j h1, he 0 j (fun hz => h2 hz.2)]
  have a46 : (T2 0 46).toInt = (S 0 46).toInt + 1 := by rw [e2, st_ne (by decide), hT.2.2.2.2 46 (by decide)]; exact g.2.2.1
  have a43 : (T2 0 43).toInt = (n + 1 : Nat) := by rw [e2, st_ne (by decide)]; exact hT.2.1
  have e47 : ¬ T2 0 47 = 0 := by rw [e2, st_same]; decide
  have cc := cw_3 (T := T2) (n := n) (fun hz => by rw [n42] at hz; rw [hz] at h1; exact absurd h1.1 (by decide)) (fun hz => by rw [n42] at hz; rw [hz] at h1; exact absurd h1.1 (by decide))
  have hJ : ∀ s0 : Int32, (s0 = 0 ∨ s0 = 1) → D (fJ_X8_signs_J250 s0 T2) (sQ x z S0) := fun s0 hs0 => by
    unfold fJ_X8_signs_J250
    refine D_ck (by rcases hs0 with e | e <;> subst e <;> decide) (D_lt (fun T3 e3 => ?_))
    have h3 : rP x z T3 := by
      rw [e3]; refine rP_set (a := 0) h2 ?_ ?_ rfl rfl (fun _ => Or.inr (by decide)) <;> rcases hs0 with e | e <;> subst e <;> decide
    have z3 : ∀ j, ¬ j = 48 → T3 0 j = T2 0 j := fun j hj => by rw [e3, st_ne hj]
    have a3 : ∀ j, T3 42 j = T2 42 j := fun j => by rw [e3, st_oth (by decide)]
    have f47 : ¬ T3 0 47 = 0 := by rw [z3 47 (by decide)]; exact e47
    refine q_end (n := n + 1) h3 ?_ ?_
    · rw [wS_1 f47]
      refine sI_eq (T := T2) ?_ (z3 43 (by decide)) (z3 44 (by decide)) (z3 45 (by decide)) (z3 19 (by decide)) (z3 46 (by decide)) a3
      unfold sI
      rw [cc.1, cc.2, cwB_eq n e42, cwO_eq n e42, ez 44 (by decide) (by decide) (by decide), ez 45 (by decide) (by decide) (by decide), ez 19 (by decide) (by decide) (by decide), a46]
      refine ⟨a43, fun i hi => ?_, by omega, s45, by omega, fun hz => absurd hz (by decide)⟩
      rcases (by omega : i < n ∨ i = n) with hz | hz
      · rw [e42 i hz]; exact sW i hz
      · subst hz; exact Or.inr (by rw [n42]; omega)
    · rw [mS_1 f47, hm, z3 46 (by decide), z3 45 (by decide), a46, ez 45 (by decide) (by decide) (by decide)]; omega
  refine D_bd (t_X8_rank x1) (fun r _ _ => D_ite (fun _ => hJ 0 (Or.inl rfl)) (fun _ => hJ 1 (Or.inr rfl)))
theorem r_175 {x : Nat} {z S : Tr} (hx : x < 3) (h : rP x z S) (hw : S 0 47 = 0) {n : Nat} (hs : sI n 1 S) {x1 s0 : Int32} (h1 : 3 ≤ x1.toInt ∧ x1.toInt ≤ 14) (h0 : 1 ≤ s0.toInt) : D (fJ_X8_signs_J175 x1 s0 S) (sQ x z S) := by
  unfold fJ_X8_signs_J175
  refine D_bd (r_bindS hx h0 h hs) (fun T _ hT => ?_)
  obtain ⟨hT1, hTj, m, hTs, _⟩ := hT
  have hJ : D (fJ_X8_signs_J217 x1 T) (sQ x z S) := r_217 hx hT1 hTs h1 (by rw [mS_0 hw, hTj 45 (by decide) (by decide), hTj 46 (by decide) (by decide)])
  have b43 : 0 ≤ (T 0 43).toInt ∧ (T 0 43).toInt ≤ 96 := hT1.1 0 43
  refine D_bd (t_X8_rank x1) (fun r _ _ => D_ite (fun _ => D_ite (fun _ => hJ) (fun c => ?_)) (fun _ => hJ))
  have k0 := tq_len (x := T 0 43) (y := (0 : Int32)) rfl (b := 0) (by decide) c
  have e1 : (T 0 43 - 1).toInt = (T 0 43).toInt - 1 := i_subK rfl (show (1 : Int32).toInt = 1 by decide) (by omega) (by omega)
  refine D_ck (okI_of (by omega) (by omega)) ?_
  exact D_bd (t_X8_rank _) (fun r _ _ => D_ite (fun _ => q_wrong hT1 1) (fun _ => hJ))
theorem r_147 {x : Nat} {z S : Tr} (hx : x < 3) (h : rP x z S) (hw : S 0 47 = 0) {n : Nat} (hs : sI n 1 S) {s0 : Int32} (h1 : s0 = 0 ∨ (3 ≤ s0.toInt ∧ s0.toInt ≤ 14)) : D (fJ_X8_signs_J147 s0 S) (sQ x z S) := by
  unfold fJ_X8_signs_J147
  refine D_ite (fun _ => q_wrong h 1) (fun c => ?_)
  have h2 := h1.resolve_left c
  refine D_bd (t2_rank s0) (fun r _ _ => D_ite (fun _ => r_175 hx h hw hs h2 (by decide)) (fun _ => ?_))
  exact D_bd (t2_rank s0) (fun r _ hr => r_175 hx h hw hs h2 (hr.2.2 (by omega)))
theorem r_47 {x : Nat} {z S : Tr} (hx : x < 3) (h : rP x z S) (hw : S 0 47 = 0) {n : Nat} (hs : sI n 1 S) : D (fJ_X8_signs_J47 S) (sQ x z S) := by
  have hL : ∀ s0 : Int32, (3 ≤ s0.toInt ∧ s0.toInt ≤ 14) → D (fJ_X8_signs_J147 s0 S) (sQ x z S) := fun s0 h1 => r_147 hx h hw hs (Or.inr h1)
  unfold fJ_X8_signs_J47
  refine D_bd (t_X8_isKey S 19 h.1) (fun r _ _ => D_ite (fun _ => ?_) (fun _ => hL 3 (by decide)))
  refine D_bd (t_X8_isKey S 20 h.1) (fun r _ _ => D_ite (fun _ => ?_) (fun _ => hL 4 (by decide)))
  refine D_ite (fun c5 => ?_) (fun _ => ?_)
  · have c' : (S 0 8).toInt = 5 := by rw [c5]; decide
    have k := h.2.2.2.1.2.2.2 c'
    have e : ((5 : Int32) + S 0 9).toInt = 5 + (S 0 9).toInt := i_addK (by decide) rfl (by omega) (by omega)
    exact hL _ (by omega)
  refine D_bd (t_X8_isSign S 43 h.1) (fun r _ _ => D_ite (fun _ => ?_) (fun _ => hL 11 (by decide)))
  refine D_bd (t_X8_isSign S 45 h.1) (fun r _ _ => D_ite (fun _ => ?_) (fun _ => hL 12 (by decide)))
  refine D_bd (t_X8_isSign S 42 h.1) (fun r _ _ => D_ite (fun _ => ?_) (fun _ => hL 13 (by decide)))
  exact D_bd (t_X8_isSign S 47 h.1) (fun r _ _ => D_ite (fun _ => r_147 hx h hw hs (Or.inl rfl)) (fun _ => hL 14 (by decide)))
theorem r_signs {x : Nat} {z S : Tr} (hx : x < 3) (h : rP x z S) (hw : S 0 47 = 0) {n : Nat} (hs : sI n 1 S) : D (f_X8_signs S) (sQ x z S) := by
  unfold f_X8_signs
  refine D_bd (t_X8_isSign S 41 h.1) (fun r _ _ => D_ite (fun _ => r_47 hx h hw hs) (fun _ => D_ite (fun _ => r_47 hx h hw hs) (fun c => ?_)))
  have k := tq_len (x := S 0 45) (y := (0 : Int32)) rfl (b := 0) (by decide) c
  have b45 : 0 ≤ (S 0 45).toInt ∧ (S 0 45).toInt ≤ 8 := h.1 0 45
  refine D_bd (r_bindS hx (by decide) h hs) (fun T _ hT => ?_)
  obtain ⟨hT1, hTj, m, hTs, hTm⟩ := hT
  obtain ⟨t43, tW, t44, t45, t19, t1⟩ := hTs
  have e45 : T 0 45 = S 0 45 := hTj 45 (by decide) (by decide)
  have e46 : T 0 46 = S 0 46 := hTj 46 (by decide) (by decide)
  have e47 : T 0 47 = 0 := (hTj 47 (by decide) (by decide)).trans hw
  rw [e45] at t45
  rcases hTm with hz | ⟨m', rfl, hz⟩
  · subst hz
    have : cwO T 0 = 0 := rfl
    omega
  · have z0 := hz rfl
    have cc := cw_0 z0
    have b43 : 0 ≤ (T 0 43).toInt ∧ (T 0 43).toInt ≤ 96 := hT1.1 0 43
    have f43 : (T 0 43 - 1).toInt = (T 0 43).toInt - 1 := i_subK rfl (show (1 : Int32).toInt = 1 by decide) (by omega) (by omega)
    have f45 : (S 0 45 - 1).toInt = (S 0 45).toInt - 1 := i_subK rfl (show (1 : Int32).toInt = 1 by decide) (by omega) (by omega)
    refine D_lt (fun S3 e3 => D_lt (fun S4 e4 => ?_))
    have h3 : rP x z S3 := by
      rw [e3]; refine rP_set (a := 0) hT1 ?_ ?_ rfl rfl (fun _ => Or.inr (by decide))
      · show (0 : Int) ≤ _; omega
      · show _ ≤ (96 : Int); omega
    have g45 : S3 0 45 = S 0 45 := by rw [e3, st_ne (by decide), e45]
    rw [g45] at e4
    have h4 : rP x z S4 := by
      rw [e4]; refine rP_set (a := 0) h3 ?_ ?_ rfl rfl (fun _ => Or.inr (by decide))
      · show (0 : Int) ≤ _; omega
      · show _ ≤ (8 : Int); omega
    have ez : ∀ j, ¬ j = 43 → ¬ j = 45 → S4 0 j = T 0 j := fun j h1 h2 => by rw [e4, st_ne h2, e3, st_ne h1]
    have a42 : ∀ j, S4 42 j = T 42 j := fun j => by rw [e4, st_oth (by decide), e3, st_oth (by decide)]
    have a45 : (S4 0 45).toInt = (S 0 45).toInt - 1 := by rw [e4, st_same]; exact f45
    have a43 : (S4 0 43).toInt = (T 0 43).toInt - 1 := by rw [e4, st_ne (by decide), e3, st_same]; exact f43
    have f47 : S4 0 47 = 0 := (ez 47 (by decide) (by decide)).trans e47
    refine q_end (n := m') h4 ?_ ?_
    · rw [wS_0 f47]
      unfold sI
      rw [cwB_eq m' (fun i _ => a42 i), cwO_eq m' (fun i _ => a42 i), a43, a45, ez 44 (by decide) (by decide), ez 19 (by decide) (by decide), ez 46 (by decide) (by decide)]
      exact ⟨by omega, fun i hi => by rw [a42]; exact tW i (by omega), by omega, by omega, by omega, t1⟩
    · rw [mS_0 f47, mS_0 hw, a45, ez 46 (by decide) (by decide), e46]; omega
/-- a sum has been read -/
def sE (x : Nat) (z : Tr) (q : Int32 × Tr) : Prop := rP x z q.2 ∧ (q.1 = 0 ∨ (q.1 = 1 ∧ q.2 0 19 = q.2 0 46 ∧ 1 ≤ (q.2 0 19).toInt))
theorem r_L25 {x : Nat} {z : Tr} (hx : x < 3) (N : Nat) : ∀ S : Tr, rP x z S → sJ S → mS S < (N : Int) → D (lpF (fun _ => none) fB_X8_sumRead_L25 N S) (sE x z) := by
  induction N with
  | zero =>
    intro S h _ hn
    have b45 : 0 ≤ (S 0 45).toInt ∧ (S 0 45).toInt ≤ 8 := h.1 0 45
    have b46 : 0 ≤ (S 0 46).toInt ∧ (S 0 46).toInt ≤ 64 := h.1 0 46
    exfalso
    by_cases hw : S 0 47 = 0
    · rw [mS_0 hw] at hn; omega
    · rw [mS_1 hw] at hn; omega
  | succ N ih =>
    intro S h hJ hn
    show D (fB_X8_sumRead_L25 (lpF (fun _ => none) fB_X8_sumRead_L25 N) S) _
    generalize lpF (fun _ => none) fB_X8_sumRead_L25 N = k at ih ⊢
    obtain ⟨n, hs⟩ := hJ
    have hN : ∀ q : Int32 × Tr, sQ x z S q → ¬ q.1 = 0 → D (k q.2) (sE x z) := fun q hq hc => by
      have g := hq.2.resolve_left hc
      exact ih q.2 hq.1 g.2.1 (by have := g.2.2; omega)
    have h48 : D (fJ_X8_sumRead_J48 k S) (sE x z) := by
      unfold fJ_X8_sumRead_J48
      refine D_ite (fun hw => ?_) (fun hw => ?_)
      · rw [wS_0 hw] at hs
        exact D_bd (r_signs hx h hw hs) (fun q _ hq => D_ite (fun _ => D_some ⟨hq.1, Or.inl rfl⟩) (fun c => hN q hq c))
      · rw [wS_1 hw] at hs
        exact D_bd (r_leafRead hx h hw hs) (fun q _ hq => D_ite (fun _ => D_some ⟨hq.1, Or.inl rfl⟩) (fun c => hN q hq c))
    unfold fB_X8_sumRead_L25
    refine D_bd (t_X8_isSign S 59 h.1) (fun r _ _ => D_ite (fun _ => h48) (fun _ => D_ite (fun hw => D_ite (fun c => ?_) (fun _ => h48)) (fun _ => h48)))
    rw [wS_0 hw] at hs
    have k0 := tq_le (x := S 0 45) (y := (0 : Int32)) rfl (b := 0) (by decide) c
    unfold fJ_X8_sumRead_J74
    refine D_bd (r_bindS hx (by decide) h hs) (fun T _ hT => ?_)
    obtain ⟨hT1, hTj, m, hTs, hTm⟩ := hT
    obtain ⟨t43, tW, t44, t45, t19, t1⟩ := hTs
    rw [hTj 45 (by decide) (by decide)] at t45
    have hm0 : m = 0 := by
      rcases hTm with hz | ⟨m', rfl, hz⟩
      · exact hz
      · exfalso
        have cc := cw_0 (hz rfl)
        have cb := cw_b T m'
        omega
    subst hm0
    have c0 : cwO T 0 = 0 := rfl
    refine D_some ⟨hT1, Or.inr ⟨rfl, Int32.toInt_inj.mp ?_, t1 rfl⟩⟩
    show (T 0 19).toInt = (T 0 46).toInt
    omega
theorem r_sumRead {x : Nat} {z S : Tr} (hx : x < 3) (h : rP x z S) (he : S 0 19 = S 0 46) : D (f_X8_sumRead S) (sE x z) := by
  unfold f_X8_sumRead
  refine D_lt (fun S1 e1 => D_lt (fun S2 e2 => D_lt (fun S3 e3 => D_lt (fun S4 e4 => D_lt (fun S5 e5 => ?_)))))
  have h1 : rP x z S1 := by
    rw [e1]; refine rP_set (a := 0) h ?_ ?_ rfl rfl (fun _ => Or.inr (by decide)) <;> decide
  have h2 : rP x z S2 := by
    rw [e2]; refine rP_set (a := 0) h1 ?_ ?_ rfl rfl (fun _ => Or.inr (by decide)) <;> decide
  have h3 : rP x z S3 := by
    rw [e3]; refine rP_set (a := 0) h2 ?_ ?_ rfl rfl (fun _ => Or.inr (by decide)) <;> decide
  have h4 : rP x z S4 := by
    rw [e4]; refine rP_set (a := 0) h3 ?_ ?_ rfl rfl (fun _ => Or.inr (by decide)) <;> decide
  have h5 : rP x z S5 := by
    rw [e5]; refine rP_set (a := 0) h4 ?_ ?_ rfl rfl (fun _ => Or.inr (by decide)) <;> decide
  have ez : ∀ j, ¬ j = 43 → ¬ j = 44 → ¬ j = 45 → ¬ j = 47 → ¬ j = 48 → S5 0 j = S 0 j := fun j n1 n2 n3 n4 n5 => by
    rw [e5, st_ne n5, e4, st_ne n4, e3, st_ne n3, e2, st_ne n2, e1, st_ne n1]
  have e43 : S5 0 43 = 0 := by rw [e5, st_ne (by decide), e4, st_ne (by decide), e3, st_ne (by decide), e2, st_ne (by decide), e1, st_same]
  have e44 : S5 0 44 = 0 := by rw [e5, st_ne (by decide), e4, st_ne (by decide), e3, st_ne (by decide), e2, st_same]
  have e45 : S5 0 45 = 0 := by rw [e5, st_ne (by decide), e4, st_ne (by decide), e3, st_same]
  have e47 : ¬ S5 0 47 = 0 := by rw [e5, st_ne (by decide), e4, st_same]; decide
  have l0 : (0 : Int32).toInt = 0 := by decide
  have b46 : 0 ≤ (S5 0 46).toInt ∧ (S5 0 46).toInt ≤ 64 := h5.1 0 46
  refine r_L25 hx 2000 S5 h5 ⟨0, ?_⟩ ?_
  · rw [wS_1 e47]
    unfold sI
    have c0 : cwO S5 0 = 0 := rfl
    have c1 : cwB S5 0 = 0 := rfl
    rw [c0, c1, e43, e44, e45, ez 19 (by decide) (by decide) (by decide) (by decide) (by decide), ez 46 (by decide) (by decide) (by decide) (by decide) (by decide), he]
    exact ⟨l0, fun i hi => absurd hi (by omega), l0, l0, by omega, fun hz => absurd hz (by decide)⟩
  · rw [mS_1 e47, e45, l0]; omega
