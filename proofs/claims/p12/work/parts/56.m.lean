/-- how much is held above what the signs ask for -/
def wS (T : Tr) : Int := if T 0 47 = 0 then 1 else 0
def sJ (T : Tr) : Prop := ∃ n, sI n (wS T) T
def mS (T : Tr) : Int := 20 * (64 - (T 0 46).toInt) + (if T 0 47 = 0 then (T 0 45).toInt else 18 - (T 0 45).toInt)
theorem wS_0 {T : Tr} (h : T 0 47 = 0) : wS T = 1 := if_pos h
theorem wS_1 {T : Tr} (h : ¬ T 0 47 = 0) : wS T = 0 := if_neg h
theorem mS_0 {T : Tr} (h : T 0 47 = 0) : mS T = 20 * (64 - (T 0 46).toInt) + (T 0 45).toInt := by unfold mS; rw [if_pos h]
theorem mS_1 {T : Tr} (h : ¬ T 0 47 = 0) : mS T = 20 * (64 - (T 0 46).toInt) + (18 - (T 0 45).toInt) := by unfold mS; rw [if_neg h]
/-- a step of a sum: it failed, or the sum stands and less is left -/
def sQ (x : Nat) (z S : Tr) (q : Int32 × Tr) : Prop := rP x z q.2 ∧ (q.1 = 0 ∨ (q.1 = 1 ∧ sJ q.2 ∧ mS q.2 < mS S))
theorem q_wrong {x : Nat} {z S0 S : Tr} (h : rP x z S) (y : Int32) : D (bd (f_X8_wrong S y) fun q => lt q.1 fun r => lt q.2 fun S1 => ck (okB r) (some (r, S1))) (sQ x z S0) :=
  D_mono (r_wrong h y) (fun _ hq => ⟨hq.2, Or.inl hq.1⟩)
/-- the last token of a step -/
theorem q_end {x : Nat} {z S T : Tr} (h : rP x z T) {n : Nat} (hs : sI n (wS T) T) (hm : mS T < mS S) : D (bd (f_X8_token T) fun S1 => some ((1 : Int32), S1)) (sQ x z S) := by
  refine D_bd (r_token h) (fun q _ hq => ?_)
  have e47 := hq.2 0 47 rfl
  have e45 := hq.2 0 45 rfl
  have e46 := hq.2 0 46 rfl
  have ew : wS q = wS T := by unfold wS; rw [e47]
  have em : mS q = mS T := by unfold mS; rw [e47, e45, e46]
  refine D_some ⟨hq.1, Or.inr ⟨rfl, ⟨n, ?_⟩, ?_⟩⟩
  · show sI n (wS q) q
    rw [ew]; exact sI_K hs hq.2
  · show mS q < mS S
    rw [em]; exact hm
theorem q_bnd {x : Nat} {z S : Tr} {n : Nat} {w : Int} (h : rP x z S) (hs : sI n w S) : n < 90 ∧ cwO S n ≤ 8 ∧ (n : Int) - cwO S n ≤ 64 - (S 0 19).toInt ∧ (S 0 46).toInt ≤ 64 ∧ 0 ≤ (S 0 19).toInt := by
  have b45 : 0 ≤ (S 0 45).toInt ∧ (S 0 45).toInt ≤ 8 := h.1 0 45
  have b46 : 0 ≤ (S 0 46).toInt ∧ (S 0 46).toInt ≤ 64 := h.1 0 46
  have b19 : 0 ≤ (S 0 19).toInt ∧ (S 0 19).toInt ≤ 64 := h.1 0 19
  have h1 := hs.2.2.2.1
  have h2 := hs.2.2.2.2.1
  omega
theorem r_nameMet {x : Nat} {z S : Tr} (h : rP x z S) : D (f_X8_nameMet S) (fun r => r.toInt ≤ 6) := by
  unfold f_X8_nameMet
  refine D_ite (fun c => D_ite (fun _ => D_some (by decide)) (fun c1 => D_some ?_)) (fun _ => D_some (by decide))
  have c' : (S 0 8).toInt = 1 := by rw [c]; decide
  have k := h.2.2.2.1.2.1 c'
  have e : (S 0 9 - 22).toInt = (S 0 9).toInt - 22 := i_subK rfl (show (22 : Int32).toInt = 22 by decide) (by omega) (by omega)
  omega
theorem r_leafRead {x : Nat} {z S : Tr} (hx : x < 3) (h : rP x z S) (hw : ¬ S 0 47 = 0) {n : Nat} (hs : sI n 0 S) : D (f_X8_leafRead S) (sQ x z S) := by
  have qb := q_bnd h hs
  have cb := cw_b S n
  obtain ⟨s43, sW, s44, s45, s19, s1⟩ := hs
  have hm := mS_1 hw
  have h160 : ∀ (T : Tr) (v t : Int32), rP x z T → (T 0 46).toInt = (S 0 46).toInt + 1 → (S 0 46).toInt < 64 → (∀ a j, ¬ (a = 0 ∧ j = 46) → T a j = S a j) → nvOK t v 0 → D (fJ_X8_leafRead_J160 v t T) (sQ x z S) := by
    intro T v t hT h46 hl he hv
    unfold fJ_X8_leafRead_J160
    have e19 : T 0 19 = S 0 19 := he 0 19 (by decide)
    have e44 : T 0 44 = S 0 44 := he 0 44 (by decide)
    refine D_bd (r_grown hT hx hv (by rw [e19]; omega) (by rw [e44]; omega)) (fun q _ hq => ?_)
    refine D_lt (fun T2 e2 => ?_)
    have h2 : rP x z T2 := by
      rw [e2]; refine rP_set (a := 0) hq.1 ?_ ?_ rfl rfl (fun _ => Or.inr (by decide)) <;> decide
    have z2 : ∀ j, ¬ j = 47 → T2 0 j = q 0 j := fun j hj => by rw [e2, st_ne hj]
    have e47 : T2 0 47 = 0 := by rw [e2, st_same]
    have e42 : ∀ j, T2 42 j = S 42 j := fun j => by rw [e2, st_oth (by decide), hq.2.2.2.2 j, he 42 j (by omega)]
    have a : ∀ j, ¬ j = 47 → ¬ j = 44 → ¬ j = 19 → ¬ j = 46 → T2 0 j = S 0 j := fun j h1 h3 h4 h5 => by
      rw [z2 j h1, hq.2.2.2.1 j h3 h4, he 0 j (fun hz => h5 hz.2)]
    have a46 : (T2 0 46).toInt = (S 0 46).toInt + 1 := by rw [z2 46 (by decide), hq.2.2.2.1 46 (by decide) (by decide)]; exact h46
    refine q_end (n := n) h2 ?_ ?_
    · rw [wS_0 e47]
      unfold sI
      rw [cwB_eq n (fun i _ => e42 i), cwO_eq n (fun i _ => e42 i), a 43 (by decide) (by decide) (by decide) (by decide), a 45 (by decide) (by decide) (by decide) (by decide), a46, z2 44 (by decide), z2 19 (by decide), hq.2.1, hq.2.2.1, e19, e44]
      exact ⟨s43, fun i hi => by rw [e42]; exact sW i hi, by omega, s45, by omega, fun _ => by omega⟩
    · rw [mS_0 e47, hm, a46, a 45 (by decide) (by decide) (by decide) (by decide)]; omega
  have h129 : ∀ x1 : Int32, x1.toInt ≤ 6 → D (fJ_X8_leafRead_J129 x1 S) (sQ x z S) := by
    intro x1 hx1
    unfold fJ_X8_leafRead_J129
    refine D_bd (r_isCounted hx h) (fun q _ hq => ?_)
    refine D_ite (fun _ => D_some ⟨hq.1, Or.inl rfl⟩) (fun c => ?_)
    have g := hq.2.resolve_left c
    refine D_ite (fun c1 => ?_) (fun c1 => ?_)
    · unfold fJ_X8_leafRead_J148
      refine D_ite (fun _ => ?_) (fun hz => absurd c1 hz)
      exact h160 _ _ _ hq.1 g.2.2.1 g.2.1 g.2.2.2 (Or.inl rfl)
    · unfold fJ_X8_leafRead_J148
      refine D_ite (fun hz => absurd hz c1) (fun _ => ?_)
      have k := tq_ltn (x := x1) (y := (0 : Int32)) rfl (b := 0) (by decide) c1
      exact h160 _ _ _ hq.1 g.2.2.1 g.2.1 g.2.2.2 (Or.inr (Or.inl ⟨rfl, k, hx1⟩))
  have h86 : D (fJ_X8_leafRead_J86 S) (sQ x z S) := by
    unfold fJ_X8_leafRead_J86
    refine D_bd (r_nameMet h) (fun r _ hr => ?_)
    have h109 : D (fJ_X8_leafRead_J109 r S) (sQ x z S) := by
      unfold fJ_X8_leafRead_J109
      exact D_ite (fun _ => h129 r hr) (fun _ => D_ite (fun _ => h129 r hr) (fun _ => q_wrong h 2))
    exact D_ite (fun _ => h109) (fun _ => D_ite (fun _ => h109) (fun _ => q_wrong h 1))
  unfold f_X8_leafRead
  refine D_bd (t_X8_isSign S 40 h.1) (fun r1 _ _ => D_ite (fun _ => ?_) (fun _ => ?_))
  · refine D_bd (t_X8_isKey S 21 h.1) (fun r5 _ _ => D_ite (fun _ => h86) (fun _ => D_ite (fun _ => h86) (fun _ => ?_)))
    refine D_bd (r_isCounted hx h) (fun q _ hq => ?_)
    refine D_ite (fun _ => D_some ⟨hq.1, Or.inl rfl⟩) (fun c => ?_)
    have g := hq.2.resolve_left c
    have he := g.2.2.2
    refine D_bd (r_waitsFor hq.1 (n := n) (v := 2) (by rw [he 0 43 (by decide)]; exact s43) qb.1 (by decide)) (fun T _ hT => ?_)
    have e42 : ∀ i, i < n → T 42 i = S 42 i := fun i hi => (hT.2.2.2.1 i (by omega)).trans (he 42 i (by omega))
    have ez : ∀ j, ¬ j = 43 → ¬ j = 46 → T 0 j = S 0 j := fun j h1 h2 => (hT.2.2.2.2 j h1).trans (he 0 j (fun hz => h2 hz.2))
    have a46 : (T 0 46).toInt = (S 0 46).toInt + 1 := by rw [hT.2.2.2.2 46 (by decide)]; exact g.2.2.1
    have e47 : ¬ T 0 47 = 0 := by rw [ez 47 (by decide) (by decide)]; exact hw
    have cc := cw_2 hT.2.2.1
    refine q_end (n := n + 1) hT.1 ?_ ?_
    · rw [wS_1 e47]
      unfold sI
      rw [cc.1, cc.2, cwB_eq n e42, cwO_eq n e42, ez 44 (by decide) (by decide), ez 45 (by decide) (by decide), ez 19 (by decide) (by decide), a46]
      refine ⟨hT.2.1, fun i hi => ?_, s44, s45, by omega, fun hz => absurd hz (by decide)⟩
      rcases (by omega : i < n ∨ i = n) with hz | hz
      · rw [e42 i hz]; exact sW i hz
      · subst hz; exact Or.inr (by rw [hT.2.2.1]; decide)
    · rw [mS_1 e47, hm, a46, ez 45 (by decide) (by decide)]; omega
  · refine D_ite (fun _ => q_wrong h 2) (fun c8 => ?_)
    have b45 : 0 ≤ (S 0 45).toInt ∧ (S 0 45).toInt ≤ 8 := h.1 0 45
    have c45 : ¬ (S 0 45).toInt = 8 := fun hz => c8 (Int32.toInt_inj.mp (hz.trans (by decide)))
    have f45 : (S 0 45 + 1).toInt = (S 0 45).toInt + 1 := i_addK rfl (show (1 : Int32).toInt = 1 by decide) (by omega) (by omega)
    refine D_lt (fun S5 e5 => ?_)
    have h5 : rP x z S5 := by
      rw [e5]; refine rP_set (a := 0) h ?_ ?_ rfl rfl (fun _ => Or.inr (by decide))
      · show (0 : Int) ≤ _; omega
      · show _ ≤ (8 : Int); omega
    refine D_bd (r_waitsFor h5 (n := n) (v := 0) (by rw [e5, st_ne (by decide)]; exact s43) qb.1 (by decide)) (fun T _ hT => ?_)
    refine D_lt (fun T2 e2 => ?_)
    have h2 : rP x z T2 := by
      rw [e2]; refine rP_set (a := 0) hT.1 ?_ ?_ rfl rfl (fun _ => Or.inr (by decide)) <;> decide
    have e42 : ∀ i, i < n → T2 42 i = S 42 i := fun i hi => by rw [e2, st_oth (by decide), hT.2.2.2.1 i (by omega), e5, st_oth (by decide)]
    have n42 : T2 42 n = 0 := by rw [e2, st_oth (by decide)]; exact hT.2.2.1
    have ez : ∀ j, ¬ j = 43 → ¬ j = 45 → ¬ j = 48 → T2 0 j = S 0 j := fun j h1 h2 h3 => by
      rw [e2, st_ne h3, hT.2.2.2.2 j h1, e5, st_ne h2]
    have a45 : (T2 0 45).toInt = (S 0 45).toInt + 1 := by rw [e2, st_ne (by decide), hT.2.2.2.2 45 (by decide), e5, st_same]; exact f45
    have a43 : (T2 0 43).toInt = (n + 1 : Nat) := by rw [e2, st_ne (by decide)]; exact hT.2.1
    have e47 : ¬ T2 0 47 = 0 := by rw [ez 47 (by decide) (by decide) (by decide)]; exact hw
    have cc := cw_0 n42
    refine q_end (n := n + 1) h2 ?_ ?_
    · rw [wS_1 e47]
      unfold sI
      rw [cc.1, cc.2, cwB_eq n e42, cwO_eq n e42, ez 44 (by decide) (by decide) (by decide), a45, ez 19 (by decide) (by decide) (by decide), ez 46 (by decide) (by decide) (by decide)]
      refine ⟨a43, fun i hi => ?_, s44, by omega, by omega, fun hz => absurd hz (by decide)⟩
      rcases (by omega : i < n ∨ i = n) with hz | hz
      · rw [e42 i hz]; exact sW i hz
      · subst hz; exact Or.inl n42
    · rw [mS_1 e47, hm, a45, ez 46 (by decide) (by decide) (by decide)]; omega
