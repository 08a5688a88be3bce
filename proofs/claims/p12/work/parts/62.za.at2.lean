/-! the stop of both -/
theorem tz_r {T : Tr} : tz T T := rfl
theorem e_cpy (T T2 : Tr) (q q2 : Nat) : Ep (f_X6_copy T T2 q q2) (fun r => r.1 0 0 = T2 0 0) := by
  unfold f_X6_copy
  refine Ep_lt (fun A1 e1 => Ep_lt (fun A2 e2 => Ep_lt (fun A3 e3 => Ep_lt (fun A4 e4 => Ep_lt (fun A5 e5 => Ep_lt (fun A6 e6 => Ep_lt (fun A7 e7 => Ep_lt (fun A8 e8 => Ep_lt (fun A9 e9 => Ep_lt (fun A10 e10 => Ep_lt (fun A11 e11 => Ep_lt (fun A12 e12 => Ep_lt (fun A13 e13 => Ep_lt (fun A14 e14 => Ep_lt (fun A15 e15 => Ep_some ?_)))))))))))))))
  show A15 0 0 = T2 0 0
  rw [e15, stC_oth (by decide), e14, stC_oth (by decide), e13, stC_oth (by decide), e12, stC_oth (by decide), e11, stC_oth (by decide), e10, stC_oth (by decide), e9, stC_oth (by decide), e8, stC_oth (by decide), e7, stC_oth (by decide), e6, stC_oth (by decide), e5, st_ne (by decide), e4, st_ne (by decide), e3, st_ne (by decide), e2, st_ne (by decide), e1, st_same]
theorem st_way (T P : Tr) (L : Lo) : Ep (f_X6_wayOn T P L) (fun q => q.1 0 0 = T 0 0 + 1) := by
  unfold f_X6_wayOn
  refine Ep_bd (tz_X6_fallOff T P L tz_r) (fun q hq => Ep_lt (fun r1 _ => Ep_lt (fun T2 e2 => Ep_lt (fun L3 _ => Ep_bd (tz_X6_stealAway T2 P L3 (T0 := T) (by rw [e2]; exact hq)) (fun u hu => Ep_lt (fun T6 e6 => Ep_lt (fun L7 _ => Ep_lt (fun T10 e10 => Ep_some ?_))))))))
  have h6 : T6 0 0 = T 0 0 := by rw [e6]; exact hu
  show T10 0 0 = _
  rw [e10, st_same, h6]
theorem st_pass (T P : Tr) (L : Lo) : Ep (f_X6_passStop T P L) (fun q => ¬ (20 : Int32) < T 0 0 → q.1 0 0 = T 0 0 + 1) := by
  unfold f_X6_passStop
  refine Ep_ite (fun c => Ep_some (fun n => absurd c n)) (fun _ => Ep_ck (Ep_bd (tz_X6_takeDown T P L _ tz_r) (fun q hq => Ep_lt (fun r3 _ => Ep_lt (fun T4 e4 => Ep_lt (fun L5 _ => Ep_bd (tz_X6_getIn T4 P (T0 := T) (by rw [e4]; exact hq)) (fun T8 h8 => Ep_bd (st_way T8 P L5) (fun u hu => Ep_lt (fun T11 e11 => Ep_lt (fun L12 _ => Ep_some (fun _ => ?_)))))))))))
  have h8 : T8 0 0 = T 0 0 := h8
  show T11 0 0 = _
  rw [e11, hu, h8]
/-- but for the stop -/
def zg (S S1 : Tr) : Prop := ∀ a j, zcl a j → ¬ a = 62 → S1 a j = S a j
theorem zg_f {S S1 : Tr} (h : zf S S1) : zg S S1 := fun a j q _ => h a j q
theorem zg_t {S S1 S2 : Tr} (h1 : zg S S1) (h2 : zg S1 S2) : zg S S2 := fun a j q n => (h2 a j q n).trans (h1 a j q n)
theorem z62 {S S1 : Tr} (h : zf S S1) : S1 62 0 = S 62 0 := h 62 0 (Or.inr (Or.inl ⟨rfl, rfl⟩))
theorem sg_on (S : Tr) (L : Lo) : Ep (f_X8_goOn S L (0 : Int32)) (fun q => q.1 62 0 = S 62 0 + 1 ∧ zg S q.1) := by
  have J : ∀ (A : Tr) (L : Lo), zf S A → Ep (fJ_X8_goOn_J26 (0 : Int32) A L) (fun q => q.1 62 0 = S 62 0 + 1 ∧ zg S q.1) := fun A L h => by
    unfold fJ_X8_goOn_J26
    refine Ep_ck (Ep_lt (fun S11 e11 => Ep_some ⟨?_, fun a j q n => ?_⟩))
    · show S11 62 0 = S 62 0 + 1
      have e11 : S11 = st A 62 0 (A 62 0 + 1) := e11
      rw [e11, st_same, z62 h]
    · show S11 a j = S a j
      rw [e11, st_oth n]; exact h a j q
  unfold f_X8_goOn
  exact Ep_bd (zf_X8_outs S L 0 zf_r) (fun q hq => Ep_lt (fun S1 e1 => Ep_lt (fun L2 _ => Ep_bd (zf_X8_ins (S0 := S) S1 0 (by rw [e1]; exact hq)) (fun S5 h5 => Ep_ck (Ep_ite (fun _ => J S5 L2 h5) (fun _ => Ep_bd (zf_X8_onTheWay (S0 := S) S5 L2 0 h5) (fun u hu => Ep_lt (fun S12 e12 => Ep_lt (fun L13 _ => J S12 L13 (by rw [e12]; exact hu))))))))))
def goQ (S : Tr) (q : Int32 × Lo × Tr × Tr) (q' : Int32 × Tr × Lo) : Prop := q.1 = q'.1 ∧ q.2.2.1 0 0 = q'.2.1 62 0 ∧ zg S q'.2.1
theorem e_goL (pa qa : Nat → Nat) {P C S0 : Tr} {q0 : Nat} {x1 : Int32} {s m : Nat} (hx1 : x1.toInt = m) (hs : s + m ≤ 21) (N : Nat) : ∀ (n : Nat) (x : Int32) (L LM : Lo) (T S : Tr), x.toInt = n → n ≤ m → T 0 0 = S 62 0 → (T 0 0).toInt = ((s + n : Nat) : Int) → zg S0 S → E2 (lpF (fun _ _ _ => none) (fB_X7_go_L36 pa qa P C q0 x1) N x L T) (lpF (fun _ _ _ => none) (fB_X8_go_L41 x1) N x S LM) (goQ S0) := by
  induction N with
  | zero => intro n x L LM T S _ _ _ _ _; exact E2_nl
  | succ N ih =>
    intro n x L LM T S hx hn h62 hs0 hz
    show E2 (fB_X7_go_L36 pa qa P C q0 x1 (lpF (fun _ _ _ => none) (fB_X7_go_L36 pa qa P C q0 x1) N) x L T) (fB_X8_go_L41 x1 (lpF (fun _ _ _ => none) (fB_X8_go_L41 x1) N) x S LM) _
    generalize lpF (fun _ _ _ => none) (fB_X7_go_L36 pa qa P C q0 x1) N = k at ih ⊢
    generalize lpF (fun _ _ _ => none) (fB_X8_go_L41 x1) N = k' at ih ⊢
    unfold fB_X7_go_L36 fB_X8_go_L41
    refine E2_it Iff.rfl (fun _ _ => ?_) (fun c _ => E2_ckl (fun _ => ?_))
    · have e : ∀ (A : Tr) (C1 : Tr) (L L1 : Lo), zg S0 A → A 62 0 = S 62 0 → ∀ v, E2 (some ((T 0 0), L, T, C1)) (fJ_X8_go_J75 v A L1) (goQ S0) := fun A C1 L L1 ha h6 v => by
        unfold fJ_X8_go_J75
        refine E2_ltr (fun S14 e14 => E2_some ⟨?_, ?_, fun a j q n => ?_⟩)
        · show T 0 0 = S14 62 0
          rw [e14, st_oth (by decide), h6, h62]
        · show T 0 0 = S14 62 0
          rw [e14, st_oth (by decide), h6, h62]
        · show S14 a j = S0 a j
          rw [e14, st_no (fun g => by rcases q with q | ⟨q, _⟩ | ⟨_, q | q | q | q⟩ <;> omega)]; exact ha a j q n
      unfold fJ_X7_go_J54 fJ_X8_go_J57
      refine E2_ltr (fun S12 e12 => ?_)
      have ha : zg S0 S12 := fun a j q n => by
        rw [e12, st_no (fun g => by rcases q with q | ⟨q, _⟩ | ⟨_, q | q | q | q⟩ <;> omega)]; exact hz a j q n
      have h6 : S12 62 0 = S 62 0 := by rw [e12, st_oth (by decide)]
      exact E2_it Iff.rfl (fun _ _ => e S12 C L LM ha h6 _) (fun _ _ => E2_ltl (fun C7 _ => e S12 C7 L LM ha h6 _))
    · have lt := tq_len hx1 hx c
      have n20 : ¬ (20 : Int32) < T 0 0 := fun g => by
        have := tq_lt (x := (20 : Int32)) (y := T 0 0) (a := 20) (by decide) hs0 g
        omega
      refine E2_bd (R := fun q q' => q.1 0 0 = T 0 0 + 1 ∧ q'.1 62 0 = S 62 0 + 1 ∧ zg S q'.1) (E2_ep (st_pass T P L) (sg_on S LM) (fun a b ha hb => ⟨ha n20, hb.1, hb.2⟩)) (fun q q' hq => ?_)
      obtain ⟨g1, g2, g3⟩ := hq
      refine E2_ltl (fun T9 e9 => E2_ltl (fun L10 _ => E2_ltl (fun y ey => E2_ltr (fun S15 e15 => E2_ltr (fun L16 _ => E2_ltr (fun y' ey' => ?_))))))
      subst ey ey'
      refine ih (n + 1) (x + 1) L10 L16 T9 S15 (by rw [i_addK hx (y := 1) (by decide) (by omega) (by omega)]; omega) (by omega) ?_ ?_ ?_
      · rw [e9, g1, e15, g2, h62]
      · rw [e9, g1, i_addK hs0 (y := 1) (by decide) (by omega) (by omega)]; omega
      · rw [e15]; exact zg_t hz g3
theorem e_go (pa qa : Nat → Nat) (P : Tr) (L : Lo) (Tn C : Tr) (q0 : Nat) (S : Tr) (LM : Lo) (x1 : Int32) (h : Tn 0 0 = S 62 0) (hS : iR BM S) : E2 (f_X7_go pa qa P L Tn C q0 x1) (f_X8_go S LM x1) (goQ S) := by
  unfold f_X7_go f_X8_go f_X8_isIn
  refine E2_ltr (fun S1 e1 => ?_)
  have z1 : zf S S1 := by rw [e1]; exact zf_s zf_r (by omega)
  have no : ∀ v : Int32, E2 (some (v, L, Tn, C)) (some (v, S1, LM)) (goQ S) := fun v => E2_some ⟨rfl, h.trans (z62 z1).symm, zg_f z1⟩
  by_cases c : x1 < 0
  · refine E2_pl c ?_
    rw [if_pos c]
    exact E2_sr (E2_pr rfl (no _))
  refine E2_ql c ?_
  rw [if_neg c]
  by_cases d : (21 : Int32) < x1
  · refine E2_pl d ?_
    rw [if_pos d]
    exact E2_sr (E2_pr rfl (no _))
  refine E2_ql d ?_
  rw [if_neg d, h, ← z62 z1]
  refine E2_sr (E2_qr (by decide) (E2_it Iff.rfl (fun f _ => ?_) (fun _ _ => no _)))
  have c0 := tq_ltn (x := x1) (y := (0 : Int32)) rfl (b := 0) (by decide) c
  have b62 : 0 ≤ (S 62 0).toInt ∧ (S 62 0).toInt ≤ 21 := hS 62 0
  have d0 := tq_ltn (x := (21 : Int32)) (y := x1) (a := 21) (by decide) rfl d
  obtain ⟨m, hm⟩ : ∃ m : Nat, x1.toInt = m := ⟨x1.toInt.toNat, by omega⟩
  obtain ⟨s, hs⟩ : ∃ s : Nat, (S 62 0).toInt = s := ⟨(S 62 0).toInt.toNat, by omega⟩
  have hsm : s + m ≤ 21 := by
    have := tq_le (x := S1 62 0 + x1) (y := (21 : Int32)) (a := (s : Int) + m) (by rw [z62 z1]; exact i_addK hs hm (by omega) (by omega)) (b := 21) (by decide) f
    omega
  refine E2_ltl (fun T4 e4 => E2_br (zf_X8_plainTried S1 z1) (fun S7 h7 => E2_ltr (fun S10 e10 => ?_)))
  have z10 : zf S S10 := by rw [e10]; exact zf_s h7 (by omega)
  have t4 : T4 0 0 = S 62 0 := by rw [e4, st_ne (by decide)]; exact h
  unfold fL_X7_go_L36 fL_X8_go_L41
  exact e_goL pa qa hm hsm 2000 0 0 L LM T4 S10 (by decide) (by omega) (t4.trans (z62 z10).symm) (by rw [t4, hs]; rfl) (zg_f z10)
/-! an image is kept, is brought back -/
def kpQ (S : Tr) (q : Int32 × Tr × Lo) : Prop := q.1 = S 62 0 ∧ q.2.1 62 0 = S 62 0 ∧ q.2.1 0 84 = 1 ∧ q.2.1 0 89 = S 62 0 ∧ zk S q.2.1
theorem k_k47 (S0 : Tr) (L : Lo) (N : Nat) : ∀ (x : Int32) (S : Tr), S 62 0 = S0 62 0 → S 0 84 = 1 → zk S0 S → Ep (lpF (fun _ _ => none) (fB_X8_keep_L47 L) N x S) (kpQ S0) := by
  induction N with
  | zero => intro x S _ _ _; exact Ep_none
  | succ N ih =>
    intro x S h1 h2 h3
    show Ep (fB_X8_keep_L47 L (lpF (fun _ _ => none) (fB_X8_keep_L47 L) N) x S) _
    generalize lpF (fun _ _ => none) (fB_X8_keep_L47 L) N = k at ih ⊢
    unfold fB_X8_keep_L47 fJ_X8_keep_J86
    refine Ep_ite (fun _ => Ep_lt (fun S8 e8 => Ep_lt (fun S9 e9 => Ep_lt (fun L10 _ => Ep_some ?_)))) (fun _ => Ep_ck (Ep_lt (fun S12 e12 => Ep_ck (Ep_lt (fun S14 e14 => Ep_lt (fun y _ => ih y S14 ?_ ?_ ?_))))))
    · have s62 : S9 62 0 = S0 62 0 := by rw [e9, st_oth (by decide), e8, st_oth (by decide)]; exact h1
      refine ⟨s62, s62, ?_, ?_, ?_⟩
      · show S9 0 84 = 1
        rw [e9, st_ne (by decide), e8, st_ne (by decide)]; exact h2
      · show S9 0 89 = S0 62 0
        rw [e9, st_same, e8, st_oth (by decide)]; exact h1
      · show zk S0 S9
        rw [e9, e8]; exact zk_s (zk_s h3 (by omega)) (by omega)
    · rw [e14, st_oth (by decide), e12, st_oth (by decide)]; exact h1
    · rw [e14, st_oth (by decide), e12, st_oth (by decide)]; exact h2
    · rw [e14, e12]; exact zk_s (zk_s h3 (by omega)) (by omega)
theorem k_keep (S : Tr) (L : Lo) : Ep (f_X8_keep S L) (kpQ S) := by
  have lp : ∀ (N : Nat) (x : Int32) (A : Tr), A 62 0 = S 62 0 → A 0 84 = 1 → zk S A → Ep (lpF (fun _ _ => none) (fB_X8_keep_L21 L) N x A) (kpQ S) := by
    intro N
    induction N with
    | zero => intro x A _ _ _; exact Ep_none
    | succ N ih =>
      intro x A h1 h2 h3
      show Ep (fB_X8_keep_L21 L (lpF (fun _ _ => none) (fB_X8_keep_L21 L) N) x A) _
      generalize lpF (fun _ _ => none) (fB_X8_keep_L21 L) N = k at ih ⊢
      unfold fB_X8_keep_L21 fL_X8_keep_L47
      refine Ep_ite (fun _ => k_k47 S L 2000 0 A h1 h2 h3) (fun _ => Ep_ck (Ep_ck (Ep_lt (fun S18 e18 => Ep_lt (fun y _ => ih y S18 ?_ ?_ ?_)))))
      · rw [e18, st_oth (by decide)]; exact h1
      · rw [e18, st_oth (by decide)]; exact h2
      · rw [e18]; exact zk_s h3 (by omega)
  unfold f_X8_keep fL_X8_keep_L21
  refine Ep_lt (fun S1 e1 => Ep_lt (fun S2 e2 => Ep_bd (zf_X8_put_86 (S0 := S2) S2 0 zf_r) (fun S3 h3 => lp 2000 0 S3 ?_ ?_ ?_)))
  · rw [z62 h3, e2, st_oth (by decide), e1, st_oth (by decide)]
  · rw [h3 0 84 (Or.inr (Or.inr ⟨rfl, by omega⟩)), e2, st_same]
  · intro a j q
    rw [zk_f h3 a j q, e2, st_no (fun g => by rcases q with q | ⟨_, q | q⟩ <;> omega), e1, st_no (fun g => by rcases q with q | ⟨_, q | q⟩ <;> omega)]
def bkQ (S : Tr) (q : Int32 × Tr × Lo) : Prop := (S 0 84 = 0 ∧ q.1 = -1 ∧ q.2.1 62 0 = S 62 0 ∧ q.2.1 0 84 = S 0 84 ∧ q.2.1 0 89 = S 0 89 ∧ zk S q.2.1) ∨ (¬ S 0 84 = 0 ∧ q.1 = S 0 89 ∧ q.2.1 62 0 = S 0 89 ∧ q.2.1 0 84 = S 0 84 ∧ q.2.1 0 89 = S 0 89 ∧ zk S q.2.1)
theorem b_k51 (S0 : Tr) (L : Lo) (h0 : ¬ S0 0 84 = 0) (N : Nat) : ∀ (x : Int32) (S : Tr), S 0 84 = S0 0 84 → S 0 89 = S0 0 89 → zk S0 S → Ep (lpF (fun _ _ => none) (fB_X8_back_L51 L) N x S) (bkQ S0) := by
  induction N with
  | zero => intro x S _ _ _; exact Ep_none
  | succ N ih =>
    intro x S h1 h2 h3
    show Ep (fB_X8_back_L51 L (lpF (fun _ _ => none) (fB_X8_back_L51 L) N) x S) _
    generalize lpF (fun _ _ => none) (fB_X8_back_L51 L) N = k at ih ⊢
    unfold fB_X8_back_L51 fJ_X8_back_J90
    refine Ep_ite (fun _ => Ep_lt (fun S8 e8 => Ep_lt (fun S9 e9 => Ep_lt (fun L10 _ => Ep_lt (fun S11 e11 => Ep_some (Or.inr ?_)))))) (fun _ => Ep_ck (Ep_lt (fun S13 e13 => Ep_ck (Ep_lt (fun S15 e15 => Ep_lt (fun y _ => ih y S15 ?_ ?_ ?_))))))
    · have s62 : S11 62 0 = S0 0 89 := by rw [e11, st_oth (by decide), e9, st_same, e8, st_oth (by decide)]; exact h2
      refine ⟨h0, s62, s62, ?_, ?_, ?_⟩
      · show S11 0 84 = S0 0 84
        rw [e11, st_ne (by decide), e9, st_oth (by decide), e8, st_oth (by decide)]; exact h1
      · show S11 0 89 = S0 0 89
        rw [e11, st_ne (by decide), e9, st_oth (by decide), e8, st_oth (by decide)]; exact h2
      · show zk S0 S11
        rw [e11, e9, e8]; exact zk_s (zk_s (zk_s h3 (by omega)) (by omega)) (by omega)
    · rw [e15, st_oth (by decide), e13, st_oth (by decide)]; exact h1
    · rw [e15, st_oth (by decide), e13, st_oth (by decide)]; exact h2
    · rw [e15, e13]; exact zk_s (zk_s h3 (by omega)) (by omega)
theorem k_back (S : Tr) (L : Lo) : Ep (f_X8_back S L) (bkQ S) := by
  have lp : ¬ S 0 84 = 0 → ∀ (N : Nat) (x : Int32) (A : Tr), A 0 84 = S 0 84 → A 0 89 = S 0 89 → zk S A → Ep (lpF (fun _ _ => none) (fB_X8_back_L25 L) N x A) (bkQ S) := by
    intro h0 N
    induction N with
    | zero => intro x A _ _ _; exact Ep_none
    | succ N ih =>
      intro x A h1 h2 h3
      show Ep (fB_X8_back_L25 L (lpF (fun _ _ => none) (fB_X8_back_L25 L) N) x A) _
      generalize lpF (fun _ _ => none) (fB_X8_back_L25 L) N = k at ih ⊢
      unfold fB_X8_back_L25 fL_X8_back_L51
      refine Ep_ite (fun _ => b_k51 S L h0 2000 0 A h1 h2 h3) (fun _ => Ep_ck (Ep_ck (Ep_lt (fun S19 e19 => Ep_lt (fun y _ => ih y S19 ?_ ?_ ?_)))))
      · rw [e19, st_oth (by decide)]; exact h1
      · rw [e19, st_oth (by decide)]; exact h2
      · rw [e19]; exact zk_s h3 (by omega)
  unfold f_X8_back fL_X8_back_L25
  refine Ep_lt (fun S1 e1 => ?_)
  have z1 : zf S S1 := by rw [e1]; exact zf_s zf_r (by omega)
  have a84 : S1 0 84 = S 0 84 := z1 0 84 (Or.inr (Or.inr ⟨rfl, by omega⟩))
  have a89 : S1 0 89 = S 0 89 := z1 0 89 (Or.inr (Or.inr ⟨rfl, by omega⟩))
  refine Ep_ite (fun c => Ep_some (Or.inl ⟨a84.symm.trans c, rfl, z62 z1, a84, a89, zk_f z1⟩)) (fun c => Ep_bd (zf_X8_take_86 (S0 := S1) S1 0 zf_r) (fun S3 h3 => ?_))
  have h0 : ¬ S 0 84 = 0 := fun g => c (a84.trans g)
  refine lp h0 2000 0 S3 ((h3 0 84 (Or.inr (Or.inr ⟨rfl, by omega⟩))).trans a84) ((h3 0 89 (Or.inr (Or.inr ⟨rfl, by omega⟩))).trans a89) (fun a j q => (zk_f h3 a j q).trans (zk_f z1 a j q))
