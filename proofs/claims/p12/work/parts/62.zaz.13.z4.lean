/-! a law worked out: knots one by one -/
theorem hs_lt {g : Nat → Int32} : ∀ {n : Nat}, ∀ a, a ∈ hs g n → a < n
  | 0, a, h => by cases h
  | n + 1, a, h => by
    have ih := @hs_lt g n
    unfold hs at h
    have c1 : ∀ l, (∀ x, x ∈ l → x < n + 1) → a ∈ n :: l → a < n + 1 := fun l hl q => by
      rcases List.mem_cons.mp q with e | e
      · omega
      · exact hl a e
    cases hc : (decide ((g n).toInt < 10000) || decide (10022 ≤ (g n).toInt ∧ (g n).toInt ≤ 10028)) with
    | true =>
      rw [hc] at h
      exact c1 _ (fun x hx => by have := ih x hx; omega) h
    | false =>
      rw [hc] at h
      cases hc2 : decide ((g n).toInt = 10021) with
      | true =>
        rw [hc2] at h
        exact c1 _ (fun x hx => by have := ih x (List.mem_of_mem_drop hx); omega) h
      | false =>
        rw [hc2] at h
        exact c1 _ (fun x hx => by have := ih x (List.mem_of_mem_drop hx); omega) h
theorem hs_len {g : Nat → Int32} : ∀ {n : Nat}, (hs g n).length ≤ n
  | 0 => Nat.le_refl _
  | n + 1 => by
    have ih := @hs_len g n
    unfold hs
    cases (decide ((g n).toInt < 10000) || decide (10022 ≤ (g n).toInt ∧ (g n).toInt ≤ 10028)) with
    | true => simp only [cond_true, List.length_cons]; omega
    | false =>
      cases decide ((g n).toInt = 10021) with
      | true => simp only [cond_true, cond_false, List.length_cons, List.length_drop]; omega
      | false => simp only [cond_false, List.length_cons, List.length_drop]; omega
/-- the class's stack holds what the reference has worked out -/
def vst (u v : Nat → Int64) (f : Nat) : List Nat → Prop
  | [] => True
  | a :: r => u r.length = v (f + a) ∧ bnd (v (f + a)) ∧ vst u v f r
theorem vst_cg {u v u' v' : Nat → Int64} {f : Nat} : ∀ {l : List Nat}, vst u v f l → (∀ i, i < l.length → u' i = u i) → (∀ a, a ∈ l → v' (f + a) = v (f + a)) → vst u' v' f l
  | [], _, _, _ => trivial
  | a :: r, h, h1, h2 => by
    obtain ⟨a1, a2, a3⟩ := h
    refine ⟨?_, ?_, vst_cg a3 (fun i hi => h1 i (by simp only [List.length_cons]; omega)) (fun x hx => h2 x (List.mem_cons_of_mem _ hx))⟩
    · rw [h1 _ (by simp only [List.length_cons]; omega), h2 a List.mem_cons_self]; exact a1
    · rw [h2 a List.mem_cons_self]; exact a2
def lfC (c : Int) : Prop := (0 ≤ c ∧ c < 10000) ∨ (10022 ≤ c ∧ c ≤ 10028)
theorem hs_leaf {g : Nat → Int32} {n : Nat} (h : lfC (g n).toInt) : hs g (n + 1) = n :: hs g n := by
  show (bif decide ((g n).toInt < 10000) || decide (10022 ≤ (g n).toInt ∧ (g n).toInt ≤ 10028) then n :: hs g n else _) = _
  have : (decide ((g n).toInt < 10000) || decide (10022 ≤ (g n).toInt ∧ (g n).toInt ≤ 10028)) = true := by
    rcases h with h | h
    · simp [show (g n).toInt < 10000 by omega]
    · simp [show 10022 ≤ (g n).toInt ∧ (g n).toInt ≤ 10028 by omega]
  rw [this]; rfl
theorem hs_not {g : Nat → Int32} {n : Nat} (h : (g n).toInt = 10021) : hs g (n + 1) = n :: (hs g n).drop 1 := by
  show (bif decide ((g n).toInt < 10000) || decide (10022 ≤ (g n).toInt ∧ (g n).toInt ≤ 10028) then n :: hs g n else bif decide ((g n).toInt = 10021) then n :: (hs g n).drop 1 else _) = _
  rw [h]; rfl
theorem hs_two {g : Nat → Int32} {n : Nat} (h : ¬ lfC (g n).toInt) (h0 : 0 ≤ (g n).toInt) (h1 : ¬ (g n).toInt = 10021) : hs g (n + 1) = n :: (hs g n).drop 2 := by
  show (bif decide ((g n).toInt < 10000) || decide (10022 ≤ (g n).toInt ∧ (g n).toInt ≤ 10028) then n :: hs g n else bif decide ((g n).toInt = 10021) then n :: (hs g n).drop 1 else n :: (hs g n).drop 2) = _
  have e1 : (decide ((g n).toInt < 10000) || decide (10022 ≤ (g n).toInt ∧ (g n).toInt ≤ 10028)) = false := by
    unfold lfC at h
    simp only [Bool.or_eq_false_iff, decide_eq_false_iff_not]
    omega
  have e2 : decide ((g n).toInt = 10021) = false := by simp [h1]
  rw [e1, e2]; rfl
/-! the reference: what is wrong stays wrong; what else stays -/
def oE (S : Tr) (q : Int64 × Tr) : Prop := o51 S q.2 ∧ (¬ S 0 51 = 0 → ¬ q.2 0 51 = 0)
theorem fr_b (S : Tr) (v : Int64) : Ep (f_X8_bounded S v) (oE S) := by
  have j : ∀ s0, (¬ S 0 51 = 0 → ¬ s0 = 0) → (s0 = 0 ∨ s0 = 1) → Ep (fJ_X8_bounded_J29 v s0 S) (oE S) := fun s0 h hs => Ep_mono (e_b29 S v s0) (fun q hq => ⟨by rw [hq.1]; exact o51_s o51_r hs, fun n => by rw [hq.1, st_same]; exact h n⟩)
  unfold f_X8_bounded fJ_X8_bounded_J24
  exact Ep_ite (fun c => Ep_ite (fun _ => j 1 (fun _ => by decide) (Or.inr rfl)) (fun _ => Ep_ite (fun _ => j 0 (fun n => absurd c n) (Or.inl rfl)) (fun _ => j 1 (fun _ => by decide) (Or.inr rfl)))) (fun _ => j 1 (fun _ => by decide) (Or.inr rfl))
theorem fr_t (S : Tr) (a b : Int64) : Ep (f_X8_times S a b) (oE S) := by
  have j : ∀ s0, (¬ S 0 51 = 0 → ¬ s0 = 0) → (s0 = 0 ∨ s0 = 1) → Ep (fJ_X8_times_J69 a b s0 S) (oE S) := fun s0 h hs => Ep_mono (e_t69 S a b s0) (fun q hq => ⟨by rw [hq.1]; exact o51_s o51_r hs, fun n => by rw [hq.1, st_same]; exact h n⟩)
  have j64 : Ep (fJ_X8_times_J64 a b S) (oE S) := by unfold fJ_X8_times_J64; exact j 1 (fun _ => by decide) (Or.inr rfl)
  have j49 : ∀ s0, Ep (fJ_X8_times_J49 a b s0 S) (oE S) := fun s0 => by
    unfold fJ_X8_times_J49
    exact Ep_ite (fun c => Ep_ite (fun _ => j 0 (fun n => absurd c n) (Or.inl rfl)) (fun _ => j64)) (fun _ => j64)
  have j48 : Ep (fJ_X8_times_J48 a b S) (oE S) := by unfold fJ_X8_times_J48; exact j49 0
  have j24 : ∀ s0, Ep (fJ_X8_times_J24 a b s0 S) (oE S) := fun s0 => by
    unfold fJ_X8_times_J24 fJ_X8_times_J39
    exact Ep_ite (fun _ => Ep_ck (Ep_ite (fun _ => j48) (fun _ => j49 1))) (fun _ => Ep_ck (Ep_ite (fun _ => j48) (fun _ => j49 1)))
  unfold f_X8_times
  exact Ep_ite (fun _ => j48) (fun _ => Ep_ite (fun _ => j48) (fun _ => Ep_ite (fun _ => j24 _) (fun _ => j24 _)))
theorem fr_v (S : Tr) (L : Lo) (x : Int32) : Ep (f_X8_valueOf S L x) (oE S) := by
  have nop : ∀ v : Int64, Ep (some (v, S)) (oE S) := fun v => Ep_some ⟨o51_r, fun h => h⟩
  have j240 : ∀ a b s0, (¬ S 0 51 = 0 → ¬ s0 = 0) → (s0 = 0 ∨ s0 = 1) → Ep (fJ_X8_valueOf_J240 L a b s0 S) (oE S) := fun a b s0 h hs => Ep_mono (e_v240 S a b L s0) (fun q hq => ⟨by rw [hq.1]; exact o51_s o51_r hs, fun n => by rw [hq.1, st_same]; exact h n⟩)
  have j235 : ∀ a b, Ep (fJ_X8_valueOf_J235 L a b S) (oE S) := fun a b => by unfold fJ_X8_valueOf_J235; exact j240 a b 1 (fun _ => by decide) (Or.inr rfl)
  have thru : ∀ y : Option (Int64 × Tr), Ep y (oE S) → Ep (bd y fun q => lt q.1 fun r17 => lt q.2 fun S_18 => some (r17, S_18)) (oE S) := fun y hy => Ep_bd hy (fun q hq => Ep_some hq)
  unfold f_X8_valueOf
  exact Ep_ck (Ep_ite (fun _ => nop _) (fun _ => Ep_ite (fun _ => Ep_ck (nop _)) (fun _ => Ep_ck (Ep_lt (fun y5 _ => Ep_ite (fun _ => Ep_ite (fun _ => nop _) (fun _ => nop _)) (fun _ => Ep_ck (Ep_lt (fun y8 _ => Ep_lt (fun y9 _ => Ep_ite (fun _ => Ep_ite (fun _ => nop _) (fun _ => Ep_ite (fun _ => nop _) (fun _ => nop _))) (fun _ => Ep_ite (fun _ => Ep_ite (fun _ => Ep_ite (fun _ => nop _) (fun _ => nop _)) (fun _ => nop _)) (fun _ => Ep_ite (fun _ => thru _ (fr_b S _)) (fun _ => Ep_ite (fun _ => thru _ (fr_b S _)) (fun _ => Ep_ite (fun _ => thru _ (fr_t S _ _)) (fun _ => Ep_ite (fun _ => Ep_ite (fun c => Ep_ite (fun _ => j235 _ _) (fun _ => j240 _ _ 0 (fun n => absurd c n) (Or.inl rfl))) (fun _ => j235 _ _)) (fun _ => Ep_any (fun r => Ep_ite (fun _ => nop _) (fun _ => nop _)))))))))))))))))
theorem fr_loop (S0 : Tr) (L0 : Lo) (x1 : Int32) (N : Nat) : ∀ (x2 : Int32) (S : Tr) (L : Lo), o51 S0 S → oL L0 L → Ep (lpF (fun _ _ _ => none) (fB_X8_lawOf_L12 x1) N x2 S L) (fun q => o51 S0 q.2.1 ∧ oL L0 q.2.2 ∧ (¬ S 0 51 = 0 → ¬ q.2.1 0 51 = 0)) := by
  induction N with
  | zero => intro x2 S L _ _; exact Ep_none
  | succ N ih =>
    intro x2 S L h1 h2
    show Ep (fB_X8_lawOf_L12 x1 (lpF (fun _ _ _ => none) (fB_X8_lawOf_L12 x1) N) x2 S L) _
    generalize lpF (fun _ _ _ => none) (fB_X8_lawOf_L12 x1) N = k at ih ⊢
    unfold fB_X8_lawOf_L12 fJ_X8_lawOf_J39
    refine Ep_ck (Ep_ite (fun _ => Ep_ite (fun _ => Ep_ck (Ep_ck (Ep_some ⟨h1, h2, fun h => h⟩))) (fun _ => Ep_some ⟨h1, h2, fun h => h⟩)) (fun _ => Ep_bd (fr_v S L x2) (fun q hq => Ep_lt (fun r9 _ => Ep_lt (fun S1 e1 => Ep_ck (Ep_lt (fun L1 e2 => Ep_lt (fun y _ => Ep_mono (ih y S1 L1 (by rw [e1]; exact o51_t h1 hq.1) (by rw [e2]; exact oL_s h2 (by omega))) (fun q' hq' => ⟨hq'.1, hq'.2.1, fun n => hq'.2.2 (by rw [e1]; exact hq.2 n)⟩)))))))))
theorem fr_law (S : Tr) (L : Lo) (x1 : Int32) : Ep (f_X8_lawOf S L x1) (fun q => o51 S q.2.1 ∧ oL L q.2.2) := by
  unfold f_X8_lawOf
  refine Ep_lt (fun S1 e1 => Ep_ck (Ep_lt (fun y _ => Ep_mono (fr_loop S L x1 2000 y S1 L (by rw [e1]; exact o51_s o51_r) oL_r) (fun q hq => ⟨hq.1, hq.2.1⟩))))
/-! side by side -/
def vlQ (q : Int64 × Lo) (q' : Int64 × Tr × Lo) : Prop := (q.1 = -9223372036854775808 ∧ ¬ q'.2.1 0 51 = 0) ∨ (q'.2.1 0 51 = 0 ∧ q.1 = q'.1 ∧ bnd q.1)
theorem e_vbin {S : Tr} {L : Lo} {x k : Int32} {m a b : Nat} (hx : x.toInt = m) (hk : S 39 m = k) (h3 : 3 ≤ k.toInt) (ha : (S 40 m).toInt = a) (hb : (S 41 m).toInt = b) {y : Option Int64} {Q : Int64 → Int64 × Tr → Prop} (h : E2 y (vop S k (L 51 a) (L 51 b)) Q) : E2 y (f_X8_valueOf S L x) Q := by
  have n0 : ¬ k = 0 := fun e => by rw [e] at h3; exact absurd h3 (by decide)
  have n1 : ¬ k = 1 := fun e => by rw [e] at h3; exact absurd h3 (by decide)
  have n2 : ¬ k = 2 := fun e => by rw [e] at h3; exact absurd h3 (by decide)
  unfold f_X8_valueOf
  rw [i_cn hx, hk, i_cn ha, i_cn hb]
  refine E2_ckr (fun _ => E2_qr n0 (E2_qr n1 (E2_ckr (fun _ => E2_ltr (fun y5 e5 => E2_qr n2 (E2_ckr (fun _ => E2_ltr (fun y8 e8 => E2_ltr (fun y9 e9 => ?_)))))))))
  rw [e5, e8, e9]
  exact h
theorem e_val {T P S : Tr} {L : Lo} {x1 : Int32} {j f s : Nat} (hx1 : x1.toInt = j) (hs1 : 1 ≤ s) (hsz : (P (30 + 3 * j) 1).toInt = s) (hl : (S 38 j).toInt = f + s) (hf : (S 37 j).toInt = f) (hfs : f + s ≤ 64) (hlen : (hs (P (31 + 3 * j)) s).length = 1) (hnd : ∀ i, i < s → nd (P (31 + 3 * j)) (S 39) (S 40) (S 41) f i) (hn : ∀ m : Nat, m ≤ 6 → L 50 m = (T 19 m).toInt64) (Lc : Lo) : E2 (f_X1_value j T P Lc) (f_X8_lawOf S L x1) vlQ := by
  have lp : ∀ (N M n : Nat) (x2 x3 y2 : Int32) (Lc : Lo) (S1 : Tr) (L1 : Lo), x3.toInt = n → x2.toInt = (hs (P (31 + 3 * j)) n).length → y2.toInt = f + n → n ≤ s → o51 S S1 → S1 0 51 = 0 → oL L L1 → L1 50 = L 50 → vst (Lc (32 + 3 * j)) (L1 51) f (hs (P (31 + 3 * j)) n) → E2 (lpF (fun _ _ _ => none) (fB_X1_value_L4 j T P) N x2 x3 Lc) (lpF (fun _ _ _ => none) (fB_X8_lawOf_L12 x1) M y2 S1 L1) vlQ := by
    intro N
    induction N with
    | zero => intro M n x2 x3 y2 Lc S1 L1 _ _ _ _ _ _ _ _ _; exact E2_nl
    | succ N ih =>
      intro M n x2 x3 y2 Lc S1 L1 hx3 hx2 hy2 hns ho h51 hoL hL50 hv
      cases M with
      | zero => exact E2_nr
      | succ M =>
        show E2 (fB_X1_value_L4 j T P (lpF (fun _ _ _ => none) (fB_X1_value_L4 j T P) N) x2 x3 Lc) (fB_X8_lawOf_L12 x1 (lpF (fun _ _ _ => none) (fB_X8_lawOf_L12 x1) M) y2 S1 L1) vlQ
        have ih := fun n x2 x3 y2 Lc S1 L1 => ih M n x2 x3 y2 Lc S1 L1
        have err : ∀ (y : Int32) (S2 : Tr) (L2 : Lo) (z : Lo), ¬ S2 0 51 = 0 → E2 (some ((-9223372036854775808 : Int64), z)) (lpF (fun _ _ _ => none) (fB_X8_lawOf_L12 x1) M y S2 L2) vlQ := fun y S2 L2 z h => fun q q' e e' => by
          have e := tx_1 e
          exact Or.inl ⟨by rw [← e], (fr_loop S2 L2 x1 M y S2 L2 o51_r oL_r q' e').2.2 h⟩
        generalize lpF (fun _ _ _ => none) (fB_X1_value_L4 j T P) N = k at ih ⊢
        generalize lpF (fun _ _ _ => none) (fB_X8_lawOf_L12 x1) M = k' at ih err ⊢
        have e38 : (S1 38 j).toInt = ((f + s : Nat) : Int) := by rw [ho.1 38 j (by omega), hl]; omega
        unfold fB_X1_value_L4 fB_X8_lawOf_L12
        rw [i_cn hx1, i_cn hx3]
        refine E2_ckr (fun _ => ?_)
        by_cases g : n = s
        · have c1 : P (30 + 3 * j) 1 ≤ x3 := Int32.le_iff_toInt_le.mpr (by rw [hsz, hx3]; omega)
          have c2 : S1 38 j ≤ y2 := Int32.le_iff_toInt_le.mpr (by rw [e38, hy2]; omega)
          refine E2_pl c1 (E2_pr c2 ?_)
          rw [g, hlen] at hx2
          have x21 : x2 = 1 := Int32.toInt_inj.mp hx2
          unfold fJ_X1_value_J190 fJ_X8_lawOf_J39
          refine E2_pl x21 (E2_pr h51 (E2_ckr (fun _ => E2_ckr (fun _ => E2_some (Or.inr ⟨h51, ?_⟩)))))
          rw [i_cn hx1]
          have e1 : ((S1 38 j) - 1).toNatClampNeg = f + s - 1 := i_cn (by rw [i_subK e38 (y := 1) (by decide) (by omega) (by omega)]; omega)
          have hl1 : hs (P (31 + 3 * j)) s = [s - 1] := by
            obtain ⟨s', rfl⟩ : ∃ s', s = s' + 1 := ⟨s - 1, by omega⟩
            have : ∃ r, hs (P (31 + 3 * j)) (s' + 1) = s' :: r := by
              show ∃ r, (bif decide ((P (31 + 3 * j) s').toInt < 10000) || decide (10022 ≤ (P (31 + 3 * j) s').toInt ∧ (P (31 + 3 * j) s').toInt ≤ 10028) then s' :: hs (P (31 + 3 * j)) s' else bif decide ((P (31 + 3 * j) s').toInt = 10021) then s' :: (hs (P (31 + 3 * j)) s').drop 1 else s' :: (hs (P (31 + 3 * j)) s').drop 2) = s' :: r
              cases (decide ((P (31 + 3 * j) s').toInt < 10000) || decide (10022 ≤ (P (31 + 3 * j) s').toInt ∧ (P (31 + 3 * j) s').toInt ≤ 10028)) with
              | true => exact ⟨_, rfl⟩
              | false =>
                cases decide ((P (31 + 3 * j) s').toInt = 10021) with
                | true => exact ⟨_, rfl⟩
                | false => exact ⟨_, rfl⟩
            obtain ⟨r, hr⟩ := this
            rw [hr] at hlen ⊢
            cases r with
            | nil => simp
            | cons c d => simp at hlen
          rw [g, hl1] at hv
          obtain ⟨v1, v2, -⟩ := hv
          show Lc (32 + 3 * j) 0 = L1 51 ((S1 38 j) - 1).toNatClampNeg ∧ bnd (Lc (32 + 3 * j) 0)
          rw [e1, show f + s - 1 = f + (s - 1) by omega]
          exact ⟨v1, by rw [show Lc (32 + 3 * j) 0 = L1 51 (f + (s - 1)) from v1]; exact v2⟩
        · have c1 : ¬ P (30 + 3 * j) 1 ≤ x3 := fun q => by have := tq_le hsz hx3 q; omega
          have c2 : ¬ S1 38 j ≤ y2 := fun q => by have := tq_le e38 hy2 q; omega
          refine E2_ql c1 (E2_qr c2 (E2_ckl (fun _ => E2_ltl (fun y4 e4 => E2_ltl (fun y5 e5 => ?_)))))
          have hn0 := hnd n (by omega)
          have hm : y2.toInt = ((f + n : Nat) : Int) := by rw [hy2]; omega
          have f39 : S1 39 = S 39 := funext (fun i => ho.1 39 i (by omega))
          have f40 : S1 40 = S 40 := funext (fun i => ho.1 40 i (by omega))
          have f41 : S1 41 = S 41 := funext (fun i => ho.1 41 i (by omega))
          have hst : ∀ (v : Int64) (L2 : Lo), L2 = stL L1 51 y2.toNatClampNeg v → oL L L2 ∧ L2 50 = L 50 ∧ L2 51 (f + n) = v ∧ ∀ a, a < n → L2 51 (f + a) = L1 51 (f + a) := fun v L2 e => by
            rw [i_cn hm] at e
            exact ⟨by rw [e]; exact oL_s hoL (by omega), by rw [e, stL_oth (by omega)]; exact hL50, by rw [e, stL_same], fun a ha => by rw [e, stL_ne (by omega)]⟩
          have y2n : ∀ y : Int32, y = y2 + 1 → y.toInt = (f : Int) + ((n + 1 : Nat) : Int) := fun y e => by rw [e, i_addK hm (y := 1) (by decide) (by omega) (by omega)]; omega
          have x3n : ∀ y : Int32, y = x3 + 1 → y.toInt = ((n + 1 : Nat) : Int) := fun y e => by rw [e]; exact i_p1 hx3 (by omega)
          have mem : ∀ a, a ∈ hs (P (31 + 3 * j)) n → a < n := fun a => hs_lt a
          have ho2 : ∀ S2, o51 S1 S2 → o51 S S2 := fun S2 h => o51_t ho h
          have hln := @hs_len (P (31 + 3 * j)) n
          have g0 : 0 ≤ (P (31 + 3 * j) n).toInt := by
            rcases hn0 with g | ⟨m, g⟩ | ⟨a, r, g⟩ | ⟨a, b, r, g, -⟩
            · omega
            · omega
            · omega
            · rcases g with g | g | g | g | g <;> omega
          have tst : ∀ u : Int32, (u = y4 - 10000) → u.toInt = (P (31 + 3 * j) n).toInt - 10000 := fun u e => by
            have := i_rng (P (31 + 3 * j) n)
            rw [e, e4]; exact i_subK rfl (by decide) (by omega) (by omega)
          rcases hn0 with ⟨g1, g2, g3, g4⟩ | ⟨m, g1, g2, g3, g4⟩ | ⟨a, r, g1, g2, g3, g4⟩ | ⟨a, b, r, g1, g2, g3, g4, g5⟩
          · -- a number
            have hl1 := hs_leaf (g := P (31 + 3 * j)) (n := n) (Or.inl ⟨g1, g2⟩)
            have k39 : S1 39 (f + n) = 0 := by rw [f39]; exact Int32.toInt_inj.mp g3
            have c5 : ¬ 0 ≤ y5 := fun q => by
              have := tq_le (x := (0 : Int32)) (y := y5) (a := 0) (b := (P (31 + 3 * j) n).toInt - 10000) (by decide) (by rw [e5, e4]; exact i_subK rfl (by decide) (by omega) (by omega)) q
              omega
            refine E2_ql c5 (E2_ckl (fun _ => E2_ltl (fun Lc1 ec => E2_ltl (fun y35 e35 => E2_ltl (fun y36 e36 => ?_)))))
            unfold f_X8_valueOf
            rw [i_cn hm]
            simp only [bd_ck]
            refine E2_ckr (fun _ => ?_)
            rw [if_pos k39, bd_some]
            refine E2_ltr (fun r9 e9 => E2_ltr (fun S2 es => E2_ckr (fun _ => E2_ltr (fun L2 el => E2_ltr (fun y15 e15 => ?_)))))
            obtain ⟨o1, o2, o3, o4⟩ := hst r9 L2 (by rw [el, i_cn hm])
            refine ih (n + 1) y35 y36 y15 Lc1 S2 L2 (x3n _ e36) (by rw [e35, i_addK hx2 (y := 1) (by decide) (by omega) (by omega), hl1]; simp) (y2n _ e15) (by omega) (by rw [es]; exact ho) (by rw [es]; exact h51) o1 o2 ?_
            rw [hl1]
            refine ⟨?_, ?_, vst_cg hv (fun i hi => ?_) (fun a ha => o4 a (mem a ha))⟩
            · rw [o3, ec, i_cn hx2, stL_same, e9, e4, f40, g4]
            · rw [o3, e9, f40, g4]; exact bnd_i _
            · rw [ec, i_cn hx2, stL_ne (by omega)]
          · -- a name
            have hl1 := hs_leaf (g := P (31 + 3 * j)) (n := n) (Or.inr (by omega))
            have k39 : S1 39 (f + n) = 1 := by rw [f39]; exact Int32.toInt_inj.mp g3
            have t5 : y5.toInt = 22 + m := by rw [tst y5 e5]; omega
            have c5 : 0 ≤ y5 := Int32.le_iff_toInt_le.mpr (by rw [t5]; show (0 : Int) ≤ _; omega)
            have c6 : ¬ y5 < 22 := fun q => by have := tq_lt t5 (y := (22 : Int32)) (b := 22) (by decide) q; omega
            have c7 : ¬ 28 < y5 := fun q => by have := tq_lt (x := (28 : Int32)) (a := 28) (by decide) t5 q; omega
            have t22 : (y5 - 22).toNatClampNeg = m := i_cn (by rw [i_subK t5 (y := 22) (by decide) (by omega) (by omega)]; omega)
            rw [t22]
            refine E2_pl c5 (E2_ql c6 (E2_ql c7 (E2_ckl (fun _ => E2_ckl (fun _ => E2_ltl (fun Lc1 ec => E2_ltl (fun y31 e31 => E2_ltl (fun y32 e32 => ?_))))))))
            unfold f_X8_valueOf
            rw [i_cn hm]
            simp only [bd_ck]
            refine E2_ckr (fun _ => ?_)
            have n0 : ¬ S1 39 (f + n) = 0 := by rw [k39]; decide
            rw [if_neg n0, if_pos k39]
            simp only [bd_ck]
            have t40 : (S1 40 (f + n)).toNatClampNeg = m := by rw [f40]; exact i_cn g4
            rw [t40, bd_some]
            refine E2_ckr (fun _ => E2_ltr (fun r9 e9 => E2_ltr (fun S2 es => E2_ckr (fun _ => E2_ltr (fun L2 el => E2_ltr (fun y15 e15 => ?_))))))
            obtain ⟨o1, o2, o3, o4⟩ := hst r9 L2 (by rw [el, i_cn hm])
            refine ih (n + 1) y31 y32 y15 Lc1 S2 L2 (x3n _ e32) (by rw [e31, i_addK hx2 (y := 1) (by decide) (by omega) (by omega), hl1]; simp) (y2n _ e15) (by omega) (by rw [es]; exact ho) (by rw [es]; exact h51) o1 o2 ?_
            rw [hl1]
            have r9v : r9 = (T 19 m).toInt64 := by rw [e9, hL50]; exact hn m g1
            refine ⟨?_, ?_, vst_cg hv (fun i hi => ?_) (fun a ha => o4 a (mem a ha))⟩
            · rw [o3, ec, i_cn hx2, stL_same, r9v]
            · rw [o3, r9v]; exact bnd_i _
            · rw [ec, i_cn hx2, stL_ne (by omega)]
          · -- not
            have hl1 := hs_not (g := P (31 + 3 * j)) (n := n) g1
            have k39 : S1 39 (f + n) = 2 := by rw [f39]; exact Int32.toInt_inj.mp g2
            have t5 : y5.toInt = 21 := by rw [tst y5 e5]; omega
            have c5 : 0 ≤ y5 := Int32.le_iff_toInt_le.mpr (by rw [t5]; decide)
            have c6 : y5 < 22 := Int32.lt_iff_toInt_lt.mpr (by rw [t5]; decide)
            have c7 : y5 = 21 := Int32.toInt_inj.mp (by rw [t5]; decide)
            rw [g3] at hv hx2 hl1
            obtain ⟨v1, v2, v3⟩ := hv
            simp only [List.length_cons] at hx2
            have c8 : ¬ x2 < 1 := fun q => by have := tq_lt hx2 (y := (1 : Int32)) (b := 1) (by decide) q; omega
            have rl : r.length ≤ n := by have := @hs_len (P (31 + 3 * j)) n; rw [g3] at this; simp only [List.length_cons] at this; omega
            have t1 : (x2 - 1).toNatClampNeg = r.length := i_cn (by rw [i_subK hx2 (y := 1) (by decide) (by omega) (by omega)]; omega)
            unfold fJ_X1_value_J82 fJ_X1_value_J119
            rw [t1]
            refine E2_pl c5 (E2_pl c6 (E2_pl c7 (E2_ql c8 (E2_ckl (fun _ => ?_)))))
            unfold f_X8_valueOf
            rw [i_cn hm]
            simp only [bd_ck]
            refine E2_ckr (fun _ => ?_)
            have n0 : ¬ S1 39 (f + n) = 0 := by rw [k39]; decide
            have n1 : ¬ S1 39 (f + n) = 1 := by rw [k39]; decide
            have t40 : (S1 40 (f + n)).toNatClampNeg = f + a := by rw [f40]; exact i_cn (by rw [g4]; omega)
            rw [if_neg n0, if_neg n1, t40]
            simp only [bd_ck]
            refine E2_ckr (fun _ => ?_)
            simp only [bd_lt]
            refine E2_ltr (fun y5' e5' => ?_)
            rw [if_pos k39]
            have one : ∀ (w : Int64), bnd w → E2 (ck (okI (x2 - 1) 64) (lt (stL Lc (32 + 3 * j) r.length w) fun L_25 => lt (x3 + 1) fun y26 => k x2 y26 L_25)) (bd (some (w, S1)) fun q => lt q.1 fun r9 => lt q.2 fun S_10 => ck (okI y2 64) (lt (stL L1 51 (f + n) r9) fun L_14 => lt (y2 + 1) fun y15 => k' y15 S_10 L_14)) vlQ := by
              intro w hw
              rw [bd_some]
              refine E2_ckl (fun _ => E2_ltl (fun Lc1 ec => E2_ltl (fun y26 e26 => E2_ltr (fun r9 e9 => E2_ltr (fun S2 es => E2_ckr (fun _ => E2_ltr (fun L2 el => E2_ltr (fun y15 e15 => ?_))))))))
              obtain ⟨o1, o2, o3, o4⟩ := hst r9 L2 (by rw [el, i_cn hm])
              refine ih (n + 1) x2 y26 y15 Lc1 S2 L2 (x3n _ e26) (by rw [hx2, hl1]; simp) (y2n _ e15) (by omega) (by rw [es]; exact ho) (by rw [es]; exact h51) o1 o2 ?_
              rw [hl1]
              show vst _ _ f (n :: r)
              refine ⟨?_, ?_, vst_cg v3 (fun i hi => ?_) (fun c hc => o4 c (mem c (by rw [g3]; exact List.mem_cons_of_mem _ hc)))⟩
              · rw [o3, ec, stL_same, e9]
              · rw [o3, e9]; exact hw
              · rw [ec, stL_ne (by omega)]
            have ev : Lc (32 + 3 * j) r.length = y5' := by rw [e5']; exact v1
            rw [ev]
            by_cases c9 : lg_cmp y5' 0 = 0
            · rw [if_pos c9, if_pos c9]; exact one 1 bnd_1
            · rw [if_neg c9, if_neg c9]; exact one 0 bnd_0
          · -- a sign
            have gi : ¬ lfC (P (31 + 3 * j) n).toInt ∧ 0 ≤ (P (31 + 3 * j) n).toInt ∧ ¬ (P (31 + 3 * j) n).toInt = 10021 := by
              unfold lfC
              rcases g1 with g | g | g | g | g <;> omega
            have hl1 := hs_two (g := P (31 + 3 * j)) (n := n) gi.1 gi.2.1 gi.2.2
            have t5 := tst y5 e5
            have hsg : sg2 y5.toInt (S1 39 (f + n)).toInt := by rw [t5, f39]; exact g1
            have h3 : 3 ≤ (S1 39 (f + n)).toInt := by rw [f39]; exact g2
            have c5 : 0 ≤ y5 := Int32.le_iff_toInt_le.mpr (by rw [t5]; show (0 : Int) ≤ _; rcases g1 with g | g | g | g | g <;> omega)
            have cc : y5.toInt < 22 ∧ ¬ y5.toInt = 21 ∨ 28 < y5.toInt := by rw [t5]; rcases g1 with g | g | g | g | g <;> omega
            rw [g3] at hv hx2 hl1
            obtain ⟨v1, v2, v3, v4, v5⟩ := hv
            simp only [List.length_cons] at hx2 v1
            have rl : r.length + 2 ≤ n := by have := @hs_len (P (31 + 3 * j)) n; rw [g3] at this; simp only [List.length_cons] at this; omega
            have c8 : ¬ x2 < 2 := fun q => by have := tq_lt hx2 (y := (2 : Int32)) (b := 2) (by decide) q; omega
            have fin : E2 (fJ_X1_value_J123 k j T P x2 x3 y5 Lc) (bd (f_X8_valueOf S1 L1 y2) fun q => lt q.1 fun r9 => lt q.2 fun S_10 => ck (okI y2 64) (lt (stL L1 51 y2.toNatClampNeg r9) fun L_14 => lt (y2 + 1) fun y15 => k' y15 S_10 L_14)) vlQ := by
              unfold fJ_X1_value_J123
              refine E2_ql c8 (E2_ltl (fun y11 e11 => E2_ckl (fun _ => E2_ckl (fun _ => ?_))))
              have t11 : y11.toInt = ((r.length + 1 : Nat) : Int) := by rw [e11, i_addK hx2 (y := -1) (by decide) (by omega) (by omega)]; omega
              have t10 : (y11 - 1).toNatClampNeg = r.length := i_cn (by rw [i_subK t11 (y := 1) (by decide) (by omega) (by omega)]; omega)
              rw [t10, i_cn t11, v1, v3]
              have q40 : (S1 40 (f + n)).toInt = ((f + a : Nat) : Int) := by rw [f40, g4]; omega
              have q41 : (S1 41 (f + n)).toInt = ((f + b : Nat) : Int) := by rw [f41, g5]; omega
              refine E2_bd (e_vbin hm rfl h3 q40 q41 (e_jn hsg h3 v4 v2 h51)) (fun r14 q hq => ?_)
              obtain ⟨w, S2⟩ := q
              obtain ⟨u1, u2⟩ := hq
              have u1 : o51 S1 S2 := u1
              have u2 : (S2 0 51 = 0 ∧ w = r14 ∧ bnd r14) ∨ (¬ S2 0 51 = 0 ∧ ¬ bnd r14) := u2
              refine E2_ltr (fun r9 e9 => E2_ltr (fun S3 es => E2_ckr (fun _ => E2_ltr (fun L2 el => E2_ltr (fun y15 e15 => ?_)))))
              have e9 : r9 = w := e9
              have es : S3 = S2 := es
              subst e9; subst es
              rcases u2 with ⟨w1, w2, w3⟩ | ⟨w1, w2⟩
              · have d1 : ¬ lg_cmp r14 (-1000000000000) < 0 := fun q => by have := l_clt.mp q; rw [l_mn] at this; have := w3.1; omega
                have d2 : lg_cmp r14 1000000000000 ≤ 0 := l_cle.mpr (by rw [l_mx]; exact w3.2)
                refine E2_ql d1 (E2_pl d2 (E2_ltl (fun Lc1 ec => E2_ltl (fun y20 e20 => ?_))))
                obtain ⟨o1, o2, o3, o4⟩ := hst r9 L2 (by rw [el, i_cn hm])
                refine ih (n + 1) y11 y20 y15 Lc1 S3 L2 (x3n _ e20) (by rw [t11, hl1]; simp) (y2n _ e15) (by omega) (ho2 _ u1) w1 o1 o2 ?_
                rw [hl1]
                show vst _ _ f (n :: r)
                refine ⟨?_, ?_, vst_cg v5 (fun i hi => ?_) (fun c hc => o4 c (mem c (by rw [g3]; exact List.mem_cons_of_mem _ (List.mem_cons_of_mem _ hc))))⟩
                · rw [o3, ec, stL_same, w2]
                · rw [o3, w2]; exact w3
                · rw [ec, stL_ne (by omega)]
              · by_cases d1 : lg_cmp r14 (-1000000000000) < 0
                · exact E2_pl d1 (err y15 S3 L2 Lc w1)
                · refine E2_ql d1 ?_
                  by_cases d2 : lg_cmp r14 1000000000000 ≤ 0
                  · have d1 := mt l_clt.mpr d1
                    have d2 := l_cle.mp d2
                    rw [l_mn] at d1; rw [l_mx] at d2
                    exact absurd (show bnd r14 from ⟨by omega, d2⟩) w2
                  · exact E2_ql d2 (err y15 S3 L2 Lc w1)
            have n21 : y5.toInt < 22 → ¬ y5 = 21 := fun h e => by
              rw [e] at cc
              rcases cc with c | c
              · exact c.2 (by decide)
              · exact absurd c (by decide)
            refine E2_pl c5 (E2_itl (fun c6 => ?_) (fun c6 => ?_))
            · have c6 := tq_lt (b := 22) rfl (by decide) c6
              unfold fJ_X1_value_J82
              exact E2_ql (n21 c6) fin
            · have c6 := tq_ltn (b := 22) rfl (by decide) c6
              refine E2_pl (Int32.lt_iff_toInt_lt.mpr (by show (28 : Int) < _; omega)) ?_
              unfold fJ_X1_value_J82
              refine E2_ql (fun e => ?_) fin
              rw [e] at c6
              exact absurd c6 (by decide)
  unfold f_X1_value fL_X1_value_L4 f_X8_lawOf fL_X8_lawOf_L12
  rw [i_cn hx1]
  refine E2_ltr (fun S1 e1 => E2_ckr (fun _ => E2_ltr (fun y3 e3 => ?_)))
  refine lp 2000 2000 0 0 0 y3 Lc S1 L (by decide) (show (0 : Int32).toInt = ((0 : Nat) : Int) by decide) ?_ (by omega) (by rw [e1]; exact o51_s o51_r) (by rw [e1, st_same]) oL_r rfl trivial
  rw [e3, e1, st_oth (by decide), hf]; omega
