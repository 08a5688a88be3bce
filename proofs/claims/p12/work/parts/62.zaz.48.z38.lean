/-! turned by the reference -/
def tsQ (b : Nat) (T S : Tr) (p n : Nat) (q : Int32 × Tr) : Prop := q.1.toInt = (chg (kyS S) (gOf T p) n n : Nat) ∧ (∀ j, j < n → q.2 55 (50 * b + 10 * p + rnk (kyS S) (gOf T p) n (gOf T p j)) = T 16 (10 * p + j)) ∧ ∀ a j, ¬ (a = 55 ∧ 50 * b + 10 * p ≤ j ∧ j < 50 * b + 10 * p + n) → a ≠ 74 → q.2 a j = S a j
theorem e_t113 {b p n : Nat} {T S S1 : Tr} {xb x2 x3 x4 : Int32} (hb : xb.toNatClampNeg = b) (hxb : 0 ≤ xb.toInt ∧ xb.toInt ≤ 1) (hx2 : x2.toInt = p) (p5 : p < 5) (n10 : n ≤ 10) (hx3 : x3.toInt = n) (hx4 : x4.toInt = (chg (kyS S) (gOf T p) n n : Nat)) (h74 : ∀ j, j < n → S1 74 (rnk (kyS S) (gOf T p) n (gOf T p j)) = T 16 (10 * p + j)) (hf : ∀ a j, a ≠ 74 → S1 a j = S a j) (N : Nat) : ∀ (k : Nat) (x5 : Int32) (S2 : Tr), x5.toInt = k → k ≤ n → (∀ j, j < k → S2 55 (50 * b + 10 * p + j) = S1 74 j) → (∀ a j, ¬ (a = 55 ∧ 50 * b + 10 * p ≤ j ∧ j < 50 * b + 10 * p + k) → S2 a j = S1 a j) → Ep (lpF (fun _ _ => none) (fB_X8_turns_L113 xb x2 x3 x4) N x5 S2) (tsQ b T S p n) := by
  induction N with
  | zero => intro k x5 S2 _ _ _ _; exact Ep_none
  | succ N ih =>
    intro k x5 S2 hx5 hk h1 h2
    show Ep (fB_X8_turns_L113 xb x2 x3 x4 (lpF (fun _ _ => none) (fB_X8_turns_L113 xb x2 x3 x4) N) x5 S2) _
    generalize lpF (fun _ _ => none) (fB_X8_turns_L113 xb x2 x3 x4) N = kk at ih ⊢
    unfold fB_X8_turns_L113
    refine Ep_ite (fun c => ?_) (fun c => Ep_ck (Ep_ck (Ep_lt (fun S7 e7 => Ep_lt (fun y ey => ?_)))))
    · have := tq_le hx3 hx5 c
      have e : k = n := by omega
      subst e
      refine Ep_some ⟨hx4, fun j hj => ?_, fun a j n1 n2 => (h2 a j n1).trans (hf a j n2)⟩
      have r := rnk_bd (ky := kyS S) (g := gOf T p) (n := k) hj
      exact (h1 _ r).trans (h74 j hj)
    · have lt := tq_len hx3 hx5 c
      have idx : ((((50 : Int32) * xb) + ((10 : Int32) * x2)) + x5).toNatClampNeg = 50 * b + 10 * p + k := by rw [jx3 hxb hx2 (by omega) hx5 (by omega), hb]
      rw [idx, i_cn hx5, h2 74 k (by omega)] at e7
      refine ih (k + 1) y S7 (by rw [ey]; exact i_p1 hx5 (by omega)) (by omega) (fun j hj => ?_) (fun a j n1 => ?_)
      · rcases (by omega : j < k ∨ j = k) with g | rfl
        · rw [e7, st_ne (by omega)]; exact h1 j g
        · rw [e7, st_same]
      · rw [e7, st_no (by omega)]; exact h2 a j (by omega)
theorem e_trs {b p n : Nat} {T S : Tr} {xb x2 : Int32} (hS : rI b S) (hb : xb.toNatClampNeg = b) (hxb : 0 ≤ xb.toInt ∧ xb.toInt ≤ 1) (h : plc b T S p n) (hx2 : x2.toInt = p) (h56 : S 56 (5 * b + p) = T 17 p) (h55 : ∀ k, k < n → S 55 (50 * b + 10 * p + k) = T 16 (10 * p + k)) : Ep (f_X8_turns S xb x2) (tsQ b T S p n) := by
  obtain ⟨p5, n10, h17, h16, hd⟩ := id h
  have h14 : 0 ≤ (S 0 14).toInt ∧ (S 0 14).toInt ≤ 10 := hS.1 0 14
  have j5 : (((5 : Int32) * xb) + x2).toNatClampNeg = 5 * b + p := by rw [jx 5 (by decide) (by omega) hxb hx2 (by omega), hb]
  unfold f_X8_turns
  rw [j5, h56]
  refine Ep_ck (Ep_lt (fun y2 e2 => ?_))
  have hy : y2.toInt = n := by rw [e2]; exact h17
  have lp : ∀ (N k : Nat) (x4 x5 : Int32) (S1 : Tr), x5.toInt = k → k ≤ n → x4.toInt = (chg (kyS S) (gOf T p) n k : Nat) → (∀ j, j < k → S1 74 (rnk (kyS S) (gOf T p) n (gOf T p j)) = T 16 (10 * p + j)) → (∀ a j, a ≠ 74 → S1 a j = S a j) → Ep (lpF (fun _ _ _ => none) (fB_X8_turns_L17 xb x2 y2) N x4 x5 S1) (tsQ b T S p n) := by
    intro N
    induction N with
    | zero => intro k x4 x5 S1 _ _ _ _ _; exact Ep_none
    | succ N ih =>
      intro k x4 x5 S1 hx5 hk hx4 h74 hf
      show Ep (fB_X8_turns_L17 xb x2 y2 (lpF (fun _ _ _ => none) (fB_X8_turns_L17 xb x2 y2) N) x4 x5 S1) _
      generalize lpF (fun _ _ _ => none) (fB_X8_turns_L17 xb x2 y2) N = k17 at ih ⊢
      have ky1 : ∀ x, kyS S1 x = kyS S x := fun x => by unfold kyS; rw [hf 30 x (by omega), hf 28 _ (by omega)]
      unfold fB_X8_turns_L17
      refine Ep_ite (fun c => ?_) (fun c => ?_)
      · have := tq_le hy hx5 c
        have e : k = n := by omega
        subst e
        unfold fL_X8_turns_L113
        exact e_t113 hb hxb hx2 p5 n10 hy hx4 h74 hf 2000 0 0 S1 (by decide) (by omega) (fun j hj => absurd hj (by omega)) (fun _ _ _ => rfl)
      · have lt := tq_len hy hx5 c
        have g := plc_g h (k := k) (by omega)
        refine Ep_bd (e_sat (b := b) (p := p) (k := k) (S := S1) hb hxb hx2 (by omega) hx5 (by omega)) (fun r9 h9 => ?_)
        rw [hf 55 _ (by omega), h55 k (by omega)] at h9
        have r9i : r9.toInt = gOf T p k := by rw [h9]; exact g.1
        have l39 : ∀ (M m : Nat) (x7 x8 : Int32), x8.toInt = m → m ≤ n → x7.toInt = (cnt (fun q => decide (kyS S (gOf T p k) < kyS S (gOf T p q))) m : Nat) → Ep (lpF (fun _ _ => none) (fB_X8_turns_L39 k17 S1 xb x2 y2 x4 x5 r9) M x7 x8) (tsQ b T S p n) := by
          intro M
          induction M with
          | zero => intro m x7 x8 _ _ _; exact Ep_none
          | succ M ihm =>
            intro m x7 x8 hx8 hm hx7
            show Ep (fB_X8_turns_L39 k17 S1 xb x2 y2 x4 x5 r9 (lpF (fun _ _ => none) (fB_X8_turns_L39 k17 S1 xb x2 y2 x4 x5 r9) M) x7 x8) _
            generalize lpF (fun _ _ => none) (fB_X8_turns_L39 k17 S1 xb x2 y2 x4 x5 r9) M = k39 at ihm ⊢
            have le := cnt_le (f := fun q => decide (kyS S (gOf T p k) < kyS S (gOf T p q))) (n := m)
            have ec := cnt_le (f := fun k => decide (¬ rnk (kyS S) (gOf T p) n (gOf T p k) = k)) (n := k)
            unfold fB_X8_turns_L39
            refine Ep_ite (fun d => ?_) (fun d => ?_)
            · have := tq_le hy hx8 d
              have e : m = n := by omega
              subst e
              have hx7 : x7.toInt = (rnk (kyS S) (gOf T p) m (gOf T p k) : Nat) := hx7
              have rb := rnk_bd (ky := kyS S) (g := gOf T p) (n := m) (j := k) (by omega)
              unfold fJ_X8_turns_J78
              refine Ep_ck (Ep_lt (fun S14 e14 => ?_))
              rw [i_cn hx7] at e14
              have f14 : ∀ a j, a ≠ 74 → S14 a j = S a j := fun a j ha => by rw [e14, st_oth ha]; exact hf a j ha
              have t14 : ∀ j, j < k + 1 → S14 74 (rnk (kyS S) (gOf T p) m (gOf T p j)) = T 16 (10 * p + j) := fun j hj => by
                rcases (by omega : j < k ∨ j = k) with g2 | g2
                · have gj := plc_g h (k := j) (by omega)
                  have ne : ¬ rnk (kyS S) (gOf T p) m (gOf T p j) = rnk (kyS S) (gOf T p) m (gOf T p k) := rnk_ne (by omega) (by omega) (fun e => by
                    have e2 := ky_inj (by omega) (by omega) e
                    have := hd j k (by omega) (by omega) (Int32.toInt_inj.mp (by rw [gj.1, g.1, e2]))
                    omega)
                  rw [e14, st_ne ne]; exact h74 j g2
                · subst g2; rw [e14, st_same, h9]
              have e1 := i_p1 hx5 (by omega)
              refine Ep_ite (fun q => Ep_lt (fun y18 e18 => Ep_lt (fun y19 e19 => ih (k + 1) y18 y19 S14 (by rw [e19]; exact e1) (by omega) ?_ t14 f14))) (fun q => Ep_lt (fun y16 e16 => Ep_lt (fun y17 e17 => ih (k + 1) y16 y17 S14 (by rw [e17]; exact e1) (by omega) ?_ t14 f14)))
              · have : rnk (kyS S) (gOf T p) m (gOf T p k) = k := by rw [q, hx5] at hx7; omega
                show _ = ((cnt _ k + (bif decide (¬ rnk (kyS S) (gOf T p) m (gOf T p k) = k) then 1 else 0) : Nat) : Int)
                rw [e18, Int32.add_zero, hx4, decide_eq_false (fun q => q this)]; rfl
              · have : ¬ rnk (kyS S) (gOf T p) m (gOf T p k) = k := fun e => q (Int32.toInt_inj.mp (by rw [hx7, e, hx5]))
                show _ = ((cnt _ k + (bif decide (¬ rnk (kyS S) (gOf T p) m (gOf T p k) = k) then 1 else 0) : Nat) : Int)
                rw [e16, i_p1 hx4 (by unfold chg; omega), decide_eq_true this]; rfl
            · have lt2 := tq_len hy hx8 d
              have gm := plc_g h (k := m) (by omega)
              refine Ep_bd (e_sat (b := b) (p := p) (k := m) (S := S1) hb hxb hx2 (by omega) hx8 (by omega)) (fun r20 h20 => ?_)
              rw [hf 55 _ (by omega), h55 m (by omega)] at h20
              have r20i : r20.toInt = gOf T p m := by rw [h20]; exact gm.1
              refine Ep_bd (e_blw (b := b) (S := S1) r20i r9i (by omega) (by omega)) (fun r hr => ?_)
              rw [ky1, ky1] at hr
              have e1 := i_p1 hx8 (by omega)
              rcases hr with ⟨rfl, hr⟩ | ⟨rfl, hr⟩
              · rw [if_neg (by decide)]
                refine Ep_lt (fun y29 e29 => Ep_lt (fun y30 e30 => ihm (m + 1) y29 y30 (by rw [e30]; exact e1) (by omega) ?_))
                show _ = ((cnt _ m + (bif decide (kyS S (gOf T p k) < kyS S (gOf T p m)) then 1 else 0) : Nat) : Int)
                rw [e29, i_p1 hx7 (by omega), decide_eq_true hr]; rfl
              · rw [if_pos rfl]
                refine Ep_lt (fun y27 e27 => Ep_lt (fun y28 e28 => ihm (m + 1) y27 y28 (by rw [e28]; exact e1) (by omega) ?_))
                show _ = ((cnt _ m + (bif decide (kyS S (gOf T p k) < kyS S (gOf T p m)) then 1 else 0) : Nat) : Int)
                rw [e27, Int32.add_zero, hx7, decide_eq_false hr]; rfl
        unfold fL_X8_turns_L39
        exact l39 2000 0 0 0 (by decide) (by omega) (by show (0 : Int32).toInt = ((0 : Nat) : Int); decide)
  unfold fL_X8_turns_L17
  exact lp 2000 0 0 0 S (by decide) (by omega) (by show (0 : Int32).toInt = ((0 : Nat) : Int); decide) (fun j hj => absurd hj (by omega)) (fun _ _ _ => rfl)
/-- a place of both is known -/
theorem plc_of {b p : Nat} {P T S : Tr} (hS : rI b S) (hk : stk b P T S) (hp : p < 5) : ∃ n, plc b T S p n ∧ S 56 (5 * b + p) = T 17 p ∧ ∀ k, k < n → S 55 (50 * b + 10 * p + k) = T 16 (10 * p + k) := by
  obtain ⟨k1, k2, k3⟩ := hk p hp
  have b56 := BM56 hS.1 (5 * b + p)
  obtain ⟨n, hn⟩ : ∃ n : Nat, (S 56 (5 * b + p)).toInt = n := ⟨(S 56 (5 * b + p)).toInt.toNat, by omega⟩
  refine ⟨n, ⟨hp, by omega, by rw [k1]; exact hn, fun k hk => ?_, fun k l hk hl e => ?_⟩, k1.symm, fun k hk => (k2 k (by omega)).symm⟩
  · obtain ⟨i, i1, i2, i3, _⟩ := sk_at (k := k) hS.1 hS.2.2.1 hp (by omega)
    rw [k2 k (by omega), i2]
    exact ⟨by omega, i3⟩
  · rw [k2 k (by omega), k2 l (by omega)] at e
    exact hS.2.2.1.2.2 p k l hp (by show (k : Int) < (S 56 (5 * b + p)).toInt; omega) (by show (l : Int) < (S 56 (5 * b + p)).toInt; omega) (by show (S 55 (50 * b + 10 * p + k)).toInt = (S 55 (50 * b + 10 * p + l)).toInt; rw [e])
/-- a stack turned by both -/
def tnQ (b : Nat) (P T S : Tr) (p : Nat) (q q' : Int32 × Tr) : Prop := q.1 = q'.1 ∧ 0 ≤ q.1.toInt ∧ stk b P q.2 q'.2 ∧ (∀ a j, ¬ (a = 16) → q.2 a j = T a j) ∧ (∀ a j, a ≠ 55 → a ≠ 74 → q'.2 a j = S a j) ∧ (∀ j, ¬ (50 * b + 10 * p ≤ j ∧ j < 50 * b + 10 * p + 10) → q'.2 55 j = S 55 j) ∧ ∀ j, ¬ (10 * p ≤ j ∧ j < 10 * p + 10) → q.2 16 j = T 16 j
theorem e_trn {b p : Nat} {P T S : Tr} {xb x1 : Int32} (hS : rI b S) (hK : pK P S) (hk : stk b P T S) (hb : xb.toNatClampNeg = b) (hxb : 0 ≤ xb.toInt ∧ xb.toInt ≤ 1) (hx : x1.toInt = p) (hp : p < 5) : E2 (f_X6_turnOver T P x1) (f_X8_turns S xb x1) (tnQ b P T S p) := by
  obtain ⟨n, hpl, h56, h55⟩ := plc_of hS hk hp
  obtain ⟨p5, n10, h17, h16, hd⟩ := id hpl
  refine E2_ep (e_tov hS hK hpl hx) (e_trs hS hb hxb hpl hx h56 h55) (fun q q' hq hq' => ?_)
  obtain ⟨q1, o1, o2, o3, o4⟩ := hq
  obtain ⟨r1, r2, r3⟩ := hq'
  have lev : ∀ k, k < n → q.2 16 (10 * p + k) = q'.2 55 (50 * b + 10 * p + k) := fun k hk => by
    obtain ⟨⟨j, j1, j2⟩, rk⟩ := ins_end o1 hk
    obtain ⟨j', j1', j2'⟩ := o3 k hk
    have gj := plc_g hpl j1
    have := h16 j' j1'
    have e : (q.2 16 (10 * p + k)).toInt = gOf T p j := by
      rw [← j2]; unfold gOf; rw [j2']; omega
    have r := r2 j j1
    rw [← j2, rk] at r
    rw [r]
    exact Int32.toInt_inj.mp (by rw [e, gj.1])
  refine ⟨Int32.toInt_inj.mp (by rw [q1, r1]), by rw [q1]; omega, fun p' hp' => ?_, fun a j n1 => o4 a j (by omega), fun a j n1 n2 => r3 a j (by omega) n2, fun j n1 => r3 55 j (by omega) (by omega), fun j n1 => o4 16 j (by omega)⟩
  obtain ⟨k1, k2, k3⟩ := hk p' hp'
  have f56 : q'.2 56 (5 * b + p') = S 56 (5 * b + p') := r3 56 _ (by omega) (by omega)
  have f17 : q.2 17 p' = T 17 p' := o4 17 p' (by omega)
  have f18 : q.2 18 p' = T 18 p' := o4 18 p' (by omega)
  have b56 := BM56 hS.1 (5 * b + p')
  by_cases g : p' = p
  · subst g
    refine ⟨by rw [f17, f56]; exact k1, fun k hk2 => ?_, ?_⟩
    · rw [f56, h56, h17] at hk2
      exact lev k (by omega)
    · rw [f18, f17, k3]
      have en : (T 17 p').toNatClampNeg = n := i_cn h17
      rw [en]
      have w := o1.2.2.2 (fun x => P 15 x)
      refine Eq.trans (wsm_cg (fun k hk2 => ?_)) (w.trans (wsm_cg (fun k hk2 => ?_)))
      · show P 15 (T 16 (10 * p' + k)).toNatClampNeg = P 15 (gOf T p' k)
        rfl
      · show P 15 (gOf q.2 p' k) = P 15 (q.2 16 (10 * p' + k)).toNatClampNeg
        rfl
  · refine ⟨by rw [f17, f56]; exact k1, fun k hk2 => ?_, ?_⟩
    · rw [f56] at hk2
      rw [o4 16 _ (by omega), r3 55 _ (by omega) (by omega)]
      exact k2 k hk2
    · rw [f18, f17, k3]
      refine wsm_cg (fun k hk2 => ?_)
      rw [k1, i_cl] at hk2
      unfold wgt
      rw [o4 16 _ (by omega)]
