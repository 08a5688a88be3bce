/-! levels, what lies above, weights, room -/
theorem e_lvl {T : Tr} {x1 : Int32} {i p h pos : Nat} (hi : x1.toInt = i) (hl : (T 15 i).toInt = p) (hp : p ≤ 4) (hh : (T 17 p).toInt = h) (h10 : h ≤ 10) (hpos : pos < h) (hs : T 16 (10 * p + pos) = x1) (hu : ∀ k, k < h → T 16 (10 * p + k) = x1 → k = pos) : Ep (f_X6_level T x1) (fun q => q.toInt = pos) := by
  have lp : ∀ (N n : Nat) (y x3 : Int32), y.toInt = p → x3.toInt = n → n ≤ pos → Ep (lpF (fun _ => none) (fB_X6_level_L13 T x1 y) N x3) (fun q => q.toInt = pos) := by
    intro N
    induction N with
    | zero => intro n y x3 _ _ _; exact Ep_none
    | succ N ih =>
      intro n y x3 hy hn hnp
      show Ep (fB_X6_level_L13 T x1 y (lpF (fun _ => none) (fB_X6_level_L13 T x1 y) N) x3) _
      have ih := fun n x3 => ih n y x3 hy
      generalize lpF (fun _ => none) (fB_X6_level_L13 T x1 y) N = k at ih ⊢
      unfold fB_X6_level_L13
      rw [i_cn hy, (jy hy hp hn (by omega)).1]
      refine Ep_ck (Ep_ite (fun c => ?_) (fun _ => Ep_ck (Ep_ite (fun c => Ep_some ?_) (fun c => Ep_lt (fun y4 e4 => ih (n + 1) y4 (by rw [e4]; exact i_p1 hn (by omega)) ?_)))))
      · have := tq_le hh hn c
        omega
      · rw [hn, hu n (by omega) c]
      · by_cases g : n = pos
        · exact absurd (by rw [g]; exact hs) c
        · omega
  unfold f_X6_level fL_X6_level_L13
  rw [i_cn hi]
  refine Ep_ck (Ep_lt (fun y2 e2 => Ep_ite (fun c => ?_) (fun _ => lp 2000 0 y2 0 (by rw [e2]; exact hl) (by decide) (by omega))))
  have := tq_lt (x := y2) (y := (0 : Int32)) (a := (p : Int)) (b := 0) (by rw [e2]; exact hl) (by decide) c
  omega
theorem e_lvn {T : Tr} {x1 : Int32} {i : Nat} (hi : x1.toInt = i) (hl : (T 15 i).toInt < 0) : Ep (f_X6_level T x1) (fun q => q = -1) := by
  unfold f_X6_level
  rw [i_cn hi]
  refine Ep_ck (Ep_lt (fun y2 e2 => Ep_ite (fun _ => Ep_some rfl) (fun c => ?_)))
  have := tq_ltn (x := y2) (y := (0 : Int32)) (b := 0) (by rw [e2]) (by decide) c
  omega
/-- where a piece of both lies -/
def at2 (b : Nat) (T S : Tr) (i p pos : Nat) : Prop := (T 15 i).toInt = p ∧ p ≤ 4 ∧ T 15 i = S 54 (10 * b + i) ∧ T 17 p = S 56 (5 * b + p) ∧ (pos : Int) < (S 56 (5 * b + p)).toInt ∧ pos ≤ 9 ∧ (S 56 (5 * b + p)).toInt ≤ 10 ∧ (T 16 (10 * p + pos)).toInt = i ∧ (∀ k : Nat, (k : Int) < (S 56 (5 * b + p)).toInt → T 16 (10 * p + k) = S 55 (50 * b + 10 * p + k)) ∧ ∀ k : Nat, (k : Int) < (S 56 (5 * b + p)).toInt → (T 16 (10 * p + k)).toInt = i → k = pos
theorem at2_of {b i : Nat} {P T S : Tr} (hS : iR BM S) (hg : gS b S) (hd : pcs b T S) (hk : stk b P T S) (hi : (i : Int) < (S 0 14).toInt) (hl : 0 ≤ (S 54 (10 * b + i)).toInt) : ∃ p pos, at2 b T S i p pos := by
  have h14 : (S 0 14).toInt ≤ 10 := (hS 0 14).2
  obtain ⟨p, pos, h1, h2, h3, h4, h5, h6⟩ := wh hS hg (i := i) (by omega) hl
  obtain ⟨k1, k2, k3⟩ := hk p h1
  have e := (hd i hi).2
  have m := BM56 hS (5 * b + p)
  refine ⟨p, pos, by rw [e]; exact h2, by omega, e, k1, h3, h6, m.2, by rw [k2 pos h3]; exact h4, fun k hk => k2 k hk, fun k hk h => h5 k hk (by rw [← k2 k hk]; exact h)⟩
theorem at_lvl {b i p pos : Nat} {T S : Tr} {x1 : Int32} (h : at2 b T S i p pos) (hi : x1.toInt = i) : Ep (f_X6_level T x1) (fun q => q.toInt = pos) := by
  obtain ⟨h1, h2, h3, h4, h5, h6, h7, h8, h9, h10⟩ := h
  refine e_lvl (h := (S 56 (5 * b + p)).toInt.toNat) hi h1 h2 (by rw [h4]; omega) (by omega) (by omega) (Int32.toInt_inj.mp (h8.trans hi.symm)) (fun k hk hx => h10 k (by omega) (by rw [hx]; exact hi))
theorem at_bel {b i p pos : Nat} {T S : Tr} {xb x1 : Int32} (h : at2 b T S i p pos) (hb : xb.toNatClampNeg = b) (hxb : 0 ≤ xb.toInt ∧ xb.toInt ≤ 1) (hS : iR BM S) (hg : gS b S) (hi : x1.toInt = i) (hi9 : i ≤ 9) : Ep (f_X8_belowOf S xb x1) (fun q => q.toInt = pos) := by
  obtain ⟨h1, h2, h3, h4, h5, h6, h7, h8, h9, h10⟩ := h
  have j10 : (((10 : Int32) * xb) + x1).toNatClampNeg = 10 * b + i := by rw [jx 10 (by decide) (by omega) hxb hi (by omega), hb]
  have hly : (S 54 (((10 : Int32) * xb) + x1).toNatClampNeg).toInt = p := by rw [j10, ← h3]; exact h1
  have j5 : (((5 : Int32) * xb) + (S 54 (((10 : Int32) * xb) + x1).toNatClampNeg)).toNatClampNeg = 5 * b + p := by rw [jx 5 (by decide) (by omega) hxb hly (by omega), hb]
  refine Ep_mono (D_to (t_X8_belowOf S xb x1 hS hxb ⟨by omega, by omega⟩ (by rw [hb]; exact hg) (by omega))) (fun q hq => ?_)
  obtain ⟨q0, q1, q2⟩ := hq
  rw [j5] at q1
  obtain ⟨k, hk⟩ : ∃ k : Nat, q.toInt = k := ⟨q.toInt.toNat, by omega⟩
  rw [hb, i_cn hly, i_cn hk] at q2
  have := h10 k (by omega) (by rw [h9 k (by omega), q2]; exact hi)
  omega
theorem e_abv {b i p pos : Nat} {T S : Tr} {xb x1 : Int32} (h : at2 b T S i p pos) (hb : xb.toNatClampNeg = b) (hxb : 0 ≤ xb.toInt ∧ xb.toInt ≤ 1) (hS : iR BM S) (hg : gS b S) (hi : x1.toInt = i) (hi9 : i ≤ 9) : Ep (f_X6_above T x1) (fun q => q.toInt = (S 56 (5 * b + p)).toInt - 1 - pos) ∧ Ep (f_X8_aboveOf S xb x1) (fun q => q.toInt = (S 56 (5 * b + p)).toInt - 1 - pos) := by
  have h' := h
  obtain ⟨h1, h2, h3, h4, h5, h6, h7, h8, h9, h10⟩ := h
  constructor
  · unfold f_X6_above
    rw [i_cn hi]
    refine Ep_ck (Ep_lt (fun y2 e2 => ?_))
    have hy : y2.toInt = p := by rw [e2]; exact h1
    refine Ep_ite (fun _ => Ep_ck (Ep_bd (at_lvl h' hi) (fun r hr => Ep_some ?_))) (fun c => ?_)
    · rw [i_cn hy, h4]
      rw [i_subK (x := (S 56 (5 * b + p)).toInt - 1) (i_subK rfl (by decide) (by omega) (by omega)) hr (by omega) (by omega)]
    · have := tq_len (y := y2) (x := (0 : Int32)) (a := 0) (by decide) hy c
      omega
  · have j10 : (((10 : Int32) * xb) + x1).toNatClampNeg = 10 * b + i := by rw [jx 10 (by decide) (by omega) hxb hi (by omega), hb]
    have hly : (S 54 (10 * b + i)).toInt = p := by rw [← h3]; exact h1
    have j5 : (((5 : Int32) * xb) + (S 54 (10 * b + i))).toNatClampNeg = 5 * b + p := by rw [jx 5 (by decide) (by omega) hxb hly (by omega), hb]
    unfold f_X8_aboveOf
    rw [j10, j5]
    refine Ep_ck (Ep_ite (fun _ => Ep_ck (Ep_bd (at_bel h' hb hxb hS hg hi hi9) (fun r hr => Ep_some ?_))) (fun c => ?_))
    · rw [i_subK (x := (S 56 (5 * b + p)).toInt - 1) (i_subK rfl (by decide) (by omega) (by omega)) hr (by omega) (by omega)]
    · have := tq_len (x := (0 : Int32)) (a := 0) (by decide) hly c
      omega
theorem e_ab0 {T : Tr} {x1 : Int32} {i : Nat} (hi : x1.toInt = i) (hl : (T 15 i).toInt < 0) : Ep (f_X6_above T x1) (fun q => q = 0) := by
  unfold f_X6_above
  rw [i_cn hi]
  refine Ep_ck (Ep_lt (fun y2 e2 => Ep_ite (fun c => ?_) (fun _ => Ep_some rfl)))
  have := tq_le (x := (0 : Int32)) (y := y2) (a := 0) (by decide) (by rw [e2]) c
  omega
theorem e_ab1 {b i : Nat} {S : Tr} {xb x1 : Int32} (hb : xb.toNatClampNeg = b) (hxb : 0 ≤ xb.toInt ∧ xb.toInt ≤ 1) (hi : x1.toInt = i) (hi9 : i ≤ 9) (hl : (S 54 (10 * b + i)).toInt < 0) : Ep (f_X8_aboveOf S xb x1) (fun q => q = 0) := by
  have j10 : (((10 : Int32) * xb) + x1).toNatClampNeg = 10 * b + i := by rw [jx 10 (by decide) (by omega) hxb hi (by omega), hb]
  unfold f_X8_aboveOf
  rw [j10]
  refine Ep_ck (Ep_ite (fun c => ?_) (fun _ => Ep_some rfl))
  have := tq_le (x := (0 : Int32)) (a := 0) (by decide) rfl c
  omega
theorem e_sat {b p k : Nat} {S : Tr} {xb x2 x3 : Int32} (hb : xb.toNatClampNeg = b) (hxb : 0 ≤ xb.toInt ∧ xb.toInt ≤ 1) (hp : x2.toInt = p) (hp4 : p ≤ 4) (hk : x3.toInt = k) (hk1 : k ≤ 1000) : Ep (f_X8_stackAt S xb x2 x3) (fun q => q = S 55 (50 * b + 10 * p + k)) := by
  unfold f_X8_stackAt
  rw [jx3 hxb hp hp4 hk hk1, hb]
  exact Ep_ck (Ep_some rfl)
/-- weights -/
theorem e_wgt {b p : Nat} {P T S : Tr} {xb x2 : Int32} (hb : xb.toNatClampNeg = b) (hxb : 0 ≤ xb.toInt ∧ xb.toInt ≤ 1) (hp : x2.toInt = p) (hp4 : p ≤ 4) (hS : iR BM S) (hg : gS b S) (hP : pKi P S) (hk : stk1 b P T S p) : Ep (f_X8_weightIn S xb x2) (fun q => q = T 18 p) := by
  obtain ⟨k1, k2, k3⟩ := hk
  have m := BM56 hS (5 * b + p)
  obtain ⟨h, hh⟩ : ∃ h : Nat, (S 56 (5 * b + p)).toInt = h := ⟨(S 56 (5 * b + p)).toInt.toNat, by omega⟩
  have j5 : (((5 : Int32) * xb) + x2).toNatClampNeg = 5 * b + p := by rw [jx 5 (by decide) (by omega) hxb hp (by omega), hb]
  have lp : ∀ (N n : Nat) (x3 x4 : Int32), x3 = wsm (wgt P T p) n → x4.toInt = n → n ≤ h → Ep (lpF (fun _ _ => none) (fB_X8_weightIn_L5 S xb x2) N x3 x4) (fun q => q = T 18 p) := by
    intro N
    induction N with
    | zero => intro n x3 x4 _ _ _; exact Ep_none
    | succ N ih =>
      intro n x3 x4 h3 h4 hn
      show Ep (fB_X8_weightIn_L5 S xb x2 (lpF (fun _ _ => none) (fB_X8_weightIn_L5 S xb x2) N) x3 x4) _
      generalize lpF (fun _ _ => none) (fB_X8_weightIn_L5 S xb x2) N = k at ih ⊢
      unfold fB_X8_weightIn_L5
      rw [j5]
      refine Ep_ck (Ep_ite (fun c => Ep_some ?_) (fun c => ?_))
      · have := tq_le hh h4 c
        rw [h3, k3, k1, i_cn hh, show n = h by omega]
      · have c := tq_len hh h4 c
        refine Ep_bd (e_sat hb hxb hp hp4 h4 (by omega)) (fun r hr => Ep_ck (Ep_lt (fun y7 e7 => Ep_lt (fun y8 e8 => ih (n + 1) y7 y8 ?_ (by rw [e8]; exact i_p1 h4 (by omega)) (by omega)))))
        obtain ⟨i, i1, i2, i3, i4⟩ := sk_at hS hg (show p < 5 by omega) (show (n : Int) < (S 56 (5 * b + p)).toInt by omega)
        rw [e7, h3, hr]
        show _ = wsm (wgt P T p) n + wgt P T p n
        unfold wgt
        rw [k2 n (by omega), i_cn i2, (hP i i3).2.1]
  exact lp 2000 0 0 0 rfl (by decide) (by omega)
theorem e_room {b p i : Nat} {P T S : Tr} {xb x2 x3 : Int32} (hb : xb.toNatClampNeg = b) (hxb : 0 ≤ xb.toInt ∧ xb.toInt ≤ 1) (hp : x2.toInt = p) (hS : iR BM S) (hg : gS b S) (hP : pK P S) (hk : stk b P T S) (hpp : (p : Int) < (S 0 12).toInt) (hi : x3.toInt = i) (hii : (i : Int) < (S 0 14).toInt) : E2 (f_X6_hasRoom T P x2 x3) (f_X8_doesHold S xb x2 x3) (fun q q' => q = q' ∧ (q' = 0 ∨ q' = 1)) := by
  have h12 : (S 0 12).toInt ≤ 5 := (hS 0 12).2
  unfold f_X6_hasRoom f_X8_doesHold
  rw [i_cn hp, i_cn hi]
  obtain ⟨a1, a2⟩ := hP.2.1 p hpp
  obtain ⟨-, w1, -⟩ := hP.2.2.2.1 i hii
  refine E2_ckl (fun _ => E2_ckl (fun _ => E2_br (e_wgt hb hxb hp (by omega) hS hg hP.2.2.2.1 (hk p (by omega))) (fun r hr => E2_ckr (fun _ => E2_ckr (fun _ => ?_)))))
  rw [hr, a2, w1]
  exact E2_it Iff.rfl (fun _ _ => E2_some ⟨rfl, Or.inl rfl⟩) (fun _ _ => E2_some ⟨rfl, Or.inr rfl⟩)
