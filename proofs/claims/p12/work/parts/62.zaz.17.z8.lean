/-! taken away -/
def rmv (g : Nat → Int32) (pos k : Nat) : Int32 := if pos ≤ k then g (k + 1) else g k
theorem wsm_rm (g : Nat → Int32) (pos : Nat) : ∀ n, pos ≤ n → wsm (rmv g pos) n + g pos = wsm g (n + 1)
  | 0, h => by
    have : pos = 0 := by omega
    subst this; rfl
  | n + 1, h => by
    by_cases c : pos ≤ n
    · have ih := wsm_rm g pos n c
      have e : wsm (rmv g pos) (n + 1) = wsm (rmv g pos) n + g (n + 1) := by
        show wsm (rmv g pos) n + rmv g pos n = _
        unfold rmv; rw [if_pos c]
      show _ = wsm g (n + 1) + g (n + 1)
      rw [e, ← ih, Int32.add_assoc, Int32.add_comm (g (n + 1)) (g pos), ← Int32.add_assoc]
    · have e : pos = n + 1 := by omega
      subst e
      show _ = wsm g (n + 1) + g (n + 1)
      rw [wsm_cg (g := rmv g (n + 1)) (g' := g) (fun k hk => by unfold rmv; rw [if_neg (by omega)])]
def tkC (P T q : Tr) (i p pos h : Nat) (c : Int32) : Prop := (∀ j, q 16 j = if 10 * p + pos ≤ j ∧ j < 10 * p + (h - 1) then T 16 (j + 1) else T 16 j) ∧ (∀ j, q 17 j = if j = p then T 17 p - 1 else T 17 j) ∧ (∀ j, q 18 j = if j = p then T 18 p - P 15 i else T 18 j) ∧ (∀ j, q 15 j = if j = i then -1 else T 15 j) ∧ (∀ j, q 14 j = if j = i then c else T 14 j) ∧ ∀ a j, ¬ (14 ≤ a ∧ a ≤ 18) → q a j = T a j
def tkZ (b : Nat) (S q : Tr) (i p pos h : Nat) (c : Int32) : Prop := (∀ j, q 55 j = if 50 * b + 10 * p + pos ≤ j ∧ j < 50 * b + 10 * p + (h - 1) then S 55 (j + 1) else S 55 j) ∧ (∀ j, q 56 j = if j = 5 * b + p then S 56 (5 * b + p) - 1 else S 56 j) ∧ (∀ j, q 54 j = if j = 10 * b + i then -1 else S 54 j) ∧ (∀ j, q 53 j = if j = 10 * b + i then c else S 53 j) ∧ ∀ a j, ¬ (53 ≤ a ∧ a ≤ 56) → q a j = S a j
theorem st_if {T : Tr} {a i j : Nat} {v : Int32} : st T a i v a j = if j = i then v else T a j := by
  split
  · rename_i e; rw [e, st_same]
  · rename_i e; rw [st_ne e]
theorem e_tkc {T P : Tr} {x1 c : Int32} {i p pos h : Nat} (hi : x1.toInt = i) (hl : (T 15 i).toInt = p) (hp : p ≤ 4) (hh : (T 17 p).toInt = h) (hlv : Ep (f_X6_level T x1) (fun q => q.toInt = pos)) (hpos : pos < h) (h10 : h ≤ 10) : Ep (f_X6_takeAway T P x1 c) (fun q => tkC P T q i p pos h c) := by
  have lp : ∀ (N n : Nat) (x4 x5 : Int32) (T1 : Tr), x4.toInt = p → x5.toInt = n → pos ≤ n → n < h → (∀ j, T1 16 j = if 10 * p + pos ≤ j ∧ j < 10 * p + n then T 16 (j + 1) else T 16 j) → (∀ a j, a ≠ 16 → T1 a j = T a j) → Ep (lpF (fun _ _ => none) (fB_X6_takeAway_L22 P x1 c x4) N x5 T1) (fun q => tkC P T q i p pos h c) := by
    intro N
    induction N with
    | zero => intro n x4 x5 T1 _ _ _ _ _ _; exact Ep_none
    | succ N ih =>
      intro n x4 x5 T1 hx4 hx5 hn1 hn2 h16 ho
      show Ep (fB_X6_takeAway_L22 P x1 c x4 (lpF (fun _ _ => none) (fB_X6_takeAway_L22 P x1 c x4) N) x5 T1) _
      have ih := fun n x5 T1 => ih n x4 x5 T1 hx4
      generalize lpF (fun _ _ => none) (fB_X6_takeAway_L22 P x1 c x4) N = k at ih ⊢
      have e17 : (T1 17 p).toInt = h := by rw [ho 17 p (by omega)]; exact hh
      have ex : (x5 + 1).toInt = ((n + 1 : Nat) : Int) := i_p1 hx5 (by omega)
      obtain ⟨y1, y2⟩ := jy hx4 hp hx5 (by omega)
      have y3 : (((x4 * 10) + x5) + 1).toNatClampNeg = 10 * p + n + 1 := i_cn (by rw [i_addK y2 (y := 1) (by decide) (by omega) (by omega)]; omega)
      unfold fB_X6_takeAway_L22 fJ_X6_takeAway_J70
      rw [i_cn hx4, i_cn hi, y1, y3]
      refine Ep_ck (Ep_ite (fun cc => ?_) (fun cc => ?_))
      · have := tq_le e17 ex cc
        have en : n = h - 1 := by omega
        refine Ep_ck (Ep_lt (fun T10 t10 => Ep_ck (Ep_lt (fun T12 t12 => Ep_lt (fun T13 t13 => Ep_lt (fun T14 t14 => Ep_some ?_))))))
        refine ⟨fun j => ?_, fun j => ?_, fun j => ?_, fun j => ?_, fun j => ?_, fun a j ha => ?_⟩
        · rw [t14, st_oth (by decide), t13, st_oth (by decide), t12, st_oth (by decide), t10, st_oth (by decide), h16 j, en]
        · rw [t14, st_oth (by decide), t13, st_oth (by decide), t12, st_oth (by decide), t10, st_if, ho 17 p (by omega), ho 17 j (by omega)]
        · rw [t14, st_oth (by decide), t13, st_oth (by decide), t12, st_if, t10, st_oth (by decide), ho 18 p (by omega), ho 18 j (by omega)]
        · rw [t14, st_oth (by decide), t13, st_if, t12, st_oth (by decide), t10, st_oth (by decide), ho 15 j (by omega)]
        · rw [t14, st_if, t13, st_oth (by decide), t12, st_oth (by decide), t10, st_oth (by decide), ho 14 j (by omega)]
        · rw [t14, st_oth (by omega), t13, st_oth (by omega), t12, st_oth (by omega), t10, st_oth (by omega), ho a j (by omega)]
      · have := tq_len e17 ex cc
        refine Ep_ck (Ep_ck (Ep_lt (fun T2 t2 => Ep_lt (fun y ey => ih (n + 1) y T2 (by rw [ey]; exact ex) (by omega) (by omega) (fun j => ?_) (fun a j ha => by rw [t2, st_oth ha, ho a j ha])))))
        rw [t2, st_if, h16 j, h16 (10 * p + n + 1), if_neg (by omega : ¬ (10 * p + pos ≤ 10 * p + n + 1 ∧ 10 * p + n + 1 < 10 * p + n))]
        by_cases g : j = 10 * p + n
        · rw [if_pos g, if_pos (by omega), g]
        · rw [if_neg g]
          by_cases g2 : 10 * p + pos ≤ j ∧ j < 10 * p + n
          · rw [if_pos g2, if_pos (by omega)]
          · rw [if_neg g2, if_neg (by omega)]
  unfold f_X6_takeAway fL_X6_takeAway_L22
  refine Ep_bd hlv (fun r1 h1 => Ep_ite (fun _ => Ep_ck (Ep_lt (fun y6 e6 => ?_))) (fun cc => ?_))
  · refine lp 2000 pos y6 r1 T (by rw [e6, i_cn hi]; exact hl) h1 (Nat.le_refl _) hpos (fun j => ?_) (fun _ _ _ => rfl)
    rw [if_neg (by omega)]
  · have := tq_len (x := (0 : Int32)) (a := 0) (by decide) h1 cc
    omega
theorem e_tks {b : Nat} {S : Tr} {xb x1 c : Int32} {i p pos h : Nat} (hb : xb.toNatClampNeg = b) (hxb : 0 ≤ xb.toInt ∧ xb.toInt ≤ 1) (hi : x1.toInt = i) (hi9 : i ≤ 9) (hl : (S 54 (10 * b + i)).toInt = p) (hp : p ≤ 4) (hh : (S 56 (5 * b + p)).toInt = h) (hlv : Ep (f_X8_belowOf S xb x1) (fun q => q.toInt = pos)) (hpos : pos < h) (h10 : h ≤ 10) : Ep (f_X8_takes S xb x1 c) (fun q => tkZ b S q i p pos h c) := by
  have j10 : (((10 : Int32) * xb) + x1).toNatClampNeg = 10 * b + i := by rw [jx 10 (by decide) (by omega) hxb hi (by omega), hb]
  have lp : ∀ (N n : Nat) (x4 x5 : Int32) (T1 : Tr), x4.toInt = p → x5.toInt = n → pos ≤ n → n ≤ h - 1 → (∀ j, T1 55 j = if 50 * b + 10 * p + pos ≤ j ∧ j < 50 * b + 10 * p + n then S 55 (j + 1) else S 55 j) → (∀ j, T1 56 j = if j = 5 * b + p then S 56 (5 * b + p) - 1 else S 56 j) → (∀ a j, a ≠ 55 → a ≠ 56 → T1 a j = S a j) → Ep (lpF (fun _ _ => none) (fB_X8_takes_L36 xb x1 c x4) N x5 T1) (fun q => tkZ b S q i p pos h c) := by
    intro N
    induction N with
    | zero => intro n x4 x5 T1 _ _ _ _ _ _ _; exact Ep_none
    | succ N ih =>
      intro n x4 x5 T1 hx4 hx5 hn1 hn2 h55 h56 ho
      show Ep (fB_X8_takes_L36 xb x1 c x4 (lpF (fun _ _ => none) (fB_X8_takes_L36 xb x1 c x4) N) x5 T1) _
      have ih := fun n x5 T1 => ih n x4 x5 T1 hx4
      generalize lpF (fun _ _ => none) (fB_X8_takes_L36 xb x1 c x4) N = k at ih ⊢
      have j5 : (((5 : Int32) * xb) + x4).toNatClampNeg = 5 * b + p := by rw [jx 5 (by decide) (by omega) hxb hx4 (by omega), hb]
      have e56 : (T1 56 (5 * b + p)).toInt = ((h - 1 : Nat) : Int) := by rw [h56, if_pos rfl, i_subK hh (y := 1) (by decide) (by omega) (by omega)]; omega
      have y1 : ((((50 : Int32) * xb) + ((10 : Int32) * x4)) + x5).toNatClampNeg = 50 * b + 10 * p + n := by rw [jx3 hxb hx4 hp hx5 (by omega), hb]
      have b1 := i_cl (i := xb)
      have y2 : ((((50 : Int32) * xb) + ((10 : Int32) * x4)) + x5).toInt = 50 * (b : Int) + 10 * p + n := by
        rw [(ix2 hxb (y := x4) (z := x5) ⟨by omega, by omega⟩ ⟨by omega, by omega⟩).1, hx4, hx5]; omega
      have y3 : (((((50 : Int32) * xb) + ((10 : Int32) * x4)) + x5) + 1).toNatClampNeg = 50 * b + 10 * p + n + 1 := i_cn (by rw [i_addK y2 (y := 1) (by decide) (by omega) (by omega)]; omega)
      unfold fB_X8_takes_L36 fJ_X8_takes_J96
      rw [j5, j10, y1, y3]
      refine Ep_ck (Ep_ite (fun cc => ?_) (fun cc => ?_))
      · have := tq_le e56 hx5 cc
        have en : n = h - 1 := by omega
        refine Ep_ck (Ep_lt (fun T2 t2 => Ep_lt (fun T3 t3 => Ep_some ?_)))
        refine ⟨fun j => ?_, fun j => ?_, fun j => ?_, fun j => ?_, fun a j ha => ?_⟩
        · rw [t3, st_oth (by decide), t2, st_oth (by decide), h55 j, en]
        · rw [t3, st_oth (by decide), t2, st_oth (by decide), h56 j]
        · rw [t3, st_oth (by decide), t2, st_if, ho 54 j (by omega) (by omega)]
        · rw [t3, st_if, t2, st_oth (by decide), ho 53 j (by omega) (by omega)]
        · rw [t3, st_oth (by omega), t2, st_oth (by omega), ho a j (by omega) (by omega)]
      · have := tq_len e56 hx5 cc
        refine Ep_ck (Ep_ck (Ep_lt (fun T2 t2 => Ep_lt (fun y ey => ih (n + 1) y T2 (by rw [ey]; exact i_p1 hx5 (by omega)) (by omega) (by omega) (fun j => ?_) (fun j => by rw [t2, st_oth (by decide), h56 j]) (fun a j ha ha2 => by rw [t2, st_oth ha, ho a j ha ha2])))))
        rw [t2, st_if, h55 j, h55 (50 * b + 10 * p + n + 1), if_neg (by omega : ¬ (50 * b + 10 * p + pos ≤ 50 * b + 10 * p + n + 1 ∧ 50 * b + 10 * p + n + 1 < 50 * b + 10 * p + n))]
        by_cases g : j = 50 * b + 10 * p + n
        · rw [if_pos g, if_pos (by omega), g]
        · rw [if_neg g]
          by_cases g2 : 50 * b + 10 * p + pos ≤ j ∧ j < 50 * b + 10 * p + n
          · rw [if_pos g2, if_pos (by omega)]
          · rw [if_neg g2, if_neg (by omega)]
  unfold f_X8_takes fL_X8_takes_L36
  rw [j10]
  refine Ep_ck (Ep_lt (fun y2 e2 => Ep_bd hlv (fun r3 h3 => ?_)))
  have hy2 : y2.toInt = p := by rw [e2]; exact hl
  have j5 : (((5 : Int32) * xb) + y2).toNatClampNeg = 5 * b + p := by rw [jx 5 (by decide) (by omega) hxb hy2 (by omega), hb]
  rw [j5]
  refine Ep_ck (Ep_lt (fun S7 s7 => lp 2000 pos y2 r3 S7 hy2 h3 (Nat.le_refl _) (by omega) (fun j => ?_) (fun j => by rw [s7, st_if]) (fun a j ha ha2 => by rw [s7, st_oth ha2])))
  rw [if_neg (by omega), s7, st_oth (by decide)]
/-- side by side -/
theorem dyn_take {b i p pos h : Nat} {P T S T1 S1 : Tr} {c : Int32} (hd : dyn b P T S) (hS : iR BM S) (ha : at2 b T S i p pos) (hi9 : i ≤ 9) (hh : (S 56 (5 * b + p)).toInt = h) (h1 : tkC P T T1 i p pos h c) (h2 : tkZ b S S1 i p pos h c) : dyn b P T1 S1 := by
  obtain ⟨d1, d2, d3, d4, d5⟩ := hd
  obtain ⟨c1, c2, c3, c4, c5, c6⟩ := h1
  obtain ⟨s1, s2, s3, s4, s5⟩ := h2
  obtain ⟨a1, a2, a3, a4, a5, a6, a7, a8, a9, a10⟩ := ha
  refine ⟨by rw [c6 0 0 (by omega), s5 62 _ (by omega)]; exact d1, by rw [c6 0 1 (by omega), s5 61 _ (by omega)]; exact d2, fun q hq => ?_, fun q hq => ?_, fun q hq => ?_⟩
  · rw [s5 0 13 (by omega)] at hq
    rw [c6 11 q (by omega), c6 12 q (by omega), s5 59 _ (by omega), s5 60 _ (by omega)]; exact d3 q hq
  · rw [s5 0 14 (by omega)] at hq
    rw [c5, c4, s4, s3]
    by_cases g : q = i
    · rw [if_pos g, if_pos g, if_pos (by omega), if_pos (by omega)]; exact ⟨rfl, rfl⟩
    · rw [if_neg g, if_neg g, if_neg (by omega), if_neg (by omega)]; exact d4 q hq
  · by_cases g : q = p
    · subst g
      obtain ⟨k1, k2, k3⟩ := d5 q hq
      have en : (T1 17 q).toInt = ((h - 1 : Nat) : Int) := by rw [c2, if_pos rfl, k1, i_subK hh (y := 1) (by decide) (by omega) (by omega)]; omega
      have e7 : T1 17 q = S1 56 (5 * b + q) := by rw [c2, if_pos rfl, s2, if_pos rfl, k1]
      refine ⟨e7, fun k hk => ?_, ?_⟩
      · rw [← e7, en] at hk
        rw [c1, s1]
        by_cases g2 : pos ≤ k
        · rw [if_pos (by omega), if_pos (by omega)]
          have := k2 (k + 1) (by omega)
          rw [show 10 * q + k + 1 = 10 * q + (k + 1) by omega, show 50 * b + 10 * q + k + 1 = 50 * b + 10 * q + (k + 1) by omega]; exact this
        · rw [if_neg (by omega), if_neg (by omega)]; exact k2 k (by omega)
      · rw [i_cn en, c3, if_pos rfl, k3, i_cn (x := T 17 q) (n := h) (by rw [k1]; exact hh)]
        obtain ⟨m, rfl⟩ : ∃ m, h = m + 1 := ⟨h - 1, by omega⟩
        have ew : wgt P T q pos = P 15 i := by unfold wgt; rw [i_cn a8]
        rw [← wsm_rm (wgt P T q) pos m (by omega), ew, Int32.add_sub_cancel, show m + 1 - 1 = m by omega]
        refine wsm_cg (fun k hk => ?_)
        unfold rmv wgt
        rw [c1]
        by_cases g2 : pos ≤ k
        · rw [if_pos g2, if_pos (by omega), show 10 * q + (k + 1) = 10 * q + k + 1 by omega]
        · rw [if_neg g2, if_neg (by omega)]
    · refine stk1_o (d5 q hq) (fun j j1 j2 => ?_) ?_ ?_ (fun j j1 j2 => ?_) ?_ (BM56 hS _)
      · rw [c1, if_neg (by omega)]
      · rw [c2, if_neg g]
      · rw [c3, if_neg g]
      · rw [s1, if_neg (by omega)]
      · rw [s2, if_neg (by omega)]
theorem Wb_M {b a j : Nat} (h : Mb b a j = false) (h1 : ¬ (a = 0 ∧ (j = 2 ∨ (64 ≤ j ∧ j ≤ 70)))) (h2 : ¬ (a = 57 ∨ a = 58 ∨ a = 72 ∨ a = 75 ∨ a = 76 ∨ a = 77 ∨ a = 78 ∨ a = 82)) : Wb b a j = false := by
  cases hw : Wb b a j with
  | false => rfl
  | true =>
    exfalso
    unfold Wb at hw
    simp only [Bool.or_eq_true, Bool.and_eq_true, Nat.beq_eq] at hw
    rcases hw with (((((hw | ⟨g | g, hi⟩) | ⟨g, hi⟩) | ⟨g, hi⟩) | ⟨((g | g) | g) | g, hi⟩) | ⟨(g | g) | g, hi⟩)
    · unfold Wt at hw
      by_cases ha : a = 0
      · subst ha
        simp only [Nat.beq_refl, cond_true, Bool.or_eq_true, Nat.beq_eq] at hw
        have : j = 51 ∨ j = 72 := by omega
        rcases this with rfl | rfl <;> (unfold Mb at h; simp at h)
      · have e0 : Nat.beq a 0 = false := (by rw [← Bool.not_eq_true]; intro q; exact ha (Nat.eq_of_beq_eq_true q))
        rw [e0, cond_false] at hw
        simp only [Bool.or_eq_true, Nat.beq_eq] at hw
        have : a = 74 := by omega
        subst this
        unfold Mb at h; simp at h
    · subst g; rw [Mb_53 hi] at h; cases h
    · subst g; rw [Mb_54 hi] at h; cases h
    · subst g; rw [Mb_55 hi] at h; cases h
    · subst g; rw [Mb_56 hi] at h; cases h
    · omega
    · omega
    · subst g; rw [Mb_59 hi] at h; cases h
    · subst g; rw [Mb_60 hi] at h; cases h
    · subst g; unfold Mb at h; rw [hi] at h; simp at h
    · subst g; unfold Mb at h; rw [hi] at h; simp at h
    · subst g; unfold Mb at h; rw [hi] at h; simp at h
/-- what the moves leave of what is told for a trial -/
def fx (S S1 : Tr) : Prop := (∀ j, j = 2 ∨ (64 ≤ j ∧ j ≤ 70) → S1 0 j = S 0 j) ∧ ∀ a j, (a = 57 ∨ a = 58 ∨ a = 72 ∨ a = 75 ∨ a = 76 ∨ a = 77 ∨ a = 78 ∨ a = 82) → S1 a j = S a j
theorem aM_fx {b : Nat} {S S1 : Tr} (h : aG b S S1) (f : fx S S1) : aM b S S1 := fun a j hm => by
  by_cases h1 : a = 0 ∧ (j = 2 ∨ (64 ≤ j ∧ j ≤ 70))
  · obtain ⟨rfl, h1⟩ := h1; exact f.1 j h1
  · by_cases h2 : a = 57 ∨ a = 58 ∨ a = 72 ∨ a = 75 ∨ a = 76 ∨ a = 77 ∨ a = 78 ∨ a = 82
    · exact f.2 a j h2
    · exact h a j (Wb_M hm h1 h2)
