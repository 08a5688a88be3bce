/-! taken away and laid down: one train of each stays with the other -/
theorem fx_r {S : Tr} : fx S S := ⟨fun _ _ => rfl, fun _ _ _ => rfl⟩
theorem fx_t {S T U : Tr} (h1 : fx S T) (h2 : fx T U) : fx S U := ⟨fun j hj => (h2.1 j hj).trans (h1.1 j hj), fun a j ha => (h2.2 a j ha).trans (h1.2 a j ha)⟩
theorem fx_s {S T : Tr} {a i : Nat} {v : Int32} (h : fx S T) (h1 : ¬ (a = 0 ∧ (i = 2 ∨ (64 ≤ i ∧ i ≤ 70)))) (h2 : ¬ (a = 57 ∨ a = 58 ∨ a = 72 ∨ a = 75 ∨ a = 76 ∨ a = 77 ∨ a = 78 ∨ a = 82)) : fx S (st T a i v) := ⟨fun j hj => by rw [st_no (by omega)]; exact h.1 j hj, fun c j hc => by rw [st_no (by omega)]; exact h.2 c j hc⟩
theorem fx_z {b i p pos h : Nat} {S S1 : Tr} {c : Int32} (t : tkZ b S S1 i p pos h c) : fx S S1 := ⟨fun j _ => t.2.2.2.2 0 j (by omega), fun a j ha => t.2.2.2.2 a j (by omega)⟩
theorem cM_of {T T1 : Tr} (h : ∀ a j, ¬ (14 ≤ a ∧ a ≤ 18) → T1 a j = T a j) : cM T T1 := fun a j hm => h a j (fun q => by
  have : a = 14 ∨ a = 15 ∨ a = 16 ∨ a = 17 ∨ a = 18 := by omega
  rcases this with rfl | rfl | rfl | rfl | rfl <;> (simp [Mc] at hm))
theorem inv_take {b i p pos h : Nat} {S S1 : Tr} {c : Int32} (hv : inv b S) (hS : iR BM S) (hs : tkZ b S S1 i p pos h c) (h1 : S 53 (10 * b + i) = 1) (hc : ¬ c = 1) : inv b S1 := by
  obtain ⟨s1, s2, s3, s4, s5⟩ := hs
  refine ⟨fun q hq => ?_, fun q hq => ?_⟩
  · rw [s5 0 14 (by omega)] at hq
    obtain ⟨v1, v2, v3⟩ := hv.1 q hq
    rw [s4, s5 30 _ (by omega), s5 59 _ (by omega), s3, s5 0 12 (by omega)]
    by_cases g : q = i
    · subst g
      rw [if_pos rfl, if_pos rfl]
      refine ⟨fun e => absurd e hc, fun e => ?_, ?_⟩
      · rw [v1 h1] at e; exact absurd e (by decide)
      · have := BM54 hS (10 * b + q)
        show (-1 : Int) < _
        omega
    · rw [if_neg (by omega), if_neg (by omega)]; exact ⟨v1, v2, v3⟩
  · rw [s5 0 13 (by omega)] at hq
    rw [s5 59 _ (by omega), s5 57 _ (by omega)]; exact hv.2 q hq
def tkQ2 (b : Nat) (P T S : Tr) (i : Nat) (c : Int32) (T1 S1 : Tr) : Prop := Rl b P T1 S1 ∧ aG b S S1 ∧ ∃ p pos h : Nat, at2 b T S i p pos ∧ (S 56 (5 * b + p)).toInt = h ∧ tkC P T T1 i p pos h c ∧ tkZ b S S1 i p pos h c
theorem e_take {b i : Nat} {P T S : Tr} {xb x1 c : Int32} (hb : xb.toNatClampNeg = b) (hxb : 0 ≤ xb.toInt ∧ xb.toInt ≤ 1) (hR : Rl b P T S) (hi : x1.toInt = i) (hii : (i : Int) < (S 0 14).toInt) (h1 : S 53 (10 * b + i) = 1) (hc : ¬ c.toInt = 1) (hcr : 0 ≤ c.toInt ∧ c.toInt ≤ 5) : E2 (f_X6_takeAway T P x1 c) (f_X8_takes S xb x1 c) (tkQ2 b P T S i c) := by
  obtain ⟨⟨hS, hpI, hg⟩, hK, hs, hd, hv⟩ := id hR
  have h14 : (S 0 14).toInt ≤ 10 := (hS 0 14).2
  have hly : 0 ≤ (S 54 (10 * b + i)).toInt := (hg.2.1 i (by omega)).mp h1
  obtain ⟨p, pos, ha⟩ := at2_of hS hg.1 hd.2.2.2.1 hd.2.2.2.2 hii hly
  obtain ⟨a1, a2, a3, a4, a5, a6, a7, a8, a9, a10⟩ := id ha
  obtain ⟨h, hh⟩ : ∃ h : Nat, (S 56 (5 * b + p)).toInt = h := ⟨(S 56 (5 * b + p)).toInt.toNat, by omega⟩
  have j10 : (((10 : Int32) * xb) + x1).toNatClampNeg = 10 * b + i := by rw [jx 10 (by decide) (by omega) hxb hi (by omega), hb]
  have c1 := e_tkc (P := P) (c := c) hi a1 a2 (by rw [a4]; exact hh) (at_lvl ha hi) (by omega) (by omega)
  have c2 := e_tks (c := c) hb hxb hi (by omega) (by rw [← a3]; exact a1) a2 hh (at_bel ha hb hxb hS hg.1 hi (by omega)) (by omega) (by omega)
  have c3 := D_to (t_X8_takes2 S xb x1 c hS (by rw [hb]; exact hg) hxb ⟨by omega, by omega⟩ hcr (by rw [j10]; exact hly) hc)
  rw [hb] at c3
  refine E2_ep c1 (Ep_and c2 c3) (fun T1 S1 q1 q2 => ?_)
  obtain ⟨q2, q3, q4, q5, q6⟩ := q2
  have fM := aM_fx q5 (fx_z q2)
  exact ⟨⟨⟨q3, pI_aG hpI q5, q4⟩, pK_M hK fM, sta_M hs (cM_of q1.2.2.2.2.2) fM, dyn_take hd hS ha (by omega) hh q1 q2, inv_take hv hS q2 h1 (fun e => hc (by rw [e]; decide))⟩, q5, p, pos, h, ha, hh, q1, q2⟩
/-! laid down -/
def ptC (P T q : Tr) (i p h : Nat) (xi xp : Int32) : Prop := (∀ j, q 16 j = if j = 10 * p + h then xi else T 16 j) ∧ (∀ j, q 17 j = if j = p then T 17 p + 1 else T 17 j) ∧ (∀ j, q 18 j = if j = p then T 18 p + P 15 i else T 18 j) ∧ (∀ j, q 15 j = if j = i then xp else T 15 j) ∧ (∀ j, q 14 j = if j = i then 1 else T 14 j) ∧ ∀ a j, ¬ (14 ≤ a ∧ a ≤ 18) → q a j = T a j
def ptZ (b : Nat) (S q : Tr) (i p h : Nat) (xi xp : Int32) : Prop := (∀ j, q 55 j = if j = 50 * b + 10 * p + h then xi else S 55 j) ∧ (∀ j, q 56 j = if j = 5 * b + p then S 56 (5 * b + p) + 1 else S 56 j) ∧ (∀ j, q 54 j = if j = 10 * b + i then xp else S 54 j) ∧ (∀ j, q 53 j = if j = 10 * b + i then 1 else S 53 j) ∧ ∀ a j, ¬ (53 ≤ a ∧ a ≤ 56) → q a j = S a j
theorem e_ptc {T P : Tr} {xp xi : Int32} {i p h : Nat} (hi : xi.toInt = i) (hpx : xp.toInt = p) (hp : p ≤ 4) (hh : (T 17 p).toInt = h) (h9 : h ≤ 9) : Ep (f_X6_putOn T P xp xi) (fun q => ptC P T q i p h xi xp) := by
  unfold f_X6_putOn
  rw [i_cn hpx, i_cn hi]
  refine Ep_ck (Ep_lt (fun y2 e2 => ?_))
  have hy : y2.toInt = h := by rw [e2]; exact hh
  rw [(jy hpx hp hy (by omega)).1]
  refine Ep_ite (fun cc => ?_) (fun _ => Ep_ck (Ep_lt (fun T5 t5 => Ep_lt (fun T6 t6 => Ep_ck (Ep_lt (fun T8 t8 => Ep_lt (fun T9 t9 => Ep_lt (fun T10 t10 => Ep_some ?_))))))))
  · have := tq_le (x := (10 : Int32)) (a := 10) (by decide) hy cc
    omega
  refine ⟨fun j => ?_, fun j => ?_, fun j => ?_, fun j => ?_, fun j => ?_, fun a j ha => ?_⟩
  · rw [t10, st_oth (by decide), t9, st_oth (by decide), t8, st_oth (by decide), t6, st_oth (by decide), t5, st_if]
  · rw [t10, st_oth (by decide), t9, st_oth (by decide), t8, st_oth (by decide), t6, st_if, t5, st_oth (by decide), e2]
  · rw [t10, st_oth (by decide), t9, st_oth (by decide), t8, st_if, t6, st_oth (by decide), t5, st_oth (by decide)]
  · rw [t10, st_oth (by decide), t9, st_if, t8, st_oth (by decide), t6, st_oth (by decide), t5, st_oth (by decide)]
  · rw [t10, st_if, t9, st_oth (by decide), t8, st_oth (by decide), t6, st_oth (by decide), t5, st_oth (by decide)]
  · rw [t10, st_oth (by omega), t9, st_oth (by omega), t8, st_oth (by omega), t6, st_oth (by omega), t5, st_oth (by omega)]
theorem ptZ_of {b i p h : Nat} {S : Tr} {xi xp : Int32} (hh : (S 56 (5 * b + p)).toInt = h) : ptZ b S (lyS S b i p xi xp) i p h xi xp := by
  refine ⟨fun j => ?_, fun j => ls_56, fun j => ls_54, fun j => ls_53, fun a j ha => ?_⟩
  · rw [ls_55, show (S 56 (5 * b + p)).toInt.toNat = h by omega]
  · rw [ls_o (by omega) (by omega) (by omega) (by omega)]
theorem dyn_put {b i p h : Nat} {P T S T1 S1 : Tr} {xi xp : Int32} (hd : dyn b P T S) (hS : iR BM S) (hi : xi.toInt = i) (hi9 : i ≤ 9) (hp : p ≤ 4) (hh : (S 56 (5 * b + p)).toInt = h) (h9 : h ≤ 9) (h1 : ptC P T T1 i p h xi xp) (h2 : ptZ b S S1 i p h xi xp) : dyn b P T1 S1 := by
  obtain ⟨d1, d2, d3, d4, d5⟩ := hd
  obtain ⟨c1, c2, c3, c4, c5, c6⟩ := h1
  obtain ⟨s1, s2, s3, s4, s5⟩ := h2
  refine ⟨by rw [c6 0 0 (by omega), s5 62 _ (by omega)]; exact d1, by rw [c6 0 1 (by omega), s5 61 _ (by omega)]; exact d2, fun q hq => ?_, fun q hq => ?_, fun q hq => ?_⟩
  · rw [s5 0 13 (by omega)] at hq
    rw [c6 11 q (by omega), c6 12 q (by omega), s5 59 _ (by omega), s5 60 _ (by omega)]; exact d3 q hq
  · rw [s5 0 14 (by omega)] at hq
    rw [c5, c4, s4, s3]
    by_cases g : q = i
    · rw [if_pos g, if_pos g, if_pos (by omega), if_pos (by omega)]; exact ⟨rfl, rfl⟩
    · rw [if_neg g, if_neg g, if_neg (by omega), if_neg (by omega)]; exact d4 q hq
  · by_cases g : q = p
    · subst g
      obtain ⟨k1, k2, k3⟩ := d5 q hq
      have e7 : T1 17 q = S1 56 (5 * b + q) := by rw [c2, if_pos rfl, s2, if_pos rfl, k1]
      have en : (T1 17 q).toInt = ((h + 1 : Nat) : Int) := by rw [c2, if_pos rfl, k1]; exact i_p1 hh (by omega)
      refine ⟨e7, fun k hk => ?_, ?_⟩
      · rw [← e7, en] at hk
        rw [c1, s1]
        by_cases g2 : k = h
        · rw [if_pos (by omega), if_pos (by omega)]
        · rw [if_neg (by omega), if_neg (by omega)]; exact k2 k (by omega)
      · rw [i_cn en, c3, if_pos rfl, k3, i_cn (x := T 17 q) (n := h) (by rw [k1]; exact hh)]
        show _ = wsm (wgt P T1 q) h + wgt P T1 q h
        have e2 : wgt P T1 q h = P 15 i := by unfold wgt; rw [c1, if_pos rfl, i_cn hi]
        rw [e2]
        refine congrArg (fun z => z + P 15 i) (wsm_cg (fun k hk => ?_))
        unfold wgt
        rw [c1, if_neg (by omega)]
    · refine stk1_o (d5 q hq) (fun j j1 j2 => ?_) ?_ ?_ (fun j j1 j2 => ?_) ?_ (BM56 hS _)
      · rw [c1, if_neg (by omega)]
      · rw [c2, if_neg g]
      · rw [c3, if_neg g]
      · rw [s1, if_neg (by omega)]
      · rw [s2, if_neg (by omega)]
theorem inv_put {b i p h : Nat} {S S1 : Tr} {xi xp : Int32} (hv : inv b S) (hs : ptZ b S S1 i p h xi xp) (hst : S 59 (6 * b + (S 30 i).toNatClampNeg) = 1) (hpx : xp.toInt < (S 0 12).toInt) : inv b S1 := by
  obtain ⟨s1, s2, s3, s4, s5⟩ := hs
  refine ⟨fun q hq => ?_, fun q hq => ?_⟩
  · rw [s5 0 14 (by omega)] at hq
    obtain ⟨v1, v2, v3⟩ := hv.1 q hq
    rw [s4, s5 30 _ (by omega), s5 59 _ (by omega), s3, s5 0 12 (by omega)]
    by_cases g : q = i
    · subst g
      rw [if_pos rfl, if_pos rfl]
      exact ⟨fun _ => hst, fun e => by rw [hst] at e; exact absurd e (by decide), hpx⟩
    · rw [if_neg (by omega), if_neg (by omega)]; exact ⟨v1, v2, v3⟩
  · rw [s5 0 13 (by omega)] at hq
    rw [s5 59 _ (by omega), s5 57 _ (by omega)]; exact hv.2 q hq
theorem fx_p {b i p h : Nat} {S S1 : Tr} {xi xp : Int32} (t : ptZ b S S1 i p h xi xp) : fx S S1 := ⟨fun j _ => t.2.2.2.2 0 j (by omega), fun a j ha => t.2.2.2.2 a j (by omega)⟩
def ptQ (b : Nat) (P T S : Tr) (i p : Nat) (xi xp : Int32) (T1 S1 : Tr) : Prop := Rl b P T1 S1 ∧ aG b S S1 ∧ ∃ h : Nat, (S 56 (5 * b + p)).toInt = h ∧ ptC P T T1 i p h xi xp ∧ ptZ b S S1 i p h xi xp
theorem e_put {b i p : Nat} {P T S : Tr} {xb xi xp : Int32} (hb : xb.toNatClampNeg = b) (hxb : 0 ≤ xb.toInt ∧ xb.toInt ≤ 1) (hR : Rl b P T S) (hi : xi.toInt = i) (hii : (i : Int) < (S 0 14).toInt) (hpx : xp.toInt = p) (hpp : (p : Int) < (S 0 12).toInt) (h1 : ¬ S 53 (10 * b + i) = 1) (hst : S 59 (6 * b + (S 30 i).toNatClampNeg) = 1) : E2 (f_X6_putOn T P xp xi) (f_X8_lays S xb xp xi) (ptQ b P T S i p xi xp) := by
  obtain ⟨⟨hS, hpI, hg⟩, hK, hs, hd, hv⟩ := id hR
  have h14 : (S 0 14).toInt ≤ 10 := (hS 0 14).2
  have h12 : (S 0 12).toInt ≤ 5 := (hS 0 12).2
  have hly : lyM S b i < 0 := Int.not_le.mp (fun q => h1 ((hg.2.1 i (by omega)).mpr q))
  obtain ⟨h, hh⟩ : ∃ h : Nat, (S 56 (5 * b + p)).toInt = h := ⟨(S 56 (5 * b + p)).toInt.toNat, by have := BM56 hS (5 * b + p); omega⟩
  have hr := gF_room (p := p) (i := i) hg.1 (fun q k => BM55 hS _) (by omega) (by omega) hly
  have hr : (S 56 (5 * b + p)).toInt ≤ 9 := hr
  have ec := i_cn hi
  have c1 := e_ptc (P := P) (T := T) hi hpx (by omega) (h := h) (by rw [(hd.2.2.2.2 p (by omega)).1]; exact hh) (by omega)
  have c2 := D_to (t_X8_lays S xb xp xi hS hxb ⟨by omega, by omega⟩ ⟨by omega, by omega⟩ (by rw [hb, ec]; exact ⟨hg.1, fun j hj _ => hg.2.1 j hj⟩) (by rw [hb]; exact hg.2.2) (by rw [hb, ec]; exact hly) (by omega))
  rw [hb, ec, i_cn hpx] at c2
  refine E2_ep c1 c2 (fun T1 S1 q1 q2 => ?_)
  obtain ⟨rfl, q3, q4, q5⟩ := q2
  have z := ptZ_of (b := b) (i := i) (p := p) (S := S) (xi := xi) (xp := xp) hh
  have fM := aM_fx q5 (fx_p z)
  exact ⟨⟨⟨q3, pI_aG hpI q5, q4⟩, pK_M hK fM, sta_M hs (cM_of q1.2.2.2.2.2) fM, dyn_put hd hS hi (by omega) (by omega) hh (by omega) q1 z, inv_put hv z hst (by omega)⟩, q5, h, hh, q1, z⟩
