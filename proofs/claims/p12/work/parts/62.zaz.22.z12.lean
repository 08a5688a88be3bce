/-! getting out: what the two look up, what is set free -/
def non1 (b : Nat) (S : Tr) (o : Int32) : Prop := ∀ i : Nat, (i : Int) < (S 0 14).toInt → S 30 i = o → ¬ S 53 (10 * b + i) = 1
theorem an_S {b : Nat} {S : Tr} {xb xo : Int32} (hb : xb.toNatClampNeg = b) (hxb : 0 ≤ xb.toInt ∧ xb.toInt ≤ 1) (hS : iR BM S) : Ep (f_X8_hasAny S xb xo) (fun r => (r = 0 ∧ non1 b S xo) ∨ (r = 1 ∧ ¬ non1 b S xo)) := by
  have h14 : 0 ≤ (S 0 14).toInt ∧ (S 0 14).toInt ≤ 10 := hS 0 14
  have lp : ∀ (N n : Nat) (x : Int32), x.toInt = n → n ≤ 10 → (∀ i : Nat, i < n → S 30 i = xo → ¬ S 53 (10 * b + i) = 1) → Ep (lpF (fun _ => none) (fB_X8_hasAny_L2 S xb xo) N x) (fun r => (r = 0 ∧ non1 b S xo) ∨ (r = 1 ∧ ¬ non1 b S xo)) := by
    intro N
    induction N with
    | zero => intro n x _ _ _; exact Ep_none
    | succ N ih =>
      intro n x hx hn hz
      show Ep (fB_X8_hasAny_L2 S xb xo (lpF (fun _ => none) (fB_X8_hasAny_L2 S xb xo) N) x) _
      generalize lpF (fun _ => none) (fB_X8_hasAny_L2 S xb xo) N = k at ih ⊢
      unfold fB_X8_hasAny_L2
      refine Ep_ite (fun c => ?_) (fun c => ?_)
      · have := tq_le rfl hx c
        exact Ep_some (Or.inl ⟨rfl, fun i hi => hz i (by omega)⟩)
      · have := tq_len rfl hx c
        have j10 : (((10 : Int32) * xb) + x).toNatClampNeg = 10 * b + n := by rw [jx 10 (by decide) (by omega) hxb hx (by omega), hb]
        have e1 := i_p1 hx (by omega)
        have nx : ∀ y : Int32, y = x + 1 → (S 30 n = xo → ¬ S 53 (10 * b + n) = 1) → Ep (k y) (fun r => (r = 0 ∧ non1 b S xo) ∨ (r = 1 ∧ ¬ non1 b S xo)) := fun y ey g => by
          refine ih (n + 1) y (by rw [ey]; exact e1) (by omega) (fun i hi => ?_)
          rcases (by omega : i < n ∨ i = n) with g2 | rfl
          · exact hz i g2
          · exact g
        rw [j10, i_cn hx]
        refine Ep_ck (Ep_ite (fun c2 => Ep_ck (Ep_ite (fun c3 => ?_) (fun c3 => ?_))) (fun c2 => ?_))
        · exact Ep_some (Or.inr ⟨rfl, fun q => q n (by omega) c2 c3⟩)
        · exact Ep_lt (fun y ey => nx y ey (fun _ => c3))
        · exact Ep_lt (fun y ey => nx y ey (fun q => absurd q c2))
  unfold f_X8_hasAny fL_X8_hasAny_L2
  exact lp 2000 0 0 (by decide) (by omega) (fun i hi => absurd hi (by omega))
theorem an_T {b : Nat} {P T V : Tr} {xo : Int32} (hR : Rl b P T V) : Ep (f_X6_hasPlaced T P xo) (fun r => (r = 0 ∧ non1 b V xo) ∨ (r = 1 ∧ ¬ non1 b V xo)) := by
  obtain ⟨⟨hS, _, _⟩, hK, _, hd, _⟩ := hR
  have h14 : 0 ≤ (V 0 14).toInt ∧ (V 0 14).toInt ≤ 10 := hS 0 14
  have p14 : P 0 2 = V 0 14 := hK.1.2.2.1
  have lp : ∀ (N n : Nat) (x : Int32), x.toInt = n → n ≤ 10 → (∀ i : Nat, i < n → V 30 i = xo → ¬ V 53 (10 * b + i) = 1) → Ep (lpF (fun _ => none) (fB_X6_hasPlaced_L2 T P xo) N x) (fun r => (r = 0 ∧ non1 b V xo) ∨ (r = 1 ∧ ¬ non1 b V xo)) := by
    intro N
    induction N with
    | zero => intro n x _ _ _; exact Ep_none
    | succ N ih =>
      intro n x hx hn hz
      show Ep (fB_X6_hasPlaced_L2 T P xo (lpF (fun _ => none) (fB_X6_hasPlaced_L2 T P xo) N) x) _
      generalize lpF (fun _ => none) (fB_X6_hasPlaced_L2 T P xo) N = k at ih ⊢
      unfold fB_X6_hasPlaced_L2
      rw [p14]
      refine Ep_ite (fun c => ?_) (fun c => ?_)
      · have := tq_le rfl hx c
        exact Ep_some (Or.inl ⟨rfl, fun i hi => hz i (by omega)⟩)
      · have := tq_len rfl hx c
        have e1 := i_p1 hx (by omega)
        have nx : ∀ y : Int32, y = x + 1 → (V 30 n = xo → ¬ V 53 (10 * b + n) = 1) → Ep (k y) (fun r => (r = 0 ∧ non1 b V xo) ∨ (r = 1 ∧ ¬ non1 b V xo)) := fun y ey g => by
          refine ih (n + 1) y (by rw [ey]; exact e1) (by omega) (fun i hi => ?_)
          rcases (by omega : i < n ∨ i = n) with g2 | rfl
          · exact hz i g2
          · exact g
        rw [i_cn hx, (hK.2.2.2.1 n (by omega)).1, (hd.2.2.2.1 n (by omega)).1]
        refine Ep_ck (Ep_ite (fun c2 => (Ep_ite (fun c3 => ?_) (fun c3 => ?_))) (fun c2 => ?_))
        · exact Ep_some (Or.inr ⟨rfl, fun q => q n (by omega) c2 c3⟩)
        · exact Ep_lt (fun y ey => nx y ey (fun _ => c3))
        · exact Ep_lt (fun y ey => nx y ey (fun q => absurd q c2))
  unfold f_X6_hasPlaced fL_X6_hasPlaced_L2
  exact lp 2000 0 0 (by decide) (by omega) (fun i hi => absurd hi (by omega))
/-- what is set free of a train -/
def vF (b : Nat) (V V1 : Tr) : Prop := (∀ i : Nat, (i : Int) < (V 0 14).toInt → (V1 53 (10 * b + i) = V 53 (10 * b + i) ∧ V1 54 (10 * b + i) = V 54 (10 * b + i)) ∨ (V 53 (10 * b + i) = 1 ∧ V1 53 (10 * b + i) = 5 ∧ V1 54 (10 * b + i) = -1)) ∧ ∀ a j, ¬ (53 ≤ a ∧ a ≤ 56) → V1 a j = V a j
theorem vF_r {b : Nat} {V : Tr} : vF b V V := ⟨fun _ _ => Or.inl ⟨rfl, rfl⟩, fun _ _ _ => rfl⟩
theorem vF_t {b : Nat} {V V1 V2 : Tr} (h1 : vF b V V1) (h2 : vF b V1 V2) : vF b V V2 := by
  refine ⟨fun i hi => ?_, fun a j ha => (h2.2 a j ha).trans (h1.2 a j ha)⟩
  have g2 := h2.1 i (by rw [h1.2 0 14 (by omega)]; exact hi)
  rcases h1.1 i hi with ⟨a1, a2⟩ | ⟨a1, a2, a3⟩
  · rcases g2 with ⟨b1, b2⟩ | ⟨b1, b2, b3⟩
    · exact Or.inl ⟨b1.trans a1, b2.trans a2⟩
    · exact Or.inr ⟨a1.symm.trans b1, b2, b3⟩
  · rcases g2 with ⟨b1, b2⟩ | ⟨b1, b2, b3⟩
    · exact Or.inr ⟨a1, b1.trans a2, b2.trans a3⟩
    · rw [a2] at b1; exact absurd b1 (by decide)
theorem vF_k {b i p pos h : Nat} {V V1 : Tr} (t : tkZ b V V1 i p pos h 5) (h1 : V 53 (10 * b + i) = 1) : vF b V V1 := by
  obtain ⟨_, _, t3, t4, t5⟩ := t
  refine ⟨fun q hq => ?_, t5⟩
  rw [t3, t4]
  by_cases g : q = i
  · subst g; rw [if_pos rfl, if_pos rfl]; exact Or.inr ⟨h1, rfl, rfl⟩
  · rw [if_neg (by omega), if_neg (by omega)]; exact Or.inl ⟨rfl, rfl⟩
theorem e_free {b : Nat} {P T V : Tr} {xb xo : Int32} (hb : xb.toNatClampNeg = b) (hxb : 0 ≤ xb.toInt ∧ xb.toInt ≤ 1) (hR : Rl b P T V) : Ep (f_X6_setFree T P xo (5 : Int32)) (fun T1 => ∃ V1, Rl b P T1 V1 ∧ vF b V V1 ∧ non1 b V1 xo ∧ (∀ a j, ¬ (14 ≤ a ∧ a ≤ 18) → T1 a j = T a j) ∧ (non1 b V xo → V1 = V)) := by
  have h14 : 0 ≤ (V 0 14).toInt ∧ (V 0 14).toInt ≤ 10 := hR.1.1 0 14
  have lp : ∀ (N n : Nat) (x : Int32) (T1 V1 : Tr), x.toInt = n → n ≤ 10 → Rl b P T1 V1 → vF b V V1 → (∀ a j, ¬ (14 ≤ a ∧ a ≤ 18) → T1 a j = T a j) → (non1 b V xo → V1 = V) → (∀ i : Nat, i < n → V 30 i = xo → ¬ V1 53 (10 * b + i) = 1) → Ep (lpF (fun _ _ => none) (fB_X6_setFree_L2 P xo 5) N x T1) (fun T1 => ∃ V1, Rl b P T1 V1 ∧ vF b V V1 ∧ non1 b V1 xo ∧ (∀ a j, ¬ (14 ≤ a ∧ a ≤ 18) → T1 a j = T a j) ∧ (non1 b V xo → V1 = V)) := by
    intro N
    induction N with
    | zero => intro n x T1 V1 _ _ _ _ _ _ _; exact Ep_none
    | succ N ih =>
      intro n x T1 V1 hx hn hR1 hv hc he hz
      show Ep (fB_X6_setFree_L2 P xo 5 (lpF (fun _ _ => none) (fB_X6_setFree_L2 P xo 5) N) x T1) _
      generalize lpF (fun _ _ => none) (fB_X6_setFree_L2 P xo 5) N = k at ih ⊢
      have e14 : V1 0 14 = V 0 14 := hv.2 0 14 (by omega)
      have p14 : P 0 2 = V 0 14 := hR1.2.1.1.2.2.1.trans e14
      unfold fB_X6_setFree_L2
      rw [p14]
      refine Ep_ite (fun c => ?_) (fun c => ?_)
      · have := tq_le rfl hx c
        exact Ep_some ⟨V1, hR1, hv, fun i hi q => hz i (by rw [e14] at hi; omega) (by rw [← hv.2 30 i (by omega)]; exact q), hc, he⟩
      · have := tq_len rfl hx c
        have e1 := i_p1 hx (by omega)
        have nx : ∀ y : Int32, y = x + 1 → (V 30 n = xo → ¬ V1 53 (10 * b + n) = 1) → Ep (k y T1) (fun T1 => ∃ V1, Rl b P T1 V1 ∧ vF b V V1 ∧ non1 b V1 xo ∧ (∀ a j, ¬ (14 ≤ a ∧ a ≤ 18) → T1 a j = T a j) ∧ (non1 b V xo → V1 = V)) := fun y ey g => by
          refine ih (n + 1) y T1 V1 (by rw [ey]; exact e1) (by omega) hR1 hv hc he (fun i hi => ?_)
          rcases (by omega : i < n ∨ i = n) with g2 | rfl
          · exact hz i g2
          · exact g
        have hn1 : (n : Int) < (V1 0 14).toInt := by rw [e14]; omega
        rw [i_cn hx, (hR1.2.1.2.2.2.1 n hn1).1, (hR1.2.2.2.1.2.2.2.1 n hn1).1, hv.2 30 n (by omega)]
        refine Ep_ck (Ep_ite (fun c2 => (Ep_ite (fun c3 => ?_) (fun c3 => ?_))) (fun c2 => ?_))
        · have j10 : (((10 : Int32) * xb) + x).toNatClampNeg = 10 * b + n := by rw [jx 10 (by decide) (by omega) hxb hx (by omega), hb]
          have hly : 0 ≤ (V1 54 (10 * b + n)).toInt := (hR1.1.2.2.2.1 n (by omega)).mp c3
          obtain ⟨V2, hV2, _⟩ := t_X8_takes2 V1 xb x 5 hR1.1.1 (by rw [hb]; exact hR1.1.2.2) hxb ⟨by omega, by omega⟩ (by decide) (by rw [j10]; exact hly) (by decide)
          refine Ep_bd (Q1 := fun T2 => tkQ2 b P T1 V1 n 5 T2 V2) (fun T2 hT2 => e_take hb hxb hR1 hx hn1 c3 (by decide) (by decide) T2 V2 hT2 hV2) (fun T2 hq => Ep_lt (fun y ey => ?_))
          obtain ⟨hR2, _, p, pos, h, _, _, hc2, hz2⟩ := hq
          refine ih (n + 1) y T2 V2 (by rw [ey]; exact e1) (by omega) hR2 (vF_t hv (vF_k hz2 c3)) (fun a j ha => (hc2.2.2.2.2.2 a j ha).trans (hc a j ha)) (fun q => ?_) (fun i hi => ?_)
          · have := he q
            subst this
            exact absurd c3 (q n (by omega) c2)
          · rw [hz2.2.2.2.1]
            by_cases g : i = n
            · subst g; rw [if_pos rfl]; exact fun _ => by decide
            · rw [if_neg (by omega)]; exact hz i (by omega)
        · exact Ep_lt (fun y ey => nx y ey (fun _ => c3))
        · exact Ep_lt (fun y ey => nx y ey (fun q => absurd q c2))
  unfold f_X6_setFree fL_X6_setFree_L2
  exact lp 2000 0 0 T V (by decide) (by omega) hR vF_r (fun _ _ _ => rfl) (fun _ => rfl) (fun i hi => absurd hi (by omega))
/-- nothing lies: the stacks are empty -/
theorem h_0 {b : Nat} {S : Tr} (h : rI b S) (hn : ∀ i : Nat, (i : Int) < (S 0 14).toInt → ¬ S 53 (10 * b + i) = 1) : ∀ p : Nat, p < 5 → S 56 (5 * b + p) = 0 := fun p hp => by
  obtain ⟨hS, _, hg⟩ := h
  have b56 := BM56 hS (5 * b + p)
  have : (S 56 (5 * b + p)).toInt = 0 := by
    rcases (by omega : (S 56 (5 * b + p)).toInt = 0 ∨ 0 < (S 56 (5 * b + p)).toInt) with g | g
    · exact g
    · obtain ⟨i, i1, i2, i3, i4⟩ := sk_at (k := 0) hS hg.1 hp (by omega)
      exact absurd ((hg.2.1 i i1).mpr (by show 0 ≤ (S 54 (10 * b + i)).toInt; omega)) (hn i i3)
  exact Int32.toInt_inj.mp (this.trans (by decide))
/-! small steps of both -/
theorem Rl_w {b : Nat} {P T S T1 S1 : Tr} (hR : Rl b P T S) (cm : cM T T1) (am : aM b S S1) (hS1 : iR BM S1) (f : ∀ a j, 53 ≤ a → a ≤ 58 → S1 a j = S a j) (hd : dyn b P T1 S1) (hv : inv b S1) : Rl b P T1 S1 := by
  have z : ∀ a, 23 ≤ a → a ≤ 41 → ∀ j, S1 a j = S a j := fun a h1 h2 j => am a j (aM_p (by omega) (by omega))
  have e13 : S1 0 13 = S 0 13 := am 0 13 (aM_0 (by omega) (by omega))
  have e14 : S1 0 14 = S 0 14 := am 0 14 (aM_0 (by omega) (by omega))
  exact ⟨⟨hS1, pI_fr hR.1.2.1 (z 39 (by omega) (by omega)) (z 40 (by omega) (by omega)) (z 41 (by omega) (by omega)) (z 36 (by omega) (by omega)) (z 38 (by omega) (by omega)) (z 30 (by omega) (by omega)) (z 29 (by omega) (by omega)) e13 e14, gI_fr hR.1.2.2 (fun j => f 53 j (by omega) (by omega)) (fun j => f 54 j (by omega) (by omega)) (fun j => f 55 j (by omega) (by omega)) (fun j => f 56 j (by omega) (by omega)) (fun j => f 58 j (by omega) (by omega)) e13 e14⟩, pK_M hR.2.1 am, sta_M hR.2.2.1 cm am, hd, hv⟩
theorem Rl_72 {b : Nat} {P T S : Tr} {v : Int32} (hR : Rl b P T S) : Rl b P T (st S 0 72 v) := by
  refine Rl_w hR cM_r (aM_s aM_r (by simp [Mb])) (iR_setU hR.1.1 rfl) (fun a j h1 h2 => by rw [st_oth (by omega)]) (dyn_e hR.2.2.2.1 hR.1.1 (fun _ _ _ => rfl) (fun a j q => by rw [st_no (by omega)])) (inv_e hR.2.2.2.2 (fun a j q => by rw [st_no (by omega)]))
theorem Rl_li {b : Nat} {P T S : Tr} {v : Int32} (hR : Rl b P T S) : Rl b P (st T 0 1 v) (st S 61 b v) := by
  obtain ⟨d1, d2, d3, d4, d5⟩ := hR.2.2.2.1
  refine Rl_w hR (cM_s cM_r (by simp [Mc])) (aM_s aM_r Mb_61) (iR_setU hR.1.1 rfl) (fun a j h1 h2 => by rw [st_oth (by omega)]) ⟨?_, ?_, fun p hp => ?_, fun i hi => ?_, ?_⟩ (inv_e hR.2.2.2.2 (fun a j q => by rw [st_oth (by omega)]))
  · rw [st_ne (by omega), st_oth (by omega)]; exact d1
  · rw [st_same, st_same]
  · rw [st_oth (by omega)] at hp
    rw [st_oth (by omega), st_oth (by omega), st_oth (by omega), st_oth (by omega)]; exact d3 p hp
  · rw [st_oth (by omega)] at hi
    rw [st_oth (by omega), st_oth (by omega), st_oth (by omega), st_oth (by omega)]; exact d4 i hi
  · exact stk_e d5 (fun j => by rw [st_oth (by omega)]) (fun j => by rw [st_oth (by omega)]) (fun j => by rw [st_oth (by omega)]) (fun j => by rw [st_oth (by omega)]) (fun j => by rw [st_oth (by omega)]) hR.1.1
theorem Rl_sp {b o : Nat} {P T S : Tr} {v : Int32} (hR : Rl b P T S) (ho : o < 6) : Rl b P (st T 12 o v) (st S 60 (6 * b + o) v) := by
  obtain ⟨d1, d2, d3, d4, d5⟩ := hR.2.2.2.1
  refine Rl_w hR (cM_s cM_r (by simp [Mc])) (aM_s aM_r (Mb_60 (inB_of (by omega) (by omega)))) (iR_setU hR.1.1 rfl) (fun a j h1 h2 => by rw [st_oth (by omega)]) ⟨?_, ?_, fun p hp => ?_, fun i hi => ?_, ?_⟩ (inv_e hR.2.2.2.2 (fun a j q => by rw [st_oth (by omega)]))
  · rw [st_oth (by omega), st_oth (by omega)]; exact d1
  · rw [st_oth (by omega), st_oth (by omega)]; exact d2
  · rw [st_oth (by omega)] at hp
    have d := d3 p hp
    refine ⟨by rw [st_oth (by omega), st_oth (by omega)]; exact d.1, ?_⟩
    by_cases g : p = o
    · subst g; rw [st_same, st_same]
    · rw [st_ne g, st_ne (by omega)]; exact d.2
  · rw [st_oth (by omega)] at hi
    rw [st_oth (by omega), st_oth (by omega), st_oth (by omega), st_oth (by omega)]; exact d4 i hi
  · exact stk_e d5 (fun j => by rw [st_oth (by omega)]) (fun j => by rw [st_oth (by omega)]) (fun j => by rw [st_oth (by omega)]) (fun j => by rw [st_oth (by omega)]) (fun j => by rw [st_oth (by omega)]) hR.1.1
/-- a person without a piece gets out -/
theorem inv_out {b o : Nat} {S : Tr} {xo : Int32} (h : inv b S) (hS : iR BM S) (hp : pI S) (ho : xo.toInt = o) (hn : non1 b S xo) : inv b (st S 59 (6 * b + o) 2) := by
  have h14 : 0 ≤ (S 0 14).toInt ∧ (S 0 14).toInt ≤ 10 := hS 0 14
  have z : ∀ a, ¬ a = 59 → ∀ j, st S 59 (6 * b + o) 2 a j = S a j := fun a ha j => by rw [st_oth ha]
  refine ⟨fun i hi => ?_, fun p hq => ?_⟩
  · rw [z 0 (by omega)] at hi
    obtain ⟨v1, v2, v3⟩ := h.1 i hi
    rw [z 53 (by omega), z 30 (by omega), z 54 (by omega), z 0 (by omega)]
    have b30 : 0 ≤ (S 30 i).toInt ∧ (S 30 i).toInt ≤ 5 := hS 30 i
    by_cases g : (S 30 i).toNatClampNeg = o
    · have e : S 30 i = xo := Int32.toInt_inj.mp (by rw [i_cl] at g; omega)
      rw [g, st_same]
      exact ⟨fun q => absurd q (hn i hi e), fun q => absurd q (by decide), v3⟩
    · rw [st_ne (by omega)]; exact ⟨v1, v2, v3⟩
  · rw [z 0 (by omega)] at hq
    obtain ⟨w1, w2⟩ := h.2 p hq
    refine ⟨?_, by rw [z 57 (by omega)]; exact w2⟩
    by_cases g : 6 * b + p = 6 * b + o
    · rw [g, st_same]; exact Or.inr (Or.inr rfl)
    · rw [st_ne g]; exact w1
theorem Rl_out {b o : Nat} {P T S : Tr} {xo : Int32} (hR : Rl b P T S) (ho : xo.toInt = o) (ho6 : o < 6) (hn : non1 b S xo) : Rl b P (st T 11 o 2) (st S 59 (6 * b + o) 2) := by
  obtain ⟨d1, d2, d3, d4, d5⟩ := hR.2.2.2.1
  refine Rl_w hR (cM_s cM_r (by simp [Mc])) (aM_s aM_r (Mb_59 (inB_of (by omega) (by omega)))) (iR_setU hR.1.1 rfl) (fun a j h1 h2 => by rw [st_oth (by omega)]) ⟨?_, ?_, fun p hp => ?_, fun i hi => ?_, ?_⟩ (inv_out hR.2.2.2.2 hR.1.1 hR.1.2.1 ho hn)
  · rw [st_oth (by omega), st_oth (by omega)]; exact d1
  · rw [st_oth (by omega), st_oth (by omega)]; exact d2
  · rw [st_oth (by omega)] at hp
    have d := d3 p hp
    refine ⟨?_, by rw [st_oth (by omega), st_oth (by omega)]; exact d.2⟩
    by_cases g : p = o
    · subst g; rw [st_same, st_same]
    · rw [st_ne g, st_ne (by omega)]; exact d.1
  · rw [st_oth (by omega)] at hi
    rw [st_oth (by omega), st_oth (by omega), st_oth (by omega), st_oth (by omega)]; exact d4 i hi
  · exact stk_e d5 (fun j => by rw [st_oth (by omega)]) (fun j => by rw [st_oth (by omega)]) (fun j => by rw [st_oth (by omega)]) (fun j => by rw [st_oth (by omega)]) (fun j => by rw [st_oth (by omega)]) hR.1.1
theorem rI_out {b o : Nat} {S : Tr} (h : rI b S) : rI b (st S 59 (6 * b + o) 2) := by
  have z : ∀ a, ¬ a = 59 → ∀ j, st S 59 (6 * b + o) 2 a j = S a j := fun a ha j => by rw [st_oth ha]
  exact ⟨iR_setU h.1 rfl, pI_fr h.2.1 (z 39 (by omega)) (z 40 (by omega)) (z 41 (by omega)) (z 36 (by omega)) (z 38 (by omega)) (z 30 (by omega)) (z 29 (by omega)) (z 0 (by omega) 13) (z 0 (by omega) 14), gI_fr h.2.2 (z 53 (by omega)) (z 54 (by omega)) (z 55 (by omega)) (z 56 (by omega)) (z 58 (by omega)) (z 0 (by omega) 13) (z 0 (by omega) 14)⟩
