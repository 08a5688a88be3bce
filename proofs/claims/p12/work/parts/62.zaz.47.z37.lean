/-! a stack turned -/
def kyS (S : Tr) (x : Nat) : Int := 10 * (S 28 (S 30 x).toNatClampNeg).toInt + x
theorem ky_inj {S : Tr} {a c : Nat} (ha : a ≤ 9) (hc : c ≤ 9) (h : kyS S a = kyS S c) : a = c := by
  unfold kyS at h; omega
theorem i_eqv {x y : Int32} : (x = y) ↔ x.toInt = y.toInt := Int32.toInt_inj.symm
theorem e_gab {b : Nat} {P S : Tr} {x1 x2 : Int32} {a c : Nat} (hS : rI b S) (hK : pK P S) (ha : x1.toInt = a) (hc : x2.toInt = c) (la : (a : Int) < (S 0 14).toInt) (lc : (c : Int) < (S 0 14).toInt) : Ep (f_X6_goesAbove P x1 x2) (fun r => (r = 1 ∧ kyS S a < kyS S c) ∨ (r = 0 ∧ ¬ kyS S a < kyS S c)) := by
  have h14 : 0 ≤ (S 0 14).toInt ∧ (S 0 14).toInt ≤ 10 := hS.1 0 14
  have oa := own_lt hS a la
  have oc := own_lt hS c lc
  unfold f_X6_goesAbove
  rw [i_cn ha, i_cn hc, (hK.2.2.2.1 a la).1, (hK.2.2.2.1 c lc).1, (hK.2.2.1 _ oa).2.2.1, (hK.2.2.1 _ oc).2.2.1]
  refine Ep_ck (Ep_ck (Ep_lt (fun y3 e3 => Ep_ck (Ep_ck (Ep_lt (fun y6 e6 => ?_))))))
  unfold kyS
  rw [← e3, ← e6]
  refine Ep_ite (fun d => Ep_ite (fun f => Ep_some (Or.inr ⟨rfl, ?_⟩)) (fun f => Ep_some (Or.inl ⟨rfl, ?_⟩))) (fun d => Ep_ite (fun f => Ep_some (Or.inr ⟨rfl, ?_⟩)) (fun f => Ep_some (Or.inl ⟨rfl, ?_⟩)))
  · have := tq_le hc ha f
    rw [d]; omega
  · have := tq_len hc ha f
    rw [d]; omega
  · have f := Int32.le_iff_toInt_le.mp f
    have d : ¬ y3.toInt = y6.toInt := fun g => d (Int32.toInt_inj.mp g)
    omega
  · have f := tq_len (x := y6) (y := y3) rfl rfl f
    omega
theorem e_blw {b : Nat} {S : Tr} {x1 x2 : Int32} {a c : Nat} (ha : x1.toInt = a) (hc : x2.toInt = c) (l9 : a ≤ 9) (m9 : c ≤ 9) : Ep (f_X8_isBelow S x1 x2) (fun r => (r = 1 ∧ kyS S c < kyS S a) ∨ (r = 0 ∧ ¬ kyS S c < kyS S a)) := by
  unfold f_X8_isBelow
  rw [i_cn ha, i_cn hc]
  refine Ep_ck (Ep_ck (Ep_lt (fun y3 e3 => Ep_ck (Ep_ck (Ep_lt (fun y6 e6 => ?_))))))
  unfold kyS
  rw [← e3, ← e6]
  refine Ep_ite (fun d => Ep_some (Or.inl ⟨rfl, ?_⟩)) (fun d => Ep_ite (fun e => Ep_ite (fun f => Ep_some (Or.inr ⟨rfl, ?_⟩)) (fun f => Ep_some (Or.inl ⟨rfl, ?_⟩))) (fun e => Ep_some (Or.inr ⟨rfl, ?_⟩)))
  · have := Int32.lt_iff_toInt_lt.mp d
    omega
  · have := tq_le ha hc f
    rw [e]; omega
  · have := tq_len ha hc f
    rw [e]; omega
  · have d := tq_ltn (x := y6) (y := y3) rfl rfl d
    have e : ¬ y3.toInt = y6.toInt := fun g => e (Int32.toInt_inj.mp g)
    omega
/-- what lies in a place, as numbers -/
def gOf (T : Tr) (p k : Nat) : Nat := (T 16 (10 * p + k)).toInt.toNat
def chg (ky : Nat → Int) (g : Nat → Nat) (n : Nat) : Nat → Nat := cnt (fun k => decide (¬ rnk ky g n (g k) = k))
/-- a place whose pieces are known -/
def plc (b : Nat) (T S : Tr) (p n : Nat) : Prop := p < 5 ∧ n ≤ 10 ∧ (T 17 p).toInt = n ∧ (∀ k, k < n → 0 ≤ (T 16 (10 * p + k)).toInt ∧ (T 16 (10 * p + k)).toInt < (S 0 14).toInt) ∧ ∀ k l, k < n → l < n → T 16 (10 * p + k) = T 16 (10 * p + l) → k = l
theorem plc_g {b p n k : Nat} {T S : Tr} (h : plc b T S p n) (hk : k < n) : (T 16 (10 * p + k)).toInt = gOf T p k ∧ ((gOf T p k : Nat) : Int) < (S 0 14).toInt := by
  have := h.2.2.2.1 k hk
  unfold gOf
  omega
theorem e_tlv {b p n c : Nat} {P T S : Tr} {x1 x2 : Int32} (hS : rI b S) (hK : pK P S) (h : plc b T S p n) (hx : x1.toInt = p) (hc : x2.toInt = c) (lc : (c : Int) < (S 0 14).toInt) : Ep (f_X6_turnedLevel T P x1 x2) (fun r => r.toInt = (rnk (kyS S) (gOf T p) n c : Nat)) := by
  obtain ⟨p5, n10, h17, h16, hd⟩ := id h
  have lp : ∀ (N k : Nat) (x3 x4 : Int32), x4.toInt = k → k ≤ n → x3.toInt = (cnt (fun m => decide (kyS S c < kyS S (gOf T p m))) k : Nat) → Ep (lpF (fun _ _ => none) (fB_X6_turnedLevel_L5 T P x1 x2) N x3 x4) (fun r => r.toInt = (rnk (kyS S) (gOf T p) n c : Nat)) := by
    intro N
    induction N with
    | zero => intro k x3 x4 _ _ _; exact Ep_none
    | succ N ih =>
      intro k x3 x4 hx4 hk hx3
      show Ep (fB_X6_turnedLevel_L5 T P x1 x2 (lpF (fun _ _ => none) (fB_X6_turnedLevel_L5 T P x1 x2) N) x3 x4) _
      generalize lpF (fun _ _ => none) (fB_X6_turnedLevel_L5 T P x1 x2) N = kk at ih ⊢
      unfold fB_X6_turnedLevel_L5
      rw [i_cn hx]
      refine Ep_ck (Ep_ite (fun q => ?_) (fun q => Ep_ck ?_))
      · have := tq_le h17 hx4 q
        refine Ep_some ?_
        rw [hx3, show k = n by omega]; rfl
      · have lt := tq_len h17 hx4 q
        have hk2 : k < n := by omega
        have g := plc_g h hk2
        have le := cnt_le (f := fun m => decide (kyS S c < kyS S (gOf T p m))) (n := k)
        rw [(jy hx (by omega) hx4 (by omega)).1]
        refine Ep_bd (e_gab hS hK hc g.1 lc g.2) (fun r hr => ?_)
        have e1 := i_p1 hx4 (by omega)
        rcases hr with ⟨rfl, hr⟩ | ⟨rfl, hr⟩
        · rw [if_neg (by decide)]
          refine Ep_lt (fun y9 e9 => Ep_lt (fun y10 e10 => ih (k + 1) y9 y10 (by rw [e10]; exact e1) (by omega) ?_))
          show _ = ((cnt _ k + (bif decide (kyS S c < kyS S (gOf T p k)) then 1 else 0) : Nat) : Int)
          rw [e9, i_p1 hx3 (by omega), decide_eq_true hr]; rfl
        · rw [if_pos rfl]
          refine Ep_lt (fun y8 e8 => ih (k + 1) x3 y8 (by rw [e8]; exact e1) (by omega) ?_)
          show _ = ((cnt _ k + (bif decide (kyS S c < kyS S (gOf T p k)) then 1 else 0) : Nat) : Int)
          rw [hx3, decide_eq_false hr]; rfl
  unfold f_X6_turnedLevel fL_X6_turnedLevel_L5
  exact lp 2000 0 0 0 (by decide) (by omega) (by show (0 : Int32).toInt = ((0 : Nat) : Int); decide)
/-- while it is put in order: the first i -/
def oI (b : Nat) (S T0 T : Tr) (p n i : Nat) : Prop := insI (kyS S) (gOf T0 p) (gOf T p) i ∧ (∀ q, i ≤ q → q < n → T 16 (10 * p + q) = T0 16 (10 * p + q)) ∧ (∀ q, q < n → ∃ j, j < n ∧ T 16 (10 * p + q) = T0 16 (10 * p + j)) ∧ ∀ a j, ¬ (a = 16 ∧ 10 * p ≤ j ∧ j < 10 * p + n) → T a j = T0 a j
def toQ (b : Nat) (S T0 : Tr) (p n : Nat) (x3 : Int32) (q : Int32 × Tr) : Prop := q.1 = x3 ∧ oI b S T0 q.2 p n n
theorem e_ins1 {b p n i : Nat} {P S T0 : Tr} {k52 : Int32 → Tr → Option (Int32 × Tr)} {x1 x2 x3 x4 x5 : Int32} (hS : rI b S) (hK : pK P S) (h0 : plc b T0 S p n) (hi : x4.toInt = i) (hin : i < n) (hx2 : x2.toInt = ((10 * p : Nat) : Int)) (hx5 : x5 = T0 16 (10 * p + i)) {Ti : Tr} (hO : oI b S T0 Ti p n i) (hk : ∀ (y : Int32) (T : Tr), y.toInt = ((i + 1 : Nat) : Int) → oI b S T0 T p n (i + 1) → Ep (k52 y T) (toQ b S T0 p n x3)) (N : Nat) : ∀ (l : Nat) (x6 : Int32) (T : Tr), x6.toInt = l → l ≤ i → (∀ q, q < l → T 16 (10 * p + q) = Ti 16 (10 * p + q)) → (∀ q, l < q → q ≤ i → T 16 (10 * p + q) = Ti 16 (10 * p + (q - 1))) → (∀ q, l ≤ q → q < i → kyS S (gOf Ti p q) < kyS S (gOf T0 p i)) → (∀ a j, ¬ (a = 16 ∧ 10 * p ≤ j ∧ j ≤ 10 * p + i) → T a j = Ti a j) → Ep (lpF (fun _ _ => none) (fB_X6_turnOver_L78 k52 P x1 x2 x3 x4 x5) N x6 T) (toQ b S T0 p n x3) := by
  obtain ⟨p5, n10, h17, h16, hd⟩ := id h0
  have g5 := plc_g h0 hin
  induction N with
  | zero => intro l x6 T _ _ _ _ _ _; exact Ep_none
  | succ N ih =>
    intro l x6 T hl li t1 t2 t3 t4
    show Ep (fB_X6_turnOver_L78 k52 P x1 x2 x3 x4 x5 (lpF (fun _ _ => none) (fB_X6_turnOver_L78 k52 P x1 x2 x3 x4 x5) N) x6 T) _
    generalize lpF (fun _ _ => none) (fB_X6_turnOver_L78 k52 P x1 x2 x3 x4 x5) N = k78 at ih ⊢
    have idx : (x2 + x6).toNatClampNeg = 10 * p + l := jh hx2 hl (by omega)
    obtain ⟨o1, o2, o3, o4⟩ := id hO
    have fin : (∀ q, q < l → kyS S (gOf T0 p i) < kyS S (gOf Ti p q)) → Ep (fJ_X6_turnOver_J129 k52 P x1 x2 x3 x4 x5 x6 T) (toQ b S T0 p n x3) := fun u1 => by
      unfold fJ_X6_turnOver_J129
      refine Ep_ck (Ep_lt (fun T10 e10 => Ep_lt (fun y ey => hk y T10 (by rw [ey]; exact i_p1 hi (by omega)) ?_)))
      rw [idx, hx5] at e10
      have w : ∀ q, ¬ q = l → T10 16 (10 * p + q) = T 16 (10 * p + q) := fun q hq => by rw [e10, st_ne (by omega)]
      have wl : T10 16 (10 * p + l) = T0 16 (10 * p + i) := by rw [e10, st_same]
      refine ⟨ins_step o1 li (fun q hq => ?_) ?_ (fun q q1 q2 => ?_) u1 t3, fun q q1 q2 => ?_, fun q hq => ?_, fun a j n1 => ?_⟩
      · unfold gOf; rw [w q (by omega), t1 q hq]
      · unfold gOf; rw [wl]
      · unfold gOf; rw [w q (by omega), t2 q q1 q2]
      · rw [w q (by omega), t4 16 _ (by omega)]; exact o2 q (by omega) q2
      · rcases (by omega : q < l ∨ q = l ∨ (l < q ∧ q ≤ i) ∨ i < q) with g | g | g | g
        · obtain ⟨j, j1, j2⟩ := o3 q hq
          exact ⟨j, j1, by rw [w q (by omega), t1 q g]; exact j2⟩
        · subst g; exact ⟨i, hin, wl⟩
        · obtain ⟨j, j1, j2⟩ := o3 (q - 1) (by omega)
          exact ⟨j, j1, by rw [w q (by omega), t2 q g.1 g.2]; exact j2⟩
        · obtain ⟨j, j1, j2⟩ := o3 q hq
          exact ⟨j, j1, by rw [w q (by omega), t4 16 _ (by omega)]; exact j2⟩
      · rw [e10, st_no (by omega), t4 a j (by omega)]; exact o4 a j n1
    unfold fB_X6_turnOver_L78
    refine Ep_ite (fun c => ?_) (fun c => Ep_ck ?_)
    · have := tq_le hl (y := 0) (b := 0) (by decide) c
      exact fin (fun q hq => absurd hq (by omega))
    · have := tq_len hl (y := 0) (b := 0) (by decide) c
      obtain ⟨m, hm⟩ : ∃ m, l = m + 1 := ⟨l - 1, by omega⟩
      subst hm
      have idm : ((x2 + x6) - 1).toNatClampNeg = 10 * p + m := i_cn (by
        have e : (x2 + x6).toInt = ((10 * p : Nat) : Int) + ((m + 1 : Nat) : Int) := i_addK hx2 hl (by omega) (by omega)
        rw [i_subK e (y := 1) (by decide) (by omega) (by omega)]; omega)
      rw [idm, idx, t1 m (by omega)]
      obtain ⟨j, j1, j2⟩ := o1.1 m (by omega)
      obtain ⟨j', j1', j2'⟩ := o3 m (by omega)
      have gm : (Ti 16 (10 * p + m)).toInt = gOf Ti p m ∧ ((gOf Ti p m : Nat) : Int) < (S 0 14).toInt := by
        have := h16 j' j1'
        unfold gOf
        rw [j2']; omega
      refine Ep_bd (e_gab hS hK gm.1 (by rw [hx5]; exact g5.1) gm.2 g5.2) (fun r hr => ?_)
      rcases hr with ⟨rfl, hr⟩ | ⟨rfl, hr⟩
      · rw [if_neg (by decide)]
        refine Ep_ck (Ep_lt (fun T18 e18 => Ep_lt (fun y ey => ih m y T18 ?_ (by omega) (fun q hq => ?_) (fun q q1 q2 => ?_) (fun q q1 q2 => ?_) (fun a j n1 => ?_))))
        · rw [ey, i_addK hl (y := -1) (by decide) (by omega) (by omega)]; omega
        · rw [e18, st_ne (by omega)]; exact t1 q (by omega)
        · rcases (by omega : q = m + 1 ∨ m + 1 < q) with g | g
          · subst g; rw [e18, st_same, Nat.add_sub_cancel]
          · rw [e18, st_ne (by omega)]; exact t2 q g q2
        · rcases (by omega : q = m ∨ m + 1 ≤ q) with g | g
          · subst g; exact hr
          · exact t3 q g q2
        · rw [e18, st_no (by omega)]; exact t4 a j n1
      · rw [if_pos rfl]
        have h14 : 0 ≤ (S 0 14).toInt ∧ (S 0 14).toInt ≤ 10 := hS.1 0 14
        have ne : ¬ kyS S (gOf T0 p i) = kyS S (gOf Ti p m) := fun e => by
          have e2 := ky_inj (by omega) (by omega) e
          rw [j2] at e2
          have gj := plc_g h0 (k := j) (by omega)
          have := hd i j hin (by omega) (Int32.toInt_inj.mp (by rw [g5.1, gj.1, e2]))
          omega
        have top : kyS S (gOf T0 p i) < kyS S (gOf Ti p m) := by omega
        refine fin (fun q hq => ?_)
        rcases (by omega : q = m ∨ q < m) with g | g
        · subst g; exact top
        · exact Int.lt_trans top (o1.2.1 q m g (by omega))
theorem e_ins2 {b p n : Nat} {P S T0 : Tr} {x1 x2 x3 : Int32} (hS : rI b S) (hK : pK P S) (h0 : plc b T0 S p n) (hx1 : x1.toInt = p) (hx2 : x2.toInt = ((10 * p : Nat) : Int)) (N : Nat) : ∀ (i : Nat) (x4 : Int32) (T : Tr), x4.toInt = i → (i ≤ n ∨ n = 0) → oI b S T0 T p n (if n = 0 then 0 else i) → Ep (lpF (fun _ _ => none) (fB_X6_turnOver_L52 P x1 x2 x3) N x4 T) (toQ b S T0 p n x3) := by
  obtain ⟨p5, n10, h17, h16, hd⟩ := id h0
  induction N with
  | zero => intro i x4 T _ _ _; exact Ep_none
  | succ N ih =>
    intro i x4 T hi hin hO
    show Ep (fB_X6_turnOver_L52 P x1 x2 x3 (lpF (fun _ _ => none) (fB_X6_turnOver_L52 P x1 x2 x3) N) x4 T) _
    generalize lpF (fun _ _ => none) (fB_X6_turnOver_L52 P x1 x2 x3) N = k52 at ih ⊢
    have t17 : (T 17 p).toInt = n := by rw [hO.2.2.2 17 p (by omega)]; exact h17
    unfold fB_X6_turnOver_L52
    rw [i_cn hx1]
    refine Ep_ck (Ep_ite (fun c => Ep_some ⟨rfl, ?_⟩) (fun c => Ep_ck (Ep_lt (fun y7 e7 => ?_))))
    · have := tq_le t17 hi c
      by_cases g : n = 0
      · rw [if_pos g] at hO; subst g; exact hO
      · rw [if_neg g, show i = n by omega] at hO; exact hO
    · have lt := tq_len t17 hi c
      have n0 : ¬ n = 0 := by omega
      rw [if_neg n0] at hO
      rw [jh hx2 hi (by omega), hO.2.1 i (Nat.le_refl _) (by omega)] at e7
      unfold fL_X6_turnOver_L78
      exact e_ins1 hS hK h0 hi (by omega) hx2 e7 hO (fun y T1 hy hT => ih (i + 1) y T1 hy (Or.inl (by omega)) (by rw [if_neg n0]; exact hT)) 2000 i x4 T hi (Nat.le_refl _) (fun _ _ => rfl) (fun q a b => absurd b (by omega)) (fun q a b => absurd b (by omega)) (fun _ _ _ => rfl)
theorem e_tov {b p n : Nat} {P T S : Tr} {x1 : Int32} (hS : rI b S) (hK : pK P S) (h : plc b T S p n) (hx : x1.toInt = p) : Ep (f_X6_turnOver T P x1) (fun q => q.1.toInt = (chg (kyS S) (gOf T p) n n : Nat) ∧ oI b S T q.2 p n n) := by
  obtain ⟨p5, n10, h17, h16, hd⟩ := id h
  have o1 : oI b S T T p n (if n = 0 then 0 else 1) := by
    refine ⟨?_, fun _ _ _ => rfl, fun q hq => ⟨q, hq, rfl⟩, fun _ _ _ => rfl⟩
    by_cases g : n = 0
    · rw [if_pos g]; exact insI_0
    · rw [if_neg g]; exact insI_1 rfl
  unfold f_X6_turnOver
  refine Ep_lt (fun y1 e1 => ?_)
  have hy : y1.toInt = ((10 * p : Nat) : Int) := by rw [e1, i_mulR (b := (10 : Int32)) 10 (by decide) (by omega) (by omega), hx]; omega
  have lp : ∀ (N k : Nat) (x3 x4 : Int32), x4.toInt = k → k ≤ n → x3.toInt = (chg (kyS S) (gOf T p) n k : Nat) → Ep (lpF (fun _ _ => none) (fB_X6_turnOver_L10 T P x1 y1) N x3 x4) (fun q => q.1.toInt = (chg (kyS S) (gOf T p) n n : Nat) ∧ oI b S T q.2 p n n) := by
    intro N
    induction N with
    | zero => intro k x3 x4 _ _ _; exact Ep_none
    | succ N ih =>
      intro k x3 x4 hx4 hk hx3
      show Ep (fB_X6_turnOver_L10 T P x1 y1 (lpF (fun _ _ => none) (fB_X6_turnOver_L10 T P x1 y1) N) x3 x4) _
      generalize lpF (fun _ _ => none) (fB_X6_turnOver_L10 T P x1 y1) N = kk at ih ⊢
      unfold fB_X6_turnOver_L10
      rw [i_cn hx]
      refine Ep_ck (Ep_ite (fun q => ?_) (fun q => Ep_ck ?_))
      · have := tq_le h17 hx4 q
        unfold fL_X6_turnOver_L52
        refine Ep_mono (e_ins2 hS hK h hx hy 2000 1 1 T (by decide) (by omega) o1) (fun r hr => ⟨?_, hr.2⟩)
        rw [hr.1, hx3, show k = n by omega]
      · have lt := tq_len h17 hx4 q
        have g := plc_g h (k := k) (by omega)
        have le := cnt_le (f := fun k => decide (¬ rnk (kyS S) (gOf T p) n (gOf T p k) = k)) (n := k)
        rw [jh hy hx4 (by omega)]
        refine Ep_bd (e_tlv hS hK h hx g.1 g.2) (fun r hr => ?_)
        have e1 := i_p1 hx4 (by omega)
        refine Ep_ite (fun c => Ep_lt (fun y25 e25 => ih (k + 1) x3 y25 (by rw [e25]; exact e1) (by omega) ?_)) (fun c => Ep_lt (fun y26 e26 => Ep_lt (fun y27 e27 => ih (k + 1) y26 y27 (by rw [e27]; exact e1) (by omega) ?_)))
        · have : rnk (kyS S) (gOf T p) n (gOf T p k) = k := by rw [c, hx4] at hr; omega
          show _ = ((cnt _ k + (bif decide (¬ rnk (kyS S) (gOf T p) n (gOf T p k) = k) then 1 else 0) : Nat) : Int)
          rw [hx3, decide_eq_false (fun q => q this)]; rfl
        · have : ¬ rnk (kyS S) (gOf T p) n (gOf T p k) = k := fun e => c (Int32.toInt_inj.mp (by rw [hr, e, hx4]))
          show _ = ((cnt _ k + (bif decide (¬ rnk (kyS S) (gOf T p) n (gOf T p k) = k) then 1 else 0) : Nat) : Int)
          rw [e26, i_p1 hx3 (by unfold chg; omega), decide_eq_true this]; rfl
  unfold fL_X6_turnOver_L10
  exact lp 2000 0 0 0 (by decide) (by omega) (by show (0 : Int32).toInt = ((0 : Nat) : Int); decide)
