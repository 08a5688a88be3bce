/-! nobody is to come or to get out: nothing happens any more -/
def idle (b : Nat) (S : Tr) : Prop := ∀ p : Nat, (p : Int) < (S 0 13).toInt → S 59 (6 * b + p) = 2
theorem idle_no {b : Nat} {S : Tr} (hS : rI b S) (hv : inv b S) (h : idle b S) : ∀ i : Nat, (i : Int) < (S 0 14).toInt → ¬ S 53 (10 * b + i) = 1 := fun i hi c => by
  have h14 : 0 ≤ (S 0 14).toInt ∧ (S 0 14).toInt ≤ 10 := hS.1 0 14
  have ow := hS.2.1.2.2.1 i (by omega) hi
  have b30 : 0 ≤ (S 30 i).toInt ∧ (S 30 i).toInt ≤ 5 := hS.1 30 i
  have e := (hv.1 i hi).1 c
  rw [h (S 30 i).toNatClampNeg (by rw [i_cl]; omega)] at e
  exact absurd e (by decide)
def idQ (b : Nat) (S : Tr) (L : Lo) (q : Tr × Lo) : Prop := q.2 = L ∧ inv b q.1 ∧ idle b q.1 ∧ aM b S q.1 ∧ (∀ i : Nat, (i : Int) < (S 0 14).toInt → q.1 53 (10 * b + i) = S 53 (10 * b + i) ∧ q.1 54 (10 * b + i) = S 54 (10 * b + i)) ∧ ∀ a j, ¬ (a = 0 ∧ j = 72) → ¬ (53 ≤ a ∧ a ≤ 56) → ¬ a = 59 → ¬ a = 62 → ¬ a = 63 → q.1 a j = S a j
theorem idQ_r {b : Nat} {S : Tr} {L : Lo} (hv : inv b S) (hi : idle b S) : idQ b S L (S, L) := ⟨rfl, hv, hi, aM_r, fun _ _ => ⟨rfl, rfl⟩, fun _ _ _ _ _ _ _ => rfl⟩
theorem idQ_t {b : Nat} {S : Tr} {L : Lo} {q r : Tr × Lo} (h : idQ b S L q) (g : idQ b q.1 q.2 r) : idQ b S L r := by
  obtain ⟨h1, h2, h3, h4, h5, h6⟩ := h
  obtain ⟨g1, g2, g3, g4, g5, g6⟩ := g
  have e14 : q.1 0 14 = S 0 14 := h6 0 14 (by omega) (by omega) (by omega) (by omega) (by omega)
  refine ⟨g1.trans h1, g2, g3, aM_t h4 g4, fun i hi => ?_, fun a j n1 n2 n3 n4 n5 => (g6 a j n1 n2 n3 n4 n5).trans (h6 a j n1 n2 n3 n4 n5)⟩
  have u := g5 i (by rw [e14]; exact hi)
  have v := h5 i hi
  exact ⟨u.1.trans v.1, u.2.trans v.2⟩
theorem rI_72 {b : Nat} {S : Tr} {v : Int32} (h : rI b S) : rI b (st S 0 72 v) := by
  have z : ∀ a, ¬ a = 0 → ∀ j, st S 0 72 v a j = S a j := fun a ha j => by rw [st_oth ha]
  have z0 : ∀ j, ¬ j = 72 → st S 0 72 v 0 j = S 0 j := fun j hj => by rw [st_ne hj]
  exact ⟨iR_setU h.1 rfl, pI_fr h.2.1 (z 39 (by omega)) (z 40 (by omega)) (z 41 (by omega)) (z 36 (by omega)) (z 38 (by omega)) (z 30 (by omega)) (z 29 (by omega)) (z0 13 (by omega)) (z0 14 (by omega)), gI_fr h.2.2 (z 53 (by omega)) (z 54 (by omega)) (z 55 (by omega)) (z 56 (by omega)) (z 58 (by omega)) (z0 13 (by omega)) (z0 14 (by omega))⟩
theorem inv_id {b : Nat} {S S1 : Tr} (hv : inv b S) (hi : idle b S1) (e12 : S1 0 12 = S 0 12) (e13 : S1 0 13 = S 0 13) (e14 : S1 0 14 = S 0 14) (e30 : ∀ j, S1 30 j = S 30 j) (e57 : ∀ j, S1 57 j = S 57 j) (h5 : ∀ i : Nat, (i : Int) < (S 0 14).toInt → S1 53 (10 * b + i) = S 53 (10 * b + i) ∧ S1 54 (10 * b + i) = S 54 (10 * b + i)) (hs : idle b S) (how : ∀ i : Nat, (i : Int) < (S 0 14).toInt → (((S 30 i).toNatClampNeg : Nat) : Int) < (S 0 13).toInt) : inv b S1 := by
  refine ⟨fun i q => ?_, fun p q => ?_⟩
  · rw [e14] at q
    have v := hv.1 i q
    have w := hs _ (how i q)
    have w1 := hi (S 30 i).toNatClampNeg (by rw [e13]; exact how i q)
    rw [w] at v
    rw [e30, w1, (h5 i q).1, (h5 i q).2, e12]
    exact v
  · have w1 := hi p q
    rw [e13] at q
    rw [w1, e57]
    exact ⟨Or.inr (Or.inr rfl), (hv.2 p q).2⟩
theorem own_lt {b : Nat} {S : Tr} (hS : rI b S) : ∀ i : Nat, (i : Int) < (S 0 14).toInt → (((S 30 i).toNatClampNeg : Nat) : Int) < (S 0 13).toInt := fun i hi => by
  have h14 : 0 ≤ (S 0 14).toInt ∧ (S 0 14).toInt ≤ 10 := hS.1 0 14
  have ow := hS.2.1.2.2.1 i (by omega) hi
  have b30 : 0 ≤ (S 30 i).toInt ∧ (S 30 i).toInt ≤ 5 := hS.1 30 i
  rw [i_cl]; omega
def oiQ (b : Nat) (S : Tr) (L : Lo) (q : Tr × Lo) : Prop := q.2 = L ∧ rI b q.1 ∧ aM b S q.1 ∧ (∀ i : Nat, (i : Int) < (S 0 14).toInt → q.1 53 (10 * b + i) = S 53 (10 * b + i) ∧ q.1 54 (10 * b + i) = S 54 (10 * b + i)) ∧ (∀ p : Nat, (p : Int) < (S 0 13).toInt → q.1 59 (6 * b + p) = 2) ∧ ∀ a j, ¬ (a = 0 ∧ j = 72) → ¬ (53 ≤ a ∧ a ≤ 56) → ¬ a = 59 → q.1 a j = S a j
theorem out_id {b : Nat} {S : Tr} {L : Lo} {xb : Int32} (hb : xb.toNatClampNeg = b) (hxb : 0 ≤ xb.toInt ∧ xb.toInt ≤ 1) (hS : rI b S) (hv : inv b S) (hi : idle b S) : Ep (f_X8_outs S L xb) (oiQ b S L) := by
  have h13 : 0 ≤ (S 0 13).toInt ∧ (S 0 13).toInt ≤ 6 := hS.1 0 13
  have hn := idle_no hS hv hi
  unfold f_X8_outs
  refine Ep_lt (fun S1 e1 => ?_)
  have f1 : ∀ a j, ¬ (a = 0 ∧ j = 72) → S1 a j = S a j := fun a j n => by rw [e1, st_no n]
  have hS1 : rI b S1 := by rw [e1]; exact rI_72 hS
  have am1 : aM b S S1 := by rw [e1]; exact aM_s aM_r (by simp [Mb])
  have e13 : S1 0 13 = S 0 13 := f1 0 13 (by omega)
  have e14 : S1 0 14 = S 0 14 := f1 0 14 (by omega)
  have lp : ∀ (N n : Nat) (x2 x : Int32), x.toInt = n → n ≤ 6 → Ep (lpF (fun _ _ _ _ => none) (fB_X8_outs_L9 xb) N x2 x S1 L) (oiQ b S L) := by
    intro N
    induction N with
    | zero => intro n x2 x _ _; exact Ep_none
    | succ N ih =>
      intro n x2 x hx hn6
      show Ep (fB_X8_outs_L9 xb (lpF (fun _ _ _ _ => none) (fB_X8_outs_L9 xb) N) x2 x S1 L) _
      generalize lpF (fun _ _ _ _ => none) (fB_X8_outs_L9 xb) N = k at ih ⊢
      unfold fB_X8_outs_L9
      refine Ep_ite (fun _ => ?_) (fun c => ?_)
      · unfold fJ_X8_outs_J209
        refine Ep_ck (Ep_ite (fun _ => Ep_mono (en_223 hb hxb hS1) (fun q hq => ?_)) (fun _ => Ep_some ⟨rfl, hS1, am1, fun i hj => ⟨f1 53 _ (by omega), f1 54 _ (by omega)⟩, fun p hp => (f1 59 _ (by omega)).trans (hi p hp), fun a j n1 _ _ => f1 a j n1⟩))
        obtain ⟨q1, q2, q3, q4, q5, q6⟩ := hq
        refine ⟨q1, q2, aM_t am1 q3, fun i hj => ?_, fun p hp => ?_, fun a j n1 n2 n3 => (q6 a j n2 n3).trans (f1 a j n1)⟩
        · rcases q4 i (by rw [e14]; exact hj) with ⟨_, u1, u2⟩ | ⟨u1, _⟩
          · exact ⟨u1.trans (f1 53 _ (by omega)), u2.trans (f1 54 _ (by omega))⟩
          · exact absurd ((f1 53 _ (by omega)).symm.trans u1) (hn i hj)
        · rcases q5 p (by rw [e13]; exact hp) with ⟨_, u1⟩ | ⟨_, u1⟩
          · rw [u1, f1 59 _ (by omega)]; exact hi p hp
          · exact u1
      · have lt := tq_len rfl hx c
        rw [e13] at lt
        have ne : ¬ S1 59 (6 * b + n) = 1 := by rw [f1 59 _ (by omega), hi n lt]; decide
        refine Ep_bd (go_S hb hxb hx (by omega)) (fun r hr => ?_)
        rw [hr.2.1 ne, if_pos rfl]
        exact Ep_lt (fun y ey => ih (n + 1) x2 y (by rw [ey]; exact i_p1 hx (by omega)) (by omega))
  unfold fL_X8_outs_L9
  exact lp 2000 0 1 0 (by decide) (by omega)
theorem fr_146 {b : Nat} {S : Tr} {xb : Int32} (hb : xb.toNatClampNeg = b) (N : Nat) : ∀ (x2 : Int32) (S1 : Tr), (∀ a j, ¬ (a = 63 ∧ j = b) → S1 a j = S a j) → Ep (lpF (fun _ _ => none) (fB_X8_ins_L146 xb) N x2 S1) (fun q => ∀ a j, ¬ (a = 63 ∧ j = b) → q a j = S a j) := by
  induction N with
  | zero => intro x2 S1 _; exact Ep_none
  | succ N ih =>
    intro x2 S1 ho
    show Ep (fB_X8_ins_L146 xb (lpF (fun _ _ => none) (fB_X8_ins_L146 xb) N) x2 S1) _
    generalize lpF (fun _ _ => none) (fB_X8_ins_L146 xb) N = k at ih ⊢
    unfold fB_X8_ins_L146 fJ_X8_ins_J185
    rw [hb]
    refine Ep_ite (fun _ => Ep_some ho) (fun _ => Ep_ck (Ep_ck (Ep_ite (fun _ => Ep_ck (Ep_ck (Ep_lt (fun S7 s7 => Ep_lt (fun y _ => ih y S7 (fun a j n => by rw [s7, st_no n]; exact ho a j n)))))) (fun _ => Ep_ck (Ep_lt (fun S7 s7 => Ep_lt (fun y _ => ih y S7 (fun a j n => by rw [s7, st_no n]; exact ho a j n))))))))
theorem in_id {b : Nat} {S : Tr} {xb : Int32} (hb : xb.toNatClampNeg = b) (hxb : 0 ≤ xb.toInt ∧ xb.toInt ≤ 1) (hS : iR BM S) (hi : ∀ p : Nat, (p : Int) < (S 0 13).toInt → ¬ S 59 (6 * b + p) = 0) : Ep (f_X8_ins S xb) (fun q => ∀ a j, ¬ (a = 63 ∧ j = b) → q a j = S a j) := by
  have h13 : 0 ≤ (S 0 13).toInt ∧ (S 0 13).toInt ≤ 6 := hS 0 13
  have lp : ∀ (N n : Nat) (x : Int32), x.toInt = n → n ≤ 6 → Ep (lpF (fun _ _ => none) (fB_X8_ins_L2 xb) N x S) (fun q => ∀ a j, ¬ (a = 63 ∧ j = b) → q a j = S a j) := by
    intro N
    induction N with
    | zero => intro n x _ _; exact Ep_none
    | succ N ih =>
      intro n x hx hn6
      show Ep (fB_X8_ins_L2 xb (lpF (fun _ _ => none) (fB_X8_ins_L2 xb) N) x S) _
      generalize lpF (fun _ _ => none) (fB_X8_ins_L2 xb) N = k at ih ⊢
      unfold fB_X8_ins_L2
      refine Ep_ite (fun _ => ?_) (fun c => ?_)
      · unfold fL_X8_ins_L146
        exact fr_146 hb 2000 0 S (fun _ _ _ => rfl)
      · have lt := tq_len rfl hx c
        have j6 : (((6 : Int32) * xb) + x).toNatClampNeg = 6 * b + n := by rw [jx 6 (by decide) (by omega) hxb hx (by omega), hb]
        have e1 := i_p1 hx (by omega)
        rw [j6, hb]
        exact Ep_ck (Ep_ck (Ep_ite (fun _ => Ep_ite (fun g => absurd g (hi n lt)) (fun _ => Ep_lt (fun y ey => ih (n + 1) y (by rw [ey]; exact e1) (by omega)))) (fun _ => Ep_lt (fun y ey => ih (n + 1) y (by rw [ey]; exact e1) (by omega)))))
  unfold f_X8_ins fL_X8_ins_L2
  exact lp 2000 0 0 (by decide) (by omega)
theorem way_id {b : Nat} {S : Tr} {L : Lo} {xb : Int32} (hb : xb.toNatClampNeg = b) (hxb : 0 ≤ xb.toInt ∧ xb.toInt ≤ 1) (hS : rI b S) (h0 : ∀ i : Nat, (i : Int) < (S 0 14).toInt → ¬ S 53 (10 * b + i) = 1) : Ep (f_X8_onTheWay S L xb) (fun q => q = (S, L)) := by
  have h12 : 0 ≤ (S 0 12).toInt ∧ (S 0 12).toInt ≤ 5 := hS.1 0 12
  have h14 : 0 ≤ (S 0 14).toInt ∧ (S 0 14).toInt ≤ 10 := hS.1 0 14
  have z := h_0 hS h0
  have lpb : ∀ (N n : Nat) (x : Int32), x.toInt = n → n ≤ 10 → Ep (lpF (fun _ _ _ => none) (fB_X8_onTheWay_L90 xb) N x S L) (fun q => q = (S, L)) := by
    intro N
    induction N with
    | zero => intro n x _ _; exact Ep_none
    | succ N ih =>
      intro n x hx hn
      show Ep (fB_X8_onTheWay_L90 xb (lpF (fun _ _ _ => none) (fB_X8_onTheWay_L90 xb) N) x S L) _
      generalize lpF (fun _ _ _ => none) (fB_X8_onTheWay_L90 xb) N = k at ih ⊢
      unfold fB_X8_onTheWay_L90
      refine Ep_ite (fun _ => Ep_some rfl) (fun c => Ep_ite (fun _ => ?_) (fun _ => Ep_some rfl))
      have lt := tq_len rfl hx c
      have j10 : (((10 : Int32) * xb) + x).toNatClampNeg = 10 * b + n := by rw [jx 10 (by decide) (by omega) hxb hx (by omega), hb]
      rw [j10]
      exact Ep_ck (Ep_ite (fun g => absurd g (h0 n lt)) (fun _ => Ep_lt (fun y ey => ih (n + 1) y (by rw [ey]; exact i_p1 hx (by omega)) (by omega))))
  have lpa : ∀ (N n : Nat) (x : Int32), x.toInt = n → n ≤ 5 → Ep (lpF (fun _ _ _ => none) (fB_X8_onTheWay_L2 xb) N x S L) (fun q => q = (S, L)) := by
    intro N
    induction N with
    | zero => intro n x _ _; exact Ep_none
    | succ N ih =>
      intro n x hx hn
      show Ep (fB_X8_onTheWay_L2 xb (lpF (fun _ _ _ => none) (fB_X8_onTheWay_L2 xb) N) x S L) _
      generalize lpF (fun _ _ _ => none) (fB_X8_onTheWay_L2 xb) N = k at ih ⊢
      have nb : Ep (fL_X8_onTheWay_L90 xb 0 S L) (fun q => q = (S, L)) := by
        unfold fL_X8_onTheWay_L90
        exact lpb 2000 0 0 (by decide) (by omega)
      unfold fB_X8_onTheWay_L2
      refine Ep_ite (fun _ => nb) (fun c => Ep_ite (fun _ => ?_) (fun _ => nb))
      have lt := tq_len rfl hx c
      have j5 : (((5 : Int32) * xb) + x).toNatClampNeg = 5 * b + n := by rw [jx 5 (by decide) (by omega) hxb hx (by omega), hb]
      rw [j5]
      exact Ep_ck (Ep_ite (fun _ => Ep_lt (fun y ey => ih (n + 1) y (by rw [ey]; exact i_p1 hx (by omega)) (by omega))) (fun _ => Ep_ck (Ep_ite (fun _ => Ep_lt (fun y ey => ih (n + 1) y (by rw [ey]; exact i_p1 hx (by omega)) (by omega))) (fun g => absurd (z n (by omega)) g))))
  unfold f_X8_onTheWay fL_X8_onTheWay_L2
  exact lpa 2000 0 0 (by decide) (by omega)
theorem go_id {b : Nat} {S : Tr} {L : Lo} {xb : Int32} (hb : xb.toNatClampNeg = b) (hxb : 0 ≤ xb.toInt ∧ xb.toInt ≤ 1) (hS : rI b S) (hv : inv b S) (hi : idle b S) : Ep (f_X8_goOn S L xb) (idQ b S L) := by
  unfold f_X8_goOn
  refine Ep_bd (out_id hb hxb hS hv hi) (fun q hq => Ep_lt (fun S1 e1 => Ep_lt (fun L2 e2 => ?_)))
  obtain ⟨q1, q2, q3, q4, q5, q6⟩ := hq
  rw [← e1] at q2 q3 q4 q5 q6
  rw [← e2] at q1
  have e13 : S1 0 13 = S 0 13 := q6 0 13 (by omega) (by omega) (by omega)
  have e14 : S1 0 14 = S 0 14 := q6 0 14 (by omega) (by omega) (by omega)
  have ne0 : ∀ p : Nat, (p : Int) < (S1 0 13).toInt → ¬ S1 59 (6 * b + p) = 0 := fun p hp => by
    rw [q5 p (by rw [← e13]; exact hp)]; decide
  refine Ep_bd (Ep_and (in_id hb hxb q2.1 ne0) (D_to (t_X8_ins S1 xb q2.1 q2.2.1 (by rw [hb]; exact q2.2.2) hxb))) (fun S5 h5 => ?_)
  obtain ⟨h5, r1, r2, r3, r4, _⟩ := h5
  rw [hb] at r4
  have rI5 : rI b S5 := ⟨r1, r3, r4⟩
  have am5 : aM b S S5 := aM_t q3 (fun a j hf => h5 a j (fun g => by
    obtain ⟨rfl, rfl⟩ := g
    rw [Mb_63] at hf
    cases hf))
  have n5 : ∀ i : Nat, (i : Int) < (S5 0 14).toInt → ¬ S5 53 (10 * b + i) = 1 := fun i hj => by
    rw [h5 0 14 (by omega), e14] at hj
    rw [h5 53 _ (by omega), (q4 i hj).1]
    exact idle_no hS hv hi i hj
  have fin : ∀ L3 : Lo, L3 = L → Ep (fJ_X8_goOn_J26 xb S5 L3) (idQ b S L) := fun L3 e3 => by
    unfold fJ_X8_goOn_J26
    rw [hb]
    refine Ep_ck (Ep_lt (fun S11 e11 => Ep_some ?_))
    have g : ∀ a j, ¬ (a = 62 ∧ j = b) → S11 a j = S5 a j := fun a j n => by rw [e11, st_no n]
    have i11 : idle b S11 := fun p hp => by
      rw [g 0 13 (by omega), h5 0 13 (by omega), e13] at hp
      rw [g 59 _ (by omega), h5 59 _ (by omega)]
      exact q5 p hp
    have w5 : ∀ i : Nat, (i : Int) < (S 0 14).toInt → S11 53 (10 * b + i) = S 53 (10 * b + i) ∧ S11 54 (10 * b + i) = S 54 (10 * b + i) := fun i hj => by
      rw [g 53 _ (by omega), h5 53 _ (by omega), g 54 _ (by omega), h5 54 _ (by omega)]
      exact q4 i hj
    have w6 : ∀ a j, ¬ (a = 0 ∧ j = 72) → ¬ (53 ≤ a ∧ a ≤ 56) → ¬ a = 59 → ¬ a = 62 → ¬ a = 63 → S11 a j = S a j := fun a j n1 n2 n3 n4 n5 => by
      rw [g a j (by omega), h5 a j (by omega), q6 a j n1 n2 n3]
    refine ⟨e3, inv_id hv i11 (w6 0 12 (by omega) (by omega) (by omega) (by omega) (by omega)) (w6 0 13 (by omega) (by omega) (by omega) (by omega) (by omega)) (w6 0 14 (by omega) (by omega) (by omega) (by omega) (by omega)) (fun j => w6 30 j (by omega) (by omega) (by omega) (by omega) (by omega)) (fun j => w6 57 j (by omega) (by omega) (by omega) (by omega) (by omega)) w5 hi (own_lt hS), i11, ?_, w5, w6⟩
    show aM b S S11
    rw [e11]
    exact aM_s am5 Mb_62
  rw [hb]
  refine Ep_ck (Ep_ite (fun _ => fin L2 q1) (fun _ => Ep_bd (way_id hb hxb rI5 n5) (fun r hr => Ep_lt (fun S12 e12 => Ep_lt (fun L13 e13 => ?_)))))
  have a1 : S12 = S5 := by rw [e12, hr]
  have a2 : L13 = L := by rw [e13, hr]; exact q1
  rw [a1]
  exact fin L13 a2
theorem end_id (N : Nat) : ∀ (S : Tr) (L : Lo), rI 1 S → inv 1 S → idle 1 S → Ep (lpF (fun _ _ => none) (fB_X8_toEnd_L0) N S L) (fun q => idQ 1 S L q ∧ rI 1 q.1 ∧ 21 ≤ (q.1 62 1).toInt) := by
  induction N with
  | zero => intro S L _ _ _; exact Ep_none
  | succ N ih =>
    intro S L hS hv hi
    show Ep (fB_X8_toEnd_L0 (lpF (fun _ _ => none) (fB_X8_toEnd_L0) N) S L) _
    generalize lpF (fun _ _ => none) (fB_X8_toEnd_L0) N = k at ih ⊢
    unfold fB_X8_toEnd_L0
    refine Ep_ite (fun c => Ep_some ⟨idQ_r hv hi, hS, ?_⟩) (fun c => ?_)
    · exact tq_le (a := 21) (by decide) rfl c
    · have lt : (S 62 1).toInt < 21 := tq_len (a := 21) (by decide) rfl c
      refine Ep_bd (Ep_and (go_id (b := 1) (xb := 1) (by decide) (by decide) hS hv hi) (D_to (t_X8_goOn S L 1 hS.1 hS.2.1 hS.2.2 (by decide) (by show (S 62 1).toInt ≤ 20; omega)))) (fun q hq => Ep_lt (fun S2 e2 => Ep_lt (fun L3 e3 => ?_)))
      obtain ⟨h1, r1, _, r3, r4, _⟩ := hq
      rw [e2, e3]
      exact Ep_mono (ih q.1 q.2 ⟨r1, r3, r4⟩ h1.2.1 h1.2.2.1) (fun r hr => ⟨idQ_t h1 hr.1, hr.2⟩)
