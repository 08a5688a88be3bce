/-! those who get in -/
def fld (P T : Tr) (a : Int32) : Nat → Int32
  | 0 => a
  | n + 1 => if P 8 n = 2 then fld P T a n + T 17 n else fld P T a n
theorem e_146 {b : Nat} {P T S : Tr} {xb : Int32} (hb : xb.toNatClampNeg = b) (hxb : 0 ≤ xb.toInt ∧ xb.toInt ≤ 1) (hR : Rl b P T S) {m : Nat} (hm : (S 0 12).toInt = m) : Ep (fL_X8_ins_L146 xb 0 S) (fun q => (∀ a j, ¬ (a = 63 ∧ j = b) → q a j = S a j) ∧ q 63 b = fld P T (S 63 b) m) := by
  obtain ⟨⟨hS, hpI, hg⟩, hK, hs, hd, hv⟩ := id hR
  have h12 : (S 0 12).toInt ≤ 5 := (hS 0 12).2
  have lp : ∀ (N n : Nat) (x2 : Int32) (S1 : Tr), x2.toInt = n → n ≤ m → (∀ a j, ¬ (a = 63 ∧ j = b) → S1 a j = S a j) → S1 63 b = fld P T (S 63 b) n → Ep (lpF (fun _ _ => none) (fB_X8_ins_L146 xb) N x2 S1) (fun q => (∀ a j, ¬ (a = 63 ∧ j = b) → q a j = S a j) ∧ q 63 b = fld P T (S 63 b) m) := by
    intro N
    induction N with
    | zero => intro n x2 S1 _ _ _ _; exact Ep_none
    | succ N ih =>
      intro n x2 S1 hx hn ho h63
      show Ep (fB_X8_ins_L146 xb (lpF (fun _ _ => none) (fB_X8_ins_L146 xb) N) x2 S1) _
      generalize lpF (fun _ _ => none) (fB_X8_ins_L146 xb) N = k at ih ⊢
      have j5 : (((5 : Int32) * xb) + x2).toNatClampNeg = 5 * b + n := by rw [jx 5 (by decide) (by omega) hxb hx (by omega), hb]
      unfold fB_X8_ins_L146 fJ_X8_ins_J185
      rw [i_cn hx, j5, hb, ho 0 12 (by omega), ho 24 n (by omega), ho 56 _ (by omega)]
      refine Ep_ite (fun c => Ep_some ⟨ho, ?_⟩) (fun c => Ep_ck (Ep_ck ?_))
      · have := tq_le hm hx c
        rw [h63, show n = m by omega]
      · have c := tq_len hm hx c
        have e8 := (hK.2.1 n (by omega)).1
        have e17 := (hd.2.2.2.2 n (by omega)).1
        have step : ∀ (v : Int32) (S7 : Tr) (y : Int32), S7 = st S1 63 b (S1 63 b + v) → y = x2 + 1 → fld P T (S 63 b) n + v = fld P T (S 63 b) (n + 1) → Ep (k y S7) (fun q => (∀ a j, ¬ (a = 63 ∧ j = b) → q a j = S a j) ∧ q 63 b = fld P T (S 63 b) m) := fun v S7 y e ey ef => ih (n + 1) y S7 (by rw [ey]; exact i_p1 hx (by omega)) (by omega) (fun a j hn => by rw [e, st_no hn]; exact ho a j hn) (by rw [e, st_same, h63]; exact ef)
        refine Ep_ite (fun d => Ep_ck (Ep_ck (Ep_lt (fun S7 s7 => Ep_lt (fun y ey => step _ S7 y s7 ey ?_))))) (fun d => Ep_ck (Ep_lt (fun S7 s7 => Ep_lt (fun y ey => step 0 S7 y s7 ey ?_))))
        · show _ = (if P 8 n = 2 then _ else _)
          rw [e8, if_pos d, e17]
        · show _ = (if P 8 n = 2 then _ else _)
          rw [e8, if_neg d, Int32.add_zero]
  unfold fL_X8_ins_L146
  exact lp 2000 0 0 S (by decide) (by omega) (fun _ _ _ => rfl) rfl
def hwI (b : Nat) (S S1 : Tr) : Prop := ∀ i : Nat, i < 10 → S1 53 (10 * b + i) = S 53 (10 * b + i) ∨ (S 53 (10 * b + i) = 0 ∧ (S1 53 (10 * b + i) = 1 ∨ S1 53 (10 * b + i) = 5))
/-- while they get in -/
def IN (b : Nat) (P T S T1 S1 : Tr) : Prop := Rl b P T1 S1 ∧ aG b S S1 ∧ (∀ a j, ¬ (a = 11 ∨ (14 ≤ a ∧ a ≤ 18)) → T1 a j = T a j) ∧ (∀ a j, ¬ ((53 ≤ a ∧ a ≤ 56) ∨ a = 59) → S1 a j = S a j) ∧ hwI b S S1
theorem IN_st {b i : Nat} {P T S T1 S1 T2 S2 : Tr} (h : IN b P T S T1 S1) (h0 : S1 53 (10 * b + i) = 0) (hi : i < 10) (q : stQ b P T1 S1 i T2 S2) : IN b P T S T2 S2 := by
  obtain ⟨h1, h2, h3, h4, h5⟩ := h
  obtain ⟨q1, q2, q3, q4, q5, q6⟩ := q
  refine ⟨q1, aG_tr h2 q2, fun a j hn => (q5 a j (by omega)).trans (h3 a j hn), fun a j hn => (q3 a j (by omega)).trans (h4 a j hn), fun j hj => ?_⟩
  by_cases g : j = i
  · subst g
    refine Or.inr ⟨?_, q6⟩
    rcases h5 j hj with e | ⟨e, e2⟩
    · rw [← e]; exact h0
    · exact e
  · rw [q4 _ (by omega)]; exact h5 j hj
theorem IN_59 {b o : Nat} {P T S T1 S1 : Tr} (h : IN b P T S T1 S1) (ho : (o : Int) < (S1 0 13).toInt) (ho6 : o < 6) : IN b P T S (st T1 11 o 1) (st S1 59 (6 * b + o) 1) := by
  obtain ⟨⟨⟨hS, hpI, hg⟩, hK, hs, hd, hv⟩, h2, h3, h4, h5⟩ := h
  have so : ∀ a j, ¬ (a = 59 ∧ j = 6 * b + o) → st S1 59 (6 * b + o) 1 a j = S1 a j := fun a j hn => st_no hn
  have to : ∀ a j, ¬ (a = 11 ∧ j = o) → st T1 11 o 1 a j = T1 a j := fun a j hn => st_no hn
  have aG1 : aG b S1 (st S1 59 (6 * b + o) 1) := aG_set aG_rfl (Wb_59 (inB_of (by omega) (by omega)))
  have fM : aM b S1 (st S1 59 (6 * b + o) 1) := aM_fx aG1 ⟨fun j _ => so 0 j (by omega), fun a j _ => so a j (by omega)⟩
  refine ⟨⟨⟨iR_setU hS rfl, pI_aG hpI aG1, gI_fr hg (fun j => so 53 j (by omega)) (fun j => so 54 j (by omega)) (fun j => so 55 j (by omega)) (fun j => so 56 j (by omega)) (fun j => so 58 j (by omega)) (so 0 13 (by omega)) (so 0 14 (by omega))⟩, pK_M hK fM, sta_M hs (cM_s cM_r rfl) fM, ?_, ?_⟩, aG_tr h2 aG1, fun a j hn => (to a j (by omega)).trans (h3 a j hn), fun a j hn => (so a j (by omega)).trans (h4 a j hn), fun j hj => by rw [so 53 _ (by omega)]; exact h5 j hj⟩
  · obtain ⟨d1, d2, d3, d4, d5⟩ := hd
    refine ⟨by rw [to 0 0 (by omega), so 62 _ (by omega)]; exact d1, by rw [to 0 1 (by omega), so 61 _ (by omega)]; exact d2, fun q hq => ?_, fun q hq => ?_, stk_e d5 (fun j => to 16 j (by omega)) (fun j => to 17 j (by omega)) (fun j => to 18 j (by omega)) (fun j => so 55 j (by omega)) (fun j => so 56 j (by omega)) hS⟩
    · rw [so 0 13 (by omega)] at hq
      rw [to 12 q (by omega), so 60 _ (by omega), st_if, st_if]
      by_cases g : q = o
      · rw [if_pos g, if_pos (by omega)]; exact ⟨rfl, (d3 q hq).2⟩
      · rw [if_neg g, if_neg (by omega)]; exact d3 q hq
    · rw [so 0 14 (by omega)] at hq
      rw [to 14 q (by omega), to 15 q (by omega), so 53 _ (by omega), so 54 _ (by omega)]; exact d4 q hq
  · refine ⟨fun q hq => ?_, fun q hq => ?_⟩
    · rw [so 0 14 (by omega)] at hq
      obtain ⟨v1, v2, v3⟩ := hv.1 q hq
      rw [so 30 _ (by omega), so 53 _ (by omega), so 54 _ (by omega), so 0 12 (by omega), st_if]
      by_cases g : 6 * b + (S1 30 q).toNatClampNeg = 6 * b + o
      · rw [if_pos g]; exact ⟨fun _ => rfl, fun e => absurd e (by decide), v3⟩
      · rw [if_neg g]; exact ⟨v1, v2, v3⟩
    · rw [so 0 13 (by omega)] at hq
      rw [so 57 _ (by omega), st_if]
      by_cases g : 6 * b + q = 6 * b + o
      · rw [if_pos g]; exact ⟨Or.inr (Or.inl rfl), (hv.2 q hq).2⟩
      · rw [if_neg g]; exact hv.2 q hq
def inQ (b : Nat) (P T S T1 S1 : Tr) : Prop := Rl b P T1 S1 ∧ aG b S S1 ∧ (∀ a j, ¬ (a = 11 ∨ (14 ≤ a ∧ a ≤ 18)) → T1 a j = T a j) ∧ (∀ a j, ¬ ((53 ≤ a ∧ a ≤ 56) ∨ a = 59 ∨ a = 63) → S1 a j = S a j) ∧ hwI b S S1 ∧ S1 63 b = fld P T1 (S 63 b) (S 0 12).toNatClampNeg
theorem e_ins {b : Nat} {P T S : Tr} {xb : Int32} (hb : xb.toNatClampNeg = b) (hxb : 0 ≤ xb.toInt ∧ xb.toInt ≤ 1) (hR : Rl b P T S) : E2 (f_X6_getIn T P) (f_X8_ins S xb) (inQ b P T S) := by
  have hS0 := hR.1.1
  have h13 : 0 ≤ (S 0 13).toInt ∧ (S 0 13).toInt ≤ 6 := hS0 0 13
  have h14 : 0 ≤ (S 0 14).toInt ∧ (S 0 14).toInt ≤ 10 := hS0 0 14
  have h12 : 0 ≤ (S 0 12).toInt ∧ (S 0 12).toInt ≤ 5 := hS0 0 12
  obtain ⟨m, hm⟩ : ∃ m : Nat, (S 0 13).toInt = m := ⟨(S 0 13).toInt.toNat, by omega⟩
  obtain ⟨z, hz⟩ : ∃ z : Nat, (S 0 14).toInt = z := ⟨(S 0 14).toInt.toNat, by omega⟩
  obtain ⟨w, hw⟩ : ∃ w : Nat, (S 0 12).toInt = w := ⟨(S 0 12).toInt.toNat, by omega⟩
  have hP1 : P 0 1 = S 0 13 := hR.2.1.1.2.1
  have hP2 : P 0 2 = S 0 14 := hR.2.1.1.2.2.1
  -- the pieces of one person
  have inner : ∀ (k2 : Int32 → Tr → Option Tr) (k2' : Int32 → Tr → Option Tr) (o : Nat) (x1 y1 : Int32), x1.toInt = o → y1.toInt = o → o < m → (∀ (y y' : Int32) (T1 S1 : Tr), y.toInt = ((o + 1 : Nat) : Int) → y'.toInt = ((o + 1 : Nat) : Int) → IN b P T S T1 S1 → E2 (k2 y T1) (k2' y' S1) (inQ b P T S)) → ∀ (N M n : Nat) (x2 y2 : Int32) (T1 S1 : Tr), x2.toInt = n → y2.toInt = n → n ≤ z → IN b P T S T1 S1 → S1 59 (6 * b + o) = 1 → (∀ j : Nat, n ≤ j → j < z → (S 30 j).toInt = o → S1 53 (10 * b + j) = 0) → E2 (lpF (fun _ _ => none) (fB_X6_getIn_L47 k2 P x1) N x2 T1) (lpF (fun _ _ => none) (fB_X8_ins_L61 k2' xb y1) M y2 S1) (inQ b P T S) := by
    intro k2 k2' o x1 y1 hx1 hy1 hom hk N
    induction N with
    | zero => intro M n x2 y2 T1 S1 _ _ _ _ _ _; exact E2_nl
    | succ N ih =>
      intro M n x2 y2 T1 S1 hx2 hy2 hn hI h59 h0
      cases M with
      | zero => exact E2_nr
      | succ M =>
        show E2 (fB_X6_getIn_L47 k2 P x1 (lpF (fun _ _ => none) (fB_X6_getIn_L47 k2 P x1) N) x2 T1) (fB_X8_ins_L61 k2' xb y1 (lpF (fun _ _ => none) (fB_X8_ins_L61 k2' xb y1) M) y2 S1) _
        have ih2 := fun n x2 y2 T1 S1 => ih M n x2 y2 T1 S1
        clear ih
        generalize lpF (fun _ _ => none) (fB_X6_getIn_L47 k2 P x1) N = k at ih2 ⊢
        generalize lpF (fun _ _ => none) (fB_X8_ins_L61 k2' xb y1) M = k' at ih2 ⊢
        have exy : y2 = x2 := Int32.toInt_inj.mp (hy2.trans hx2.symm)
        have exy1 : y1 = x1 := Int32.toInt_inj.mp (hy1.trans hx1.symm)
        subst exy; subst exy1
        have s14 : S1 0 14 = S 0 14 := hI.2.2.2.1 0 14 (by omega)
        have s30 : S1 30 n = S 30 n := hI.2.2.2.1 30 n (by omega)
        have ex : (y2 + 1).toInt = ((n + 1 : Nat) : Int) := i_p1 hx2 (by omega)
        unfold fB_X6_getIn_L47 fB_X8_ins_L61
        rw [hP2, s14, i_cn hx2, s30]
        refine E2_it Iff.rfl (fun _ _ => E2_ltl (fun y8 e8 => E2_ltr (fun y17 e17 => hk y8 y17 T1 S1 (by rw [e8]; exact i_p1 hx1 (by omega)) (by rw [e17]; exact i_p1 hx1 (by omega)) hI))) (fun c _ => ?_)
        have c := tq_len hz hx2 c
        have e14 : P 14 n = S 30 n := (hR.2.1.2.2.2.1 n (by omega)).1
        rw [e14]
        refine E2_ckl (fun _ => E2_ckr (fun _ => E2_it Iff.rfl (fun d _ => ?_) (fun d _ => E2_ltl (fun y11 e11 => E2_ltr (fun y20 e20 => ih2 (n + 1) y11 y20 T1 S1 (by rw [e11]; exact ex) (by rw [e20]; exact ex) (by omega) hI h59 (fun j j1 j2 j3 => h0 j (by omega) j2 j3))))))
        have do_ : (S 30 n).toInt = o := by rw [d]; exact hx1
        have n0 := h0 n (Nat.le_refl _) (by omega) do_
        have j10 : (((10 : Int32) * xb) + y2).toNatClampNeg = 10 * b + n := by rw [jx 10 (by decide) (by omega) hxb hx2 (by omega), hb]
        refine E2_ckr (fun _ => ?_)
        rw [show (S1 53 (((10 : Int32) * xb) + y2).toNatClampNeg) = 0 by rw [j10]; exact n0]
        refine E2_pr rfl ?_
        refine e_stow (K := fun T_12 => lt (y2 + 1) fun y15 => k y15 T_12) (K' := fun S_27 => lt (y2 + 1) fun y30 => k' y30 S_27) hb hxb hI.1 hx2 (by rw [s14]; omega) n0 (by rw [s30, i_cn do_]; exact h59) (fun T2 S2 hq => ?_)
        refine E2_ltl (fun y15 e15 => E2_ltr (fun y30 e30 => ih2 (n + 1) y15 y30 T2 S2 (by rw [e15]; exact ex) (by rw [e30]; exact ex) (by omega) (IN_st hI n0 (by omega) hq) (by rw [hq.2.2.1 59 _ (by omega)]; exact h59) (fun j j1 j2 j3 => ?_)))
        rw [hq.2.2.2.1 _ (by omega)]; exact h0 j (by omega) j2 j3
  -- the persons
  have outer : ∀ (N M n : Nat) (x1 y1 : Int32) (T1 S1 : Tr), x1.toInt = n → y1.toInt = n → n ≤ m → IN b P T S T1 S1 → E2 (lpF (fun _ _ => none) (fB_X6_getIn_L2 P) N x1 T1) (lpF (fun _ _ => none) (fB_X8_ins_L2 xb) M y1 S1) (inQ b P T S) := by
    intro N
    induction N with
    | zero => intro M n x1 y1 T1 S1 _ _ _ _; exact E2_nl
    | succ N ih =>
      intro M n x1 y1 T1 S1 hx1 hy1 hn hI
      cases M with
      | zero => exact E2_nr
      | succ M =>
        show E2 (fB_X6_getIn_L2 P (lpF (fun _ _ => none) (fB_X6_getIn_L2 P) N) x1 T1) (fB_X8_ins_L2 xb (lpF (fun _ _ => none) (fB_X8_ins_L2 xb) M) y1 S1) _
        have ih2 := fun n x1 y1 T1 S1 => ih M n x1 y1 T1 S1
        clear ih
        generalize lpF (fun _ _ => none) (fB_X6_getIn_L2 P) N = k at ih2 ⊢
        generalize lpF (fun _ _ => none) (fB_X8_ins_L2 xb) M = k' at ih2 ⊢
        have exy1 : y1 = x1 := Int32.toInt_inj.mp (hy1.trans hx1.symm)
        subst exy1
        have s13 : S1 0 13 = S 0 13 := hI.2.2.2.1 0 13 (by omega)
        unfold fB_X6_getIn_L2 fB_X8_ins_L2
        rw [hP1, s13]
        refine E2_it Iff.rfl (fun c _ => ?_) (fun c _ => ?_)
        · have s12 : S1 0 12 = S 0 12 := hI.2.2.2.1 0 12 (by omega)
          refine fun A B ea eb => ?_
          have ea := tx_1 ea
          have q := e_146 hb hxb hI.1 (m := w) (by rw [s12]; exact hw) B eb
          rw [← ea]
          obtain ⟨⟨⟨hS, hpI, hg⟩, hK, hs, hd, hv⟩, h2, h3, h4, h5⟩ := hI
          have aG1 : aG b S1 B := fun a j hf => q.1 a j (fun e => by obtain ⟨rfl, rfl⟩ := e; rw [Wb_63 (inB_of (by omega) (by omega))] at hf; cases hf)
          have fM : aM b S1 B := aM_fx aG1 ⟨fun j _ => q.1 0 j (by omega), fun a j _ => q.1 a j (by omega)⟩
          have hB : iR BM B := fun a j => by
            by_cases g : a = 63 ∧ j = b
            · obtain ⟨rfl, rfl⟩ := g
              have := i_rng (B 63 j)
              exact ⟨by show (-2147483648 : Int) ≤ _; omega, by show _ ≤ (2147483647 : Int); omega⟩
            · rw [q.1 a j g]; exact hS a j
          refine ⟨⟨⟨hB, pI_aG hpI aG1, gI_fr hg (fun j => q.1 53 j (by omega)) (fun j => q.1 54 j (by omega)) (fun j => q.1 55 j (by omega)) (fun j => q.1 56 j (by omega)) (fun j => q.1 58 j (by omega)) (q.1 0 13 (by omega)) (q.1 0 14 (by omega))⟩, pK_M hK fM, sta_M hs cM_r fM, dyn_e hd hS (fun _ _ _ => rfl) (fun a j hj => q.1 a j (by omega)), inv_e hv (fun a j hj => q.1 a j (by omega))⟩, aG_tr h2 aG1, h3, fun a j hn => (q.1 a j (by omega)).trans (h4 a j (by omega)), fun j hj => by rw [q.1 53 _ (by omega)]; exact h5 j hj, ?_⟩
          rw [q.2, h4 63 b (by omega), i_cn hw]
        · have c := tq_len hm hx1 c
          have j6 : (((6 : Int32) * xb) + y1).toNatClampNeg = 6 * b + n := by rw [jx 6 (by decide) (by omega) hxb hx1 (by omega), hb]
          have ex : (y1 + 1).toInt = ((n + 1 : Nat) : Int) := i_p1 hx1 (by omega)
          obtain ⟨⟨⟨hS, hpI, hg⟩, hK, hs, hd, hv⟩, h2, h3, h4, h5⟩ := id hI
          have p1 := (hs.1 n (by rw [s13]; omega)).1
          have p2 := (hd.2.2.1 n (by rw [s13]; omega)).1
          rw [j6, i_cn hx1, p1, p2, hd.1, hb]
          refine E2_ckl (fun _ => E2_ckr (fun _ => E2_ckr (fun _ => ?_)))
          have skip : E2 (lt (y1 + 1) fun y16 => k y16 T1) (lt (y1 + 1) fun y34 => k' y34 S1) (inQ b P T S) := E2_ltl (fun y e => E2_ltr (fun y' e' => ih2 (n + 1) y y' T1 S1 (by rw [e]; exact ex) (by rw [e']; exact ex) (by omega) hI))
          by_cases d0 : S1 59 (6 * b + n) = 0
          · refine E2_pl d0 ?_
            by_cases d1 : S1 57 (6 * b + n) = S1 62 b
            · refine E2_pl d1 (E2_pr d1 (E2_pr d0 (E2_ltl (fun T6 t6 => E2_ltr (fun S15 s15 => ?_)))))
              have hI2 := IN_59 hI (o := n) (by rw [s13]; omega) (by omega)
              rw [← t6, ← s15] at hI2
              unfold fL_X6_getIn_L47 fL_X8_ins_L61
              refine inner k k' n y1 y1 hx1 hx1 (by omega) (fun y y' T2 S2 hy hy' h9 => ih2 (n + 1) y y' T2 S2 hy hy' (by omega) h9) 2000 2000 0 0 0 T6 S15 (by decide) (by decide) (by omega) hI2 (by rw [s15, st_same]) (fun j _ j2 j3 => ?_)
              rw [s15, st_oth (by decide)]
              refine (hv.1 j (by rw [h4 0 14 (by omega)]; omega)).2.1 ?_
              rw [h4 30 j (by omega), i_cn j3]; exact d0
            · exact E2_ql d1 (E2_qr d1 skip)
          · refine E2_ql d0 ?_
            by_cases d1 : S1 57 (6 * b + n) = S1 62 b
            · exact E2_pr d1 (E2_qr d0 skip)
            · exact E2_qr d1 skip
  unfold f_X6_getIn f_X8_ins fL_X6_getIn_L2 fL_X8_ins_L2
  exact outer 2000 2000 0 0 0 T S (by decide) (by decide) (by omega) ⟨hR, aG_rfl, fun _ _ _ => rfl, fun _ _ _ => rfl, fun _ _ => Or.inl rfl⟩
