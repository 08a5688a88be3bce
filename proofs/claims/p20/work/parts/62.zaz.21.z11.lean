-- 62.zaz.21.z11
/-! those who get in -/
def fld (P T : Tr) (a : Int32) : Nat → Int32
  | 0 => a
  | n + 1 => if P 8 n = 2 then fld P T a n + T 17 n else fld P T a n
theorem e_146 {b : Nat} {P T S : Tr} {xb : Int32} (hb : xb.toNatClampNeg = b) (hxb : 0 ≤ xb.toInt ∧ xb.toInt ≤ 1) (hR : Rl b P T S) {m : Nat} (hm : (S 0 12).toInt = m) : Ep (fL_X8_ins_L146 xb 0 S) (fun q => (∀ a j, ¬ (a = 63 ∧ j = b) → q a j = S a j) ∧ q 63 b = fld P T (S 63 b) m) := by
  obtain ⟨⟨hS, hpI, hg⟩, hK, hs, hd, hv⟩ := id hR
  have h12 : (S 0 12).toInt ≤ 5 := (hS 0 12).2
  have lp : ∀ (N n : Nat) (x2 : Int32) (S1 : Tr), x2.toInt = n → n ≤ m → (∀ a j, ¬ (a = 63 ∧ j = b) → S1 a j = S a j) → S1 63 b = fld P T (S 63 b) n → Ep (lpF (fun _ _ => none) (fB_X8_ins_L146 xb) N x2 S1) (fun q => (∀ a j, ¬ (a = 63 ∧ j = b) → q a j = S a j) ∧ q 63 b = fld P T (S 63 b) m) := by
    intro N
    induction N with
    | zero => intro n x2 S1 _ _ _ _; exact Ep_none
    | succ N ih =>
      intro n x2 S1 hx hn ho h63
      show Ep (fB_X8_ins_L146 xb (lpF (fun _ _ => none) (fB_X8_ins_L146 xb) N) x2 S1) _
      generalize lpF (fun _ _ => none) (fB_X8_ins_L146 xb) N = k at ih ⊢
      have j5 : (((5 : Int32) * xb) + x2).toNatClampNeg = 5 * b + n := by rw [jx 5 (by decide) (by omega) hxb hx (by omega), hb]
      unfold fB_X8_ins_L146 fJ_X8_ins_J185
      rw [i_cn hx, j5, hb, ho 0 12 (by omega), ho 24 n (by omega), ho 56 _ (by omega)]
      refine Ep_ite (fun c => Ep_some ⟨ho, ?_⟩) (fun c => Ep_ck (Ep_ck ?_))
      · have := tq_le hm hx c
        rw [h63, show n = m by omega]
      · have c := tq_len hm hx c
        have e8 := (hK.2.1 n (by omega)).1
        have e17 := (hd.2.2.2.2 n (by omega)).1
        have step : ∀ (v : Int32) (S7 : Tr) (y : Int32), S7 = st S1 63 b (S1 63 b + v) → y = x2 + 1 → fld P T (S 63 b) n + v = fld P T (S 63 b) (n + 1) → Ep (k y S7) (fun q => (∀ a j, ¬ (a = 63 ∧ j = b) → q a j = S a j) ∧ q 63 b = fld P T (S 63 b) m) := fun v S7 y e ey ef => ih (n + 1) y S7 (by rw [ey]; exact i_p1 hx (by omega)) (by omega) (fun a j hn => by rw [e, st_no hn]; exact ho a j hn) (by rw [e, st_same, h63]; exact ef)
        refine Ep_ite (fun d => Ep_ck (Ep_ck (Ep_lt (fun S7 s7 => Ep_lt (fun y ey => step _ S7 y s7 ey ?_))))) (fun d => Ep_ck (Ep_lt (fun S7 s7 => Ep_lt (fun y ey => step 0 S7 y s7 ey ?_))))
        · show _ = (if P 8 n = 2 then _ else _)
          rw [e8, if_pos d, e17]
        · show _ = (if P 8 n = 2 then _ else _)
          rw [e8, if_neg d, Int32.add_zero]
  unfold fL_X8_ins_L146
  exact lp 2000 0 0 S (by decide) (by omega) (fun _ _ _ => rfl) rfl
def hwI (b : Nat) (S S1 : Tr) : Prop := ∀ i : Nat, i < 10 → S1 53 (10 * b + i) = S 53 (10 * b + i) ∨ (S 53 (10 * b + i) = 0 ∧ (S1 53 (10 * b + i) = 1 ∨ S1 53 (10 * b + i) = 5))
/-- while they get in -/
def IN (b : Nat) (P T S T1 S1 : Tr) : Prop := Rl b P T1 S1 ∧ aG b S S1 ∧ (∀ a j, ¬ (a = 11 ∨ (14 ≤ a ∧ a ≤ 18)) → T1 a j = T a j) ∧ (∀ a j, ¬ ((53 ≤ a ∧ a ≤ 56) ∨ a = 59) → S1 a j = S a j) ∧ hwI b S S1
theorem IN_st {b i : Nat} {P T S T1 S1 T2 S2 : Tr} (h : IN b P T S T1 S1) (h0 : S1 53 (10 * b + i) = 0) (hi : i < 10) (q : stQ b P T1 S1 i T2 S2) : IN b P T S T2 S2 := by
  obtain ⟨h1, h2, h3, h4, h5⟩ := h
  obtain ⟨q1, q2, q3, q4, q5, q6⟩ := q
  refine ⟨q1, aG_tr h2 q2, fun a j hn => (q5 a j (by omega)).trans (h3 a j hn), fun a j hn => (q3 a j (by omega)).trans (h4 a j hn), fun j hj => ?_⟩
  by_cases g : j = i
  · subst g
    refine Or.inr ⟨?_, q6⟩
    rcases h5 j hj with e | ⟨e, e2⟩
    · rw [← e]; exact h0
    · exact e
  · rw [q4 _ (by omega)]; exact h5 j hj
theorem IN_59 {b o : Nat} {P T S T1 S1 : Tr} (h : IN b P T S T1 S1) (ho : (o : Int) < (S1 0 13).toInt) (ho6 : o < 6) : IN b P T S (st T1 11 o 1) (st S1 59 (6 * b + o) 1) := by
  obtain ⟨⟨⟨hS, hpI, hg⟩, hK, hs, hd, hv⟩, h2, h3, h4, h5⟩ := h
  have so : ∀ a j, ¬ (a = 59 ∧ j = 6 * b + o) → st S1 59 (6 * b + o) 1 a j = S1 a j := fun a j hn => st_no hn
  have to : ∀ a j, ¬ (a = 11 ∧ j = o) → st T1 11 o 1 a j = T1 a j := fun a j hn => st_no hn
  have aG1 : aG b S1 (st S1 59 (6 * b + o) 1) := aG_set aG_rfl (Wb_59 (inB_of (by omega) (by omega)))
  have fM : aM b S1 (st S1 59 (6 * b + o) 1) := aM_fx aG1 ⟨fun j _ => so 0 j (by omega), fun a j _ => so a j (by omega)⟩
  refine ⟨⟨⟨iR_setU hS rfl, pI_aG hpI aG1, gI_fr hg (fun j => so 53 j (by omega)) (fun j => so 54 j (by omega)) (fun j => so 55 j (by omega)) (fun j => so 56 j (by omega)) (fun j => so 58 j (by omega)) (so 0 13 (by omega)) (so 0 14 (by omega))⟩, pK_M hK fM, sta_M hs (cM_s cM_r rfl) fM, ?_, ?_⟩, aG_tr h2 aG1, fun a j hn => (to a j (by omega)).trans (h3 a j hn), fun a j hn => (so a j (by omega)).trans (h4 a j hn), fun j hj => by rw [so 53 _ (by omega)]; exact h5 j hj⟩
  · obtain ⟨d1, d2, d3, d4, d5⟩ := hd
    refine ⟨by rw [to 0 0 (by omega), so 62 _ (by omega)]; exact d1, by rw [to 0 1 (by omega), so 61 _ (by omega)]; exact d2, fun q hq => ?_, fun q hq => ?_, stk_e d5 (fun j => to 16 j (by omega)) (fun j => to 17 j (by omega)) (fun j => to 18 j (by omega)) (fun j => so 55 j (by omega)) (fun j => so 56 j (by omega)) hS⟩
    · rw [so 0 13 (by omega)] at hq
      rw [to 12 q (by omega), so 60 _ (by omega), st_if, st_if]
      by_cases g : q = o
      · rw [if_pos g, if_pos (by omega)]; exact ⟨rfl, (d3 q hq).2⟩
      · rw [if_neg g, if_neg (by omega)]; exact d3 q hq
    · rw [so 0 14 (by omega)] at hq
      rw [to 14 q (by omega), to 15 q (by omega), so 53 _ (by omega), so 54 _ (by omega)]; exact d4 q hq
  · refine ⟨fun q hq => ?_, fun q hq => ?_⟩
    · rw [so 0 14 (by omega)] at hq
      obtain ⟨v1, v2, v3⟩ := hv.1 q hq
      rw [so 30 _ (by omega), so 53 _ (by omega), so 54 _ (by omega), so 0 12 (by omega), st_if]
      by_cases g : 6 * b + (S1 30 q).toNatClampNeg = 6 * b + o
      · rw [if_pos g]; exact ⟨fun _ => rfl, fun e => absurd e (by decide), v3⟩
      · rw [if_neg g]; exact ⟨v1, v2, v3⟩
    · rw [so 0 13 (by omega)] at hq
      rw [so 57 _ (by omega), st_if]
      by_cases g : 6 * b + q = 6 * b + o
      · rw [if_pos g]; exact ⟨Or.inr (Or.inl rfl), (hv.2 q hq).2⟩
      · rw [if_neg g]; exact hv.2 q hq
def inQ (b : Nat) (P T S T1 S1 : Tr) : Prop := Rl b P T1 S1 ∧ aG b S S1 ∧ (∀ a j, ¬ (a = 11 ∨ (14 ≤ a ∧ a ≤ 18)) → T1 a j = T a j) ∧ (∀ a j, ¬ ((53 ≤ a ∧ a ≤ 56) ∨ a = 59 ∨ a = 63) → S1 a j = S a j) ∧ hwI b S S1 ∧ S1 63 b = fld P T1 (S 63 b) (S 0 12).toNatClampNeg
theorem e_ins {b : Nat} {P T S : Tr} {xb : Int32} (hb : xb.toNatClampNeg = b) (hxb : 0 ≤ xb.toInt ∧ xb.toInt ≤ 1) (hR : Rl b P T S) : E2 (f_X6_getIn T P) (f_X8_ins S xb) (inQ b P T S) := by
  have hS0 := hR.1.1
  have h13 : 0 ≤ (S 0 13).toInt ∧ (S 0 13).toInt ≤ 6 := hS0 0 13
  have h14 : 0 ≤ (S 0 14).toInt ∧ (S 0 14).toInt ≤ 10 := hS0 0 14
  have h12 : 0 ≤ (S 0 12).toInt ∧ (S 0 12).toInt ≤ 5 := hS0 0 12
  obtain ⟨m, hm⟩ : ∃ m : Nat, (S 0 13).toInt = m := ⟨(S 0 13).toInt.toNat, by omega⟩
  obtain ⟨z, hz⟩ : ∃ z : Nat, (S 0 14).toInt = z := ⟨(S 0 14).toInt.toNat, by omega⟩
  obtain ⟨w, hw⟩ : ∃ w : Nat, (S 0 12).toInt = w := ⟨(S 0 12).toInt.toNat, by omega⟩
  have hP1 : P 0 1 = S 0 13 := hR.2.1.1.2.1
  have hP2 : P 0 2 = S 0 14 := hR.2.1.1.2.2.1
  -- the pieces of one person
  have inner : ∀ (k2 : Int32 → Tr → Option Tr) (k2' : Int32 → Tr → Option Tr) (o : Nat) (x1 y1 : Int32), x1.toInt = o → y1.toInt = o → o < m → (∀ (y y' : Int32) (T1 S1 : Tr), y.toInt = ((o + 1 : Nat) : Int) → y'.toInt = ((o + 1 : Nat) : Int) → IN b P T S T1 S1 → E2 (k2 y T1) (k2' y' S1) (inQ b P T S)) → ∀ (N M n : Nat) (x2 y2 : Int32) (T1 S1 : Tr), x2.toInt = n → y2.toInt = n → n ≤ z → IN b P T S T1 S1 → S1 59 (6 * b + o) = 1 → (∀ j : Nat, n ≤ j → j < z → (S 30 j).toInt = o → S1 53 (10 * b + j) = 0) → E2 (lpF (fun _ _ => none) (fB_X6_getIn_L47 k2 P x1) N x2 T1) (lpF (fun _ _ => none) (fB_X8_ins_L61 k2' xb y1) M y2 S1) (inQ b P T S) := by
    intro k2 k2' o x1 y1 hx1 hy1 hom hk N
    induction N with
    | zero => intro M n x2 y2 T1 S1 _ _ _ _ _ _; exact E2_nl
    | succ N ih =>
      intro M n x2 y2 T1 S1 hx2 hy2 hn hI h59 h0
      cases M with
      | zero => exact E2_nr
      | succ M =>
        show E2 (fB_X6_getIn_L47 k2 P x1 (lpF (fun _ _ => none) (fB_X6_getIn_L47 k2 P x1) N) x2 T1) (fB_X8_ins_L61 k2' xb y1 (lpF (fun _ _ => none) (fB_X8_ins_L61 k2' xb y1) M) y2 S1) _
        have ih2 := fun n x2 y2 T1 S1 => ih M n x2 y2 T1 S1
        clear ih
        generalize lpF (fun _ _ => none) (fB_X6_getIn_L47 k2 P x1) N = k at ih2 ⊢
        generalize lpF (fun _ _ => none) (fB_X8_ins_L61 k2' xb y1) M = k' at ih2 ⊢
        have exy : y2 = x2 := Int32.toInt_inj.mp (hy2.trans hx2.symm)
        have exy1 : y1 = x1 := Int32.toInt_inj.mp (hy1.trans hx1.symm)
        subst exy; subst exy1
        have s14 : S1 0 14 = S 0 14 := hI.2.2.2.1 0 14 (by omega)
        have s30 : S1 30 n = S 30 n := hI.2.2.2.1 30 n (by omega)
        have ex : (y2 + 1).toInt = ((n + 1 : Nat) : Int) := i_p1 hx2 (by omega)
        unfold fB_X6_getIn_L47 fB_X8_ins_L61
        rw [hP2, s14, i_cn hx2, s30]
        refine E2_it Iff.rfl (fun _ _ => E2_ltl (fun y8 e8 => E2_ltr (fun y17 e17 => hk y8 y17 T1 S1 (by rw [e8]; exact i_p1 hx1 (by omega)) (by rw [e17]; exact i_p1 hx1 (by omega)) hI))) (fun c _ => ?_)
        have c := tq_len hz hx2 c
        have e14 : P 14 n = S 30 n := (hR.2.1.2.2.2.1 n (by omega)).1
        rw [e14]
        refine E2_ckl (fun _ => E2_ckr (fun _ => E2_it Iff.rfl (fun d _ => ?_) (fun d _ => E2_ltl (fun y11 e11 => E2_ltr (fun y20 e20 => ih2 (n + 1) y11 y20 T1 S1 (by rw [e11]; exact ex) (by rw [e20]; exact ex) (by omega) hI h59 (fun j j1 j2 j3 => h0 j (by omega) j2 j3))))))
        have do_ : (S 30 n).toInt = o := by rw [d]; exact hx1
        have n0 := h0 n (Nat.le_refl _) (by omega) do_
        have j10 : (((10 : Int32) * xb) + y2).toNatClampNeg = 10 * b + n := by rw [jx 10 (by decide) (by omega) hxb hx2 (by omega), hb]
        refine E2_ckr (fun _ => ?_)
        rw [show (S1 53 (((10 : Int32) * xb) + y2).toNatClampNeg) = 0 by rw [j10]; exact n0]
        refine E2_pr rfl ?_
        refine e_stow (K := fun T_12 => lt (y2 + 1) fun y15 => k y15 T_12) (K' := fun S_27 => lt (y2 + 1) fun y30 => k' y30 S_27) hb hxb hI.1 hx2 (by rw [s14]; omega) n0 (by rw [s30, i_cn do_]; exact h59) (fun T2 S2 hq => ?_)
        refine E2_ltl (fun y15 e15 => E2_ltr (fun y30 e30 => ih2 (n + 1) y15 y30 T2 S2 (by rw [e15]; exact ex) (by rw [e30]; exact ex) (by omega) (IN_st hI n0 (by omega) hq) (by rw [hq.2.2.1 59 _ (by omega)]; exact h59) (fun j j1 j2 j3 => ?_)))
        rw [hq.2.2.2.1 _ (by omega)]; exact h0 j (by omega) j2 j3
  -- the persons
  have outer : ∀ (N M n : Nat) (x1 y1 : Int32) (T1 S1 : Tr), x1.toInt = n → y1.toInt = n → n ≤ m → IN b P T S T1 S1 → E2 (lpF (fun _ _ => none) (fB_X6_getIn_L2 P) N x1 T1) (lpF (fun _ _ => none) (fB_X8_ins_L2 xb) M y1 S1) (inQ b P T S) := by
    intro N
    induction N with
    | zero => intro M n x1 y1 T1 S1 _ _ _ _; exact E2_nl
    | succ N ih =>
      intro M n x1 y1 T1 S1 hx1 hy1 hn hI
      cases M with
      | zero => exact E2_nr
      | succ M =>
        show E2 (fB_X6_getIn_L2 P (lpF (fun _ _ => none) (fB_X6_getIn_L2 P) N) x1 T1) (fB_X8_ins_L2 xb (lpF (fun _ _ => none) (fB_X8_ins_L2 xb) M) y1 S1) _
        have ih2 := fun n x1 y1 T1 S1 => ih M n x1 y1 T1 S1
        clear ih
        generalize lpF (fun _ _ => none) (fB_X6_getIn_L2 P) N = k at ih2 ⊢
        generalize lpF (fun _ _ => none) (fB_X8_ins_L2 xb) M = k' at ih2 ⊢
        have exy1 : y1 = x1 := Int32.toInt_inj.mp (hy1.trans hx1.symm)
        subst exy1
        have s13 : S1 0 13 = S 0 13 := hI.2.2.2.1 0 13 (by omega)
        unfold fB_X6_getIn_L2 fB_X8_ins_L2
        rw [hP1, s13]
        refine E2_it Iff.rfl (fun c _ => ?_) (fun c _ => ?_)
        · have s12 : S1 0 12 = S 0 12 := hI.2.2.2.1 0 12 (by omega)
          refine fun A B ea eb => ?_
          have ea := tx_1 ea
          have q := e_146 hb hxb hI.1 (m := w) (by rw [s12]; exact hw) B eb
          rw [← ea]
          obtain ⟨⟨⟨hS, hpI, hg⟩, hK, hs, hd, hv⟩, h2, h3, h4, h5⟩ := hI
          have aG1 : aG b S1 B := fun a j hf => q.1 a j (fun e => by obtain ⟨rfl, rfl⟩ := e; rw [Wb_63 (inB_of (by omega) (by omega))] at hf; cases hf)
          have fM : aM b S1 B := aM_fx aG1 ⟨fun j _ => q.1 0 j (by omega), fun a j _ => q.1 a j (by omega)⟩
          have hB : iR BM B := fun a j => by
            by_cases g : a = 63 ∧ j = b
            · obtain ⟨rfl, rfl⟩ := g
              have := i_rng (B 63 j)
              exact ⟨by show (-2147483648 : Int) ≤ _; omega, by show _ ≤ (2147483647 : Int); omega⟩
            · rw [q.1 a j g]; exact hS a j
          refine ⟨⟨⟨hB, pI_aG hpI aG1, gI_fr hg (fun j => q.1 53 j (by omega)) (fun j => q.1 54 j (by omega)) (fun j => q.1 55 j (by omega)) (fun j => q.1 56 j (by omega)) (fun j => q.1 58 j (by omega)) (q.1 0 13 (by omega)) (q.1 0 14 (by omega))⟩, pK_M hK fM, sta_M hs cM_r fM, dyn_e hd hS (fun _ _ _ => rfl) (fun a j hj => q.1 a j (by omega)), inv_e hv (fun a j hj => q.1 a j (by omega))⟩, aG_tr h2 aG1, h3, fun a j hn => (q.1 a j (by omega)).trans (h4 a j (by omega)), fun j hj => by rw [q.1 53 _ (by omega)]; exact h5 j hj, ?_⟩
          rw [q.2, h4 63 b (by omega), i_cn hw]
        · have c := tq_len hm hx1 c
          have j6 : (((6 : Int32) * xb) + y1).toNatClampNeg = 6 * b + n := by rw [jx 6 (by decide) (by omega) hxb hx1 (by omega), hb]
          have ex : (y1 + 1).toInt = ((n + 1 : Nat) : Int) := i_p1 hx1 (by omega)
          obtain ⟨⟨⟨hS, hpI, hg⟩, hK, hs, hd, hv⟩, h2, h3, h4, h5⟩ := id hI
          have p1 := (hs.1 n (by rw [s13]; omega)).1
          have p2 := (hd.2.2.1 n (by rw [s13]; omega)).1
          rw [j6, i_cn hx1, p1, p2, hd.1, hb]
          refine E2_ckl (fun _ => E2_ckr (fun _ => E2_ckr (fun _ => ?_)))
          have skip : E2 (lt (y1 + 1) fun y16 => k y16 T1) (lt (y1 + 1) fun y34 => k' y34 S1) (inQ b P T S) := E2_ltl (fun y e => E2_ltr (fun y' e' => ih2 (n + 1) y y' T1 S1 (by rw [e]; exact ex) (by rw [e']; exact ex) (by omega) hI))
          by_cases d0 : S1 59 (6 * b + n) = 0
          · refine E2_pl d0 ?_
            by_cases d1 : S1 57 (6 * b + n) = S1 62 b
            · refine E2_pl d1 (E2_pr d1 (E2_pr d0 (E2_ltl (fun T6 t6 => E2_ltr (fun S15 s15 => ?_)))))
              have hI2 := IN_59 hI (o := n) (by rw [s13]; omega) (by omega)
              rw [← t6, ← s15] at hI2
              unfold fL_X6_getIn_L47 fL_X8_ins_L61
              refine inner k k' n y1 y1 hx1 hx1 (by omega) (fun y y' T2 S2 hy hy' h9 => ih2 (n + 1) y y' T2 S2 hy hy' (by omega) h9) 2000 2000 0 0 0 T6 S15 (by decide) (by decide) (by omega) hI2 (by rw [s15, st_same]) (fun j _ j2 j3 => ?_)
              rw [s15, st_oth (by decide)]
              refine (hv.1 j (by rw [h4 0 14 (by omega)]; omega)).2.1 ?_
              rw [h4 30 j (by omega), i_cn j3]; exact d0
            · exact E2_ql d1 (E2_qr d1 skip)
          · refine E2_ql d0 ?_
            by_cases d1 : S1 57 (6 * b + n) = S1 62 b
            · exact E2_pr d1 (E2_qr d0 skip)
            · exact E2_qr d1 skip
  unfold f_X6_getIn f_X8_ins fL_X6_getIn_L2 fL_X8_ins_L2
  exact outer 2000 2000 0 0 0 T S (by decide) (by decide) (by omega) ⟨hR, aG_rfl, fun _ _ _ => rfl, fun _ _ _ => rfl, fun _ _ => Or.inl rfl⟩
-- 62.zaz.22.z12
/-! getting out: what the two look up, what is set free -/
def non1 (b : Nat) (S : Tr) (o : Int32) : Prop := ∀ i : Nat, (i : Int) < (S 0 14).toInt → S 30 i = o → ¬ S 53 (10 * b + i) = 1
theorem an_S {b : Nat} {S : Tr} {xb xo : Int32} (hb : xb.toNatClampNeg = b) (hxb : 0 ≤ xb.toInt ∧ xb.toInt ≤ 1) (hS : iR BM S) : Ep (f_X8_hasAny S xb xo) (fun r => (r = 0 ∧ non1 b S xo) ∨ (r = 1 ∧ ¬ non1 b S xo)) := by
  have h14 : 0 ≤ (S 0 14).toInt ∧ (S 0 14).toInt ≤ 10 := hS 0 14
  have lp : ∀ (N n : Nat) (x : Int32), x.toInt = n → n ≤ 10 → (∀ i : Nat, i < n → S 30 i = xo → ¬ S 53 (10 * b + i) = 1) → Ep (lpF (fun _ => none) (fB_X8_hasAny_L2 S xb xo) N x) (fun r => (r = 0 ∧ non1 b S xo) ∨ (r = 1 ∧ ¬ non1 b S xo)) := by
    intro N
    induction N with
    | zero => intro n x _ _ _; exact Ep_none
    | succ N ih =>
      intro n x hx hn hz
      show Ep (fB_X8_hasAny_L2 S xb xo (lpF (fun _ => none) (fB_X8_hasAny_L2 S xb xo) N) x) _
      generalize lpF (fun _ => none) (fB_X8_hasAny_L2 S xb xo) N = k at ih ⊢
      unfold fB_X8_hasAny_L2
      refine Ep_ite (fun c => ?_) (fun c => ?_)
      · have := tq_le rfl hx c
        exact Ep_some (Or.inl ⟨rfl, fun i hi => hz i (by omega)⟩)
      · have := tq_len rfl hx c
        have j10 : (((10 : Int32) * xb) + x).toNatClampNeg = 10 * b + n := by rw [jx 10 (by decide) (by omega) hxb hx (by omega), hb]
        have e1 := i_p1 hx (by omega)
        have nx : ∀ y : Int32, y = x + 1 → (S 30 n = xo → ¬ S 53 (10 * b + n) = 1) → Ep (k y) (fun r => (r = 0 ∧ non1 b S xo) ∨ (r = 1 ∧ ¬ non1 b S xo)) := fun y ey g => by
          refine ih (n + 1) y (by rw [ey]; exact e1) (by omega) (fun i hi => ?_)
          rcases (by omega : i < n ∨ i = n) with g2 | rfl
          · exact hz i g2
          · exact g
        rw [j10, i_cn hx]
        refine Ep_ck (Ep_ite (fun c2 => Ep_ck (Ep_ite (fun c3 => ?_) (fun c3 => ?_))) (fun c2 => ?_))
        · exact Ep_some (Or.inr ⟨rfl, fun q => q n (by omega) c2 c3⟩)
        · exact Ep_lt (fun y ey => nx y ey (fun _ => c3))
        · exact Ep_lt (fun y ey => nx y ey (fun q => absurd q c2))
  unfold f_X8_hasAny fL_X8_hasAny_L2
  exact lp 2000 0 0 (by decide) (by omega) (fun i hi => absurd hi (by omega))
theorem an_T {b : Nat} {P T V : Tr} {xo : Int32} (hR : Rl b P T V) : Ep (f_X6_hasPlaced T P xo) (fun r => (r = 0 ∧ non1 b V xo) ∨ (r = 1 ∧ ¬ non1 b V xo)) := by
  obtain ⟨⟨hS, _, _⟩, hK, _, hd, _⟩ := hR
  have h14 : 0 ≤ (V 0 14).toInt ∧ (V 0 14).toInt ≤ 10 := hS 0 14
  have p14 : P 0 2 = V 0 14 := hK.1.2.2.1
  have lp : ∀ (N n : Nat) (x : Int32), x.toInt = n → n ≤ 10 → (∀ i : Nat, i < n → V 30 i = xo → ¬ V 53 (10 * b + i) = 1) → Ep (lpF (fun _ => none) (fB_X6_hasPlaced_L2 T P xo) N x) (fun r => (r = 0 ∧ non1 b V xo) ∨ (r = 1 ∧ ¬ non1 b V xo)) := by
    intro N
    induction N with
    | zero => intro n x _ _ _; exact Ep_none
    | succ N ih =>
      intro n x hx hn hz
      show Ep (fB_X6_hasPlaced_L2 T P xo (lpF (fun _ => none) (fB_X6_hasPlaced_L2 T P xo) N) x) _
      generalize lpF (fun _ => none) (fB_X6_hasPlaced_L2 T P xo) N = k at ih ⊢
      unfold fB_X6_hasPlaced_L2
      rw [p14]
      refine Ep_ite (fun c => ?_) (fun c => ?_)
      · have := tq_le rfl hx c
        exact Ep_some (Or.inl ⟨rfl, fun i hi => hz i (by omega)⟩)
      · have := tq_len rfl hx c
        have e1 := i_p1 hx (by omega)
        have nx : ∀ y : Int32, y = x + 1 → (V 30 n = xo → ¬ V 53 (10 * b + n) = 1) → Ep (k y) (fun r => (r = 0 ∧ non1 b V xo) ∨ (r = 1 ∧ ¬ non1 b V xo)) := fun y ey g => by
          refine ih (n + 1) y (by rw [ey]; exact e1) (by omega) (fun i hi => ?_)
          rcases (by omega : i < n ∨ i = n) with g2 | rfl
          · exact hz i g2
          · exact g
        rw [i_cn hx, (hK.2.2.2.1 n (by omega)).1, (hd.2.2.2.1 n (by omega)).1]
        refine Ep_ck (Ep_ite (fun c2 => (Ep_ite (fun c3 => ?_) (fun c3 => ?_))) (fun c2 => ?_))
        · exact Ep_some (Or.inr ⟨rfl, fun q => q n (by omega) c2 c3⟩)
        · exact Ep_lt (fun y ey => nx y ey (fun _ => c3))
        · exact Ep_lt (fun y ey => nx y ey (fun q => absurd q c2))
  unfold f_X6_hasPlaced fL_X6_hasPlaced_L2
  exact lp 2000 0 0 (by decide) (by omega) (fun i hi => absurd hi (by omega))
/-- what is set free of a train -/
def vF (b : Nat) (V V1 : Tr) : Prop := (∀ i : Nat, (i : Int) < (V 0 14).toInt → (V1 53 (10 * b + i) = V 53 (10 * b + i) ∧ V1 54 (10 * b + i) = V 54 (10 * b + i)) ∨ (V 53 (10 * b + i) = 1 ∧ V1 53 (10 * b + i) = 5 ∧ V1 54 (10 * b + i) = -1)) ∧ ∀ a j, ¬ (53 ≤ a ∧ a ≤ 56) → V1 a j = V a j
theorem vF_r {b : Nat} {V : Tr} : vF b V V := ⟨fun _ _ => Or.inl ⟨rfl, rfl⟩, fun _ _ _ => rfl⟩
theorem vF_t {b : Nat} {V V1 V2 : Tr} (h1 : vF b V V1) (h2 : vF b V1 V2) : vF b V V2 := by
  refine ⟨fun i hi => ?_, fun a j ha => (h2.2 a j ha).trans (h1.2 a j ha)⟩
  have g2 := h2.1 i (by rw [h1.2 0 14 (by omega)]; exact hi)
  rcases h1.1 i hi with ⟨a1, a2⟩ | ⟨a1, a2, a3⟩
  · rcases g2 with ⟨b1, b2⟩ | ⟨b1, b2, b3⟩
    · exact Or.inl ⟨b1.trans a1, b2.trans a2⟩
    · exact Or.inr ⟨a1.symm.trans b1, b2, b3⟩
  · rcases g2 with ⟨b1, b2⟩ | ⟨b1, b2, b3⟩
    · exact Or.inr ⟨a1, b1.trans a2, b2.trans a3⟩
    · rw [a2] at b1; exact absurd b1 (by decide)
theorem vF_k {b i p pos h : Nat} {V V1 : Tr} (t : tkZ b V V1 i p pos h 5) (h1 : V 53 (10 * b + i) = 1) : vF b V V1 := by
  obtain ⟨_, _, t3, t4, t5⟩ := t
  refine ⟨fun q hq => ?_, t5⟩
  rw [t3, t4]
  by_cases g : q = i
  · subst g; rw [if_pos rfl, if_pos rfl]; exact Or.inr ⟨h1, rfl, rfl⟩
  · rw [if_neg (by omega), if_neg (by omega)]; exact Or.inl ⟨rfl, rfl⟩
theorem e_free {b : Nat} {P T V : Tr} {xb xo : Int32} (hb : xb.toNatClampNeg = b) (hxb : 0 ≤ xb.toInt ∧ xb.toInt ≤ 1) (hR : Rl b P T V) : Ep (f_X6_setFree T P xo (5 : Int32)) (fun T1 => ∃ V1, Rl b P T1 V1 ∧ vF b V V1 ∧ non1 b V1 xo ∧ (∀ a j, ¬ (14 ≤ a ∧ a ≤ 18) → T1 a j = T a j) ∧ (non1 b V xo → V1 = V)) := by
  have h14 : 0 ≤ (V 0 14).toInt ∧ (V 0 14).toInt ≤ 10 := hR.1.1 0 14
  have lp : ∀ (N n : Nat) (x : Int32) (T1 V1 : Tr), x.toInt = n → n ≤ 10 → Rl b P T1 V1 → vF b V V1 → (∀ a j, ¬ (14 ≤ a ∧ a ≤ 18) → T1 a j = T a j) → (non1 b V xo → V1 = V) → (∀ i : Nat, i < n → V 30 i = xo → ¬ V1 53 (10 * b + i) = 1) → Ep (lpF (fun _ _ => none) (fB_X6_setFree_L2 P xo 5) N x T1) (fun T1 => ∃ V1, Rl b P T1 V1 ∧ vF b V V1 ∧ non1 b V1 xo ∧ (∀ a j, ¬ (14 ≤ a ∧ a ≤ 18) → T1 a j = T a j) ∧ (non1 b V xo → V1 = V)) := by
    intro N
    induction N with
    | zero => intro n x T1 V1 _ _ _ _ _ _ _; exact Ep_none
    | succ N ih =>
      intro n x T1 V1 hx hn hR1 hv hc he hz
      show Ep (fB_X6_setFree_L2 P xo 5 (lpF (fun _ _ => none) (fB_X6_setFree_L2 P xo 5) N) x T1) _
      generalize lpF (fun _ _ => none) (fB_X6_setFree_L2 P xo 5) N = k at ih ⊢
      have e14 : V1 0 14 = V 0 14 := hv.2 0 14 (by omega)
      have p14 : P 0 2 = V 0 14 := hR1.2.1.1.2.2.1.trans e14
      unfold fB_X6_setFree_L2
      rw [p14]
      refine Ep_ite (fun c => ?_) (fun c => ?_)
      · have := tq_le rfl hx c
        exact Ep_some ⟨V1, hR1, hv, fun i hi q => hz i (by rw [e14] at hi; omega) (by rw [← hv.2 30 i (by omega)]; exact q), hc, he⟩
      · have := tq_len rfl hx c
        have e1 := i_p1 hx (by omega)
        have nx : ∀ y : Int32, y = x + 1 → (V 30 n = xo → ¬ V1 53 (10 * b + n) = 1) → Ep (k y T1) (fun T1 => ∃ V1, Rl b P T1 V1 ∧ vF b V V1 ∧ non1 b V1 xo ∧ (∀ a j, ¬ (14 ≤ a ∧ a ≤ 18) → T1 a j = T a j) ∧ (non1 b V xo → V1 = V)) := fun y ey g => by
          refine ih (n + 1) y T1 V1 (by rw [ey]; exact e1) (by omega) hR1 hv hc he (fun i hi => ?_)
          rcases (by omega : i < n ∨ i = n) with g2 | rfl
          · exact hz i g2
          · exact g
        have hn1 : (n : Int) < (V1 0 14).toInt := by rw [e14]; omega
        rw [i_cn hx, (hR1.2.1.2.2.2.1 n hn1).1, (hR1.2.2.2.1.2.2.2.1 n hn1).1, hv.2 30 n (by omega)]
        refine Ep_ck (Ep_ite (fun c2 => (Ep_ite (fun c3 => ?_) (fun c3 => ?_))) (fun c2 => ?_))
        · have j10 : (((10 : Int32) * xb) + x).toNatClampNeg = 10 * b + n := by rw [jx 10 (by decide) (by omega) hxb hx (by omega), hb]
          have hly : 0 ≤ (V1 54 (10 * b + n)).toInt := (hR1.1.2.2.2.1 n (by omega)).mp c3
          obtain ⟨V2, hV2, _⟩ := t_X8_takes2 V1 xb x 5 hR1.1.1 (by rw [hb]; exact hR1.1.2.2) hxb ⟨by omega, by omega⟩ (by decide) (by rw [j10]; exact hly) (by decide)
          refine Ep_bd (Q1 := fun T2 => tkQ2 b P T1 V1 n 5 T2 V2) (fun T2 hT2 => e_take hb hxb hR1 hx hn1 c3 (by decide) (by decide) T2 V2 hT2 hV2) (fun T2 hq => Ep_lt (fun y ey => ?_))
          obtain ⟨hR2, _, p, pos, h, _, _, hc2, hz2⟩ := hq
          refine ih (n + 1) y T2 V2 (by rw [ey]; exact e1) (by omega) hR2 (vF_t hv (vF_k hz2 c3)) (fun a j ha => (hc2.2.2.2.2.2 a j ha).trans (hc a j ha)) (fun q => ?_) (fun i hi => ?_)
          · have := he q
            subst this
            exact absurd c3 (q n (by omega) c2)
          · rw [hz2.2.2.2.1]
            by_cases g : i = n
            · subst g; rw [if_pos rfl]; exact fun _ => by decide
            · rw [if_neg (by omega)]; exact hz i (by omega)
        · exact Ep_lt (fun y ey => nx y ey (fun _ => c3))
        · exact Ep_lt (fun y ey => nx y ey (fun q => absurd q c2))
  unfold f_X6_setFree fL_X6_setFree_L2
  exact lp 2000 0 0 T V (by decide) (by omega) hR vF_r (fun _ _ _ => rfl) (fun _ => rfl) (fun i hi => absurd hi (by omega))
/-- nothing lies: the stacks are empty -/
theorem h_0 {b : Nat} {S : Tr} (h : rI b S) (hn : ∀ i : Nat, (i : Int) < (S 0 14).toInt → ¬ S 53 (10 * b + i) = 1) : ∀ p : Nat, p < 5 → S 56 (5 * b + p) = 0 := fun p hp => by
  obtain ⟨hS, _, hg⟩ := h
  have b56 := BM56 hS (5 * b + p)
  have : (S 56 (5 * b + p)).toInt = 0 := by
    rcases (by omega : (S 56 (5 * b + p)).toInt = 0 ∨ 0 < (S 56 (5 * b + p)).toInt) with g | g
    · exact g
    · obtain ⟨i, i1, i2, i3, i4⟩ := sk_at (k := 0) hS hg.1 hp (by omega)
      exact absurd ((hg.2.1 i i1).mpr (by show 0 ≤ (S 54 (10 * b + i)).toInt; omega)) (hn i i3)
  exact Int32.toInt_inj.mp (this.trans (by decide))
/-! small steps of both -/
theorem Rl_w {b : Nat} {P T S T1 S1 : Tr} (hR : Rl b P T S) (cm : cM T T1) (am : aM b S S1) (hS1 : iR BM S1) (f : ∀ a j, 53 ≤ a → a ≤ 58 → S1 a j = S a j) (hd : dyn b P T1 S1) (hv : inv b S1) : Rl b P T1 S1 := by
  have z : ∀ a, 23 ≤ a → a ≤ 41 → ∀ j, S1 a j = S a j := fun a h1 h2 j => am a j (aM_p (by omega) (by omega))
  have e13 : S1 0 13 = S 0 13 := am 0 13 (aM_0 (by omega) (by omega))
  have e14 : S1 0 14 = S 0 14 := am 0 14 (aM_0 (by omega) (by omega))
  exact ⟨⟨hS1, pI_fr hR.1.2.1 (z 39 (by omega) (by omega)) (z 40 (by omega) (by omega)) (z 41 (by omega) (by omega)) (z 36 (by omega) (by omega)) (z 38 (by omega) (by omega)) (z 30 (by omega) (by omega)) (z 29 (by omega) (by omega)) e13 e14, gI_fr hR.1.2.2 (fun j => f 53 j (by omega) (by omega)) (fun j => f 54 j (by omega) (by omega)) (fun j => f 55 j (by omega) (by omega)) (fun j => f 56 j (by omega) (by omega)) (fun j => f 58 j (by omega) (by omega)) e13 e14⟩, pK_M hR.2.1 am, sta_M hR.2.2.1 cm am, hd, hv⟩
theorem Rl_72 {b : Nat} {P T S : Tr} {v : Int32} (hR : Rl b P T S) : Rl b P T (st S 0 72 v) := by
  refine Rl_w hR cM_r (aM_s aM_r (by simp [Mb])) (iR_setU hR.1.1 rfl) (fun a j h1 h2 => by rw [st_oth (by omega)]) (dyn_e hR.2.2.2.1 hR.1.1 (fun _ _ _ => rfl) (fun a j q => by rw [st_no (by omega)])) (inv_e hR.2.2.2.2 (fun a j q => by rw [st_no (by omega)]))
theorem Rl_li {b : Nat} {P T S : Tr} {v : Int32} (hR : Rl b P T S) : Rl b P (st T 0 1 v) (st S 61 b v) := by
  obtain ⟨d1, d2, d3, d4, d5⟩ := hR.2.2.2.1
  refine Rl_w hR (cM_s cM_r (by simp [Mc])) (aM_s aM_r Mb_61) (iR_setU hR.1.1 rfl) (fun a j h1 h2 => by rw [st_oth (by omega)]) ⟨?_, ?_, fun p hp => ?_, fun i hi => ?_, ?_⟩ (inv_e hR.2.2.2.2 (fun a j q => by rw [st_oth (by omega)]))
  · rw [st_ne (by omega), st_oth (by omega)]; exact d1
  · rw [st_same, st_same]
  · rw [st_oth (by omega)] at hp
    rw [st_oth (by omega), st_oth (by omega), st_oth (by omega), st_oth (by omega)]; exact d3 p hp
  · rw [st_oth (by omega)] at hi
    rw [st_oth (by omega), st_oth (by omega), st_oth (by omega), st_oth (by omega)]; exact d4 i hi
  · exact stk_e d5 (fun j => by rw [st_oth (by omega)]) (fun j => by rw [st_oth (by omega)]) (fun j => by rw [st_oth (by omega)]) (fun j => by rw [st_oth (by omega)]) (fun j => by rw [st_oth (by omega)]) hR.1.1
theorem Rl_sp {b o : Nat} {P T S : Tr} {v : Int32} (hR : Rl b P T S) (ho : o < 6) : Rl b P (st T 12 o v) (st S 60 (6 * b + o) v) := by
  obtain ⟨d1, d2, d3, d4, d5⟩ := hR.2.2.2.1
  refine Rl_w hR (cM_s cM_r (by simp [Mc])) (aM_s aM_r (Mb_60 (inB_of (by omega) (by omega)))) (iR_setU hR.1.1 rfl) (fun a j h1 h2 => by rw [st_oth (by omega)]) ⟨?_, ?_, fun p hp => ?_, fun i hi => ?_, ?_⟩ (inv_e hR.2.2.2.2 (fun a j q => by rw [st_oth (by omega)]))
  · rw [st_oth (by omega), st_oth (by omega)]; exact d1
  · rw [st_oth (by omega), st_oth (by omega)]; exact d2
  · rw [st_oth (by omega)] at hp
    have d := d3 p hp
    refine ⟨by rw [st_oth (by omega), st_oth (by omega)]; exact d.1, ?_⟩
    by_cases g : p = o
    · subst g; rw [st_same, st_same]
    · rw [st_ne g, st_ne (by omega)]; exact d.2
  · rw [st_oth (by omega)] at hi
    rw [st_oth (by omega), st_oth (by omega), st_oth (by omega), st_oth (by omega)]; exact d4 i hi
  · exact stk_e d5 (fun j => by rw [st_oth (by omega)]) (fun j => by rw [st_oth (by omega)]) (fun j => by rw [st_oth (by omega)]) (fun j => by rw [st_oth (by omega)]) (fun j => by rw [st_oth (by omega)]) hR.1.1
/-- a person without a piece gets out -/
theorem inv_out {b o : Nat} {S : Tr} {xo : Int32} (h : inv b S) (hS : iR BM S) (hp : pI S) (ho : xo.toInt = o) (hn : non1 b S xo) : inv b (st S 59 (6 * b + o) 2) := by
  have h14 : 0 ≤ (S 0 14).toInt ∧ (S 0 14).toInt ≤ 10 := hS 0 14
  have z : ∀ a, ¬ a = 59 → ∀ j, st S 59 (6 * b + o) 2 a j = S a j := fun a ha j => by rw [st_oth ha]
  refine ⟨fun i hi => ?_, fun p hq => ?_⟩
  · rw [z 0 (by omega)] at hi
    obtain ⟨v1, v2, v3⟩ := h.1 i hi
    rw [z 53 (by omega), z 30 (by omega), z 54 (by omega), z 0 (by omega)]
    have b30 : 0 ≤ (S 30 i).toInt ∧ (S 30 i).toInt ≤ 5 := hS 30 i
    by_cases g : (S 30 i).toNatClampNeg = o
    · have e : S 30 i = xo := Int32.toInt_inj.mp (by rw [i_cl] at g; omega)
      rw [g, st_same]
      exact ⟨fun q => absurd q (hn i hi e), fun q => absurd q (by decide), v3⟩
    · rw [st_ne (by omega)]; exact ⟨v1, v2, v3⟩
  · rw [z 0 (by omega)] at hq
    obtain ⟨w1, w2⟩ := h.2 p hq
    refine ⟨?_, by rw [z 57 (by omega)]; exact w2⟩
    by_cases g : 6 * b + p = 6 * b + o
    · rw [g, st_same]; exact Or.inr (Or.inr rfl)
    · rw [st_ne g]; exact w1
theorem Rl_out {b o : Nat} {P T S : Tr} {xo : Int32} (hR : Rl b P T S) (ho : xo.toInt = o) (ho6 : o < 6) (hn : non1 b S xo) : Rl b P (st T 11 o 2) (st S 59 (6 * b + o) 2) := by
  obtain ⟨d1, d2, d3, d4, d5⟩ := hR.2.2.2.1
  refine Rl_w hR (cM_s cM_r (by simp [Mc])) (aM_s aM_r (Mb_59 (inB_of (by omega) (by omega)))) (iR_setU hR.1.1 rfl) (fun a j h1 h2 => by rw [st_oth (by omega)]) ⟨?_, ?_, fun p hp => ?_, fun i hi => ?_, ?_⟩ (inv_out hR.2.2.2.2 hR.1.1 hR.1.2.1 ho hn)
  · rw [st_oth (by omega), st_oth (by omega)]; exact d1
  · rw [st_oth (by omega), st_oth (by omega)]; exact d2
  · rw [st_oth (by omega)] at hp
    have d := d3 p hp
    refine ⟨?_, by rw [st_oth (by omega), st_oth (by omega)]; exact d.2⟩
    by_cases g : p = o
    · subst g; rw [st_same, st_same]
    · rw [st_ne g, st_ne (by omega)]; exact d.1
  · rw [st_oth (by omega)] at hi
    rw [st_oth (by omega), st_oth (by omega), st_oth (by omega), st_oth (by omega)]; exact d4 i hi
  · exact stk_e d5 (fun j => by rw [st_oth (by omega)]) (fun j => by rw [st_oth (by omega)]) (fun j => by rw [st_oth (by omega)]) (fun j => by rw [st_oth (by omega)]) (fun j => by rw [st_oth (by omega)]) hR.1.1
theorem rI_out {b o : Nat} {S : Tr} (h : rI b S) : rI b (st S 59 (6 * b + o) 2) := by
  have z : ∀ a, ¬ a = 59 → ∀ j, st S 59 (6 * b + o) 2 a j = S a j := fun a ha j => by rw [st_oth ha]
  exact ⟨iR_setU h.1 rfl, pI_fr h.2.1 (z 39 (by omega)) (z 40 (by omega)) (z 41 (by omega)) (z 36 (by omega)) (z 38 (by omega)) (z 30 (by omega)) (z 29 (by omega)) (z 0 (by omega) 13) (z 0 (by omega) 14), gI_fr h.2.2 (z 53 (by omega)) (z 54 (by omega)) (z 55 (by omega)) (z 56 (by omega)) (z 58 (by omega)) (z 0 (by omega) 13) (z 0 (by omega) 14)⟩
-- 62.zaz.23.z13
/-! getting out: the two go side by side -/
def vS (b o : Nat) (S V : Tr) : Prop := (∀ i : Nat, (i : Int) < (S 0 14).toInt → (V 53 (10 * b + i) = S 53 (10 * b + i) ∧ V 54 (10 * b + i) = S 54 (10 * b + i)) ∨ (S 53 (10 * b + i) = 1 ∧ V 53 (10 * b + i) = 5 ∧ V 54 (10 * b + i) = -1)) ∧ (∀ p : Nat, (p : Int) < (S 0 13).toInt → V 59 (6 * b + p) = S 59 (6 * b + p) ∨ (S 59 (6 * b + p) = 1 ∧ V 59 (6 * b + p) = 2)) ∧ (∀ p : Nat, p < o → (p : Int) < (S 0 13).toInt → ¬ V 59 (6 * b + p) = 1) ∧ (∀ p : Nat, o ≤ p → (p : Int) < (S 0 13).toInt → V 59 (6 * b + p) = S 59 (6 * b + p)) ∧ ∀ a j, ¬ (a = 0 ∧ j = 51) → ¬ (53 ≤ a ∧ a ≤ 56) → ¬ a = 59 → V a j = S a j
theorem vS_r {b o : Nat} {S : Tr} (h : ∀ p : Nat, p < o → (p : Int) < (S 0 13).toInt → ¬ S 59 (6 * b + p) = 1) : vS b o S S := ⟨fun _ _ => Or.inl ⟨rfl, rfl⟩, fun _ _ => Or.inl rfl, h, fun _ _ _ => rfl, fun _ _ _ _ _ => rfl⟩
theorem vS_51 {b o : Nat} {S S1 V : Tr} (h : vS b o S V) (f : o51 S S1) : vS b o S1 V := by
  obtain ⟨p1, p2, p3, p4, p5⟩ := h
  refine ⟨fun i hi => ?_, fun p hp => ?_, fun p hp hq => ?_, fun p hp hq => ?_, fun a j n1 n2 n3 => ?_⟩
  · rw [f.1 0 14 (by omega)] at hi
    rw [f.1 53 _ (by omega), f.1 54 _ (by omega)]; exact p1 i hi
  · rw [f.1 0 13 (by omega)] at hp
    rw [f.1 59 _ (by omega)]; exact p2 p hp
  · rw [f.1 0 13 (by omega)] at hq; exact p3 p hp hq
  · rw [f.1 0 13 (by omega)] at hq
    rw [f.1 59 _ (by omega)]; exact p4 p hp hq
  · rw [f.1 a j n1]; exact p5 a j n1 n2 n3
theorem vS_next {b o : Nat} {S V V1 S3 : Tr} (h : vS b o S V) (hf : vF b V V1) (hab : S 59 (6 * b + o) = 1) (h3 : S3 = st S 59 (6 * b + o) 2 ∨ S3 = S) : vS b (o + 1) S3 (st V1 59 (6 * b + o) 2) := by
  obtain ⟨p1, p2, p3, p4, p5⟩ := h
  have o3 : ∀ a j, ¬ (a = 59 ∧ j = 6 * b + o) → S3 a j = S a j := fun a j n => by
    rcases h3 with e | e
    · rw [e]; exact st_no n
    · rw [e]
  have o59 : S3 59 (6 * b + o) = 2 ∨ S3 59 (6 * b + o) = 1 := by
    rcases h3 with e | e
    · rw [e, st_same]; exact Or.inl rfl
    · rw [e]; exact Or.inr hab
  refine ⟨fun i hi => ?_, fun p hp => ?_, fun p hp hq => ?_, fun p hp hq => ?_, fun a j n1 n2 n3 => ?_⟩
  · rw [o3 0 14 (by omega)] at hi
    rw [st_oth (by omega), st_oth (by omega), o3 53 _ (by omega), o3 54 _ (by omega)]
    have g := hf.1 i (by rw [p5 0 14 (by omega) (by omega) (by omega)]; exact hi)
    rcases p1 i hi with ⟨a1, a2⟩ | ⟨a1, a2, a3⟩
    · rcases g with ⟨b1, b2⟩ | ⟨b1, b2, b3⟩
      · exact Or.inl ⟨b1.trans a1, b2.trans a2⟩
      · exact Or.inr ⟨a1.symm.trans b1, b2, b3⟩
    · rcases g with ⟨b1, b2⟩ | ⟨b1, b2, b3⟩
      · exact Or.inr ⟨a1, b1.trans a2, b2.trans a3⟩
      · rw [a2] at b1; exact absurd b1 (by decide)
  · rw [o3 0 13 (by omega)] at hp
    by_cases g : p = o
    · subst g
      rw [st_same]
      rcases o59 with e | e
      · rw [e]; exact Or.inl rfl
      · rw [e]; exact Or.inr ⟨rfl, rfl⟩
    · rw [st_ne (by omega), hf.2 59 _ (by omega), o3 59 _ (by omega)]; exact p2 p hp
  · rw [o3 0 13 (by omega)] at hq
    by_cases g : p = o
    · subst g; rw [st_same]; decide
    · rw [st_ne (by omega), hf.2 59 _ (by omega)]; exact p3 p (by omega) hq
  · rw [o3 0 13 (by omega)] at hq
    rw [st_ne (by omega), hf.2 59 _ (by omega), o3 59 _ (by omega)]; exact p4 p (by omega) hq
  · rw [st_oth n3, hf.2 a j n2, o3 a j (by omega)]; exact p5 a j n1 n2 n3
/-- what stays while persons get out -/
def fCt (T T1 : Tr) : Prop := ∀ a j, ¬ (a = 0 ∧ j = 1) → ¬ (a = 11 ∨ a = 12) → ¬ (14 ≤ a ∧ a ≤ 19) → T1 a j = T a j
def fO (S S1 : Tr) : Prop := ∀ a j, ¬ (a = 0 ∧ (j = 51 ∨ j = 72)) → ¬ (53 ≤ a ∧ a ≤ 56) → ¬ (59 ≤ a ∧ a ≤ 61) → S1 a j = S a j
def oHw (b : Nat) (S S1 : Tr) : Prop := ∀ i : Nat, (i : Int) < (S 0 14).toInt → S1 53 (10 * b + i) = S 53 (10 * b + i) ∨ (S 53 (10 * b + i) = 1 ∧ S1 53 (10 * b + i) = 2)
def oFr (b : Nat) (T0 S0 : Tr) (L0 : Lo) (T S : Tr) (L : Lo) : Prop := fCt T0 T ∧ fO S0 S ∧ aM b S0 S ∧ oL L0 L ∧ oHw b S0 S
theorem oFr_T {b : Nat} {T0 S0 T S T1 : Tr} {L0 L : Lo} (h : oFr b T0 S0 L0 T S L) (f : fCt T T1) : oFr b T0 S0 L0 T1 S L := ⟨fun a j n1 n2 n3 => (f a j n1 n2 n3).trans (h.1 a j n1 n2 n3), h.2⟩
theorem oFr_S {b : Nat} {T0 S0 T S S1 : Tr} {L0 L L1 : Lo} (h : oFr b T0 S0 L0 T S L) (f : fO S S1) (g : aM b S S1) (hL : oL L L1) (w : ∀ j, S1 53 j = S 53 j) : oFr b T0 S0 L0 T S1 L1 := ⟨h.1, fun a j n1 n2 n3 => (f a j n1 n2 n3).trans (h.2.1 a j n1 n2 n3), aM_t h.2.2.1 g, oL_t h.2.2.2.1 hL, fun i hi => by rw [w]; exact h.2.2.2.2 i hi⟩
theorem fO_51 {S S1 : Tr} (f : o51 S S1) : fO S S1 := fun a j n1 _ _ => f.1 a j (fun q => n1 ⟨q.1, Or.inl q.2⟩)
theorem oFr_e {b : Nat} {T0 S0 T S T1 S1 : Tr} {L0 L L1 : Lo} (h : oFr b T0 S0 L0 T S L) (f : o19 T T1) (g : o51 S S1) (hL : oL L L1) : oFr b T0 S0 L0 T1 S1 L1 := oFr_S (oFr_T h (fun a j _ _ n => f a j (by omega))) (fO_51 g) (aM_51 g) hL (fun j => g.1 53 j (by omega))
theorem oFr_59 {b o : Nat} {T0 S0 T S : Tr} {L0 L : Lo} (h : oFr b T0 S0 L0 T S L) (ho : o < 6) : oFr b T0 S0 L0 T (st S 59 (6 * b + o) 2) L := oFr_S h (fun a j _ _ n => by rw [st_oth (by omega)]) (aM_s aM_r (Mb_59 (inB_of (by omega) (by omega)))) oL_r (fun j => by rw [st_oth (by omega)])
/-- how the two stand before person o -/
def OU (b : Nat) (P T0 S0 : Tr) (L0 : Lo) (o : Nat) (x2 x3 : Int32) (T S : Tr) (L : Lo) : Prop := (∃ V, Rl b P T V ∧ rI b S ∧ inv b S ∧ (S0 62 b = 20 → vS b o S V) ∧ (¬ S0 62 b = 20 → V = S) ∧ (x3 = 1 → V = S)) ∧ S 0 72 = x2 ∧ (x3 = 0 ∨ x3 = 1) ∧ (0 ≤ x2.toInt ∧ x2.toInt ≤ 10000 * (o : Int)) ∧ oFr b T0 S0 L0 T S L
theorem od_j {b o : Nat} {P T0 S0 : Tr} {L0 : Lo} {k7 : Int32 → Int32 → Int32 → Tr → Lo → Option (Int32 × Tr × Lo)} {k9 : Int32 → Int32 → Tr → Lo → Option (Tr × Lo)} {Q : Int32 × Tr × Lo → Tr × Lo → Prop} {xb xo x1 x2 x3 : Int32} {T S V : Tr} {L Lc : Lo} (hb : xb.toNatClampNeg = b) (hxb : 0 ≤ xb.toInt ∧ xb.toInt ≤ 1) (ho : xo.toInt = o) (ho6 : o < 6) (hV : Rl b P T V) (hS : rI b S) (hv : inv b S) (v20 : S0 62 b = 20 → vS b o S V) (vn : ¬ S0 62 b = 20 → V = S) (v1 : x3 = 1 → V = S ∧ non1 b S xo) (hab : S 59 (6 * b + o) = 1) (h72 : S 0 72 = x2) (hx3 : x3 = 0 ∨ x3 = 1) (hu : 0 ≤ x2.toInt ∧ x2.toInt ≤ 10000 * (o : Int) + 10000) (fr : oFr b T0 S0 L0 T S L) (hk : ∀ (y : Int32) (T1 S1 : Tr) (Lc1 : Lo), y.toInt = ((o + 1 : Nat) : Int) → OU b P T0 S0 L0 (o + 1) x2 x3 T1 S1 L → E2 (k7 x2 x3 y T1 Lc1) (k9 x3 y S1 L) Q) : E2 (fJ_X6_takeDown_J176 k7 P x1 x2 x3 xo T Lc) (fJ_X8_outs_J182 k9 xb x3 xo S L) Q := by
  have s62 : S 62 b = S0 62 b := fr.2.1 62 b (by omega) (by omega) (by omega)
  have e62 : V 62 b = S0 62 b := by
    by_cases c : S0 62 b = 20
    · rw [(v20 c).2.2.2.2 62 b (by omega) (by omega) (by omega)]; exact s62
    · rw [vn c]; exact s62
  have t00 : T 0 0 = S0 62 b := hV.2.2.2.1.1.trans e62
  have jo : (((6 : Int32) * xb) + xo).toNatClampNeg = 6 * b + o := by rw [jx 6 (by decide) (by omega) hxb ho (by omega), hb]
  have e1 := i_p1 ho (by omega)
  have hu' : 0 ≤ x2.toInt ∧ x2.toInt ≤ 10000 * ((o + 1 : Nat) : Int) := ⟨hu.1, by omega⟩
  unfold fJ_X6_takeDown_J176 fJ_X6_takeDown_J192 fJ_X8_outs_J182
  rw [t00, jo, i_cn ho]
  by_cases c20 : S0 62 b = 20
  · refine E2_pl c20 (E2_bl (e_free hb hxb hV) (fun T1 hT1 => ?_))
    obtain ⟨V1, hR1, hvF, hn1, hc1, he1⟩ := hT1
    have hvs := v20 c20
    refine E2_bl (an_T hR1) (fun r hr => ?_)
    rcases hr with ⟨rfl, _⟩ | ⟨_, hr⟩
    rotate_left
    · exact absurd hn1 hr
    refine E2_pl rfl (E2_ckl (fun _ => E2_ltl (fun T2 t2 => E2_ltl (fun y ey => ?_))))
    have hR2 := Rl_out hR1 ho ho6 hn1
    rw [← t2] at hR2
    have fr2 : oFr b T0 S0 L0 T2 S L := oFr_T fr (fun a j n1 n2 n3 => by rw [t2, st_oth (by omega)]; exact hc1 a j (by omega))
    refine E2_br (an_S hb hxb hS.1) (fun r hr => ?_)
    rcases hr with ⟨rfl, hnS⟩ | ⟨rfl, hnS⟩
    · refine E2_pr rfl (E2_ckr (fun _ => E2_ltr (fun S3 e3 => E2_ltr (fun y' ey' => ?_))))
      subst ey ey'
      refine hk (xo + 1) T2 S3 Lc e1 ⟨⟨st V1 59 (6 * b + o) 2, hR2, by rw [e3]; exact rI_out hS, by rw [e3]; exact inv_out hv hS.1 hS.2.1 ho hnS, fun _ => vS_next hvs hvF hab (Or.inl e3), fun q => absurd c20 q, fun q => ?_⟩, by rw [e3, st_oth (by decide)]; exact h72, hx3, hu', by rw [e3]; exact oFr_59 fr2 ho6⟩
      obtain ⟨a1, a2⟩ := v1 q
      rw [e3, he1 (by rw [a1]; exact a2), a1]
    · refine E2_qr (by decide) (E2_ltr (fun y' ey' => ?_))
      subst ey ey'
      exact hk (xo + 1) T2 S Lc e1 ⟨⟨st V1 59 (6 * b + o) 2, hR2, hS, hv, fun _ => vS_next hvs hvF hab (Or.inr rfl), fun q => absurd c20 q, fun q => absurd (v1 q).2 hnS⟩, h72, hx3, hu', fr2⟩
  · refine E2_ql c20 ?_
    obtain rfl := vn c20
    refine E2_bl (an_T hV) (fun r hr => E2_br (an_S hb hxb hS.1) (fun r' hr' => ?_))
    rcases hr with ⟨rfl, hn⟩ | ⟨rfl, hn⟩
    · rcases hr' with ⟨rfl, _⟩ | ⟨rfl, hn'⟩
      · refine E2_pl rfl (E2_ckl (fun _ => E2_ltl (fun T2 t2 => E2_ltl (fun y ey => E2_pr rfl (E2_ckr (fun _ => E2_ltr (fun S3 e3 => E2_ltr (fun y' ey' => ?_))))))))
        subst ey ey'
        have hR2 := Rl_out hV ho ho6 hn
        rw [← t2, ← e3] at hR2
        refine hk (xo + 1) T2 S3 Lc e1 ⟨⟨S3, hR2, hR2.1, hR2.2.2.2.2, fun q => absurd q c20, fun _ => rfl, fun _ => rfl⟩, by rw [e3, st_oth (by decide)]; exact h72, hx3, hu', ?_⟩
        have f2 := oFr_59 (oFr_T fr (T1 := T2) (fun a j n1 n2 n3 => by rw [t2, st_oth (by omega)])) ho6
        rw [← e3] at f2; exact f2
      · exact absurd hn hn'
    · rcases hr' with ⟨rfl, hn'⟩ | ⟨rfl, _⟩
      · exact absurd hn' hn
      · refine E2_ql (by decide) (E2_ltl (fun y ey => E2_qr (by decide) (E2_ltr (fun y' ey' => ?_))))
        subst ey ey'
        exact hk (xo + 1) T _ Lc e1 ⟨⟨_, hV, hS, hv, fun q => absurd q c20, fun _ => rfl, fun _ => rfl⟩, h72, hx3, hu', fr⟩
/-- no more time: the reference goes on over the pieces, nothing is taken down -/
theorem ou_z {α : Type} {x : Option α} {k9 : Int32 → Int32 → Tr → Lo → Option (Tr × Lo)} {Q : α → Tr × Lo → Prop} {xb xo : Int32} {S0 : Tr} {L0 : Lo} (h : ∀ S1 L1, o51 S0 S1 → oL L0 L1 → E2 x (fJ_X8_outs_J182 k9 xb 0 xo S1 L1) Q) (N : Nat) : ∀ (x4 : Int32) (S : Tr) (L : Lo), o51 S0 S → oL L0 L → E2 x (lpF (fun _ _ _ _ => none) (fB_X8_outs_L32 k9 xb xo) N 0 x4 S L) Q := by
  induction N with
  | zero => intro x4 S L _ _; exact E2_nr
  | succ N ih =>
    intro x4 S L hS hL
    show E2 x (fB_X8_outs_L32 k9 xb xo (lpF (fun _ _ _ _ => none) (fB_X8_outs_L32 k9 xb xo) N) 0 x4 S L) Q
    generalize lpF (fun _ _ _ _ => none) (fB_X8_outs_L32 k9 xb xo) N = k at ih ⊢
    unfold fB_X8_outs_L32
    refine E2_itr (fun _ => h S L hS hL) (fun _ => E2_ckr (fun _ => E2_itr (fun _ => E2_ckr (fun _ => E2_itr (fun _ => ?_) (fun _ => E2_ltr (fun y _ => ih y S L hS hL)))) (fun _ => E2_ltr (fun y _ => ih y S L hS hL))))
    refine E2_br (Ep_and (q5_X8_secondsOf S L xb x4 hS) (qL_X8_secondsOf S L xb x4 hL)) (fun q hq => E2_ltr (fun r37 _ => E2_ltr (fun S38 e38 => E2_ltr (fun L39 e39 => E2_pr rfl ?_))))
    unfold fJ_X8_outs_J116 fJ_X8_outs_J117
    exact E2_pr rfl (E2_ltr (fun y _ => ih y S38 L39 (by rw [e38]; exact hq.1) (by rw [e39]; exact hq.2)))
-- 62.zaz.24.z14
/-! getting out: a person's pieces, all persons -/
theorem od_z {b o : Nat} {P T0 S0 : Tr} {L0 : Lo} {k7 : Int32 → Int32 → Int32 → Tr → Lo → Option (Int32 × Tr × Lo)} {k9 : Int32 → Int32 → Tr → Lo → Option (Tr × Lo)} {Q : Int32 × Tr × Lo → Tr × Lo → Prop} {xb xo x1 x2 x4 x5 : Int32} {T S V : Tr} {L Lc : Lo} (hb : xb.toNatClampNeg = b) (hxb : 0 ≤ xb.toInt ∧ xb.toInt ≤ 1) (ho : xo.toInt = o) (ho6 : o < 6) (hV : Rl b P T V) (hS : rI b S) (hv : inv b S) (v20 : S0 62 b = 20 → vS b o S V) (vn : ¬ S0 62 b = 20 → V = S) (hab : S 59 (6 * b + o) = 1) (h72 : S 0 72 = x2) (hu : 0 ≤ x2.toInt ∧ x2.toInt ≤ 10000 * (o : Int) + 10000) (fr : oFr b T0 S0 L0 T S L) (hk : ∀ (x2 x3 y : Int32) (T1 S1 : Tr) (L1 Lc1 : Lo), y.toInt = ((o + 1 : Nat) : Int) → OU b P T0 S0 L0 (o + 1) x2 x3 T1 S1 L1 → E2 (k7 x2 x3 y T1 Lc1) (k9 x3 y S1 L1) Q) (N M : Nat) : E2 (lpF (fun _ _ _ _ _ => none) (fB_X6_takeDown_L53 k7 P x1 xo) N x2 0 x5 T Lc) (lpF (fun _ _ _ _ => none) (fB_X8_outs_L32 k9 xb xo) M 0 x4 S L) Q := by
  cases N with
  | zero => exact E2_nl
  | succ N =>
    have g : E2 (fJ_X6_takeDown_J176 k7 P x1 x2 0 xo T Lc) (lpF (fun _ _ _ _ => none) (fB_X8_outs_L32 k9 xb xo) M 0 x4 S L) Q := by
      refine ou_z (S0 := S) (L0 := L) (fun S1 L1 h1 h2 => ?_) M x4 S L o51_r oL_r
      have a1 := rI_51 hS h1
      have a2 := inv_51 hv h1
      have a3 : S1 59 (6 * b + o) = 1 := (h1.1 59 _ (by omega)).trans hab
      have a4 : S1 0 72 = x2 := (h1.1 0 72 (by omega)).trans h72
      have a5 := oFr_e fr (o19_r (T := T)) h1 h2
      by_cases c20 : S0 62 b = 20
      · exact od_j hb hxb ho ho6 hV a1 a2 (fun q => vS_51 (v20 q) h1) (fun q => absurd c20 q) (fun q => absurd q (by decide)) a3 a4 (Or.inl rfl) hu a5 (fun y T1 S1 Lc1 hy hO => hk x2 0 y T1 S1 L1 Lc1 hy hO)
      · have hV1 : Rl b P T S1 := by
          have := vn c20
          rw [this] at hV
          exact Rl_e hV o19_r h1
        exact od_j hb hxb ho ho6 hV1 a1 a2 (fun q => absurd q c20) (fun _ => rfl) (fun q => absurd q (by decide)) a3 a4 (Or.inl rfl) hu a5 (fun y T1 S1 Lc1 hy hO => hk x2 0 y T1 S1 L1 Lc1 hy hO)
    show E2 (fB_X6_takeDown_L53 k7 P x1 xo (lpF (fun _ _ _ _ _ => none) (fB_X6_takeDown_L53 k7 P x1 xo) N) x2 0 x5 T Lc) _ Q
    generalize lpF (fun _ _ _ _ _ => none) (fB_X6_takeDown_L53 k7 P x1 xo) N = k
    unfold fB_X6_takeDown_L53
    exact E2_itl (fun _ => g) (fun _ => E2_pl rfl g)
/-- the limit of a stop -/
def oLim (b : Nat) (S0 : Tr) (x1 : Int32) : Prop := (S0 0 70 = 0 ∧ x1 = S0 34 (S0 62 b).toNatClampNeg) ∨ (¬ S0 0 70 = 0 ∧ x1 = 1000000)
theorem od_in {b o : Nat} {P T0 S0 : Tr} {L0 : Lo} {k7 : Int32 → Int32 → Int32 → Tr → Lo → Option (Int32 × Tr × Lo)} {k9 : Int32 → Int32 → Tr → Lo → Option (Tr × Lo)} {Q : Int32 × Tr × Lo → Tr × Lo → Prop} {xb xo x1 : Int32} (hb : xb.toNatClampNeg = b) (hxb : 0 ≤ xb.toInt ∧ xb.toInt ≤ 1) (ho : xo.toInt = o) (ho6 : o < 6) (lim : oLim b S0 x1) (hk : ∀ (x2 x3 y : Int32) (T1 S1 : Tr) (L1 Lc1 : Lo), y.toInt = ((o + 1 : Nat) : Int) → OU b P T0 S0 L0 (o + 1) x2 x3 T1 S1 L1 → E2 (k7 x2 x3 y T1 Lc1) (k9 x3 y S1 L1) Q) (N : Nat) : ∀ (n : Nat) (x2 x5 : Int32) (T S : Tr) (L Lc : Lo), x5.toInt = n → n ≤ 10 → Rl b P T S → S 0 72 = x2 → (0 ≤ x2.toInt ∧ x2.toInt ≤ 10000 * (o : Int) + 1000 * (n : Int)) → (∀ i : Nat, i < n → S 30 i = xo → ¬ S 53 (10 * b + i) = 1) → S 59 (6 * b + o) = 1 → (S0 62 b = 20 → ∀ p : Nat, p < o → (p : Int) < (S 0 13).toInt → ¬ S 59 (6 * b + p) = 1) → oFr b T0 S0 L0 T S L → E2 (lpF (fun _ _ _ _ _ => none) (fB_X6_takeDown_L53 k7 P x1 xo) N x2 1 x5 T Lc) (lpF (fun _ _ _ _ => none) (fB_X8_outs_L32 k9 xb xo) N 1 x5 S L) Q := by
  induction N with
  | zero => intro n x2 x5 T S L Lc _ _ _ _ _ _ _ _ _; exact E2_nl
  | succ N ih =>
    intro n x2 x5 T S L Lc hx5 hn hR h72 hu hz0 hab h20 fr
    have hz : ∀ (x2 y y' : Int32) (T S : Tr) (L Lc : Lo), Rl b P T S → S 59 (6 * b + o) = 1 → S 0 72 = x2 → (0 ≤ x2.toInt ∧ x2.toInt ≤ 10000 * (o : Int) + 10000) → (S0 62 b = 20 → ∀ p : Nat, p < o → (p : Int) < (S 0 13).toInt → ¬ S 59 (6 * b + p) = 1) → oFr b T0 S0 L0 T S L → E2 (lpF (fun _ _ _ _ _ => none) (fB_X6_takeDown_L53 k7 P x1 xo) N x2 0 y T Lc) (lpF (fun _ _ _ _ => none) (fB_X8_outs_L32 k9 xb xo) N 0 y' S L) Q :=
      fun x2 y y' T S L Lc hR hab h72 hu h20 fr => od_z hb hxb ho ho6 hR hR.1 hR.2.2.2.2 (fun q => vS_r (h20 q)) (fun _ => rfl) hab h72 hu fr hk N N
    show E2 (fB_X6_takeDown_L53 k7 P x1 xo (lpF (fun _ _ _ _ _ => none) (fB_X6_takeDown_L53 k7 P x1 xo) N) x2 1 x5 T Lc) (fB_X8_outs_L32 k9 xb xo (lpF (fun _ _ _ _ => none) (fB_X8_outs_L32 k9 xb xo) N) 1 x5 S L) Q
    generalize lpF (fun _ _ _ _ _ => none) (fB_X6_takeDown_L53 k7 P x1 xo) N = k at ih hz ⊢
    generalize lpF (fun _ _ _ _ => none) (fB_X8_outs_L32 k9 xb xo) N = k' at ih hz ⊢
    have h14 : 0 ≤ (S 0 14).toInt ∧ (S 0 14).toInt ≤ 10 := hR.1.1 0 14
    have p14 : P 0 2 = S 0 14 := hR.2.1.1.2.2.1
    have j10 : (((10 : Int32) * xb) + x5).toNatClampNeg = 10 * b + n := by rw [jx 10 (by decide) (by omega) hxb hx5 (by omega), hb]
    have j6 : (((6 : Int32) * xb) + xo).toNatClampNeg = 6 * b + o := by rw [jx 6 (by decide) (by omega) hxb ho (by omega), hb]
    have e1 := i_p1 hx5 (by omega)
    unfold fB_X6_takeDown_L53 fB_X8_outs_L32
    rw [p14]
    refine E2_it Iff.rfl (fun c _ => ?_) (fun c _ => E2_ql (by decide) (E2_ckl (fun _ => E2_ckr (fun _ => ?_))))
    · have := tq_le rfl hx5 c
      exact od_j hb hxb ho ho6 hR hR.1 hR.2.2.2.2 (fun q => vS_r (h20 q)) (fun _ => rfl) (fun _ => ⟨rfl, fun i hi => hz0 i (by omega)⟩) hab h72 (Or.inr rfl) ⟨hu.1, by omega⟩ fr (fun y T1 S1 Lc1 hy hO => hk x2 1 y T1 S1 L Lc1 hy hO)
    have hn1 : (n : Int) < (S 0 14).toInt := tq_len rfl hx5 c
    have nx : ∀ y y' : Int32, y = x5 + 1 → y' = x5 + 1 → (S 30 n = xo → ¬ S 53 (10 * b + n) = 1) → E2 (k x2 1 y T Lc) (k' 1 y' S L) Q := fun y y' ey ey' g => by
      subst ey ey'
      refine ih (n + 1) x2 (x5 + 1) T S L Lc e1 (by omega) hR h72 ⟨hu.1, by omega⟩ (fun i hi => ?_) hab h20 fr
      rcases (by omega : i < n ∨ i = n) with g2 | rfl
      · exact hz0 i g2
      · exact g
    rw [i_cn hx5, j10, i_cn ho, (hR.2.1.2.2.2.1 n hn1).1, (hR.2.2.2.1.2.2.2.1 n hn1).1]
    refine E2_it Iff.rfl (fun c2 _ => E2_ckr (fun _ => E2_it Iff.rfl (fun c3 _ => E2_ckl (fun _ => ?_)) (fun c3 _ => E2_ltl (fun y ey => E2_ltr (fun y' ey' => nx y y' ey ey' (fun _ => c3)))))) (fun c2 _ => E2_ltl (fun y ey => E2_ltr (fun y' ey' => nx y y' ey ey' (fun q => absurd q c2))))
    have hly : 0 ≤ (S 54 (10 * b + n)).toInt := (hR.1.2.2.2.1 n (by omega)).mp c3
    obtain ⟨p0, pos0, ha⟩ := at2_of hR.1.1 hR.1.2.2.1 hR.2.2.2.1.2.2.2.1 hR.2.2.2.1.2.2.2.2 hn1 hly
    refine E2_bd (e_sec hb hxb hR hx5 hn1 ha (by rw [c2]; exact ho)) (fun q q' hq => E2_ltl (fun r25 e25 => E2_ltl (fun T26 eT => E2_ltl (fun L27 _ => E2_ltr (fun r37 e37 => E2_ltr (fun S38 eS => E2_ltr (fun L39 eL => ?_)))))))
    have er : r25 = r37 := e25.trans (hq.1.trans e37.symm)
    have f19 : o19 T T26 := by rw [eT]; exact hq.2.1
    have f51 : o51 S S38 := by rw [eS]; exact hq.2.2.1
    have fL : oL L L39 := by rw [eL]; exact hq.2.2.2.1
    have rb : 0 ≤ r37.toInt ∧ r37.toInt ≤ 1000 := by rw [e37]; exact hq.2.2.2.2
    have hR1 := Rl_e hR f19 f51
    have u72 : S38 0 72 = x2 := (f51.1 0 72 (by omega)).trans h72
    have s13 : S38 0 13 = S 0 13 := f51.1 0 13 (by omega)
    have s14 : S38 0 14 = S 0 14 := f51.1 0 14 (by omega)
    have hab1 : S38 59 (6 * b + o) = 1 := (f51.1 59 _ (by omega)).trans hab
    have h201 : S0 62 b = 20 → ∀ p : Nat, p < o → (p : Int) < (S38 0 13).toInt → ¬ S38 59 (6 * b + p) = 1 := fun q p hp hp2 => by
      rw [s13] at hp2; rw [f51.1 59 _ (by omega)]; exact h20 q p hp hp2
    have fr1 := oFr_e fr f19 f51 fL
    rw [er]
    have over : E2 (fJ_X6_takeDown_J126 k7 k P x1 xo x2 x5 r37 0 T26 L27) (fJ_X8_outs_J116 k9 k' xb xo x5 r37 S38 L39) Q := by
      unfold fJ_X6_takeDown_J126 fJ_X8_outs_J116 fJ_X8_outs_J117
      exact E2_pl rfl (E2_ltl (fun y _ => E2_pr rfl (E2_ltr (fun y' _ => hz x2 y y' T26 S38 L39 L27 hR1 hab1 u72 ⟨hu.1, by omega⟩ h201 fr1))))
    have fits : E2 (fJ_X6_takeDown_J126 k7 k P x1 xo x2 x5 r37 1 T26 L27) (fJ_X8_outs_J112 k9 k' xb xo x5 r37 S38 L39) Q := by
      unfold fJ_X6_takeDown_J126 fJ_X8_outs_J112 fJ_X8_outs_J117
      rw [i_cn ho, j6]
      refine E2_ql (by decide) (E2_ltl (fun x2' e2' => E2_ckl (fun _ => E2_ltl (fun T35 e35 => ?_))))
      refine E2_qr (by decide) (E2_ltr (fun S44 e44 => E2_ckr (fun _ => E2_ltr (fun S46 e46 => E2_ckr (fun _ => ?_)))))
      have ho13 : (o : Int) < (S38 0 13).toInt ∨ ¬ (o : Int) < (S38 0 13).toInt := Decidable.em _
      have v60 : S44 60 (6 * b + o) = S38 60 (6 * b + o) := by rw [e44, st_oth (by decide)]
      have b30 : (S38 30 n).toInt < (S38 0 13).toInt := hR1.1.2.1.2.2.1 n (by omega) (by rw [s14]; exact hn1)
      have ho2 : (o : Int) < (S38 0 13).toInt := by rw [f51.1 30 n (by omega), c2, ho] at b30; exact b30
      have t12 : T26 12 o = S38 60 (6 * b + o) := (hR1.2.2.2.1.2.2.1 o ho2).2
      have hR2 : Rl b P T35 S46 := by
        have := Rl_sp (o := o) (v := S38 60 (6 * b + o) + r37) (Rl_72 (v := S38 0 72 + r37) hR1) ho6
        rw [e35, e46, v60, t12, e44]; exact this
      have k46 : ∀ a j, ¬ (a = 0 ∧ j = 72) → ¬ a = 60 → S46 a j = S38 a j := fun a j n1 n2 => by rw [e46, st_oth n2, e44, st_no n1]
      have c53 : S46 53 (10 * b + n) = 1 := by rw [k46 53 _ (by omega) (by omega), f51.1 53 _ (by omega)]; exact c3
      have n46 : (n : Int) < (S46 0 14).toInt := by rw [k46 0 14 (by omega) (by omega), s14]; exact hn1
      obtain ⟨p2, pos2, ha2⟩ := at2_of hR2.1.1 hR2.1.2.2.1 hR2.2.2.2.1.2.2.2.1 hR2.2.2.2.1.2.2.2.2 n46 ((hR2.1.2.2.2.1 n (by omega)).mp c53)
      have ab := e_abv ha2 hb hxb hR2.1.1 hR2.1.2.2.1 hx5 (by omega)
      refine E2_bd (R := fun a c => a = c) (E2_ep ab.1 ab.2 (fun a c h1 h2 => Int32.toInt_inj.mp (h1.trans h2.symm))) (fun r36 r48 er2 => ?_)
      have er2 : r36 = r48 := er2
      rw [er2]
      refine E2_ltl (fun T39 e39 => E2_ltr (fun S51 e51 => ?_))
      rw [hb] at e51
      have v61 : T35 0 1 = S46 61 b := hR2.2.2.2.1.2.1
      have hR3 : Rl b P T39 S51 := by rw [e39, e51, v61]; exact Rl_li hR2
      have k51 : ∀ a j, ¬ (a = 0 ∧ j = 72) → ¬ a = 60 → ¬ a = 61 → S51 a j = S38 a j := fun a j n1 n2 n3 => by rw [e51, st_oth n3]; exact k46 a j n1 n2
      have d53 : S51 53 (10 * b + n) = 1 := by rw [k51 53 _ (by omega) (by omega) (by omega), f51.1 53 _ (by omega)]; exact c3
      have n51 : (n : Int) < (S51 0 14).toInt := by rw [k51 0 14 (by omega) (by omega) (by omega), s14]; exact hn1
      refine E2_bd (e_take (c := 2) hb hxb hR3 hx5 n51 d53 (by decide) (by decide)) (fun T40 S52 hq4 => E2_ltl (fun y ey => E2_ltr (fun y' ey' => ?_)))
      obtain ⟨hR4, aG4, p, pos, h, _, _, hc4, hz4⟩ := hq4
      subst ey ey'
      have k52 : ∀ a j, ¬ (a = 0 ∧ j = 72) → ¬ (53 ≤ a ∧ a ≤ 56) → ¬ a = 60 → ¬ a = 61 → S52 a j = S38 a j := fun a j n1 n2 n3 n4 => by rw [hz4.2.2.2.2 a j n2]; exact k51 a j n1 n3 n4
      have z53 : ∀ i : Nat, S52 53 (10 * b + i) = if i = n then 2 else S 53 (10 * b + i) := fun i => by
        rw [hz4.2.2.2.1]
        by_cases g : i = n
        · rw [if_pos (by omega), if_pos g]
        · rw [if_neg (by omega), if_neg g, k51 53 _ (by omega) (by omega) (by omega), f51.1 53 _ (by omega)]
      have z72 : S52 0 72 = x2' := by
        rw [hz4.2.2.2.2 0 72 (by omega), e51, st_oth (by decide), e46, st_oth (by decide), e44, st_same, u72, e2']
      have b2 : x2'.toInt = x2.toInt + r37.toInt := by rw [e2']; exact i_addK rfl rfl (by omega) (by omega)
      refine ih (n + 1) x2' (x5 + 1) T40 S52 L39 L27 e1 (by omega) hR4 z72 ⟨by omega, by omega⟩ (fun i hi q => ?_) ?_ (fun q p hp hp2 => ?_) ?_
      · rw [z53]
        by_cases g : i = n
        · rw [if_pos g]; decide
        · rw [if_neg g]
          rw [k52 30 i (by omega) (by omega) (by omega) (by omega), f51.1 30 i (by omega)] at q
          exact hz0 i (by omega) q
      · rw [k52 59 _ (by omega) (by omega) (by omega) (by omega)]; exact hab1
      · rw [k52 0 13 (by omega) (by omega) (by omega) (by omega)] at hp2
        rw [k52 59 _ (by omega) (by omega) (by omega) (by omega)]; exact h201 q p hp hp2
      · refine ⟨fun a j n1 n2 n3 => ?_, fun a j n1 n2 n3 => ?_, ?_, fr1.2.2.2.1, fun i hi => ?_⟩
        · rw [hc4.2.2.2.2.2 a j (by omega), e39, st_no n1, e35, st_oth (by omega)]; exact fr1.1 a j n1 n2 n3
        · rw [k52 a j (by omega) n2 (by omega) (by omega)]; exact fr1.2.1 a j n1 n2 n3
        · refine aM_t fr1.2.2.1 (aM_t (S1 := S51) ?_ (aM_fx aG4 (fx_z hz4)))
          rw [e51, e46, e44]
          exact aM_s (aM_s (aM_s aM_r (by simp [Mb])) (Mb_60 (inB_of (by omega) (by omega)))) Mb_61
        · rw [z53]
          have w := fr.2.2.2.2 i hi
          by_cases g : i = n
          · subst g
            rw [if_pos rfl]
            rcases w with w | ⟨w1, w2⟩
            · exact Or.inr ⟨w.symm.trans c3, rfl⟩
            · exact Or.inr ⟨w1, rfl⟩
          · rw [if_neg g]; exact w
    have e70 : S38 0 70 = S0 0 70 := fr1.2.1 0 70 (by omega) (by omega) (by omega)
    have e62 : S38 62 b = S0 62 b := fr1.2.1 62 b (by omega) (by omega) (by omega)
    refine E2_qr (by decide) ?_
    rcases lim with ⟨l1, l2⟩ | ⟨l1, l2⟩
    · refine E2_pr (e70.trans l1) (E2_ckr (fun _ => E2_ckr (fun _ => ?_)))
      rw [hb, e62, u72, fr1.2.1 34 _ (by omega) (by omega) (by omega), ← l2]
      exact E2_it Iff.rfl (fun _ _ => over) (fun _ _ => fits)
    · refine E2_qr (by rw [e70]; exact l1) (E2_ql (fun c => ?_) fits)
      rw [l2] at c
      have := tq_lt (x := (1000000 : Int32)) (y := x2 + r37) (a := 1000000) (by decide) (i_addK rfl rfl (by omega) (by omega)) c
      omega
-- 62.zaz.25.z15
/-! getting out: the last stop, the whole way round -/
theorem sta_f {b : Nat} {T S S1 : Tr} (h : sta b T S) (e : ∀ a j, ¬ (a = 0 ∧ j = 51) → ¬ (53 ≤ a ∧ a ≤ 56) → ¬ a = 59 → S1 a j = S a j) : sta b T S1 := by
  have e0 : ∀ j, ¬ j = 51 → S1 0 j = S 0 j := fun j hj => e 0 j (by omega) (by omega) (by omega)
  have q : ∀ a, ¬ a = 0 → ¬ (53 ≤ a ∧ a ≤ 56) → ¬ a = 59 → S1 a = S a := fun a h0 h1 h2 => funext (fun j => e a j (by omega) h1 h2)
  unfold sta at h ⊢
  rw [e0 13 (by omega), e0 14 (by omega), e0 12 (by omega), e0 69 (by omega), e0 64 (by omega), e0 68 (by omega), e0 65 (by omega), e0 66 (by omega), e0 67 (by omega), q 57 (by omega) (by omega) (by omega), q 58 (by omega) (by omega) (by omega), q 72 (by omega) (by omega) (by omega), q 33 (by omega) (by omega) (by omega), q 23 (by omega) (by omega) (by omega)]
  exact h
theorem bel_S {b i : Nat} {S : Tr} {xb x1 : Int32} (hb : xb.toNatClampNeg = b) (hxb : 0 ≤ xb.toInt ∧ xb.toInt ≤ 1) (hS : iR BM S) (hg : gS b S) (hi : x1.toInt = i) (hi9 : i ≤ 9) (hl : 0 ≤ (S 54 (10 * b + i)).toInt) : ∃ p pos h : Nat, p ≤ 4 ∧ (S 54 (10 * b + i)).toInt = p ∧ (S 56 (5 * b + p)).toInt = h ∧ pos < h ∧ h ≤ 10 ∧ Ep (f_X8_belowOf S xb x1) (fun q => q.toInt = pos) := by
  obtain ⟨p, pos, p5, hp, hk, hs, hu, h9⟩ := wh hS hg (by omega) hl
  have b56 := BM56 hS (5 * b + p)
  obtain ⟨h, hh⟩ : ∃ h : Nat, (S 56 (5 * b + p)).toInt = h := ⟨(S 56 (5 * b + p)).toInt.toNat, by omega⟩
  refine ⟨p, pos, h, by omega, hp, hh, by omega, by omega, ?_⟩
  have j10 : (((10 : Int32) * xb) + x1).toNatClampNeg = 10 * b + i := by rw [jx 10 (by decide) (by omega) hxb hi (by omega), hb]
  have hly : (S 54 (((10 : Int32) * xb) + x1).toNatClampNeg).toInt = p := by rw [j10]; exact hp
  have j5 : (((5 : Int32) * xb) + (S 54 (((10 : Int32) * xb) + x1).toNatClampNeg)).toNatClampNeg = 5 * b + p := by rw [jx 5 (by decide) (by omega) hxb hly (by omega), hb]
  refine Ep_mono (D_to (t_X8_belowOf S xb x1 hS hxb ⟨by omega, by omega⟩ (by rw [hb]; exact hg) (by omega))) (fun q hq => ?_)
  obtain ⟨q0, q1, q2⟩ := hq
  rw [j5] at q1
  obtain ⟨k, hk2⟩ : ∃ k : Nat, q.toInt = k := ⟨q.toInt.toNat, by omega⟩
  rw [hb, i_cn hly, i_cn hk2] at q2
  have := hu k (by omega) (by rw [q2]; exact hi)
  omega
theorem fr_S {b n : Nat} {S : Tr} {xb x : Int32} (hb : xb.toNatClampNeg = b) (hxb : 0 ≤ xb.toInt ∧ xb.toInt ≤ 1) (hS : rI b S) (hx : x.toInt = n) (hn : n ≤ 9) (h1 : S 53 (10 * b + n) = 1) : Ep (f_X8_takes S xb x 5) (fun q => rI b q ∧ aM b S q ∧ vF b S q ∧ q 53 (10 * b + n) = 5) := by
  have j10 : (((10 : Int32) * xb) + x).toNatClampNeg = 10 * b + n := by rw [jx 10 (by decide) (by omega) hxb hx (by omega), hb]
  have hly : 0 ≤ (S 54 (10 * b + n)).toInt := (hS.2.2.2.1 n (by omega)).mp h1
  obtain ⟨p, pos, h, p4, hp, hh, hpos, h10, hbl⟩ := bel_S hb hxb hS.1 hS.2.2.1 hx hn hly
  have c2 := e_tks (c := 5) hb hxb hx hn hp p4 hh hbl hpos h10
  have c3 := D_to (t_X8_takes2 S xb x 5 hS.1 (by rw [hb]; exact hS.2.2) hxb ⟨by omega, by omega⟩ (by decide) (by rw [j10]; exact hly) (by decide))
  rw [hb] at c3
  refine Ep_mono (Ep_and c2 c3) (fun q hq => ?_)
  obtain ⟨q2, q3, q4, q5, q6⟩ := hq
  exact ⟨⟨q3, pI_aG hS.2.1 q5, q4⟩, aM_fx q5 (fx_z q2), vF_k q2 h1, by rw [q2.2.2.2.1, if_pos rfl]⟩
def enQ (b : Nat) (S : Tr) (L : Lo) (q : Tr × Lo) : Prop := q.2 = L ∧ rI b q.1 ∧ aM b S q.1 ∧ (∀ i : Nat, (i : Int) < (S 0 14).toInt → (¬ S 53 (10 * b + i) = 1 ∧ q.1 53 (10 * b + i) = S 53 (10 * b + i) ∧ q.1 54 (10 * b + i) = S 54 (10 * b + i)) ∨ (S 53 (10 * b + i) = 1 ∧ q.1 53 (10 * b + i) = 5 ∧ q.1 54 (10 * b + i) = -1)) ∧ (∀ p : Nat, (p : Int) < (S 0 13).toInt → (¬ S 59 (6 * b + p) = 1 ∧ q.1 59 (6 * b + p) = S 59 (6 * b + p)) ∨ (S 59 (6 * b + p) = 1 ∧ q.1 59 (6 * b + p) = 2)) ∧ ∀ a j, ¬ (53 ≤ a ∧ a ≤ 56) → ¬ a = 59 → q.1 a j = S a j
theorem en_261 {b : Nat} {S S1 : Tr} {L : Lo} {xb : Int32} (hb : xb.toNatClampNeg = b) (hxb : 0 ≤ xb.toInt ∧ xb.toInt ≤ 1) (hS : iR BM S) (hv : vF b S S1) (hz : ∀ i : Nat, (i : Int) < (S 0 14).toInt → ¬ S1 53 (10 * b + i) = 1) (N : Nat) : ∀ (n : Nat) (x : Int32) (S2 : Tr), x.toInt = n → n ≤ 6 → rI b S2 → aM b S S2 → (∀ a j, ¬ a = 59 → S2 a j = S1 a j) → (∀ p : Nat, p < n → (p : Int) < (S 0 13).toInt → (¬ S 59 (6 * b + p) = 1 ∧ S2 59 (6 * b + p) = S 59 (6 * b + p)) ∨ (S 59 (6 * b + p) = 1 ∧ S2 59 (6 * b + p) = 2)) → (∀ p : Nat, n ≤ p → S2 59 (6 * b + p) = S 59 (6 * b + p)) → Ep (lpF (fun _ _ => none) (fB_X8_outs_L261 L xb) N x S2) (enQ b S L) := by
  have h13 : 0 ≤ (S 0 13).toInt ∧ (S 0 13).toInt ≤ 6 := hS 0 13
  induction N with
  | zero => intro n x S2 _ _ _ _ _ _ _; exact Ep_none
  | succ N ih =>
    intro n x S2 hx hn hr ha ho hp hq
    show Ep (fB_X8_outs_L261 L xb (lpF (fun _ _ => none) (fB_X8_outs_L261 L xb) N) x S2) _
    generalize lpF (fun _ _ => none) (fB_X8_outs_L261 L xb) N = k at ih ⊢
    have e13 : S2 0 13 = S 0 13 := (ho 0 13 (by omega)).trans (hv.2 0 13 (by omega))
    have e1 := i_p1 hx (by omega)
    unfold fB_X8_outs_L261
    rw [e13]
    refine Ep_ite (fun c => ?_) (fun c => ?_)
    · have := tq_le rfl hx c
      refine Ep_some ⟨rfl, hr, ha, fun i hi => ?_, fun p hp2 => hp p (by omega) hp2, fun a j n1 n2 => (ho a j n2).trans (hv.2 a j n1)⟩
      show (¬ S 53 (10 * b + i) = 1 ∧ S2 53 (10 * b + i) = S 53 (10 * b + i) ∧ S2 54 (10 * b + i) = S 54 (10 * b + i)) ∨ (S 53 (10 * b + i) = 1 ∧ S2 53 (10 * b + i) = 5 ∧ S2 54 (10 * b + i) = -1)
      rw [ho 53 _ (by omega), ho 54 _ (by omega)]
      rcases hv.1 i hi with ⟨a1, a2⟩ | ⟨a1, a2, a3⟩
      · exact Or.inl ⟨fun g => hz i hi (a1.trans g), a1, a2⟩
      · exact Or.inr ⟨a1, a2, a3⟩
    · have := tq_len rfl hx c
      have j6 : (((6 : Int32) * xb) + x).toNatClampNeg = 6 * b + n := by rw [jx 6 (by decide) (by omega) hxb hx (by omega), hb]
      rw [j6, hq n (Nat.le_refl _)]
      refine Ep_ck (Ep_ite (fun c2 => Ep_lt (fun S10 e10 => Ep_lt (fun y ey => ?_))) (fun c2 => Ep_lt (fun y ey => ?_)))
      · refine ih (n + 1) y S10 (by rw [ey]; exact e1) (by omega) (by rw [e10]; exact rI_out hr) (by rw [e10]; exact aM_s ha (Mb_59 (inB_of (by omega) (by omega)))) (fun a j h => by rw [e10, st_oth h]; exact ho a j h) (fun p hp1 hp2 => ?_) (fun p hp1 => ?_)
        · rw [e10]
          by_cases g : p = n
          · subst g; rw [st_same]; exact Or.inr ⟨c2, rfl⟩
          · rw [st_ne (by omega)]; exact hp p (by omega) hp2
        · rw [e10, st_ne (by omega)]; exact hq p (by omega)
      · refine ih (n + 1) y S2 (by rw [ey]; exact e1) (by omega) hr ha ho (fun p hp1 hp2 => ?_) (fun p hp1 => hq p (by omega))
        by_cases g : p = n
        · subst g; exact Or.inl ⟨c2, hq p (Nat.le_refl _)⟩
        · exact hp p (by omega) hp2
theorem en_223 {b : Nat} {S : Tr} {L : Lo} {xb : Int32} (hb : xb.toNatClampNeg = b) (hxb : 0 ≤ xb.toInt ∧ xb.toInt ≤ 1) (hS : rI b S) : Ep (fL_X8_outs_L223 L xb 0 S) (enQ b S L) := by
  have h14 : 0 ≤ (S 0 14).toInt ∧ (S 0 14).toInt ≤ 10 := hS.1 0 14
  have lp : ∀ (N n : Nat) (x : Int32) (S1 : Tr), x.toInt = n → n ≤ 10 → rI b S1 → aM b S S1 → vF b S S1 → (∀ i : Nat, i < n → ¬ S1 53 (10 * b + i) = 1) → Ep (lpF (fun _ _ => none) (fB_X8_outs_L223 L xb) N x S1) (enQ b S L) := by
    intro N
    induction N with
    | zero => intro n x S1 _ _ _ _ _ _; exact Ep_none
    | succ N ih =>
      intro n x S1 hx hn hr ha hv hz
      show Ep (fB_X8_outs_L223 L xb (lpF (fun _ _ => none) (fB_X8_outs_L223 L xb) N) x S1) _
      generalize lpF (fun _ _ => none) (fB_X8_outs_L223 L xb) N = k at ih ⊢
      have e14 : S1 0 14 = S 0 14 := hv.2 0 14 (by omega)
      have e1 := i_p1 hx (by omega)
      unfold fB_X8_outs_L223
      rw [e14]
      refine Ep_ite (fun c => ?_) (fun c => ?_)
      · have := tq_le rfl hx c
        unfold fL_X8_outs_L261
        exact en_261 hb hxb hS.1 hv (fun i hi => hz i (by omega)) 2000 0 0 S1 (by decide) (by omega) hr ha (fun _ _ _ => rfl) (fun p hp => absurd hp (by omega)) (fun p _ => hv.2 59 _ (by omega))
      · have := tq_len rfl hx c
        have j10 : (((10 : Int32) * xb) + x).toNatClampNeg = 10 * b + n := by rw [jx 10 (by decide) (by omega) hxb hx (by omega), hb]
        rw [j10]
        refine Ep_ck (Ep_ite (fun c2 => Ep_bd (fr_S hb hxb hr hx (by omega) c2) (fun q hq => Ep_lt (fun y ey => ?_))) (fun c2 => Ep_lt (fun y ey => ?_)))
        · obtain ⟨q1, q2, q3, q4⟩ := hq
          refine ih (n + 1) y q (by rw [ey]; exact e1) (by omega) q1 (aM_t ha q2) (vF_t hv q3) (fun i hi => ?_)
          by_cases g : i = n
          · subst g; rw [q4]; decide
          · rcases q3.1 i (by rw [e14]; omega) with ⟨a1, a2⟩ | ⟨a1, a2, a3⟩
            · rw [a1]; exact hz i (by omega)
            · rw [a2]; decide
        · refine ih (n + 1) y S1 (by rw [ey]; exact e1) (by omega) hr ha hv (fun i hi => ?_)
          rcases (by omega : i < n ∨ i = n) with g | rfl
          · exact hz i g
          · exact c2
  unfold fL_X8_outs_L223
  exact lp 2000 0 0 S (by decide) (by omega) hS aM_r vF_r (fun i hi => absurd hi (by omega))
def ouQ (b : Nat) (P T0 S0 : Tr) (L0 : Lo) (q : Int32 × Tr × Lo) (q' : Tr × Lo) : Prop := Rl b P q.2.1 q'.1 ∧ q.1 = q'.1 0 72 ∧ (0 ≤ q.1.toInt ∧ q.1.toInt ≤ 60000) ∧ fCt T0 q.2.1 ∧ fO S0 q'.1 ∧ aM b S0 q'.1 ∧ oL L0 q'.2 ∧ (∀ i : Nat, (i : Int) < (S0 0 14).toInt → q'.1 53 (10 * b + i) = S0 53 (10 * b + i) ∨ (S0 53 (10 * b + i) = 1 ∧ (q'.1 53 (10 * b + i) = 2 ∨ q'.1 53 (10 * b + i) = 5))) ∧ (S0 62 b = 20 → (∀ i : Nat, (i : Int) < (S0 0 14).toInt → ¬ q'.1 53 (10 * b + i) = 1) ∧ ∀ p : Nat, (p : Int) < (S0 0 13).toInt → ¬ q'.1 59 (6 * b + p) = 1)
/-- all is set free at the last stop: the two meet again -/
theorem ou_fin {b o : Nat} {P T V S q : Tr} {L L1 : Lo} (hV : Rl b P T V) (hS : rI b S) (hv : inv b S) (h : vS b o S V) (ho : (S 0 13).toInt ≤ (o : Int)) (e : enQ b S L (q, L1)) : Rl b P T q ∧ (∀ i : Nat, (i : Int) < (S 0 14).toInt → ¬ q 53 (10 * b + i) = 1) ∧ ∀ p : Nat, (p : Int) < (S 0 13).toInt → ¬ q 59 (6 * b + p) = 1 := by
  obtain ⟨_, er, ea, ei, ep, eo⟩ := e
  have er : rI b q := er
  have ea : aM b S q := ea
  have ei : ∀ i : Nat, (i : Int) < (S 0 14).toInt → (¬ S 53 (10 * b + i) = 1 ∧ q 53 (10 * b + i) = S 53 (10 * b + i) ∧ q 54 (10 * b + i) = S 54 (10 * b + i)) ∨ (S 53 (10 * b + i) = 1 ∧ q 53 (10 * b + i) = 5 ∧ q 54 (10 * b + i) = -1) := ei
  have ep : ∀ p : Nat, (p : Int) < (S 0 13).toInt → (¬ S 59 (6 * b + p) = 1 ∧ q 59 (6 * b + p) = S 59 (6 * b + p)) ∨ (S 59 (6 * b + p) = 1 ∧ q 59 (6 * b + p) = 2) := ep
  have eo : ∀ a j, ¬ (53 ≤ a ∧ a ≤ 56) → ¬ a = 59 → q a j = S a j := eo
  obtain ⟨p1, p2, p3, p4, p5⟩ := h
  have nq : ∀ i : Nat, (i : Int) < (S 0 14).toInt → ¬ q 53 (10 * b + i) = 1 := fun i hi => by
    rcases ei i hi with ⟨a1, a2, _⟩ | ⟨_, a2, _⟩
    · rw [a2]; exact a1
    · rw [a2]; decide
  have np : ∀ p : Nat, (p : Int) < (S 0 13).toInt → ¬ q 59 (6 * b + p) = 1 := fun p hp => by
    rcases ep p hp with ⟨a1, a2⟩ | ⟨_, a2⟩
    · rw [a2]; exact a1
    · rw [a2]; decide
  have v13 : V 0 13 = S 0 13 := p5 0 13 (by omega) (by omega) (by omega)
  have v14 : V 0 14 = S 0 14 := p5 0 14 (by omega) (by omega) (by omega)
  have b14 : 0 ≤ (S 0 14).toInt ∧ (S 0 14).toInt ≤ 10 := hS.1 0 14
  have ow : ∀ i : Nat, (i : Int) < (S 0 14).toInt → (((S 30 i).toNatClampNeg : Nat) : Int) < (S 0 13).toInt := fun i hi => by
    have g1 := hS.2.1.2.2.1 i (by omega) hi
    have g2 : 0 ≤ (S 30 i).toInt ∧ (S 30 i).toInt ≤ 5 := hS.1 30 i
    rw [i_cl]; omega
  have nV : ∀ i : Nat, (i : Int) < (S 0 14).toInt → ¬ V 53 (10 * b + i) = 1 := fun i hi g => by
    have w := (hV.2.2.2.2.1 i (by rw [v14]; exact hi)).1 g
    rw [p5 30 i (by omega) (by omega) (by omega)] at w
    have w2 := ow i hi
    exact p3 _ (by omega) w2 w
  have s53 : ∀ i : Nat, (i : Int) < (S 0 14).toInt → V 53 (10 * b + i) = q 53 (10 * b + i) ∧ V 54 (10 * b + i) = q 54 (10 * b + i) := fun i hi => by
    rcases p1 i hi with ⟨a1, a2⟩ | ⟨a1, a2, a3⟩
    · rcases ei i hi with ⟨c1, c2, c3⟩ | ⟨c1, c2, c3⟩
      · exact ⟨a1.trans c2.symm, a2.trans c3.symm⟩
      · exact absurd (a1.trans c1) (nV i hi)
    · rcases ei i hi with ⟨c1, c2, c3⟩ | ⟨c1, c2, c3⟩
      · exact absurd a1 c1
      · exact ⟨a2.trans c2.symm, a3.trans c3.symm⟩
  have s59 : ∀ p : Nat, (p : Int) < (S 0 13).toInt → V 59 (6 * b + p) = q 59 (6 * b + p) := fun p hp => by
    have n := p3 p (by omega) hp
    rcases p2 p hp with a1 | ⟨a1, a2⟩
    · rcases ep p hp with ⟨c1, c2⟩ | ⟨c1, c2⟩
      · exact a1.trans c2.symm
      · exact absurd (a1.trans c1) n
    · rcases ep p hp with ⟨c1, c2⟩ | ⟨c1, c2⟩
      · exact absurd a1 c1
      · exact a2.trans c2.symm
  have qv : ∀ a j, ¬ (a = 0 ∧ j = 51) → ¬ (53 ≤ a ∧ a ≤ 56) → ¬ a = 59 → q a j = V a j := fun a j n1 n2 n3 => (eo a j n2 n3).trans (p5 a j n1 n2 n3).symm
  have q13 : q 0 13 = S 0 13 := eo 0 13 (by omega) (by omega)
  have q14 : q 0 14 = S 0 14 := eo 0 14 (by omega) (by omega)
  obtain ⟨d1, d2, d3, d4, d5⟩ := hV.2.2.2.1
  have hV0 := h_0 hV.1 (fun i hi => nV i (by rw [v14] at hi; exact hi))
  have hq0 := h_0 er (fun i hi => nq i (by rw [q14] at hi; exact hi))
  refine ⟨⟨er, pK_o hV.2.1 (fun j h1 h2 => qv 0 j (by omega) (by omega) (by omega)) (fun a j h1 h2 => qv a j (by omega) (by omega) (by omega)), sta_f hV.2.2.1 qv, ⟨?_, ?_, fun p hp => ?_, fun i hi => ?_, fun p hp => ?_⟩, fun i hi => ?_, fun p hp => ?_⟩, nq, np⟩
  · rw [qv 62 b (by omega) (by omega) (by omega)]; exact d1
  · rw [qv 61 b (by omega) (by omega) (by omega)]; exact d2
  · rw [q13] at hp
    have g := d3 p (by rw [v13]; exact hp)
    exact ⟨g.1.trans (s59 p hp), g.2.trans (qv 60 _ (by omega) (by omega) (by omega)).symm⟩
  · rw [q14] at hi
    have g := d4 i (by rw [v14]; exact hi)
    exact ⟨g.1.trans (s53 i hi).1, g.2.trans (s53 i hi).2⟩
  · obtain ⟨g1, g2, g3⟩ := d5 p hp
    refine ⟨g1.trans ((hV0 p hp).trans (hq0 p hp).symm), fun k hk => ?_, g3⟩
    rw [hq0 p hp, show (0 : Int32).toInt = 0 by decide] at hk
    omega
  · rw [q14] at hi
    obtain ⟨v1, v2, v3⟩ := hv.1 i hi
    have w := ow i hi
    rw [eo 30 i (by omega) (by omega), eo 0 12 (by omega) (by omega)]
    refine ⟨fun g => absurd g (nq i hi), fun g => ?_, ?_⟩
    · have s0 : S 59 (6 * b + (S 30 i).toNatClampNeg) = 0 := by
        rcases ep _ w with ⟨c1, c2⟩ | ⟨c1, c2⟩
        · exact c2.symm.trans g
        · rw [c2] at g; exact absurd g (by decide)
      have s1 := v2 s0
      rcases ei i hi with ⟨a1, a2, _⟩ | ⟨a1, _, _⟩
      · exact a2.trans s1
      · rw [s1] at a1; exact absurd a1 (by decide)
    · rcases ei i hi with ⟨_, _, a3⟩ | ⟨_, _, a3⟩
      · rw [a3]; exact v3
      · rw [a3]
        have b12 : 0 ≤ (S 0 12).toInt ∧ (S 0 12).toInt ≤ 5 := hS.1 0 12
        show (-1 : Int) < _
        omega
  · rw [q13] at hp
    obtain ⟨w1, w2⟩ := hv.2 p hp
    rw [eo 57 _ (by omega) (by omega)]
    refine ⟨?_, w2⟩
    rcases ep p hp with ⟨c1, c2⟩ | ⟨c1, c2⟩
    · rw [c2]; exact w1
    · rw [c2]; exact Or.inr (Or.inr rfl)
-- 62.zaz.26.z16
/-! getting out: the whole way -/
theorem go_S {b o : Nat} {S : Tr} {xb xo : Int32} (hb : xb.toNatClampNeg = b) (hxb : 0 ≤ xb.toInt ∧ xb.toInt ≤ 1) (ho : xo.toInt = o) (ho6 : o < 6) : Ep (f_X8_getsOut S xb xo) (fun r => (S 59 (6 * b + o) = 1 → S 28 o ≤ S 62 b → r = 1) ∧ (¬ S 59 (6 * b + o) = 1 → r = 0) ∧ (S 59 (6 * b + o) = 1 → ¬ S 28 o ≤ S 62 b → ¬ S 62 b = 20 → r = 0)) := by
  have j6 : (((6 : Int32) * xb) + xo).toNatClampNeg = 6 * b + o := by rw [jx 6 (by decide) (by omega) hxb ho (by omega), hb]
  unfold f_X8_getsOut
  rw [j6, i_cn ho, hb]
  exact Ep_ck (Ep_ite (fun c => Ep_ck (Ep_ck (Ep_ite (fun d => Ep_some ⟨fun _ _ => rfl, fun n => absurd c n, fun _ n => absurd d n⟩) (fun d => Ep_ite (fun e => Ep_some ⟨fun _ q => absurd q d, fun n => absurd c n, fun _ _ n => absurd e n⟩) (fun e => Ep_some ⟨fun _ q => absurd q d, fun n => absurd c n, fun _ _ _ => rfl⟩))))) (fun c => Ep_some ⟨fun q => absurd q c, fun _ => rfl, fun q => absurd q c⟩))
theorem OU_skip {b o : Nat} {P T0 S0 T S : Tr} {L0 L : Lo} {x2 x3 : Int32} (h : OU b P T0 S0 L0 o x2 x3 T S L) (hsk : S0 62 b = 20 → ¬ S 59 (6 * b + o) = 1) : OU b P T0 S0 L0 (o + 1) x2 x3 T S L := by
  obtain ⟨⟨V, hV, hS, hv, v20, vn, v1⟩, h72, hx3, hu, fr⟩ := h
  refine ⟨⟨V, hV, hS, hv, fun q => ?_, vn, v1⟩, h72, hx3, ⟨hu.1, by omega⟩, fr⟩
  obtain ⟨p1, p2, p3, p4, p5⟩ := v20 q
  refine ⟨p1, p2, fun p hp hq => ?_, fun p hp hq => p4 p (by omega) hq, p5⟩
  by_cases g : p = o
  · subst g; rw [p4 p (Nat.le_refl _) hq]; exact hsk q
  · exact p3 p (by omega) hq
theorem ou_j {b o : Nat} {P T0 S0 T S : Tr} {L0 L Lc : Lo} {xb x2 x3 : Int32} (hb : xb.toNatClampNeg = b) (hxb : 0 ≤ xb.toInt ∧ xb.toInt ≤ 1) (hO : OU b P T0 S0 L0 o x2 x3 T S L) (ho : (S 0 13).toInt ≤ (o : Int)) (ho6 : o ≤ 6) (hst : (S0 62 b).toInt ≤ 20) : E2 (some (x2, T, Lc)) (fJ_X8_outs_J209 xb S L) (ouQ b P T0 S0 L0) := by
  obtain ⟨⟨V, hV, hS, hv, v20, vn, v1⟩, h72, hx3, hu, fr⟩ := hO
  have s62 : S 62 b = S0 62 b := fr.2.1 62 b (by omega) (by omega) (by omega)
  have s13 : S 0 13 = S0 0 13 := fr.2.1 0 13 (by omega) (by omega) (by omega)
  have s14 : S 0 14 = S0 0 14 := fr.2.1 0 14 (by omega) (by omega) (by omega)
  unfold fJ_X8_outs_J209
  rw [hb, s62]
  refine E2_ckr (fun _ => ?_)
  by_cases c20 : S0 62 b = 20
  · refine E2_pr (by rw [c20]; decide) ?_
    intro A B ea eb
    have e := en_223 (L := L) hb hxb hS B eb
    obtain ⟨B1, B2⟩ := B
    have f := ou_fin hV hS hv (v20 c20) ho e
    cases ea
    obtain ⟨e0, er, em, ei, ep, eo⟩ := e
    have e0 : B2 = L := e0
    refine ⟨f.1, ?_, ⟨hu.1, by show x2.toInt ≤ 60000; omega⟩, fr.1, fun a j n1 n2 n3 => (eo a j n2 (by omega)).trans (fr.2.1 a j n1 n2 n3), aM_t fr.2.2.1 em, ?_, fun i hi => ?_, fun _ => ⟨fun i hi => f.2.1 i (by rw [s14]; exact hi), fun p hp => f.2.2 p (by rw [s13]; exact hp)⟩⟩
    · show x2 = B1 0 72
      exact h72.symm.trans (eo 0 72 (by omega) (by omega)).symm
    · show oL L0 B2
      rw [e0]; exact fr.2.2.2.1
    · show B1 53 (10 * b + i) = S0 53 (10 * b + i) ∨ (S0 53 (10 * b + i) = 1 ∧ (B1 53 (10 * b + i) = 2 ∨ B1 53 (10 * b + i) = 5))
      rcases ei i (by rw [s14]; exact hi) with ⟨a1, a2, _⟩ | ⟨a1, a2, _⟩
      · have a2 : B1 53 (10 * b + i) = S 53 (10 * b + i) := a2
        rcases fr.2.2.2.2 i hi with w | ⟨w1, w2⟩
        · exact Or.inl (a2.trans w)
        · exact Or.inr ⟨w1, Or.inl (a2.trans w2)⟩
      · rcases fr.2.2.2.2 i hi with w | ⟨w1, w2⟩
        · exact Or.inr ⟨w.symm.trans a1, Or.inr a2⟩
        · exact Or.inr ⟨w1, Or.inr a2⟩
  · have n20 : ¬ (20 : Int32) ≤ S0 62 b := fun g => c20 (Int32.toInt_inj.mp (by
      have := tq_le (x := (20 : Int32)) (y := S0 62 b) (a := 20) (by decide) rfl g
      rw [show ((20 : Int32)).toInt = 20 by decide]; omega))
    refine E2_qr n20 (E2_some ?_)
    have hV' : Rl b P T S := by rw [← vn c20]; exact hV
    exact ⟨hV', h72.symm, ⟨hu.1, by show x2.toInt ≤ 60000; omega⟩, fr.1, fr.2.1, fr.2.2.1, fr.2.2.2.1, fun i hi => (fr.2.2.2.2 i hi).imp id (fun g => ⟨g.1, Or.inl g.2⟩), fun q => absurd q c20⟩
theorem e_outs {b : Nat} {P T0 S0 : Tr} {L0 Lc : Lo} {xb x1 : Int32} (hb : xb.toNatClampNeg = b) (hxb : 0 ≤ xb.toInt ∧ xb.toInt ≤ 1) (hR : Rl b P T0 S0) (lim : oLim b S0 x1) (hst : (S0 62 b).toInt ≤ 20) : E2 (f_X6_takeDown T0 P Lc x1) (f_X8_outs S0 L0 xb) (ouQ b P T0 S0 L0) := by
  have b13 : 0 ≤ (S0 0 13).toInt ∧ (S0 0 13).toInt ≤ 6 := hR.1.1 0 13
  have lp : ∀ (N o : Nat) (x2 x3 x4 : Int32) (T S : Tr) (L Lc : Lo), x4.toInt = o → o ≤ 6 → OU b P T0 S0 L0 o x2 x3 T S L → E2 (lpF (fun _ _ _ _ _ => none) (fB_X6_takeDown_L7 P x1) N x2 x3 x4 T Lc) (lpF (fun _ _ _ _ => none) (fB_X8_outs_L9 xb) N x3 x4 S L) (ouQ b P T0 S0 L0) := by
    intro N
    induction N with
    | zero => intro o x2 x3 x4 T S L Lc _ _ _; exact E2_nl
    | succ N ih =>
      intro o x2 x3 x4 T S L Lc hx4 ho6 hO
      show E2 (fB_X6_takeDown_L7 P x1 (lpF (fun _ _ _ _ _ => none) (fB_X6_takeDown_L7 P x1) N) x2 x3 x4 T Lc) (fB_X8_outs_L9 xb (lpF (fun _ _ _ _ => none) (fB_X8_outs_L9 xb) N) x3 x4 S L) _
      generalize lpF (fun _ _ _ _ _ => none) (fB_X6_takeDown_L7 P x1) N = k7 at ih ⊢
      generalize lpF (fun _ _ _ _ => none) (fB_X8_outs_L9 xb) N = k9 at ih ⊢
      have hO' := hO
      obtain ⟨⟨V, hV, hS, hv, v20, vn, v1⟩, h72, hx3, hu, fr⟩ := hO'
      have s13 : S 0 13 = S0 0 13 := fr.2.1 0 13 (by omega) (by omega) (by omega)
      have s62 : S 62 b = S0 62 b := fr.2.1 62 b (by omega) (by omega) (by omega)
      have qv : ∀ a j, ¬ (a = 0 ∧ j = 51) → ¬ (53 ≤ a ∧ a ≤ 56) → ¬ a = 59 → V a j = S a j := fun a j n1 n2 n3 => by
        by_cases c20 : S0 62 b = 20
        · exact (v20 c20).2.2.2.2 a j n1 n2 n3
        · rw [vn c20]
      have p13 : P 0 1 = S 0 13 := hV.2.1.1.2.1.trans (qv 0 13 (by omega) (by omega) (by omega))
      have e1 := i_p1 hx4 (by omega)
      unfold fB_X6_takeDown_L7 fB_X8_outs_L9
      rw [p13]
      refine E2_it Iff.rfl (fun c _ => ou_j hb hxb hO (tq_le rfl hx4 c) ho6 hst) (fun c _ => E2_ckl (fun _ => ?_))
      have hlt : (o : Int) < (S 0 13).toInt := tq_len rfl hx4 c
      have o6 : o < 6 := by rw [s13] at hlt; omega
      have hk : ∀ (x2 x3 y : Int32) (T1 S1 : Tr) (L1 Lc1 : Lo), y.toInt = ((o + 1 : Nat) : Int) → OU b P T0 S0 L0 (o + 1) x2 x3 T1 S1 L1 → E2 (k7 x2 x3 y T1 Lc1) (k9 x3 y S1 L1) (ouQ b P T0 S0 L0) := fun x2 x3 y T1 S1 L1 Lc1 hy hO1 => ih (o + 1) x2 x3 y T1 S1 L1 Lc1 hy (by omega) hO1
      have nx : (S0 62 b = 20 → ¬ S 59 (6 * b + o) = 1) → ∀ y y' : Int32, y = x4 + 1 → y' = x4 + 1 → E2 (k7 x2 x3 y T Lc) (k9 x3 y' S L) (ouQ b P T0 S0 L0) := fun h y y' ey ey' => by
        subst ey ey'
        exact ih (o + 1) x2 x3 (x4 + 1) T S L Lc e1 (by omega) (OU_skip hO h)
      have vlt : (o : Int) < (V 0 13).toInt := by rw [qv 0 13 (by omega) (by omega) (by omega)]; exact hlt
      have t11 : T 11 o = S 59 (6 * b + o) := by
        refine (hV.2.2.2.1.2.2.1 o vlt).1.trans ?_
        by_cases c20 : S0 62 b = 20
        · exact (v20 c20).2.2.2.1 o (Nat.le_refl _) hlt
        · rw [vn c20]
      have t00 : T 0 0 = S 62 b := hV.2.2.2.1.1.trans (qv 62 b (by omega) (by omega) (by omega))
      have p12 : P 12 o = S 28 o := (hV.2.1.2.2.1 o vlt).2.2.1.trans (qv 28 o (by omega) (by omega) (by omega))
      rw [i_cn hx4, t11, t00, p12]
      by_cases cA : S 59 (6 * b + o) = 1
      · refine E2_pl cA ?_
        by_cases cB : S 28 o ≤ S 62 b
        · refine E2_pl cB (E2_br (go_S hb hxb hx4 o6) (fun r hr => ?_))
          rw [hr.1 cA cB]
          refine E2_qr (by decide) ?_
          unfold fL_X6_takeDown_L53 fL_X8_outs_L32
          rcases hx3 with rfl | rfl
          · exact od_z hb hxb hx4 o6 hV hS hv v20 vn cA h72 ⟨hu.1, by omega⟩ fr hk 2000 2000
          · obtain rfl := v1 rfl
            exact od_in hb hxb hx4 o6 lim hk 2000 0 x2 0 T _ L Lc (by decide) (by omega) hV h72 ⟨hu.1, by omega⟩ (fun i hi => absurd hi (by omega)) cA (fun q p hp hp2 => (v20 q).2.2.1 p hp hp2) fr
        · refine E2_ql cB (E2_ltl (fun y ey => E2_br (go_S hb hxb hx4 o6) (fun r hr => ?_)))
          have n20 : ¬ S 62 b = 20 := fun g => by
            have g1 := tq_len (x := S 28 o) (y := S 62 b) rfl rfl cB
            have g2 : 0 ≤ (S 28 o).toInt ∧ (S 28 o).toInt ≤ 20 := hS.1 28 o
            rw [g, show ((20 : Int32)).toInt = 20 by decide] at g1
            omega
          rw [hr.2.2 cA cB n20]
          exact E2_pr rfl (E2_ltr (fun y' ey' => nx (fun q => absurd (s62.trans q) n20) y y' ey ey'))
      · refine E2_ql cA (E2_ltl (fun y ey => E2_br (go_S hb hxb hx4 o6) (fun r hr => ?_)))
        rw [hr.2.1 cA]
        exact E2_pr rfl (E2_ltr (fun y' ey' => nx (fun _ => cA) y y' ey ey'))
  unfold f_X6_takeDown f_X8_outs fL_X6_takeDown_L7 fL_X8_outs_L9
  refine E2_ltr (fun S1 e1 => ?_)
  have hR1 : Rl b P T0 S1 := by rw [e1]; exact Rl_72 hR
  refine lp 2000 0 0 1 0 T0 S1 L0 Lc (by decide) (by omega) ⟨⟨S1, hR1, hR1.1, hR1.2.2.2.2, fun _ => vS_r (fun p hp => absurd hp (by omega)), fun _ => rfl, fun _ => rfl⟩, by rw [e1, st_same], Or.inr rfl, ⟨by decide, by rw [show ((0 : Int32)).toInt = 0 by decide]; omega⟩, fun _ _ _ _ _ => rfl, fun a j n1 _ _ => by rw [e1, st_no (by omega)], by rw [e1]; exact aM_s aM_r (by simp [Mb]), oL_r, fun i hi => Or.inl (by rw [e1, st_oth (by decide)])⟩
-- 62.zaz.27.z17
/-! on the way: what falls -/
theorem Int32_or_rc {a b c : Int32} : (a ||| b) ||| c = (a ||| c) ||| b := by rw [Int32.or_assoc, Int32.or_comm b c, ← Int32.or_assoc]
def bitI (i : Nat) : Int32 := (1 : Int32) <<< (Int32.ofNat i &&& 31)
def mkf (f : Nat → Bool) : Nat → Int32
  | 0 => 0
  | n + 1 => mkf f n ||| (bif f n then bitI n else 0)
theorem mkf_cg {f g : Nat → Bool} : ∀ {n : Nat}, (∀ k, k < n → f k = g k) → mkf f n = mkf g n
  | 0, _ => rfl
  | n + 1, h => by
    show mkf f n ||| (bif f n then bitI n else 0) = mkf g n ||| (bif g n then bitI n else 0)
    rw [mkf_cg (fun k hk => h k (by omega)), h n (by omega)]
theorem mkf_0 {f : Nat → Bool} : ∀ {n : Nat}, (∀ k, k < n → f k = false) → mkf f n = 0
  | 0, _ => rfl
  | n + 1, h => by
    show mkf f n ||| (bif f n then bitI n else 0) = 0
    rw [mkf_0 (fun k hk => h k (by omega)), h n (by omega)]; show (0 : Int32) ||| 0 = 0; decide
theorem mkf_set {f : Nat → Bool} {i : Nat} : ∀ {n : Nat}, i < n → mkf (fun k => if k = i then true else f k) n = mkf f n ||| bitI i
  | 0, h => absurd h (by omega)
  | n + 1, h => by
    show mkf (fun k => if k = i then true else f k) n ||| (bif (if n = i then true else f n) then bitI n else 0) = (mkf f n ||| (bif f n then bitI n else 0)) ||| bitI i
    by_cases g : n = i
    · subst g
      rw [if_pos rfl, mkf_cg (g := f) (fun k hk => by show (if k = n then true else f k) = f k; rw [if_neg (by omega)])]
      cases f n with
      | true => show mkf f n ||| bitI n = (mkf f n ||| bitI n) ||| bitI n; rw [Int32.or_assoc, Int32.or_self]
      | false => show mkf f n ||| bitI n = (mkf f n ||| 0) ||| bitI n; rw [Int32.or_zero]
    · rw [if_neg g, mkf_set (by omega : i < n), Int32_or_rc]
/-- what has fallen -/
def fln (b : Nat) (S S1 : Tr) (i : Nat) : Bool := decide (S1 53 (10 * b + i) = 3 ∧ ¬ S 53 (10 * b + i) = 3)
def wHw (b : Nat) (c : Int32) (S S1 : Tr) : Prop := ∀ i : Nat, (i : Int) < (S 0 14).toInt → S1 53 (10 * b + i) = S 53 (10 * b + i) ∨ (S 53 (10 * b + i) = 1 ∧ S1 53 (10 * b + i) = c)
def fD (T T1 : Tr) : Prop := ∀ a j, ¬ (a = 0 ∧ j = 2) → ¬ (14 ≤ a ∧ a ≤ 19) → T1 a j = T a j
def fPz (S S1 : Tr) : Prop := ∀ a j, ¬ (a = 0 ∧ j = 51) → ¬ (53 ≤ a ∧ a ≤ 56) → S1 a j = S a j
/-- frames on the way; c: how a piece is lost -/
def wFr (b : Nat) (c : Int32) (T0 S0 : Tr) (L0 : Lo) (T S : Tr) (L : Lo) : Prop := fD T0 T ∧ fPz S0 S ∧ aM b S0 S ∧ oD L0 L ∧ wHw b c S0 S
theorem wFr_r {b : Nat} {c : Int32} {T S : Tr} {L : Lo} : wFr b c T S L T S L := ⟨fun _ _ _ _ => rfl, fun _ _ _ _ => rfl, aM_r, oD_r, fun _ _ => Or.inl rfl⟩
/-- a percent and a draw: nothing else changes -/
theorem wFr_d {b : Nat} {c : Int32} {T0 S0 T S T1 S1 T2 : Tr} {L0 L L1 L2 : Lo} (h : wFr b c T0 S0 L0 T S L) (f : o19 T T1) (g : o51 S S1) (hL : oL L L1) (f2 : ∀ c j, ¬ (c = 0 ∧ j = 2) → T2 c j = T1 c j) (hL2 : oD L1 L2) : wFr b c T0 S0 L0 T2 S1 L2 := by
  obtain ⟨h1, h2, h3, h4, h5⟩ := h
  refine ⟨fun a j n1 n2 => ?_, fun a j n1 n2 => (g.1 a j n1).trans (h2 a j n1 n2), aM_t h3 (aM_51 g), oD_t h4 (oD_t (oD_L hL) hL2), fun i hi => ?_⟩
  · rw [f2 a j n1, f a j (by omega)]; exact h1 a j n1 n2
  · rw [g.1 53 _ (by omega)]; exact h5 i hi
/-- a piece is lost -/
theorem wFr_k {b i p pos h : Nat} {c : Int32} {T0 S0 T S T1 S1 : Tr} {L0 L : Lo} {P : Tr} (w : wFr b c T0 S0 L0 T S L) (hc : tkC P T T1 i p pos h c) (hz : tkZ b S S1 i p pos h c) (hA : aG b S S1) (h1 : S 53 (10 * b + i) = 1) : wFr b c T0 S0 L0 T1 S1 L := by
  obtain ⟨w1, w2, w3, w4, w5⟩ := w
  refine ⟨fun a j n1 n2 => ?_, fun a j n1 n2 => ?_, aM_t w3 (aM_fx hA (fx_z hz)), w4, fun q hq => ?_⟩
  · rw [hc.2.2.2.2.2 a j (by omega)]; exact w1 a j n1 n2
  · rw [hz.2.2.2.2 a j n2]; exact w2 a j n1 n2
  · rw [hz.2.2.2.1]
    by_cases g : q = i
    · subst g
      rw [if_pos rfl]
      rcases w5 q hq with e | ⟨e1, e2⟩
      · exact Or.inr ⟨e.symm.trans h1, rfl⟩
      · exact Or.inr ⟨e1, rfl⟩
    · rw [if_neg (by omega)]; exact w5 q hq
def faQ (b : Nat) (P T0 S0 : Tr) (L0 : Lo) (m : Int32) (T S : Tr) (L : Lo) : Prop := Rl b P T S ∧ drw T L ∧ wFr b 3 T0 S0 L0 T S L ∧ m = mkf (fln b S0 S) (S0 0 14).toNatClampNeg
theorem Rl_d {b : Nat} {P T T1 S : Tr} (hR : Rl b P T S) (f : ∀ c j, ¬ (c = 0 ∧ j = 2) → T1 c j = T c j) : Rl b P T1 S := by
  obtain ⟨h1, h2, h3, h4, h5⟩ := hR
  exact ⟨h1, h2, sta_M h3 (fun a j hm => f a j (fun q => by obtain ⟨rfl, rfl⟩ := q; simp [Mc] at hm)) aM_r, dyn_e h4 h1.1 (fun a j q => f a j (by omega)) (fun _ _ _ => rfl), h5⟩
/-- the top of a stack -/
theorem e_top {b n : Nat} {P T S : Tr} {xn : Int32} (hR : Rl b P T S) (hx : xn.toInt = n) (hn : n < 5) : Ep (f_X6_top T xn) (fun r => (S 56 (5 * b + n) = 0 ∧ r = -1) ∨ (¬ S 56 (5 * b + n) = 0 ∧ r = S 55 (50 * b + 10 * n + ((S 56 (5 * b + n)).toInt.toNat - 1)))) := by
  obtain ⟨g1, g2, g3⟩ := hR.2.2.2.1.2.2.2.2 n hn
  have b56 := BM56 hR.1.1 (5 * b + n)
  unfold f_X6_top
  rw [i_cn hx, g1]
  refine Ep_ck (Ep_ite (fun c => Ep_some (Or.inl ⟨c, rfl⟩)) (fun c => Ep_ck (Ep_some (Or.inr ⟨c, ?_⟩))))
  have c1 : ¬ (S 56 (5 * b + n)).toInt = 0 := fun g => c (Int32.toInt_inj.mp (g.trans (by decide)))
  obtain ⟨h, hh⟩ : ∃ h : Nat, (S 56 (5 * b + n)).toInt = h := ⟨(S 56 (5 * b + n)).toInt.toNat, by omega⟩
  have e1 : ((xn * 10) + S 56 (5 * b + n)).toInt = 10 * n + h := (jy hx (by omega) hh (by omega)).2
  have e2 : (((xn * 10) + S 56 (5 * b + n)) - 1).toNatClampNeg = 10 * n + (h - 1) := i_cn (by rw [i_subK e1 (y := 1) (by decide) (by omega) (by omega)]; omega)
  rw [e2, hh, show ((h : Nat) : Int).toNat = h by omega, show 50 * b + 10 * n + (h - 1) = 50 * b + 10 * n + (h - 1) from rfl]
  exact g2 (h - 1) (by rw [hh]; omega)
theorem e_rck {P : Tr} {xn : Int32} {n : Nat} (hx : xn.toInt = n) (h0 : 0 ≤ (P 8 n).toInt) : Ep (f_X6_isRack P xn) (fun r => (r = 0 ∧ (1 : Int32) < P 8 n) ∨ (r = 1 ∧ ¬ (1 : Int32) < P 8 n)) := by
  unfold f_X6_isRack
  rw [i_cn hx]
  refine Ep_ck (Ep_ite (fun c => Ep_some (Or.inr ⟨rfl, by rw [c]; decide⟩)) (fun c => Ep_ite (fun d => Ep_some (Or.inr ⟨rfl, by rw [d]; decide⟩)) (fun d => Ep_some (Or.inl ⟨rfl, ?_⟩))))
  refine Int32.not_le.mp (fun g => ?_)
  have g1 := tq_le (x := P 8 n) (y := (1 : Int32)) rfl (b := 1) (by decide) g
  rcases (by omega : (P 8 n).toInt = 0 ∨ (P 8 n).toInt = 1) with k | k
  · exact c (Int32.toInt_inj.mp (k.trans (by decide)))
  · exact d (Int32.toInt_inj.mp (k.trans (by decide)))
theorem e_fa {α : Type} {b : Nat} {P T0 S0 : Tr} {L0 : Lo} {K : Int32 × Tr × Lo → Option α} {Q : α → Tr × Lo → Prop} {xb : Int32} (hb : xb.toNatClampNeg = b) (hxb : 0 ≤ xb.toInt ∧ xb.toInt ≤ 1) (hk : ∀ (m : Int32) (T1 : Tr) (Lc1 : Lo) (S1 : Tr) (L1 : Lo), faQ b P T0 S0 L0 m T1 S1 L1 → E2 (K (m, T1, Lc1)) (fL_X8_onTheWay_L90 xb 0 S1 L1) Q) (N : Nat) : ∀ (n : Nat) (m x : Int32) (T S : Tr) (L Lc : Lo), x.toInt = n → n ≤ 5 → faQ b P T0 S0 L0 m T S L → E2 (bd (lpF (fun _ _ _ _ => none) (fB_X6_fallOff_L4 P) N m x T Lc) K) (lpF (fun _ _ _ => none) (fB_X8_onTheWay_L2 xb) N x S L) Q := by
  induction N with
  | zero => intro n m x T S L Lc _ _ _; exact E2_nl
  | succ N ih =>
    intro n m x T S L Lc hx hn hF
    show E2 (bd (fB_X6_fallOff_L4 P (lpF (fun _ _ _ _ => none) (fB_X6_fallOff_L4 P) N) m x T Lc) K) (fB_X8_onTheWay_L2 xb (lpF (fun _ _ _ => none) (fB_X8_onTheWay_L2 xb) N) x S L) Q
    generalize lpF (fun _ _ _ _ => none) (fB_X6_fallOff_L4 P) N = k at ih ⊢
    generalize lpF (fun _ _ _ => none) (fB_X8_onTheWay_L2 xb) N = k' at ih ⊢
    have hF' := hF
    obtain ⟨hR, hd, hw, hm⟩ := hF'
    have b12 : 0 ≤ (S 0 12).toInt ∧ (S 0 12).toInt ≤ 5 := hR.1.1 0 12
    have p00 : P 0 0 = S 0 12 := hR.2.1.1.1
    have e1 := i_p1 hx (by omega)
    unfold fB_X6_fallOff_L4 fB_X8_onTheWay_L2
    rw [p00]
    by_cases c : S 0 12 ≤ x
    · rw [if_pos c, if_pos c]; exact hk m T Lc S L hF
    rw [if_neg c, if_neg c]
    have hlt : (n : Int) < (S 0 12).toInt := tq_len rfl hx c
    have s6 : T 0 6 = 0 ↔ ¬ S 0 66 = 0 := hR.2.2.1.2.2.2.2.2.1
    by_cases d : S 0 66 = 0
    rotate_left
    · rw [if_pos (s6.mpr d), if_neg d]; exact hk m T Lc S L hF
    rw [if_neg (fun g => s6.mp g d), if_pos d]
    have nx : ∀ (y y' m : Int32) (T S : Tr) (L Lc : Lo), y = x + 1 → y' = x + 1 → faQ b P T0 S0 L0 m T S L → E2 (bd (k m y T Lc) K) (k' y' S L) Q := fun y y' m T S L Lc ey ey' h => by
      subst ey ey'
      exact ih (n + 1) m (x + 1) T S L Lc e1 (by omega) h
    have j5 : (((5 : Int32) * xb) + x).toNatClampNeg = 5 * b + n := by rw [jx 5 (by decide) (by omega) hxb hx (by omega), hb]
    have p8 : P 8 n = S 24 n := (hR.2.1.2.1 n hlt).1
    have k0 : 0 ≤ (S 24 n).toInt := hR.2.1.1.2.2.2.2.2.2.2 n hlt
    have b56 := BM56 hR.1.1 (5 * b + n)
    rw [bd_bd, i_cn hx, j5]
    refine E2_ckr (fun _ => E2_bl (e_top hR hx (by omega)) (fun r hr => ?_))
    rcases hr with ⟨h0, rfl⟩ | ⟨h0, hr⟩
    · rw [if_pos (by decide : (-1 : Int32) < 0)]
      have g : E2 (bd (k m (x + 1) T Lc) K) (k' (x + 1) S L) Q := nx _ _ m T S L Lc rfl rfl hF
      refine E2_itr (fun _ => g) (fun _ => E2_ckr (fun _ => ?_))
      rw [if_pos h0]; exact g
    · have c1 : ¬ (S 56 (5 * b + n)).toInt = 0 := fun g => h0 (Int32.toInt_inj.mp (g.trans (by decide)))
      obtain ⟨h, hh⟩ : ∃ h : Nat, (S 56 (5 * b + n)).toInt = h := ⟨(S 56 (5 * b + n)).toInt.toNat, by omega⟩
      rw [hh, show ((h : Nat) : Int).toNat = h by omega] at hr
      obtain ⟨i, i10, hi, hii, hly⟩ := sk_at (p := n) (k := h - 1) hR.1.1 hR.1.2.2.1 (by omega) (by rw [hh]; omega)
      have ri : r.toInt = i := by rw [hr]; exact hi
      have h53 : S 53 (10 * b + i) = 1 := (hR.1.2.2.2.1 i i10).mpr (by show 0 ≤ (S 54 (10 * b + i)).toInt; omega)
      have rn : ¬ r < 0 := fun g => by
        have := tq_lt (x := r) (y := (0 : Int32)) ri (b := 0) (by decide) g
        omega
      rw [if_neg rn, bd_bd]
      refine E2_bl (e_rck hx (by rw [p8]; exact k0)) (fun r8 hr8 => ?_)
      rw [p8] at hr8
      rcases hr8 with ⟨rfl, g8⟩ | ⟨rfl, g8⟩
      · rw [if_pos rfl, if_pos g8]
        exact nx _ _ m T S L Lc rfl rfl hF
      · rw [if_neg (by decide), if_neg g8, if_neg h0, bd_bd]
        refine E2_ckr (fun _ => E2_br (R := fun q => q = r) ?_ (fun r35 e35 => ?_))
        · unfold f_X8_stackAt
          have f1 : ((S 56 (5 * b + n)) - 1).toInt = ((h - 1 : Nat) : Int) := by rw [i_subK hh (y := 1) (by decide) (by omega) (by omega)]; omega
          rw [jx3 hxb hx (by omega) f1 (by omega), hb]
          exact Ep_ck (Ep_some hr.symm)
        have e35 : r35 = r := e35
        rw [e35]
        obtain ⟨p, pos, ha⟩ := at2_of hR.1.1 hR.1.2.2.1 hR.2.2.2.1.2.2.2.1 hR.2.2.2.1.2.2.2.2 hii (by omega)
        refine E2_bd (e_fal hb hxb hR ri hii ha) (fun q q' hq => ?_)
        obtain ⟨q1, q2, q3, q4⟩ := hq
        refine E2_ltr (fun r38 e38 => E2_ltr (fun S39 e39 => E2_ltr (fun L40 e40 => ?_)))
        show E2 (bd (bd (f_X6_happens q.2.1 q.1) (fun q_1 => lt q_1.1 fun r18 => lt q_1.2 fun T_19 => if r18 = 0 then (lt (x + 1) fun y23 => k m y23 T_19 q.2.2) else (bd (f_X6_takeAway T_19 P r (3 : Int32)) fun T_24 => lt (m ||| ((1 : Int32) <<< (r &&& 31))) fun y27 => lt (x + 1) fun y28 => k y27 y28 T_24 q.2.2))) K) _ Q
        rw [bd_bd]
        have g3 : o51 S S39 := by rw [e39]; exact q3
        have g4 : oL L L40 := by rw [e40]; exact q4
        have d2 : drw q.2.1 L40 := drw_e hd (q2 0 5 (by omega)) (q2 0 2 (by omega)) (g4 0 63 (by omega) (by omega))
        have h5 : q.2.1 0 5 = S39 0 65 := by rw [q2 0 5 (by omega), g3.1 0 65 (by omega)]; exact hR.2.2.1.2.2.2.2.1
        refine E2_bd (e_hap (S := S39) d2 h5 (by rw [e38]; exact q1)) (fun u u' hu => ?_)
        obtain ⟨u1, u2, u3, u4, u5⟩ := hu
        refine E2_ltr (fun r43 e43 => E2_ltr (fun L44 e44 => ?_))
        have hR2 : Rl b P u.2 S39 := Rl_d (Rl_e hR q2 g3) u4
        have hw2 : wFr b 3 T0 S0 L0 u.2 S39 L44 := wFr_d hw q2 g3 g4 u4 (by rw [e44]; exact u5)
        have d3 : drw u.2 L44 := by rw [e44]; exact u3
        have m2 : m = mkf (fln b S0 S39) (S0 0 14).toNatClampNeg := hm.trans (mkf_cg (fun j _ => by unfold fln; rw [g3.1 53 _ (by omega)]))
        have ur : u.1 = r43 := u1.trans e43.symm
        show E2 (bd (if u.1 = 0 then (lt (x + 1) fun y23 => k m y23 u.2 q.2.2) else (bd (f_X6_takeAway u.2 P r (3 : Int32)) fun T_24 => lt (m ||| ((1 : Int32) <<< (r &&& 31))) fun y27 => lt (x + 1) fun y28 => k y27 y28 T_24 q.2.2)) K) _ Q
        rw [ur]
        by_cases z : r43 = 0
        · rw [if_pos z, if_pos z]
          exact nx _ _ m u.2 S39 L44 q.2.2 rfl rfl ⟨hR2, d3, hw2, m2⟩
        · rw [if_neg z, if_neg z, bd_bd]
          have hii2 : (i : Int) < (S39 0 14).toInt := by rw [g3.1 0 14 (by omega)]; exact hii
          have h532 : S39 53 (10 * b + i) = 1 := by rw [g3.1 53 _ (by omega)]; exact h53
          refine E2_bd (e_take (c := 3) hb hxb hR2 ri hii2 h532 (by decide) (by decide)) (fun T24 S49 h9 => ?_)
          obtain ⟨hR4, aG4, p4, pos4, h4, _, _, hc4, hz4⟩ := h9
          refine nx _ _ (m ||| ((1 : Int32) <<< (r &&& 31))) T24 S49 L44 q.2.2 rfl rfl ⟨hR4, drw_e d3 (hc4.2.2.2.2.2 0 5 (by omega)) (hc4.2.2.2.2.2 0 2 (by omega)) rfl, wFr_k hw2 hc4 hz4 aG4 h532, ?_⟩
          have s14 : S39 0 14 = S0 0 14 := hw2.2.1 0 14 (by omega) (by omega)
          have i0 : (i : Int) < (S0 0 14).toInt := by rw [← s14]; exact hii2
          have z0 : ¬ S0 53 (10 * b + i) = 3 := fun g => by
            rcases hw2.2.2.2.2 i i0 with w | ⟨w1, w2⟩
            · rw [w, g] at h532; exact absurd h532 (by decide)
            · rw [g] at w1; exact absurd w1 (by decide)
          have eb : (1 : Int32) <<< (r &&& 31) = bitI i := by
            unfold bitI
            rw [of_t ri (by omega)]
          rw [eb, m2, ← mkf_set (by rw [i_cl]; omega : i < (S0 0 14).toNatClampNeg)]
          refine mkf_cg (fun j hj => ?_)
          show (if j = i then true else fln b S0 S39 j) = fln b S0 S49 j
          unfold fln
          rw [hz4.2.2.2.1]
          by_cases g : j = i
          · subst g
            rw [if_pos rfl, if_pos rfl]
            exact (decide_eq_true ⟨rfl, z0⟩).symm
          · rw [if_neg g, if_neg (by omega)]
-- 62.zaz.28.z18
/-! on the way: what is stolen -/
theorem E2_b2 {α β γ δ ε : Type} {Q : α → β → Prop} {x : Option γ} {y : Option δ} {f' : δ → Option ε} {k : γ → Option α} {k' : ε → Option β} {R : γ → ε → Prop} (h1 : E2 x (bd y f') R) (h : ∀ a b, R a b → E2 (k a) (k' b) Q) : E2 (bd x k) (bd y fun d => bd (f' d) k') Q := by
  rw [← bd_bd]; exact E2_bd h1 h
def saQ (b : Nat) (P T0 S0 : Tr) (L0 : Lo) (q q' : Tr × Lo) : Prop := Rl b P q.1 q'.1 ∧ drw q.1 q'.2 ∧ wFr b 4 T0 S0 L0 q.1 q'.1 q'.2
theorem e_sa {b : Nat} {P T0 S0 : Tr} {L0 : Lo} {xb : Int32} (hb : xb.toNatClampNeg = b) (hxb : 0 ≤ xb.toInt ∧ xb.toInt ≤ 1) (N : Nat) : ∀ (n : Nat) (x : Int32) (T S : Tr) (L Lc : Lo), x.toInt = n → n ≤ 10 → Rl b P T S → drw T L → wFr b 4 T0 S0 L0 T S L → E2 (lpF (fun _ _ _ => none) (fB_X6_stealAway_L2 P) N x T Lc) (lpF (fun _ _ _ => none) (fB_X8_onTheWay_L90 xb) N x S L) (saQ b P T0 S0 L0) := by
  induction N with
  | zero => intro n x T S L Lc _ _ _ _ _; exact E2_nl
  | succ N ih =>
    intro n x T S L Lc hx hn hR hd hw
    show E2 (fB_X6_stealAway_L2 P (lpF (fun _ _ _ => none) (fB_X6_stealAway_L2 P) N) x T Lc) (fB_X8_onTheWay_L90 xb (lpF (fun _ _ _ => none) (fB_X8_onTheWay_L90 xb) N) x S L) _
    generalize lpF (fun _ _ _ => none) (fB_X6_stealAway_L2 P) N = k at ih ⊢
    generalize lpF (fun _ _ _ => none) (fB_X8_onTheWay_L90 xb) N = k' at ih ⊢
    have b14 : 0 ≤ (S 0 14).toInt ∧ (S 0 14).toInt ≤ 10 := hR.1.1 0 14
    have p14 : P 0 2 = S 0 14 := hR.2.1.1.2.2.1
    have e1 := i_p1 hx (by omega)
    unfold fB_X6_stealAway_L2 fB_X8_onTheWay_L90
    rw [p14]
    refine E2_it Iff.rfl (fun _ _ => E2_some ⟨hR, hd, hw⟩) (fun c _ => ?_)
    have hii : (n : Int) < (S 0 14).toInt := tq_len rfl hx c
    have s7 : T 0 7 = 0 ↔ ¬ S 0 67 = 0 := hR.2.2.1.2.2.2.2.2.2.1
    by_cases d : S 0 67 = 0
    rotate_left
    · rw [if_pos (s7.mpr d), if_neg d]; exact E2_some ⟨hR, hd, hw⟩
    rw [if_neg (fun g => s7.mp g d), if_pos d]
    have nx : ∀ (y y' : Int32) (T S : Tr) (L Lc : Lo), y = x + 1 → y' = x + 1 → Rl b P T S → drw T L → wFr b 4 T0 S0 L0 T S L → E2 (k y T Lc) (k' y' S L) (saQ b P T0 S0 L0) := fun y y' T S L Lc ey ey' h1 h2 h3 => by
      subst ey ey'
      exact ih (n + 1) (x + 1) T S L Lc e1 (by omega) h1 h2 h3
    have j10 : (((10 : Int32) * xb) + x).toNatClampNeg = 10 * b + n := by rw [jx 10 (by decide) (by omega) hxb hx (by omega), hb]
    have t15 : T 15 n = S 54 (10 * b + n) := (hR.2.2.2.1.2.2.2.1 n hii).2
    rw [i_cn hx, j10]
    refine E2_ckl (fun _ => E2_ltl (fun y4 e4 => E2_ckr (fun _ => ?_)))
    by_cases g : S 53 (10 * b + n) = 1
    · have hly : 0 ≤ (S 54 (10 * b + n)).toInt := (hR.1.2.2.2.1 n (by omega)).mp g
      obtain ⟨p, pos, ha⟩ := at2_of hR.1.1 hR.1.2.2.1 hR.2.2.2.1.2.2.2.1 hR.2.2.2.1.2.2.2.2 hii hly
      have y4p : y4.toInt = p := by rw [e4]; exact ha.1
      have s4p : (S 54 (10 * b + n)).toInt = p := by rw [← t15]; exact ha.1
      have yn : ¬ y4 < 0 := fun q => by
        have := tq_lt (x := y4) (y := (0 : Int32)) y4p (b := 0) (by decide) q
        omega
      have p12 : (p : Int) < (S 0 12).toInt := by rw [← s4p]; exact (hR.2.2.2.2.1 n hii).2.2
      have p8 : P 8 p = S 24 p := (hR.2.1.2.1 p p12).1
      rw [if_pos g, if_neg yn, i_cn y4p, i_cn s4p, p8]
      refine E2_ckl (fun _ => E2_ckr (fun _ => E2_it Iff.rfl (fun _ _ => E2_ckr (fun _ => ?_)) (fun _ _ => E2_ltl (fun y ey => E2_ltr (fun y' ey' => nx y y' T S L Lc ey ey' hR hd hw)))))
      refine E2_b2 (e_stl hb hxb hR hx hii ha) (fun q q' hq => ?_)
      obtain ⟨q1, q2, q3, q4⟩ := hq
      refine E2_ltl (fun r10 e10 => E2_ltl (fun T11 e11 => E2_ltl (fun L12 _ => E2_ltr (fun r13 e13 => E2_ltr (fun S14 e14 => E2_ltr (fun L15 e15 => ?_))))))
      have f19 : o19 T T11 := by rw [e11]; exact q2
      have g3 : o51 S S14 := by rw [e14]; exact q3
      have g4 : oL L L15 := by rw [e15]; exact q4
      have d2 : drw T11 L15 := drw_e hd (f19 0 5 (by omega)) (f19 0 2 (by omega)) (g4 0 63 (by omega) (by omega))
      have h5 : T11 0 5 = S14 0 65 := by rw [f19 0 5 (by omega), g3.1 0 65 (by omega)]; exact hR.2.2.1.2.2.2.2.1
      refine E2_bd (e_hap (S := S14) d2 h5 (by rw [e10, e13]; exact q1)) (fun u u' hu => ?_)
      obtain ⟨u1, u2, u3, u4, u5⟩ := hu
      refine E2_ltl (fun r15 e16 => E2_ltl (fun T16 e17 => E2_ltr (fun r18 e18 => E2_ltr (fun L19 e19 => ?_))))
      have u4 : ∀ c j, ¬ (c = 0 ∧ j = 2) → T16 c j = T11 c j := by rw [e17]; exact u4
      have hR2 : Rl b P T16 S14 := Rl_d (Rl_e hR f19 g3) u4
      have hw2 : wFr b 4 T0 S0 L0 T16 S14 L19 := wFr_d hw f19 g3 g4 u4 (by rw [e19]; exact u5)
      have d3 : drw T16 L19 := by rw [e17, e19]; exact u3
      have er : r15 = r18 := e16.trans (u1.trans e18.symm)
      rw [er]
      refine E2_it Iff.rfl (fun _ _ => E2_ltl (fun y ey => E2_ltr (fun y' ey' => nx y y' T16 S14 L19 L12 ey ey' hR2 d3 hw2))) (fun _ _ => ?_)
      have hii2 : (n : Int) < (S14 0 14).toInt := by rw [g3.1 0 14 (by omega)]; exact hii
      have h532 : S14 53 (10 * b + n) = 1 := by rw [g3.1 53 _ (by omega)]; exact g
      refine E2_bd (e_take (c := 4) hb hxb hR2 hx hii2 h532 (by decide) (by decide)) (fun T21 S24 h9 => E2_ltl (fun y ey => E2_ltr (fun y' ey' => ?_)))
      obtain ⟨hR4, aG4, p4, pos4, h4, _, _, hc4, hz4⟩ := h9
      exact nx y y' T21 S24 L19 L12 ey ey' hR4 (drw_e d3 (hc4.2.2.2.2.2 0 5 (by omega)) (hc4.2.2.2.2.2 0 2 (by omega)) rfl) (wFr_k hw2 hc4 hz4 aG4 h532)
    · have hly : ¬ 0 ≤ (S 54 (10 * b + n)).toInt := fun q => g ((hR.1.2.2.2.1 n (by omega)).mpr q)
      have y4n : y4 < 0 := Decidable.byContradiction (fun q => by
        have := tq_ltn (x := y4) (y := (0 : Int32)) rfl (b := 0) (by decide) q
        rw [e4, t15] at this
        omega)
      rw [if_pos y4n, if_neg g]
      exact E2_ltl (fun y ey => E2_ltr (fun y' ey' => nx y y' T S L Lc ey ey' hR hd hw))
/-- the next stop -/
theorem Rl_stop {b : Nat} {P T S : Tr} {v : Int32} (hR : Rl b P T S) (h0 : 0 ≤ v.toInt) (h1 : v.toInt ≤ 21) : Rl b P (st T 0 0 v) (st S 62 b v) := by
  obtain ⟨d1, d2, d3, d4, d5⟩ := hR.2.2.2.1
  refine Rl_w hR (cM_s cM_r (by simp [Mc])) (aM_s aM_r Mb_62) (iR_set (a := 62) hR.1.1 (by show (0 : Int) ≤ _; omega) (by show _ ≤ (21 : Int); omega)) (fun a j h1 h2 => by rw [st_oth (by omega)]) ⟨?_, ?_, fun p hp => ?_, fun i hi => ?_, ?_⟩ (inv_e hR.2.2.2.2 (fun a j q => by rw [st_oth (by omega)]))
  · rw [st_same, st_same]
  · rw [st_ne (by omega), st_oth (by omega)]; exact d2
  · rw [st_oth (by omega)] at hp
    rw [st_oth (by omega), st_oth (by omega), st_oth (by omega), st_oth (by omega)]; exact d3 p hp
  · rw [st_oth (by omega)] at hi
    rw [st_oth (by omega), st_oth (by omega), st_oth (by omega), st_oth (by omega)]; exact d4 i hi
  · exact stk_e d5 (fun j => by rw [st_oth (by omega)]) (fun j => by rw [st_oth (by omega)]) (fun j => by rw [st_oth (by omega)]) (fun j => by rw [st_oth (by omega)]) (fun j => by rw [st_oth (by omega)]) hR.1.1
-- 62.zaz.29.z19
/-! on to the next stop -/
theorem E2_b3 {α β γ δ ε : Type} {Q : α → β → Prop} {x : Option γ} {f : γ → Option δ} {k : δ → Option α} {y : Option ε} {k' : ε → Option β} {R : δ → ε → Prop} (h1 : E2 (bd x f) y R) (h : ∀ a b, R a b → E2 (k a) (k' b) Q) : E2 (bd x fun c => bd (f c) k) (bd y k') Q := by
  rw [← bd_bd]; exact E2_bd h1 h
def wyQ (b : Nat) (P T0 S0 : Tr) (L0 : Lo) (q q' : Tr × Lo) : Prop := Rl b P q.1 q'.1 ∧ drw q.1 q'.2 ∧ q'.1 62 b = S0 62 b + 1 ∧ aM b S0 q'.1 ∧ oD L0 q'.2 ∧ (∀ a j, ¬ (a = 0 ∧ (j = 0 ∨ j = 2)) → ¬ (14 ≤ a ∧ a ≤ 19) → q.1 a j = T0 a j) ∧ (∀ a j, ¬ (a = 0 ∧ j = 51) → ¬ (53 ≤ a ∧ a ≤ 56) → ¬ (a = 62 ∧ j = b) → q'.1 a j = S0 a j) ∧ ∀ i : Nat, (i : Int) < (S0 0 14).toInt → q'.1 53 (10 * b + i) = S0 53 (10 * b + i) ∨ (S0 53 (10 * b + i) = 1 ∧ (q'.1 53 (10 * b + i) = 3 ∨ q'.1 53 (10 * b + i) = 4))
theorem e_way {b : Nat} {P T S : Tr} {L Lc : Lo} {xb : Int32} (hb : xb.toNatClampNeg = b) (hxb : 0 ≤ xb.toInt ∧ xb.toInt ≤ 1) (hR : Rl b P T S) (hd : drw T L) (hst : (S 62 b).toInt ≤ 20) : E2 (f_X6_wayOn T P Lc) (bd (f_X8_onTheWay S L xb) fun q => lt q.1 fun S_12 => lt q.2 fun L_13 => fJ_X8_goOn_J26 xb S_12 L_13) (wyQ b P T S L) := by
  have core : E2 (bd (f_X6_fallOff T P Lc) fun q => f_X6_stealAway q.2.1 P q.2.2) (f_X8_onTheWay S L xb) (fun q q' => ∃ T1 S1 L1, wFr b 3 T S L T1 S1 L1 ∧ saQ b P T1 S1 L1 q q') := by
    unfold f_X6_fallOff fL_X6_fallOff_L4 f_X8_onTheWay fL_X8_onTheWay_L2
    refine e_fa (T0 := T) (S0 := S) (L0 := L) hb hxb (fun m T1 Lc1 S1 L1 hF => ?_) 2000 0 0 0 T S L Lc (by decide) (by omega) ⟨hR, hd, wFr_r, (mkf_0 (fun k _ => decide_eq_false (fun g => g.2 g.1))).symm⟩
    unfold f_X6_stealAway fL_X6_stealAway_L2 fL_X8_onTheWay_L90
    exact E2_mono (e_sa hb hxb 2000 0 0 T1 S1 L1 Lc1 (by decide) (by omega) hF.1 hF.2.1 wFr_r) (fun q q' h => ⟨T1, S1, L1, hF.2.2.1, h⟩)
  unfold f_X6_wayOn
  refine E2_b3 (f := fun (q : Int32 × Tr × Lo) => f_X6_stealAway q.2.1 P q.2.2) (k := fun (q : Tr × Lo) => lt q.1 fun T_6 => lt q.2 fun L_7 => lt (st T_6 0 0 ((T_6 0 0) + 1)) fun T_10 => some (T_10, L_7)) core (fun q q' hq => ?_)
  obtain ⟨T1, S1, L1, w3, hR2, hd2, w4⟩ := hq
  refine E2_ltl (fun T6 e6 => E2_ltl (fun L7 _ => E2_ltl (fun T10 e10 => E2_ltr (fun S12 e12 => E2_ltr (fun L13 e13 => ?_)))))
  have hR2 : Rl b P T6 S12 := by rw [e6, e12]; exact hR2
  have hd2 : drw T6 L13 := by rw [e6, e13]; exact hd2
  have w4 : wFr b 4 T1 S1 L1 T6 S12 L13 := by rw [e6, e12, e13]; exact w4
  have s62 : S12 62 b = S 62 b := (w4.2.1 62 b (by omega) (by omega)).trans (w3.2.1 62 b (by omega) (by omega))
  have t00 : T6 0 0 = S12 62 b := hR2.2.2.2.1.1
  have b62 : 0 ≤ (S 62 b).toInt ∧ (S 62 b).toInt ≤ 21 := hR.1.1 62 b
  have v1 : (S12 62 b + 1).toInt = (S 62 b).toInt + 1 := by rw [s62]; exact i_addK rfl (by decide) (by omega) (by omega)
  unfold fJ_X8_goOn_J26
  rw [hb]
  refine E2_ckr (fun _ => E2_ltr (fun S11 e11 => E2_some ?_))
  have hR3 : Rl b P T10 S11 := by rw [e10, e11, t00]; exact Rl_stop hR2 (by omega) (by omega)
  have s14 : S1 0 14 = S 0 14 := w3.2.1 0 14 (by omega) (by omega)
  have t5 : T10 0 5 = T6 0 5 := by rw [e10, st_ne (by omega)]
  have t2 : T10 0 2 = T6 0 2 := by rw [e10, st_ne (by omega)]
  refine ⟨hR3, drw_e hd2 t5 t2 rfl, ?_, ?_, oD_t w3.2.2.2.1 w4.2.2.2.1, fun a j n1 n2 => ?_, fun a j n1 n2 n3 => ?_, fun i hi => ?_⟩
  · show S11 62 b = S 62 b + 1
    rw [e11, st_same, s62]
  · show aM b S S11
    rw [e11]; exact aM_s (aM_t w3.2.2.1 w4.2.2.1) Mb_62
  · show T10 a j = T a j
    rw [e10, st_no (by omega), w4.1 a j (by omega) n2, w3.1 a j (by omega) n2]
  · show S11 a j = S a j
    rw [e11, st_no n3, w4.2.1 a j n1 n2, w3.2.1 a j n1 n2]
  · show S11 53 (10 * b + i) = S 53 (10 * b + i) ∨ (S 53 (10 * b + i) = 1 ∧ (S11 53 (10 * b + i) = 3 ∨ S11 53 (10 * b + i) = 4))
    rw [e11, st_oth (by omega)]
    rcases w4.2.2.2.2 i (by rw [s14]; exact hi) with x | ⟨x1, x2⟩
    · rcases w3.2.2.2.2 i hi with y | ⟨y1, y2⟩
      · exact Or.inl (x.trans y)
      · exact Or.inr ⟨y1, Or.inl (x.trans y2)⟩
    · rcases w3.2.2.2.2 i hi with y | ⟨y1, y2⟩
      · exact Or.inr ⟨y.symm.trans x1, Or.inr x2⟩
      · rw [y2] at x1; exact absurd x1 (by decide)
-- 62.zaz.30.z20
/-! a stop passed: nobody gets in at the last, nothing is lost where nothing lies -/
theorem in_20 {b : Nat} {P T S : Tr} {xb : Int32} (hb : xb.toNatClampNeg = b) (hxb : 0 ≤ xb.toInt ∧ xb.toInt ≤ 1) (hR : Rl b P T S) (hn : ∀ p : Nat, (p : Int) < (S 0 13).toInt → ¬ S 57 (6 * b + p) = S 62 b) : Ep (f_X8_ins S xb) (fun q => ∀ a j, ¬ (a = 63 ∧ j = b) → q a j = S a j) := by
  have h13 : 0 ≤ (S 0 13).toInt ∧ (S 0 13).toInt ≤ 6 := hR.1.1 0 13
  have h12 : 0 ≤ (S 0 12).toInt ∧ (S 0 12).toInt ≤ 5 := hR.1.1 0 12
  obtain ⟨w, hw⟩ : ∃ w : Nat, (S 0 12).toInt = w := ⟨(S 0 12).toInt.toNat, by omega⟩
  have lp : ∀ (N n : Nat) (x : Int32), x.toInt = n → n ≤ 6 → Ep (lpF (fun _ _ => none) (fB_X8_ins_L2 xb) N x S) (fun q => ∀ a j, ¬ (a = 63 ∧ j = b) → q a j = S a j) := by
    intro N
    induction N with
    | zero => intro n x _ _; exact Ep_none
    | succ N ih =>
      intro n x hx hn6
      show Ep (fB_X8_ins_L2 xb (lpF (fun _ _ => none) (fB_X8_ins_L2 xb) N) x S) _
      generalize lpF (fun _ _ => none) (fB_X8_ins_L2 xb) N = k at ih ⊢
      unfold fB_X8_ins_L2
      refine Ep_ite (fun _ => Ep_mono (e_146 hb hxb hR (m := w) hw) (fun q h => h.1)) (fun c => ?_)
      have lt := tq_len rfl hx c
      have j6 : (((6 : Int32) * xb) + x).toNatClampNeg = 6 * b + n := by rw [jx 6 (by decide) (by omega) hxb hx (by omega), hb]
      have e1 := i_p1 hx (by omega)
      rw [j6, hb]
      exact Ep_ck (Ep_ck (Ep_ite (fun g => absurd g (hn n lt)) (fun _ => Ep_lt (fun y ey => ih (n + 1) y (by rw [ey]; exact e1) (by omega)))))
  unfold f_X8_ins fL_X8_ins_L2
  exact lp 2000 0 0 (by decide) (by omega)
/-- nothing lies: nothing falls, nothing is stolen (the class, at the last stop) -/
theorem fa_0 {b : Nat} {P T S : Tr} {Lc : Lo} (hR : Rl b P T S) (h0 : ∀ i : Nat, (i : Int) < (S 0 14).toInt → ¬ S 53 (10 * b + i) = 1) : Ep (f_X6_fallOff T P Lc) (fun q => q.2.1 = T) := by
  have h12 : 0 ≤ (S 0 12).toInt ∧ (S 0 12).toInt ≤ 5 := hR.1.1 0 12
  have p00 : P 0 0 = S 0 12 := hR.2.1.1.1
  have z := h_0 hR.1 h0
  have lp : ∀ (N n : Nat) (m x : Int32) (Lc : Lo), x.toInt = n → n ≤ 5 → Ep (lpF (fun _ _ _ _ => none) (fB_X6_fallOff_L4 P) N m x T Lc) (fun q => q.2.1 = T) := by
    intro N
    induction N with
    | zero => intro n m x Lc _ _; exact Ep_none
    | succ N ih =>
      intro n m x Lc hx hn
      show Ep (fB_X6_fallOff_L4 P (lpF (fun _ _ _ _ => none) (fB_X6_fallOff_L4 P) N) m x T Lc) _
      generalize lpF (fun _ _ _ _ => none) (fB_X6_fallOff_L4 P) N = k at ih ⊢
      unfold fB_X6_fallOff_L4
      rw [p00]
      refine Ep_ite (fun _ => Ep_some rfl) (fun c => Ep_ite (fun _ => Ep_some rfl) (fun _ => ?_))
      have lt := tq_len rfl hx c
      refine Ep_bd (e_top hR hx (by omega)) (fun r hr => ?_)
      rcases hr with ⟨_, rfl⟩ | ⟨g, _⟩
      · rw [if_pos (by decide : (-1 : Int32) < 0)]
        exact Ep_lt (fun y ey => ih (n + 1) m y Lc (by rw [ey]; exact i_p1 hx (by omega)) (by omega))
      · exact absurd (z n (by omega)) g
  unfold f_X6_fallOff fL_X6_fallOff_L4
  exact lp 2000 0 0 0 Lc (by decide) (by omega)
theorem sa_0 {b : Nat} {P T S : Tr} {Lc : Lo} (hR : Rl b P T S) (h0 : ∀ i : Nat, (i : Int) < (S 0 14).toInt → ¬ S 53 (10 * b + i) = 1) : Ep (f_X6_stealAway T P Lc) (fun q => q.1 = T) := by
  have h14 : 0 ≤ (S 0 14).toInt ∧ (S 0 14).toInt ≤ 10 := hR.1.1 0 14
  have p14 : P 0 2 = S 0 14 := hR.2.1.1.2.2.1
  have lp : ∀ (N n : Nat) (x : Int32) (Lc : Lo), x.toInt = n → n ≤ 10 → Ep (lpF (fun _ _ _ => none) (fB_X6_stealAway_L2 P) N x T Lc) (fun q => q.1 = T) := by
    intro N
    induction N with
    | zero => intro n x Lc _ _; exact Ep_none
    | succ N ih =>
      intro n x Lc hx hn
      show Ep (fB_X6_stealAway_L2 P (lpF (fun _ _ _ => none) (fB_X6_stealAway_L2 P) N) x T Lc) _
      generalize lpF (fun _ _ _ => none) (fB_X6_stealAway_L2 P) N = k at ih ⊢
      unfold fB_X6_stealAway_L2
      rw [p14]
      refine Ep_ite (fun _ => Ep_some rfl) (fun c => Ep_ite (fun _ => Ep_some rfl) (fun _ => Ep_ck (Ep_lt (fun y4 e4 => ?_))))
      have lt : (n : Int) < (S 0 14).toInt := tq_len rfl hx c
      rw [i_cn hx, (hR.2.2.2.1.2.2.2.1 n lt).2] at e4
      have hly : ¬ 0 ≤ (S 54 (10 * b + n)).toInt := fun q => h0 n lt ((hR.1.2.2.2.1 n (by omega)).mpr q)
      have y4n : y4 < 0 := Decidable.byContradiction (fun q => by
        have := tq_ltn (x := y4) (y := (0 : Int32)) rfl (b := 0) (by decide) q
        rw [e4] at this
        omega)
      rw [if_pos y4n]
      exact Ep_lt (fun y ey => ih (n + 1) y Lc (by rw [ey]; exact i_p1 hx (by omega)) (by omega))
  unfold f_X6_stealAway fL_X6_stealAway_L2
  exact lp 2000 0 0 Lc (by decide) (by omega)
-- 62.zaz.31.z21
/-! a stop passed by both -/
theorem bd_eta {α β : Type} {x : Option (α × β)} : (bd x fun q => lt q.1 fun a => lt q.2 fun c => some (a, c)) = x := by
  cases x with
  | none => rfl
  | some q => rfl
def goJ (xb : Int32) (S : Tr) (L : Lo) : Option (Tr × Lo) := ck (okI xb 2) (if 20 ≤ (S 62 xb.toNatClampNeg) then (fJ_X8_goOn_J26 xb S L) else (bd (f_X8_onTheWay S L xb) fun q => lt q.1 fun S_12 => lt q.2 fun L_13 => fJ_X8_goOn_J26 xb S_12 L_13))
theorem e_wyJ {b : Nat} {P T S : Tr} {L Lc : Lo} {xb : Int32} (hb : xb.toNatClampNeg = b) (hxb : 0 ≤ xb.toInt ∧ xb.toInt ≤ 1) (hR : Rl b P T S) (hd : drw T L) (hst : (S 62 b).toInt ≤ 20) (h0 : S 62 b = 20 → ∀ i : Nat, (i : Int) < (S 0 14).toInt → ¬ S 53 (10 * b + i) = 1) : E2 (f_X6_wayOn T P Lc) (goJ xb S L) (wyQ b P T S L) := by
  have b62 : 0 ≤ (S 62 b).toInt ∧ (S 62 b).toInt ≤ 21 := hR.1.1 62 b
  unfold goJ
  rw [hb]
  refine E2_ckr (fun _ => E2_itr (fun g => ?_) (fun _ => e_way hb hxb hR hd hst))
  have g : (20 : Int32).toInt ≤ (S 62 b).toInt := Int32.le_iff_toInt_le.mp g
  rw [show (20 : Int32).toInt = 20 by decide] at g
  have e20 : S 62 b = 20 := Int32.toInt_inj.mp (by rw [show (20 : Int32).toInt = 20 by decide]; omega)
  have h0 := h0 e20
  have t00 : T 0 0 = S 62 b := hR.2.2.2.1.1
  have v1 : (S 62 b + 1).toInt = (S 62 b).toInt + 1 := i_addK rfl (by decide) (by omega) (by omega)
  unfold f_X6_wayOn
  refine E2_bl (fa_0 hR h0) (fun q hq => E2_ltl (fun _ _ => E2_ltl (fun T2 e2 => E2_ltl (fun L3 _ => ?_))))
  have e2 : T2 = T := e2.trans hq
  rw [e2]
  refine E2_bl (sa_0 hR h0) (fun q2 hq2 => E2_ltl (fun T6 e6 => E2_ltl (fun L7 _ => E2_ltl (fun T10 e10 => ?_))))
  have e6 : T6 = T := e6.trans hq2
  rw [e6] at e10
  unfold fJ_X8_goOn_J26
  rw [hb]
  refine E2_ckr (fun _ => E2_ltr (fun S11 e11 => E2_some ?_))
  have hR3 : Rl b P T10 S11 := by rw [e10, e11, t00]; exact Rl_stop hR (by omega) (by omega)
  have t5 : T10 0 5 = T 0 5 := by rw [e10, st_ne (by omega)]
  have t2 : T10 0 2 = T 0 2 := by rw [e10, st_ne (by omega)]
  refine ⟨hR3, drw_e hd t5 t2 rfl, ?_, ?_, oD_r, fun a j n1 n2 => ?_, fun a j n1 n2 n3 => ?_, fun i hi => Or.inl ?_⟩
  · show S11 62 b = S 62 b + 1
    rw [e11, st_same]
  · show aM b S S11
    rw [e11]; exact aM_s aM_r Mb_62
  · show T10 a j = T a j
    rw [e10, st_no (by omega)]
  · show S11 a j = S a j
    rw [e11, st_no n3]
  · show S11 53 (10 * b + i) = S 53 (10 * b + i)
    rw [e11, st_oth (by omega)]
/-- out and in -/
def diQ (b : Nat) (P T0 S0 : Tr) (L0 : Lo) (T8 S5 : Tr) (L2 : Lo) : Prop := Rl b P T8 S5 ∧ (drw T0 L0 → drw T8 L2) ∧ S5 62 b = S0 62 b ∧ aM b S0 S5 ∧ oL L0 L2 ∧ (∀ a j, ¬ (a = 0 ∧ j = 1) → ¬ (a = 11 ∨ a = 12) → ¬ (14 ≤ a ∧ a ≤ 19) → T8 a j = T0 a j) ∧ (∀ a j, ¬ (a = 0 ∧ (j = 51 ∨ j = 72)) → ¬ (53 ≤ a ∧ a ≤ 56) → ¬ (59 ≤ a ∧ a ≤ 61) → ¬ a = 63 → S5 a j = S0 a j) ∧ S5 63 b = fld P T8 (S0 63 b) (S0 0 12).toNatClampNeg ∧ (S0 62 b = 20 → ∀ i : Nat, (i : Int) < (S0 0 14).toInt → ¬ S5 53 (10 * b + i) = 1)
theorem e_di {α β : Type} {Q : α → β → Prop} {K : Tr → Lo → Option α} {K' : Tr → Lo → Option β} {b : Nat} {P T S : Tr} {L Lc : Lo} {xb x1 : Int32} (hb : xb.toNatClampNeg = b) (hxb : 0 ≤ xb.toInt ∧ xb.toInt ≤ 1) (hR : Rl b P T S) (lim : oLim b S x1) (hst : (S 62 b).toInt ≤ 20) (hk : ∀ T8 Lc5 S5 L2, diQ b P T S L T8 S5 L2 → E2 (K T8 Lc5) (K' S5 L2) Q) : E2 (bd (f_X6_takeDown T P Lc x1) fun q => lt q.1 fun _r3 => lt q.2.1 fun T_4 => lt q.2.2 fun L_5 => bd (f_X6_getIn T_4 P) fun T_8 => K T_8 L_5) (bd (f_X8_outs S L xb) fun q => lt q.1 fun S_1 => lt q.2 fun L_2 => bd (f_X8_ins S_1 xb) fun S_5 => K' S_5 L_2) Q := by
  refine E2_bd (e_outs hb hxb hR lim hst) (fun q q' hq => E2_ltl (fun _ _ => E2_ltl (fun T4 e4 => E2_ltl (fun L5 _ => E2_ltr (fun S1 e1 => E2_ltr (fun L2 e2 => ?_))))))
  obtain ⟨hR1, _, _, fT, fS, am, oLL, _, h20⟩ := hq
  rw [← e4, ← e1] at hR1
  rw [← e4] at fT
  rw [← e1] at fS am h20
  rw [← e2] at oLL
  have s62 : S1 62 b = S 62 b := fS 62 b (by omega) (by omega) (by omega)
  have s13 : S1 0 13 = S 0 13 := fS 0 13 (by omega) (by omega) (by omega)
  have s12 : S1 0 12 = S 0 12 := fS 0 12 (by omega) (by omega) (by omega)
  have s63 : S1 63 b = S 63 b := fS 63 b (by omega) (by omega) (by omega)
  have hin : E2 (f_X6_getIn T4 P) (f_X8_ins S1 xb) (fun T8 S5 => inQ b P T4 S1 T8 S5 ∧ (S 62 b = 20 → ∀ a j, ¬ (a = 63 ∧ j = b) → S5 a j = S1 a j)) := fun u v eu ev => ⟨e_ins hb hxb hR1 u v eu ev, fun c => in_20 hb hxb hR1 (fun p hp g => by
    have w := (hR1.2.2.2.2.2 p hp).2.2
    rw [g, s62, c, show (20 : Int32).toInt = 20 by decide] at w
    omega) v ev⟩
  refine E2_bd hin (fun T8 S5 hi => hk T8 L5 S5 L2 ?_)
  obtain ⟨⟨hR8, ag, gT, gS, _, fd⟩, z20⟩ := hi
  have am2 : aM b S1 S5 := aM_fx ag ⟨fun j _ => gS 0 j (by omega), fun a j h => gS a j (by omega)⟩
  have t5 : T8 0 5 = T 0 5 := (gT 0 5 (by omega)).trans (fT 0 5 (by omega) (by omega) (by omega))
  have t2 : T8 0 2 = T 0 2 := (gT 0 2 (by omega)).trans (fT 0 2 (by omega) (by omega) (by omega))
  refine ⟨hR8, fun d => drw_e d t5 t2 (oLL 0 63 (by decide) (by decide)), (gS 62 b (by omega)).trans s62, aM_t am am2, oLL, fun a j n1 n2 n3 => (gT a j (by omega)).trans (fT a j n1 n2 n3), fun a j n1 n2 n3 n4 => (gS a j (by omega)).trans (fS a j n1 n2 n3), ?_, fun c i hi => ?_⟩
  · rw [fd, s63, s12]
  · rw [z20 c 53 _ (by omega)]
    exact (h20 c).1 i hi
/-- a stop -/
def gpQ (b : Nat) (P T0 S0 : Tr) (L0 : Lo) (q q' : Tr × Lo) : Prop := ∃ T8 S5 L2, diQ b P T0 S0 L0 T8 S5 L2 ∧ wyQ b P T8 S5 L2 q q'
theorem lim_0 {b : Nat} {P T S : Tr} (hR : Rl b P T S) (h70 : S 0 70 = 0) (hst : (S 62 b).toInt ≤ 20) : oLim b S (P 18 (T 0 0).toNatClampNeg) := by
  have b62 : 0 ≤ (S 62 b).toInt ∧ (S 62 b).toInt ≤ 21 := hR.1.1 62 b
  have t00 : T 0 0 = S 62 b := hR.2.2.2.1.1
  refine Or.inl ⟨h70, ?_⟩
  rw [t00]
  exact hR.2.1.2.2.2.2.1 _ (by rw [i_cl]; omega)
def tgw (T P : Tr) (L : Lo) (x1 : Int32) : Option (Tr × Lo) := bd (f_X6_takeDown T P L x1) fun q => lt q.1 fun _r3 => lt q.2.1 fun T_4 => lt q.2.2 fun L_5 => bd (f_X6_getIn T_4 P) fun T_8 => f_X6_wayOn T_8 P L_5
theorem e_goB {b : Nat} {P T S : Tr} {L Lc : Lo} {xb x1 : Int32} (hb : xb.toNatClampNeg = b) (hxb : 0 ≤ xb.toInt ∧ xb.toInt ≤ 1) (hR : Rl b P T S) (hd : drw T L) (lim : oLim b S x1) (hst : (S 62 b).toInt ≤ 20) : E2 (tgw T P Lc x1) (f_X8_goOn S L xb) (gpQ b P T S L) := by
  unfold tgw f_X8_goOn
  refine e_di hb hxb hR lim hst (K := fun T8 L5 => f_X6_wayOn T8 P L5) (K' := fun S5 L2 => goJ xb S5 L2) (fun T8 Lc5 S5 L2 hq => ?_)
  exact E2_mono (e_wyJ hb hxb hq.1 (hq.2.1 hd) (by rw [hq.2.2.1]; exact hst) (fun c i hi => hq.2.2.2.2.2.2.2.2 (hq.2.2.1.symm.trans c) i (by rw [← hq.2.2.2.2.2.2.1 0 14 (by omega) (by omega) (by omega) (by omega)]; exact hi))) (fun q q' h => ⟨T8, S5, L2, hq, h⟩)
theorem pass_tgw {T P : Tr} {L : Lo} (h : ¬ (20 : Int32) < T 0 0) : f_X6_passStop T P L = ck (okI (T 0 0) 21) (tgw T P L (P 18 (T 0 0).toNatClampNeg)) := by
  unfold f_X6_passStop tgw
  rw [if_neg h]
  congr 1
  cases f_X6_takeDown T P L (P 18 (T 0 0).toNatClampNeg) with
  | none => rfl
  | some q =>
    show (bd (f_X6_getIn q.2.1 P) fun T_8 => bd (f_X6_wayOn T_8 P q.2.2) fun q => lt q.1 fun a => lt q.2 fun c => some (a, c)) = bd (f_X6_getIn q.2.1 P) fun T_8 => f_X6_wayOn T_8 P q.2.2
    cases f_X6_getIn q.2.1 P with
    | none => rfl
    | some t => exact bd_eta
theorem e_pass {b : Nat} {P T S : Tr} {L Lc : Lo} {xb : Int32} (hb : xb.toNatClampNeg = b) (hxb : 0 ≤ xb.toInt ∧ xb.toInt ≤ 1) (hR : Rl b P T S) (hd : drw T L) (h70 : S 0 70 = 0) (hst : (S 62 b).toInt ≤ 20) : E2 (f_X6_passStop T P Lc) (f_X8_goOn S L xb) (gpQ b P T S L) := by
  have t00 : T 0 0 = S 62 b := hR.2.2.2.1.1
  rw [pass_tgw (fun g => by
    have g := Int32.lt_iff_toInt_lt.mp g
    rw [t00, show (20 : Int32).toInt = 20 by decide] at g
    omega)]
  exact E2_ckl (fun _ => e_goB hb hxb hR hd (lim_0 hR h70 hst) hst)
/-- what a stop leaves -/
def psQ (b : Nat) (P T0 S0 : Tr) (L0 : Lo) (T1 S1 : Tr) (L1 : Lo) : Prop := Rl b P T1 S1 ∧ drw T1 L1 ∧ (S1 62 b).toInt = (S0 62 b).toInt + 1 ∧ aM b S0 S1 ∧ oD L0 L1 ∧ (∀ a j, ¬ (a = 0 ∧ j ≤ 2) → ¬ (a = 11 ∨ a = 12) → ¬ (14 ≤ a ∧ a ≤ 19) → T1 a j = T0 a j)
theorem ps_of {b : Nat} {P T S : Tr} {L : Lo} {q q' : Tr × Lo} (h : gpQ b P T S L q q') (hst : (S 62 b).toInt ≤ 20) (h0 : 0 ≤ (S 62 b).toInt) : psQ b P T S L q.1 q'.1 q'.2 := by
  obtain ⟨T8, S5, L2, h1, h2⟩ := h
  obtain ⟨_, _, s62, am, oLL, fT, _, _, _⟩ := h1
  obtain ⟨hR, hd, w62, am2, oD2, gT, _, _⟩ := h2
  refine ⟨hR, hd, ?_, aM_t am am2, oD_t (oD_L oLL) oD2, fun a j n1 n2 n3 => (gT a j (by omega) n3).trans (fT a j (by omega) n2 n3)⟩
  rw [w62, s62]
  exact i_addK rfl (by decide) (by omega) (by omega)
-- 62.zaz.32.z22
/-! nobody is to come or to get out: nothing happens any more -/
def idle (b : Nat) (S : Tr) : Prop := ∀ p : Nat, (p : Int) < (S 0 13).toInt → S 59 (6 * b + p) = 2
theorem idle_no {b : Nat} {S : Tr} (hS : rI b S) (hv : inv b S) (h : idle b S) : ∀ i : Nat, (i : Int) < (S 0 14).toInt → ¬ S 53 (10 * b + i) = 1 := fun i hi c => by
  have h14 : 0 ≤ (S 0 14).toInt ∧ (S 0 14).toInt ≤ 10 := hS.1 0 14
  have ow := hS.2.1.2.2.1 i (by omega) hi
  have b30 : 0 ≤ (S 30 i).toInt ∧ (S 30 i).toInt ≤ 5 := hS.1 30 i
  have e := (hv.1 i hi).1 c
  rw [h (S 30 i).toNatClampNeg (by rw [i_cl]; omega)] at e
  exact absurd e (by decide)
def idQ (b : Nat) (S : Tr) (L : Lo) (q : Tr × Lo) : Prop := q.2 = L ∧ inv b q.1 ∧ idle b q.1 ∧ aM b S q.1 ∧ (∀ i : Nat, (i : Int) < (S 0 14).toInt → q.1 53 (10 * b + i) = S 53 (10 * b + i) ∧ q.1 54 (10 * b + i) = S 54 (10 * b + i)) ∧ ∀ a j, ¬ (a = 0 ∧ j = 72) → ¬ (53 ≤ a ∧ a ≤ 56) → ¬ a = 59 → ¬ a = 62 → ¬ a = 63 → q.1 a j = S a j
theorem idQ_r {b : Nat} {S : Tr} {L : Lo} (hv : inv b S) (hi : idle b S) : idQ b S L (S, L) := ⟨rfl, hv, hi, aM_r, fun _ _ => ⟨rfl, rfl⟩, fun _ _ _ _ _ _ _ => rfl⟩
theorem idQ_t {b : Nat} {S : Tr} {L : Lo} {q r : Tr × Lo} (h : idQ b S L q) (g : idQ b q.1 q.2 r) : idQ b S L r := by
  obtain ⟨h1, h2, h3, h4, h5, h6⟩ := h
  obtain ⟨g1, g2, g3, g4, g5, g6⟩ := g
  have e14 : q.1 0 14 = S 0 14 := h6 0 14 (by omega) (by omega) (by omega) (by omega) (by omega)
  refine ⟨g1.trans h1, g2, g3, aM_t h4 g4, fun i hi => ?_, fun a j n1 n2 n3 n4 n5 => (g6 a j n1 n2 n3 n4 n5).trans (h6 a j n1 n2 n3 n4 n5)⟩
  have u := g5 i (by rw [e14]; exact hi)
  have v := h5 i hi
  exact ⟨u.1.trans v.1, u.2.trans v.2⟩
theorem rI_72 {b : Nat} {S : Tr} {v : Int32} (h : rI b S) : rI b (st S 0 72 v) := by
  have z : ∀ a, ¬ a = 0 → ∀ j, st S 0 72 v a j = S a j := fun a ha j => by rw [st_oth ha]
  have z0 : ∀ j, ¬ j = 72 → st S 0 72 v 0 j = S 0 j := fun j hj => by rw [st_ne hj]
  exact ⟨iR_setU h.1 rfl, pI_fr h.2.1 (z 39 (by omega)) (z 40 (by omega)) (z 41 (by omega)) (z 36 (by omega)) (z 38 (by omega)) (z 30 (by omega)) (z 29 (by omega)) (z0 13 (by omega)) (z0 14 (by omega)), gI_fr h.2.2 (z 53 (by omega)) (z 54 (by omega)) (z 55 (by omega)) (z 56 (by omega)) (z 58 (by omega)) (z0 13 (by omega)) (z0 14 (by omega))⟩
theorem inv_id {b : Nat} {S S1 : Tr} (hv : inv b S) (hi : idle b S1) (e12 : S1 0 12 = S 0 12) (e13 : S1 0 13 = S 0 13) (e14 : S1 0 14 = S 0 14) (e30 : ∀ j, S1 30 j = S 30 j) (e57 : ∀ j, S1 57 j = S 57 j) (h5 : ∀ i : Nat, (i : Int) < (S 0 14).toInt → S1 53 (10 * b + i) = S 53 (10 * b + i) ∧ S1 54 (10 * b + i) = S 54 (10 * b + i)) (hs : idle b S) (how : ∀ i : Nat, (i : Int) < (S 0 14).toInt → (((S 30 i).toNatClampNeg : Nat) : Int) < (S 0 13).toInt) : inv b S1 := by
  refine ⟨fun i q => ?_, fun p q => ?_⟩
  · rw [e14] at q
    have v := hv.1 i q
    have w := hs _ (how i q)
    have w1 := hi (S 30 i).toNatClampNeg (by rw [e13]; exact how i q)
    rw [w] at v
    rw [e30, w1, (h5 i q).1, (h5 i q).2, e12]
    exact v
  · have w1 := hi p q
    rw [e13] at q
    rw [w1, e57]
    exact ⟨Or.inr (Or.inr rfl), (hv.2 p q).2⟩
theorem own_lt {b : Nat} {S : Tr} (hS : rI b S) : ∀ i : Nat, (i : Int) < (S 0 14).toInt → (((S 30 i).toNatClampNeg : Nat) : Int) < (S 0 13).toInt := fun i hi => by
  have h14 : 0 ≤ (S 0 14).toInt ∧ (S 0 14).toInt ≤ 10 := hS.1 0 14
  have ow := hS.2.1.2.2.1 i (by omega) hi
  have b30 : 0 ≤ (S 30 i).toInt ∧ (S 30 i).toInt ≤ 5 := hS.1 30 i
  rw [i_cl]; omega
def oiQ (b : Nat) (S : Tr) (L : Lo) (q : Tr × Lo) : Prop := q.2 = L ∧ rI b q.1 ∧ aM b S q.1 ∧ (∀ i : Nat, (i : Int) < (S 0 14).toInt → q.1 53 (10 * b + i) = S 53 (10 * b + i) ∧ q.1 54 (10 * b + i) = S 54 (10 * b + i)) ∧ (∀ p : Nat, (p : Int) < (S 0 13).toInt → q.1 59 (6 * b + p) = 2) ∧ ∀ a j, ¬ (a = 0 ∧ j = 72) → ¬ (53 ≤ a ∧ a ≤ 56) → ¬ a = 59 → q.1 a j = S a j
theorem out_id {b : Nat} {S : Tr} {L : Lo} {xb : Int32} (hb : xb.toNatClampNeg = b) (hxb : 0 ≤ xb.toInt ∧ xb.toInt ≤ 1) (hS : rI b S) (hv : inv b S) (hi : idle b S) : Ep (f_X8_outs S L xb) (oiQ b S L) := by
  have h13 : 0 ≤ (S 0 13).toInt ∧ (S 0 13).toInt ≤ 6 := hS.1 0 13
  have hn := idle_no hS hv hi
  unfold f_X8_outs
  refine Ep_lt (fun S1 e1 => ?_)
  have f1 : ∀ a j, ¬ (a = 0 ∧ j = 72) → S1 a j = S a j := fun a j n => by rw [e1, st_no n]
  have hS1 : rI b S1 := by rw [e1]; exact rI_72 hS
  have am1 : aM b S S1 := by rw [e1]; exact aM_s aM_r (by simp [Mb])
  have e13 : S1 0 13 = S 0 13 := f1 0 13 (by omega)
  have e14 : S1 0 14 = S 0 14 := f1 0 14 (by omega)
  have lp : ∀ (N n : Nat) (x2 x : Int32), x.toInt = n → n ≤ 6 → Ep (lpF (fun _ _ _ _ => none) (fB_X8_outs_L9 xb) N x2 x S1 L) (oiQ b S L) := by
    intro N
    induction N with
    | zero => intro n x2 x _ _; exact Ep_none
    | succ N ih =>
      intro n x2 x hx hn6
      show Ep (fB_X8_outs_L9 xb (lpF (fun _ _ _ _ => none) (fB_X8_outs_L9 xb) N) x2 x S1 L) _
      generalize lpF (fun _ _ _ _ => none) (fB_X8_outs_L9 xb) N = k at ih ⊢
      unfold fB_X8_outs_L9
      refine Ep_ite (fun _ => ?_) (fun c => ?_)
      · unfold fJ_X8_outs_J209
        refine Ep_ck (Ep_ite (fun _ => Ep_mono (en_223 hb hxb hS1) (fun q hq => ?_)) (fun _ => Ep_some ⟨rfl, hS1, am1, fun i hj => ⟨f1 53 _ (by omega), f1 54 _ (by omega)⟩, fun p hp => (f1 59 _ (by omega)).trans (hi p hp), fun a j n1 _ _ => f1 a j n1⟩))
        obtain ⟨q1, q2, q3, q4, q5, q6⟩ := hq
        refine ⟨q1, q2, aM_t am1 q3, fun i hj => ?_, fun p hp => ?_, fun a j n1 n2 n3 => (q6 a j n2 n3).trans (f1 a j n1)⟩
        · rcases q4 i (by rw [e14]; exact hj) with ⟨_, u1, u2⟩ | ⟨u1, _⟩
          · exact ⟨u1.trans (f1 53 _ (by omega)), u2.trans (f1 54 _ (by omega))⟩
          · exact absurd ((f1 53 _ (by omega)).symm.trans u1) (hn i hj)
        · rcases q5 p (by rw [e13]; exact hp) with ⟨_, u1⟩ | ⟨_, u1⟩
          · rw [u1, f1 59 _ (by omega)]; exact hi p hp
          · exact u1
      · have lt := tq_len rfl hx c
        rw [e13] at lt
        have ne : ¬ S1 59 (6 * b + n) = 1 := by rw [f1 59 _ (by omega), hi n lt]; decide
        refine Ep_bd (go_S hb hxb hx (by omega)) (fun r hr => ?_)
        rw [hr.2.1 ne, if_pos rfl]
        exact Ep_lt (fun y ey => ih (n + 1) x2 y (by rw [ey]; exact i_p1 hx (by omega)) (by omega))
  unfold fL_X8_outs_L9
  exact lp 2000 0 1 0 (by decide) (by omega)
theorem fr_146 {b : Nat} {S : Tr} {xb : Int32} (hb : xb.toNatClampNeg = b) (N : Nat) : ∀ (x2 : Int32) (S1 : Tr), (∀ a j, ¬ (a = 63 ∧ j = b) → S1 a j = S a j) → Ep (lpF (fun _ _ => none) (fB_X8_ins_L146 xb) N x2 S1) (fun q => ∀ a j, ¬ (a = 63 ∧ j = b) → q a j = S a j) := by
  induction N with
  | zero => intro x2 S1 _; exact Ep_none
  | succ N ih =>
    intro x2 S1 ho
    show Ep (fB_X8_ins_L146 xb (lpF (fun _ _ => none) (fB_X8_ins_L146 xb) N) x2 S1) _
    generalize lpF (fun _ _ => none) (fB_X8_ins_L146 xb) N = k at ih ⊢
    unfold fB_X8_ins_L146 fJ_X8_ins_J185
    rw [hb]
    refine Ep_ite (fun _ => Ep_some ho) (fun _ => Ep_ck (Ep_ck (Ep_ite (fun _ => Ep_ck (Ep_ck (Ep_lt (fun S7 s7 => Ep_lt (fun y _ => ih y S7 (fun a j n => by rw [s7, st_no n]; exact ho a j n)))))) (fun _ => Ep_ck (Ep_lt (fun S7 s7 => Ep_lt (fun y _ => ih y S7 (fun a j n => by rw [s7, st_no n]; exact ho a j n))))))))
theorem in_id {b : Nat} {S : Tr} {xb : Int32} (hb : xb.toNatClampNeg = b) (hxb : 0 ≤ xb.toInt ∧ xb.toInt ≤ 1) (hS : iR BM S) (hi : ∀ p : Nat, (p : Int) < (S 0 13).toInt → ¬ S 59 (6 * b + p) = 0) : Ep (f_X8_ins S xb) (fun q => ∀ a j, ¬ (a = 63 ∧ j = b) → q a j = S a j) := by
  have h13 : 0 ≤ (S 0 13).toInt ∧ (S 0 13).toInt ≤ 6 := hS 0 13
  have lp : ∀ (N n : Nat) (x : Int32), x.toInt = n → n ≤ 6 → Ep (lpF (fun _ _ => none) (fB_X8_ins_L2 xb) N x S) (fun q => ∀ a j, ¬ (a = 63 ∧ j = b) → q a j = S a j) := by
    intro N
    induction N with
    | zero => intro n x _ _; exact Ep_none
    | succ N ih =>
      intro n x hx hn6
      show Ep (fB_X8_ins_L2 xb (lpF (fun _ _ => none) (fB_X8_ins_L2 xb) N) x S) _
      generalize lpF (fun _ _ => none) (fB_X8_ins_L2 xb) N = k at ih ⊢
      unfold fB_X8_ins_L2
      refine Ep_ite (fun _ => ?_) (fun c => ?_)
      · unfold fL_X8_ins_L146
        exact fr_146 hb 2000 0 S (fun _ _ _ => rfl)
      · have lt := tq_len rfl hx c
        have j6 : (((6 : Int32) * xb) + x).toNatClampNeg = 6 * b + n := by rw [jx 6 (by decide) (by omega) hxb hx (by omega), hb]
        have e1 := i_p1 hx (by omega)
        rw [j6, hb]
        exact Ep_ck (Ep_ck (Ep_ite (fun _ => Ep_ite (fun g => absurd g (hi n lt)) (fun _ => Ep_lt (fun y ey => ih (n + 1) y (by rw [ey]; exact e1) (by omega)))) (fun _ => Ep_lt (fun y ey => ih (n + 1) y (by rw [ey]; exact e1) (by omega)))))
  unfold f_X8_ins fL_X8_ins_L2
  exact lp 2000 0 0 (by decide) (by omega)
theorem way_id {b : Nat} {S : Tr} {L : Lo} {xb : Int32} (hb : xb.toNatClampNeg = b) (hxb : 0 ≤ xb.toInt ∧ xb.toInt ≤ 1) (hS : rI b S) (h0 : ∀ i : Nat, (i : Int) < (S 0 14).toInt → ¬ S 53 (10 * b + i) = 1) : Ep (f_X8_onTheWay S L xb) (fun q => q = (S, L)) := by
  have h12 : 0 ≤ (S 0 12).toInt ∧ (S 0 12).toInt ≤ 5 := hS.1 0 12
  have h14 : 0 ≤ (S 0 14).toInt ∧ (S 0 14).toInt ≤ 10 := hS.1 0 14
  have z := h_0 hS h0
  have lpb : ∀ (N n : Nat) (x : Int32), x.toInt = n → n ≤ 10 → Ep (lpF (fun _ _ _ => none) (fB_X8_onTheWay_L90 xb) N x S L) (fun q => q = (S, L)) := by
    intro N
    induction N with
    | zero => intro n x _ _; exact Ep_none
    | succ N ih =>
      intro n x hx hn
      show Ep (fB_X8_onTheWay_L90 xb (lpF (fun _ _ _ => none) (fB_X8_onTheWay_L90 xb) N) x S L) _
      generalize lpF (fun _ _ _ => none) (fB_X8_onTheWay_L90 xb) N = k at ih ⊢
      unfold fB_X8_onTheWay_L90
      refine Ep_ite (fun _ => Ep_some rfl) (fun c => Ep_ite (fun _ => ?_) (fun _ => Ep_some rfl))
      have lt := tq_len rfl hx c
      have j10 : (((10 : Int32) * xb) + x).toNatClampNeg = 10 * b + n := by rw [jx 10 (by decide) (by omega) hxb hx (by omega), hb]
      rw [j10]
      exact Ep_ck (Ep_ite (fun g => absurd g (h0 n lt)) (fun _ => Ep_lt (fun y ey => ih (n + 1) y (by rw [ey]; exact i_p1 hx (by omega)) (by omega))))
  have lpa : ∀ (N n : Nat) (x : Int32), x.toInt = n → n ≤ 5 → Ep (lpF (fun _ _ _ => none) (fB_X8_onTheWay_L2 xb) N x S L) (fun q => q = (S, L)) := by
    intro N
    induction N with
    | zero => intro n x _ _; exact Ep_none
    | succ N ih =>
      intro n x hx hn
      show Ep (fB_X8_onTheWay_L2 xb (lpF (fun _ _ _ => none) (fB_X8_onTheWay_L2 xb) N) x S L) _
      generalize lpF (fun _ _ _ => none) (fB_X8_onTheWay_L2 xb) N = k at ih ⊢
      have nb : Ep (fL_X8_onTheWay_L90 xb 0 S L) (fun q => q = (S, L)) := by
        unfold fL_X8_onTheWay_L90
        exact lpb 2000 0 0 (by decide) (by omega)
      unfold fB_X8_onTheWay_L2
      refine Ep_ite (fun _ => nb) (fun c => Ep_ite (fun _ => ?_) (fun _ => nb))
      have lt := tq_len rfl hx c
      have j5 : (((5 : Int32) * xb) + x).toNatClampNeg = 5 * b + n := by rw [jx 5 (by decide) (by omega) hxb hx (by omega), hb]
      rw [j5]
      exact Ep_ck (Ep_ite (fun _ => Ep_lt (fun y ey => ih (n + 1) y (by rw [ey]; exact i_p1 hx (by omega)) (by omega))) (fun _ => Ep_ck (Ep_ite (fun _ => Ep_lt (fun y ey => ih (n + 1) y (by rw [ey]; exact i_p1 hx (by omega)) (by omega))) (fun g => absurd (z n (by omega)) g))))
  unfold f_X8_onTheWay fL_X8_onTheWay_L2
  exact lpa 2000 0 0 (by decide) (by omega)
theorem go_id {b : Nat} {S : Tr} {L : Lo} {xb : Int32} (hb : xb.toNatClampNeg = b) (hxb : 0 ≤ xb.toInt ∧ xb.toInt ≤ 1) (hS : rI b S) (hv : inv b S) (hi : idle b S) : Ep (f_X8_goOn S L xb) (idQ b S L) := by
  unfold f_X8_goOn
  refine Ep_bd (out_id hb hxb hS hv hi) (fun q hq => Ep_lt (fun S1 e1 => Ep_lt (fun L2 e2 => ?_)))
  obtain ⟨q1, q2, q3, q4, q5, q6⟩ := hq
  rw [← e1] at q2 q3 q4 q5 q6
  rw [← e2] at q1
  have e13 : S1 0 13 = S 0 13 := q6 0 13 (by omega) (by omega) (by omega)
  have e14 : S1 0 14 = S 0 14 := q6 0 14 (by omega) (by omega) (by omega)
  have ne0 : ∀ p : Nat, (p : Int) < (S1 0 13).toInt → ¬ S1 59 (6 * b + p) = 0 := fun p hp => by
    rw [q5 p (by rw [← e13]; exact hp)]; decide
  refine Ep_bd (Ep_and (in_id hb hxb q2.1 ne0) (D_to (t_X8_ins S1 xb q2.1 q2.2.1 (by rw [hb]; exact q2.2.2) hxb))) (fun S5 h5 => ?_)
  obtain ⟨h5, r1, r2, r3, r4, _⟩ := h5
  rw [hb] at r4
  have rI5 : rI b S5 := ⟨r1, r3, r4⟩
  have am5 : aM b S S5 := aM_t q3 (fun a j hf => h5 a j (fun g => by
    obtain ⟨rfl, rfl⟩ := g
    rw [Mb_63] at hf
    cases hf))
  have n5 : ∀ i : Nat, (i : Int) < (S5 0 14).toInt → ¬ S5 53 (10 * b + i) = 1 := fun i hj => by
    rw [h5 0 14 (by omega), e14] at hj
    rw [h5 53 _ (by omega), (q4 i hj).1]
    exact idle_no hS hv hi i hj
  have fin : ∀ L3 : Lo, L3 = L → Ep (fJ_X8_goOn_J26 xb S5 L3) (idQ b S L) := fun L3 e3 => by
    unfold fJ_X8_goOn_J26
    rw [hb]
    refine Ep_ck (Ep_lt (fun S11 e11 => Ep_some ?_))
    have g : ∀ a j, ¬ (a = 62 ∧ j = b) → S11 a j = S5 a j := fun a j n => by rw [e11, st_no n]
    have i11 : idle b S11 := fun p hp => by
      rw [g 0 13 (by omega), h5 0 13 (by omega), e13] at hp
      rw [g 59 _ (by omega), h5 59 _ (by omega)]
      exact q5 p hp
    have w5 : ∀ i : Nat, (i : Int) < (S 0 14).toInt → S11 53 (10 * b + i) = S 53 (10 * b + i) ∧ S11 54 (10 * b + i) = S 54 (10 * b + i) := fun i hj => by
      rw [g 53 _ (by omega), h5 53 _ (by omega), g 54 _ (by omega), h5 54 _ (by omega)]
      exact q4 i hj
    have w6 : ∀ a j, ¬ (a = 0 ∧ j = 72) → ¬ (53 ≤ a ∧ a ≤ 56) → ¬ a = 59 → ¬ a = 62 → ¬ a = 63 → S11 a j = S a j := fun a j n1 n2 n3 n4 n5 => by
      rw [g a j (by omega), h5 a j (by omega), q6 a j n1 n2 n3]
    refine ⟨e3, inv_id hv i11 (w6 0 12 (by omega) (by omega) (by omega) (by omega) (by omega)) (w6 0 13 (by omega) (by omega) (by omega) (by omega) (by omega)) (w6 0 14 (by omega) (by omega) (by omega) (by omega) (by omega)) (fun j => w6 30 j (by omega) (by omega) (by omega) (by omega) (by omega)) (fun j => w6 57 j (by omega) (by omega) (by omega) (by omega) (by omega)) w5 hi (own_lt hS), i11, ?_, w5, w6⟩
    show aM b S S11
    rw [e11]
    exact aM_s am5 Mb_62
  rw [hb]
  refine Ep_ck (Ep_ite (fun _ => fin L2 q1) (fun _ => Ep_bd (way_id hb hxb rI5 n5) (fun r hr => Ep_lt (fun S12 e12 => Ep_lt (fun L13 e13 => ?_)))))
  have a1 : S12 = S5 := by rw [e12, hr]
  have a2 : L13 = L := by rw [e13, hr]; exact q1
  rw [a1]
  exact fin L13 a2
theorem end_id (N : Nat) : ∀ (S : Tr) (L : Lo), rI 1 S → inv 1 S → idle 1 S → Ep (lpF (fun _ _ => none) (fB_X8_toEnd_L0) N S L) (fun q => idQ 1 S L q ∧ rI 1 q.1 ∧ 21 ≤ (q.1 62 1).toInt) := by
  induction N with
  | zero => intro S L _ _ _; exact Ep_none
  | succ N ih =>
    intro S L hS hv hi
    show Ep (fB_X8_toEnd_L0 (lpF (fun _ _ => none) (fB_X8_toEnd_L0) N) S L) _
    generalize lpF (fun _ _ => none) (fB_X8_toEnd_L0) N = k at ih ⊢
    unfold fB_X8_toEnd_L0
    refine Ep_ite (fun c => Ep_some ⟨idQ_r hv hi, hS, ?_⟩) (fun c => ?_)
    · exact tq_le (a := 21) (by decide) rfl c
    · have lt : (S 62 1).toInt < 21 := tq_len (a := 21) (by decide) rfl c
      refine Ep_bd (Ep_and (go_id (b := 1) (xb := 1) (by decide) (by decide) hS hv hi) (D_to (t_X8_goOn S L 1 hS.1 hS.2.1 hS.2.2 (by decide) (by show (S 62 1).toInt ≤ 20; omega)))) (fun q hq => Ep_lt (fun S2 e2 => Ep_lt (fun L3 e3 => ?_)))
      obtain ⟨h1, r1, _, r3, r4, _⟩ := hq
      rw [e2, e3]
      exact Ep_mono (ih q.1 q.2 ⟨r1, r3, r4⟩ h1.2.1 h1.2.2.1) (fun r hr => ⟨idQ_t h1 hr.1, hr.2⟩)
-- 62.zaz.33.z23
/-! to the end -/
theorem bz {b : Nat} {P T S : Tr} (hR : Rl b P T S) : Ep (f_X6_isBusy T P) (fun r => (r = 0 ∧ idle b S) ∨ r = 1) := by
  obtain ⟨⟨hS, _, _⟩, hK, _, hd, hv⟩ := hR
  have h13 : 0 ≤ (S 0 13).toInt ∧ (S 0 13).toInt ≤ 6 := hS 0 13
  have p13 : P 0 1 = S 0 13 := hK.1.2.1
  have lp : ∀ (N n : Nat) (x : Int32), x.toInt = n → n ≤ 6 → (∀ p : Nat, p < n → S 59 (6 * b + p) = 2) → Ep (lpF (fun _ => none) (fB_X6_isBusy_L2 T P) N x) (fun r => (r = 0 ∧ idle b S) ∨ r = 1) := by
    intro N
    induction N with
    | zero => intro n x _ _ _; exact Ep_none
    | succ N ih =>
      intro n x hx hn hz
      show Ep (fB_X6_isBusy_L2 T P (lpF (fun _ => none) (fB_X6_isBusy_L2 T P) N) x) _
      generalize lpF (fun _ => none) (fB_X6_isBusy_L2 T P) N = k at ih ⊢
      unfold fB_X6_isBusy_L2
      rw [p13]
      refine Ep_ite (fun c => ?_) (fun c => ?_)
      · have := tq_le rfl hx c
        exact Ep_some (Or.inl ⟨rfl, fun p hp => hz p (by omega)⟩)
      · have lt := tq_len rfl hx c
        rw [i_cn hx, (hd.2.2.1 n lt).1]
        refine Ep_ck (Ep_ite (fun g => Ep_lt (fun y ey => ih (n + 1) y (by rw [ey]; exact i_p1 hx (by omega)) (by omega) (fun p hp => ?_))) (fun _ => Ep_some (Or.inr rfl)))
        rcases (by omega : p < n ∨ p = n) with q | rfl
        · exact hz p q
        · exact g
  unfold f_X6_isBusy fL_X6_isBusy_L2
  exact lp 2000 0 0 (by decide) (by omega) (fun p hp => absurd hp (by omega))
theorem run_in {T P : Tr} {L : Lo} {x : Int32} {k0 : Tr → Lo → Option (Tr × Lo)} : (bd (f_X6_takeDown T P L x) fun q => lt q.1 fun _r7 => lt q.2.1 fun T_8 => lt q.2.2 fun L_9 => bd (f_X6_getIn T_8 P) fun T_12 => bd (f_X6_fallOff T_12 P L_9) fun q => lt q.1 fun _r15 => lt q.2.1 fun T_16 => lt q.2.2 fun L_17 => bd (f_X6_stealAway T_16 P L_17) fun q => lt q.1 fun T_20 => lt q.2 fun L_21 => lt (st T_20 0 0 ((T_20 0 0) + 1)) fun T_24 => k0 T_24 L_21) = bd (tgw T P L x) (fun q => k0 q.1 q.2) := by
  unfold tgw
  cases f_X6_takeDown T P L x with
  | none => rfl
  | some q =>
    show (bd (f_X6_getIn q.2.1 P) fun T_12 => bd (f_X6_fallOff T_12 P q.2.2) fun q => lt q.1 fun _r15 => lt q.2.1 fun T_16 => lt q.2.2 fun L_17 => bd (f_X6_stealAway T_16 P L_17) fun q => lt q.1 fun T_20 => lt q.2 fun L_21 => lt (st T_20 0 0 ((T_20 0 0) + 1)) fun T_24 => k0 T_24 L_21) = bd (bd (f_X6_getIn q.2.1 P) fun T_8 => f_X6_wayOn T_8 P q.2.2) (fun q => k0 q.1 q.2)
    cases f_X6_getIn q.2.1 P with
    | none => rfl
    | some t =>
      show (bd (f_X6_fallOff t P q.2.2) fun q => lt q.1 fun _r15 => lt q.2.1 fun T_16 => lt q.2.2 fun L_17 => bd (f_X6_stealAway T_16 P L_17) fun q => lt q.1 fun T_20 => lt q.2 fun L_21 => lt (st T_20 0 0 ((T_20 0 0) + 1)) fun T_24 => k0 T_24 L_21) = bd (f_X6_wayOn t P q.2.2) (fun q => k0 q.1 q.2)
      unfold f_X6_wayOn
      cases f_X6_fallOff t P q.2.2 with
      | none => rfl
      | some u =>
        show (bd (f_X6_stealAway u.2.1 P u.2.2) fun q => lt q.1 fun T_20 => lt q.2 fun L_21 => lt (st T_20 0 0 ((T_20 0 0) + 1)) fun T_24 => k0 T_24 L_21) = bd (bd (f_X6_stealAway u.2.1 P u.2.2) fun q => lt q.1 fun T_6 => lt q.2 fun L_7 => lt (st T_6 0 0 ((T_6 0 0) + 1)) fun T_10 => some (T_10, L_7)) (fun q => k0 q.1 q.2)
        cases f_X6_stealAway u.2.1 P u.2.2 with
        | none => rfl
        | some v => rfl
def rF (T0 S0 : Tr) (L0 : Lo) (T S : Tr) (L : Lo) : Prop := aM 1 S0 S ∧ oD L0 L ∧ ∀ a j, ¬ (a = 0 ∧ j ≤ 2) → ¬ (a = 11 ∨ a = 12) → ¬ (14 ≤ a ∧ a ≤ 19) → T a j = T0 a j
theorem rF_r {T S : Tr} {L : Lo} : rF T S L T S L := ⟨aM_r, oD_r, fun _ _ _ _ _ => rfl⟩
def rnQ (P T0 S0 : Tr) (L0 : Lo) (q q' : Tr × Lo) : Prop := rI 1 q'.1 ∧ pK P q'.1 ∧ inv 1 q'.1 ∧ drw q.1 q'.2 ∧ rF T0 S0 L0 q.1 q'.1 q'.2 ∧ q.1 0 1 = q'.1 61 1 ∧ (∀ p : Nat, (p : Int) < (S0 0 13).toInt → q.1 12 p = q'.1 60 (6 * 1 + p)) ∧ ∀ i : Nat, (i : Int) < (S0 0 14).toInt → q.1 14 i = q'.1 53 (10 * 1 + i)
theorem e_rn {P T0 S0 : Tr} {L0 : Lo} (h70 : S0 0 70 = 0) (N : Nat) : ∀ (M : Nat) (T S : Tr) (L Lc : Lo), Rl 1 P T S → drw T L → rF T0 S0 L0 T S L → E2 (lpF (fun _ _ => none) (fB_X6_runToEnd_L0 P) N T Lc) (lpF (fun _ _ => none) (fB_X8_toEnd_L0) M S L) (rnQ P T0 S0 L0) := by
  induction N with
  | zero => intro M T S L Lc _ _ _; exact E2_nl
  | succ N ih =>
    intro M T S L Lc hR hd hf
    have t00 : T 0 0 = S 62 1 := hR.2.2.2.1.1
    have b62 : 0 ≤ (S 62 1).toInt ∧ (S 62 1).toInt ≤ 21 := hR.1.1 62 1
    have e13 : S 0 13 = S0 0 13 := hf.1 0 13 (aM_0 (by omega) (by omega))
    have e14 : S 0 14 = S0 0 14 := hf.1 0 14 (aM_0 (by omega) (by omega))
    have e70 : S 0 70 = 0 := (hf.1 0 70 (aM_0 (by omega) (by omega))).trans h70
    show E2 (fB_X6_runToEnd_L0 P (lpF (fun _ _ => none) (fB_X6_runToEnd_L0 P) N) T Lc) _ _
    generalize lpF (fun _ _ => none) (fB_X6_runToEnd_L0 P) N = k at ih ⊢
    unfold fB_X6_runToEnd_L0
    by_cases c : (20 : Int32) < T 0 0
    · rw [if_pos c]
      have c1 := Int32.lt_iff_toInt_lt.mp c
      rw [t00, show (20 : Int32).toInt = 20 by decide] at c1
      have c21 : (21 : Int32) ≤ S 62 1 := Int32.le_iff_toInt_le.mpr (by rw [show (21 : Int32).toInt = 21 by decide]; omega)
      cases M with
      | zero => exact E2_nr
      | succ M =>
        show E2 _ (fB_X8_toEnd_L0 (lpF (fun _ _ => none) (fB_X8_toEnd_L0) M) S L) _
        unfold fB_X8_toEnd_L0
        rw [if_pos c21]
        exact E2_some ⟨hR.1, hR.2.1, hR.2.2.2.2, hd, hf, hR.2.2.2.1.2.1, fun p hp => (hR.2.2.2.1.2.2.1 p (by rw [e13]; exact hp)).2, fun i hi => (hR.2.2.2.1.2.2.2.1 i (by rw [e14]; exact hi)).1⟩
    · rw [if_neg c]
      have c1 : (S 62 1).toInt ≤ 20 := by
        have := tq_ltn (x := (20 : Int32)) (y := T 0 0) (a := 20) (by decide) rfl c
        rw [t00] at this
        exact this
      refine E2_bl (bz hR) (fun r hr => ?_)
      rcases hr with ⟨rfl, hid⟩ | rfl
      · rw [if_pos rfl]
        refine E2_ep (R := fun q => q = (T, Lc)) (Ep_some rfl) (end_id M S L hR.1 hR.2.2.2.2 hid) (fun u v hu hv => ?_)
        obtain ⟨⟨v1, v2, v3, v4, v5, v6⟩, w1, _⟩ := hv
        rw [hu]
        refine ⟨w1, pK_M hR.2.1 v4, v2, ?_, ⟨aM_t hf.1 v4, ?_, hf.2.2⟩, ?_, fun p hp => ?_, fun i hi => ?_⟩
        · rw [v1]; exact hd
        · rw [v1]; exact hf.2.1
        · show T 0 1 = v.1 61 1
          rw [v6 61 1 (by omega) (by omega) (by omega) (by omega) (by omega)]
          exact hR.2.2.2.1.2.1
        · show T 12 p = v.1 60 (6 * 1 + p)
          rw [v6 60 _ (by omega) (by omega) (by omega) (by omega) (by omega)]
          exact (hR.2.2.2.1.2.2.1 p (by rw [e13]; exact hp)).2
        · show T 14 i = v.1 53 (10 * 1 + i)
          rw [(v5 i (by rw [e14]; exact hi)).1]
          exact (hR.2.2.2.1.2.2.2.1 i (by rw [e14]; exact hi)).1
      · rw [if_neg (by decide), run_in]
        refine E2_ckl (fun _ => ?_)
        cases M with
        | zero => exact E2_nr
        | succ M =>
          show E2 _ (fB_X8_toEnd_L0 (lpF (fun _ _ => none) (fB_X8_toEnd_L0) M) S L) _
          unfold fB_X8_toEnd_L0
          have c21 : ¬ (21 : Int32) ≤ S 62 1 := fun g => by
            have g := Int32.le_iff_toInt_le.mp g
            rw [show (21 : Int32).toInt = 21 by decide] at g
            omega
          rw [if_neg c21]
          refine E2_bd (e_goB (b := 1) (xb := 1) (by decide) (by decide) hR hd (lim_0 hR e70 c1) c1) (fun q q' hq => E2_ltr (fun S2 e2 => E2_ltr (fun L3 e3 => ?_)))
          obtain ⟨p1, p2, _, p4, p5, p6⟩ := ps_of hq c1 b62.1
          rw [e2, e3]
          exact ih M q.1 q'.1 q'.2 q.2 p1 p2 ⟨aM_t hf.1 p4, oD_t hf.2.1 p5, fun a j n1 n2 n3 => (p6 a j n1 n2 n3).trans (hf.2.2 a j n1 n2 n3)⟩
theorem e_run {P T S : Tr} {L Lc : Lo} (hR : Rl 1 P T S) (hd : drw T L) (h70 : S 0 70 = 0) : E2 (f_X6_runToEnd T P Lc) (f_X8_toEnd S L) (rnQ P T S L) := by
  unfold f_X6_runToEnd fL_X6_runToEnd_L0 f_X8_toEnd fL_X8_toEnd_L0
  exact e_rn h70 2000 2000 T S L Lc hR hd rF_r
-- 62.zaz.34.z24
/-! a trial is begun -/
def cpH (S q : Tr) : Prop := (∀ j, j < 10 → q 53 (10 + j) = S 53 j ∧ q 54 (10 + j) = S 54 j) ∧ (∀ j, j < 50 → q 55 (50 + j) = S 55 j) ∧ (∀ j, j < 5 → q 56 (5 + j) = S 56 j) ∧ (∀ j, j < 6 → q 57 (6 + j) = S 57 j ∧ q 58 (6 + j) = S 58 j ∧ q 59 (6 + j) = S 59 j ∧ q 60 (6 + j) = S 60 j) ∧ q 61 1 = S 61 0 ∧ q 62 1 = S 62 0 ∧ q 63 1 = 0
def plT (S q : Tr) : Prop := q 0 64 = S 23 0 ∧ (∀ j, 65 ≤ j → j ≤ 70 → q 0 j = 0) ∧ ∀ i, i < 10 → q 72 i = -1
def hF0 (S q : Tr) : Prop := ∀ a j, ¬ ((a = 53 ∨ a = 54) ∧ 10 ≤ j) → ¬ (a = 55 ∧ 50 ≤ j) → ¬ (a = 56 ∧ 5 ≤ j) → ¬ (57 ≤ a ∧ a ≤ 60 ∧ 6 ≤ j) → ¬ (61 ≤ a ∧ a ≤ 63 ∧ 1 ≤ j) → ¬ (a = 0 ∧ 64 ≤ j ∧ j ≤ 70) → ¬ a = 72 → q a j = S a j
theorem jh {c x : Int32} {k n : Nat} (hc : c.toInt = k) (hx : x.toInt = n) (h : k + n ≤ 100000) : (c + x).toNatClampNeg = k + n := i_cn (by rw [i_addK hc hx (by omega) (by omega)]; omega)
theorem e_plnT (S : Tr) : Ep (f_X8_plainTried S) (fun q => plT S q ∧ ∀ a j, ¬ (a = 0 ∧ 64 ≤ j ∧ j ≤ 70) → ¬ a = 72 → q a j = S a j) := by
  unfold f_X8_plainTried
  refine Ep_lt (fun S1 e1 => Ep_lt (fun S2 e2 => Ep_lt (fun S3 e3 => Ep_lt (fun S4 e4 => Ep_lt (fun S5 e5 => Ep_lt (fun S6 e6 => Ep_lt (fun S7 e7 => ?_)))))))
  have h64 : S7 0 64 = S 23 0 := by rw [e7, st_ne (by omega), e6, st_ne (by omega), e5, st_ne (by omega), e4, st_ne (by omega), e3, st_ne (by omega), e2, st_ne (by omega), e1, st_same]
  have h65 : S7 0 65 = 0 := by rw [e7, st_ne (by omega), e6, st_ne (by omega), e5, st_ne (by omega), e4, st_ne (by omega), e3, st_ne (by omega), e2, st_same]
  have h66 : S7 0 66 = 0 := by rw [e7, st_ne (by omega), e6, st_ne (by omega), e5, st_ne (by omega), e4, st_ne (by omega), e3, st_same]
  have h67 : S7 0 67 = 0 := by rw [e7, st_ne (by omega), e6, st_ne (by omega), e5, st_ne (by omega), e4, st_same]
  have h68 : S7 0 68 = 0 := by rw [e7, st_ne (by omega), e6, st_ne (by omega), e5, st_same]
  have h69 : S7 0 69 = 0 := by rw [e7, st_ne (by omega), e6, st_same]
  have h70 : S7 0 70 = 0 := by rw [e7, st_same]
  have hf : ∀ a j, ¬ (a = 0 ∧ 64 ≤ j ∧ j ≤ 70) → S7 a j = S a j := fun a j n => by rw [e7, st_no (by omega), e6, st_no (by omega), e5, st_no (by omega), e4, st_no (by omega), e3, st_no (by omega), e2, st_no (by omega), e1, st_no (by omega)]
  have lp : ∀ (N n : Nat) (x : Int32) (S8 : Tr), x.toInt = n → n ≤ 10 → (∀ i, i < n → S8 72 i = -1) → (∀ a j, ¬ a = 72 → S8 a j = S7 a j) → Ep (lpF (fun _ _ => none) (fB_X8_plainTried_L42) N x S8) (fun q => (∀ i, i < 10 → q 72 i = -1) ∧ ∀ a j, ¬ a = 72 → q a j = S7 a j) := by
    intro N
    induction N with
    | zero => intro n x S8 _ _ _ _; exact Ep_none
    | succ N ih =>
      intro n x S8 hx hn hz ho
      show Ep (fB_X8_plainTried_L42 (lpF (fun _ _ => none) (fB_X8_plainTried_L42) N) x S8) _
      generalize lpF (fun _ _ => none) (fB_X8_plainTried_L42) N = k at ih ⊢
      unfold fB_X8_plainTried_L42
      refine Ep_ite (fun c => ?_) (fun c => ?_)
      · have := tq_le (a := 10) (by decide) hx c
        exact Ep_some ⟨fun i hi => hz i (by omega), ho⟩
      · have := tq_len (b := n) (a := 10) (by decide) hx c
        refine Ep_ck (Ep_lt (fun S9 e9 => Ep_lt (fun y ey => ?_)))
        rw [i_cn hx] at e9
        refine ih (n + 1) y S9 (by rw [ey]; exact i_p1 hx (by omega)) (by omega) (fun i hi => ?_) (fun a j na => by rw [e9, st_oth na]; exact ho a j na)
        rcases (by omega : i < n ∨ i = n) with g | rfl
        · rw [e9, st_ne (by omega)]; exact hz i g
        · rw [e9, st_same]
  unfold fL_X8_plainTried_L42
  refine Ep_mono (lp 2000 0 0 S7 (by decide) (by omega) (fun i hi => absurd hi (by omega)) (fun _ _ _ => rfl)) (fun q hq => ?_)
  obtain ⟨q1, q2⟩ := hq
  refine ⟨⟨(q2 0 64 (by omega)).trans h64, fun j h1 h2 => ?_, q1⟩, fun a j n1 n2 => (q2 a j n2).trans (hf a j n1)⟩
  rw [q2 0 j (by omega)]
  rcases (by omega : j = 65 ∨ j = 66 ∨ j = 67 ∨ j = 68 ∨ j = 69 ∨ j = 70) with rfl | rfl | rfl | rfl | rfl | rfl
  · exact h65
  · exact h66
  · exact h67
  · exact h68
  · exact h69
  · exact h70
theorem e_layT (S : Tr) : Ep (f_X8_layTried S) (fun q => cpH S q ∧ plT S q ∧ hF0 S q) := by
  have j174 : ∀ S1 : Tr, (∀ j, j < 10 → S1 53 (10 + j) = S 53 j ∧ S1 54 (10 + j) = S 54 j) → (∀ j, j < 50 → S1 55 (50 + j) = S 55 j) → (∀ j, j < 5 → S1 56 (5 + j) = S 56 j) → (∀ j, j < 6 → S1 57 (6 + j) = S 57 j ∧ S1 58 (6 + j) = S 58 j ∧ S1 59 (6 + j) = S 59 j ∧ S1 60 (6 + j) = S 60 j) → hF0 S S1 → Ep (fJ_X8_layTried_J174 S1) (fun q => cpH S q ∧ plT S q ∧ hF0 S q) := by
    intro S1 h1 h2 h3 h4 hf
    unfold fJ_X8_layTried_J174
    refine Ep_lt (fun S5 e5 => Ep_lt (fun S6 e6 => Ep_lt (fun S7 e7 => Ep_bd (e_plnT S7) (fun q hq => Ep_some ?_))))
    obtain ⟨⟨p1, p2, p3⟩, p4⟩ := hq
    have f7 : ∀ a j, ¬ (61 ≤ a ∧ a ≤ 63) → S7 a j = S1 a j := fun a j n => by rw [e7, st_no (by omega), e6, st_no (by omega), e5, st_no (by omega)]
    have g : ∀ a j, ¬ (61 ≤ a ∧ a ≤ 63) → ¬ (a = 0 ∧ 64 ≤ j ∧ j ≤ 70) → ¬ a = 72 → q a j = S1 a j := fun a j n1 n2 n3 => (p4 a j n2 n3).trans (f7 a j n1)
    have a61 : S1 61 0 = S 61 0 := hf 61 0 (by omega) (by omega) (by omega) (by omega) (by omega) (by omega) (by omega)
    have a62 : S1 62 0 = S 62 0 := hf 62 0 (by omega) (by omega) (by omega) (by omega) (by omega) (by omega) (by omega)
    have a23 : S7 23 0 = S 23 0 := (f7 23 0 (by omega)).trans (hf 23 0 (by omega) (by omega) (by omega) (by omega) (by omega) (by omega) (by omega))
    refine ⟨⟨fun j hj => ?_, fun j hj => ?_, fun j hj => ?_, fun j hj => ?_, ?_, ?_, ?_⟩, ⟨p1.trans a23, p2, p3⟩, fun a j n1 n2 n3 n4 n5 n6 n7 => ?_⟩
    · rw [g 53 _ (by omega) (by omega) (by omega), g 54 _ (by omega) (by omega) (by omega)]; exact h1 j hj
    · rw [g 55 _ (by omega) (by omega) (by omega)]; exact h2 j hj
    · rw [g 56 _ (by omega) (by omega) (by omega)]; exact h3 j hj
    · rw [g 57 _ (by omega) (by omega) (by omega), g 58 _ (by omega) (by omega) (by omega), g 59 _ (by omega) (by omega) (by omega), g 60 _ (by omega) (by omega) (by omega)]; exact h4 j hj
    · rw [p4 61 1 (by omega) (by omega), e7, st_oth (by omega), e6, st_oth (by omega), e5, st_same, a61]
    · rw [p4 62 1 (by omega) (by omega), e7, st_oth (by omega), e6, st_same, e5, st_oth (by omega), a62]
    · rw [p4 63 1 (by omega) (by omega), e7, st_same]
    · rw [p4 a j n6 n7, e7, st_no (by omega), e6, st_no (by omega), e5, st_no (by omega)]
      exact hf a j n1 n2 n3 n4 n5 n6 n7
  have l102 : ∀ (N n : Nat) (x : Int32) (S1 : Tr), x.toInt = n → n ≤ 6 → (∀ j, j < 10 → S1 53 (10 + j) = S 53 j ∧ S1 54 (10 + j) = S 54 j) → (∀ j, j < 50 → S1 55 (50 + j) = S 55 j) → (∀ j, j < 5 → S1 56 (5 + j) = S 56 j) → (∀ j, j < n → S1 57 (6 + j) = S 57 j ∧ S1 58 (6 + j) = S 58 j ∧ S1 59 (6 + j) = S 59 j ∧ S1 60 (6 + j) = S 60 j) → hF0 S S1 → Ep (lpF (fun _ _ => none) (fB_X8_layTried_L102) N x S1) (fun q => cpH S q ∧ plT S q ∧ hF0 S q) := by
    intro N
    induction N with
    | zero => intro n x S1 _ _ _ _ _ _ _; exact Ep_none
    | succ N ih =>
      intro n x S1 hx hn h1 h2 h3 h4 hf
      show Ep (fB_X8_layTried_L102 (lpF (fun _ _ => none) (fB_X8_layTried_L102) N) x S1) _
      generalize lpF (fun _ _ => none) (fB_X8_layTried_L102) N = k at ih ⊢
      unfold fB_X8_layTried_L102
      refine Ep_ite (fun c => ?_) (fun c => ?_)
      · have := tq_le (a := 6) (by decide) hx c
        exact j174 S1 h1 h2 h3 (fun j hj => h4 j (by omega)) hf
      · have := tq_len (b := n) (a := 6) (by decide) hx c
        have j6 : ((6 : Int32) + x).toNatClampNeg = 6 + n := jh (by decide) hx (by omega)
        rw [j6, i_cn hx]
        refine Ep_ck (Ep_ck (Ep_lt (fun S13 e13 => Ep_lt (fun S14 e14 => Ep_lt (fun S15 e15 => Ep_lt (fun S16 e16 => Ep_lt (fun y ey => ?_)))))))
        have g : ∀ a j, ¬ (57 ≤ a ∧ a ≤ 60 ∧ j = 6 + n) → S16 a j = S1 a j := fun a j q => by rw [e16, st_no (by omega), e15, st_no (by omega), e14, st_no (by omega), e13, st_no (by omega)]
        have z : ∀ a, 57 ≤ a → a ≤ 60 → S1 a n = S a n := fun a a1 a2 => hf a n (by omega) (by omega) (by omega) (by omega) (by omega) (by omega) (by omega)
        refine ih (n + 1) y S16 (by rw [ey]; exact i_p1 hx (by omega)) (by omega) (fun j hj => ?_) (fun j hj => ?_) (fun j hj => ?_) (fun j hj => ?_) (fun a j n1 n2 n3 n4 n5 n6 n7 => ?_)
        · rw [g 53 _ (by omega), g 54 _ (by omega)]; exact h1 j hj
        · rw [g 55 _ (by omega)]; exact h2 j hj
        · rw [g 56 _ (by omega)]; exact h3 j hj
        · rcases (by omega : j < n ∨ j = n) with q | rfl
          · rw [g 57 _ (by omega), g 58 _ (by omega), g 59 _ (by omega), g 60 _ (by omega)]; exact h4 j q
          · refine ⟨?_, ?_, ?_, ?_⟩
            · rw [e16, st_oth (by omega), e15, st_oth (by omega), e14, st_oth (by omega), e13, st_same]; exact z 57 (by omega) (by omega)
            · rw [e16, st_oth (by omega), e15, st_oth (by omega), e14, st_same, e13, st_oth (by omega)]; exact z 58 (by omega) (by omega)
            · rw [e16, st_oth (by omega), e15, st_same, e14, st_oth (by omega), e13, st_oth (by omega)]; exact z 59 (by omega) (by omega)
            · rw [e16, st_same, e15, st_oth (by omega), e14, st_oth (by omega), e13, st_oth (by omega)]; exact z 60 (by omega) (by omega)
        · rw [g a j (by omega)]; exact hf a j n1 n2 n3 n4 n5 n6 n7
  have l75 : ∀ (N n : Nat) (x : Int32) (S1 : Tr), x.toInt = n → n ≤ 5 → (∀ j, j < 10 → S1 53 (10 + j) = S 53 j ∧ S1 54 (10 + j) = S 54 j) → (∀ j, j < 50 → S1 55 (50 + j) = S 55 j) → (∀ j, j < n → S1 56 (5 + j) = S 56 j) → hF0 S S1 → Ep (lpF (fun _ _ => none) (fB_X8_layTried_L75) N x S1) (fun q => cpH S q ∧ plT S q ∧ hF0 S q) := by
    intro N
    induction N with
    | zero => intro n x S1 _ _ _ _ _ _; exact Ep_none
    | succ N ih =>
      intro n x S1 hx hn h1 h2 h3 hf
      show Ep (fB_X8_layTried_L75 (lpF (fun _ _ => none) (fB_X8_layTried_L75) N) x S1) _
      generalize lpF (fun _ _ => none) (fB_X8_layTried_L75) N = k at ih ⊢
      unfold fB_X8_layTried_L75
      refine Ep_ite (fun c => ?_) (fun c => ?_)
      · have := tq_le (a := 5) (by decide) hx c
        unfold fL_X8_layTried_L102
        exact l102 2000 0 0 S1 (by decide) (by omega) h1 h2 (fun j hj => h3 j (by omega)) (fun j hj => absurd hj (by omega)) hf
      · have := tq_len (b := n) (a := 5) (by decide) hx c
        have j6 : ((5 : Int32) + x).toNatClampNeg = 5 + n := jh (by decide) hx (by omega)
        rw [j6, i_cn hx]
        refine Ep_ck (Ep_ck (Ep_lt (fun S20 e20 => Ep_lt (fun y ey => ?_))))
        have g : ∀ a j, ¬ (a = 56 ∧ j = 5 + n) → S20 a j = S1 a j := fun a j q => by rw [e20, st_no q]
        refine ih (n + 1) y S20 (by rw [ey]; exact i_p1 hx (by omega)) (by omega) (fun j hj => ?_) (fun j hj => ?_) (fun j hj => ?_) (fun a j n1 n2 n3 n4 n5 n6 n7 => ?_)
        · rw [g 53 _ (by omega), g 54 _ (by omega)]; exact h1 j hj
        · rw [g 55 _ (by omega)]; exact h2 j hj
        · rcases (by omega : j < n ∨ j = n) with q | rfl
          · rw [g 56 _ (by omega)]; exact h3 j q
          · rw [e20, st_same]; exact hf 56 j (by omega) (by omega) (by omega) (by omega) (by omega) (by omega) (by omega)
        · rw [g a j (by omega)]; exact hf a j n1 n2 n3 n4 n5 n6 n7
  have l46 : ∀ (N n : Nat) (x : Int32) (S1 : Tr), x.toInt = n → n ≤ 50 → (∀ j, j < 10 → S1 53 (10 + j) = S 53 j ∧ S1 54 (10 + j) = S 54 j) → (∀ j, j < n → S1 55 (50 + j) = S 55 j) → hF0 S S1 → Ep (lpF (fun _ _ => none) (fB_X8_layTried_L46) N x S1) (fun q => cpH S q ∧ plT S q ∧ hF0 S q) := by
    intro N
    induction N with
    | zero => intro n x S1 _ _ _ _ _; exact Ep_none
    | succ N ih =>
      intro n x S1 hx hn h1 h2 hf
      show Ep (fB_X8_layTried_L46 (lpF (fun _ _ => none) (fB_X8_layTried_L46) N) x S1) _
      generalize lpF (fun _ _ => none) (fB_X8_layTried_L46) N = k at ih ⊢
      unfold fB_X8_layTried_L46
      refine Ep_ite (fun c => ?_) (fun c => ?_)
      · have := tq_le (a := 50) (by decide) hx c
        unfold fL_X8_layTried_L75
        exact l75 2000 0 0 S1 (by decide) (by omega) h1 (fun j hj => h2 j (by omega)) (fun j hj => absurd hj (by omega)) hf
      · have := tq_len (b := n) (a := 50) (by decide) hx c
        have j6 : ((50 : Int32) + x).toNatClampNeg = 50 + n := jh (by decide) hx (by omega)
        rw [j6, i_cn hx]
        refine Ep_ck (Ep_ck (Ep_lt (fun S20 e20 => Ep_lt (fun y ey => ?_))))
        have g : ∀ a j, ¬ (a = 55 ∧ j = 50 + n) → S20 a j = S1 a j := fun a j q => by rw [e20, st_no q]
        refine ih (n + 1) y S20 (by rw [ey]; exact i_p1 hx (by omega)) (by omega) (fun j hj => ?_) (fun j hj => ?_) (fun a j n1 n2 n3 n4 n5 n6 n7 => ?_)
        · rw [g 53 _ (by omega), g 54 _ (by omega)]; exact h1 j hj
        · rcases (by omega : j < n ∨ j = n) with q | rfl
          · rw [g 55 _ (by omega)]; exact h2 j q
          · rw [e20, st_same]; exact hf 55 j (by omega) (by omega) (by omega) (by omega) (by omega) (by omega) (by omega)
        · rw [g a j (by omega)]; exact hf a j n1 n2 n3 n4 n5 n6 n7
  have l2 : ∀ (N n : Nat) (x : Int32) (S1 : Tr), x.toInt = n → n ≤ 10 → (∀ j, j < n → S1 53 (10 + j) = S 53 j ∧ S1 54 (10 + j) = S 54 j) → hF0 S S1 → Ep (lpF (fun _ _ => none) (fB_X8_layTried_L2) N x S1) (fun q => cpH S q ∧ plT S q ∧ hF0 S q) := by
    intro N
    induction N with
    | zero => intro n x S1 _ _ _ _; exact Ep_none
    | succ N ih =>
      intro n x S1 hx hn h1 hf
      show Ep (fB_X8_layTried_L2 (lpF (fun _ _ => none) (fB_X8_layTried_L2) N) x S1) _
      generalize lpF (fun _ _ => none) (fB_X8_layTried_L2) N = k at ih ⊢
      unfold fB_X8_layTried_L2
      refine Ep_ite (fun c => ?_) (fun c => ?_)
      · have := tq_le (a := 10) (by decide) hx c
        unfold fL_X8_layTried_L46
        exact l46 2000 0 0 S1 (by decide) (by omega) (fun j hj => h1 j (by omega)) (fun j hj => absurd hj (by omega)) hf
      · have := tq_len (b := n) (a := 10) (by decide) hx c
        have j6 : ((10 : Int32) + x).toNatClampNeg = 10 + n := jh (by decide) hx (by omega)
        rw [j6, i_cn hx]
        refine Ep_ck (Ep_ck (Ep_lt (fun S28 e28 => Ep_lt (fun S29 e29 => Ep_lt (fun y ey => ?_)))))
        have g : ∀ a j, ¬ ((a = 53 ∨ a = 54) ∧ j = 10 + n) → S29 a j = S1 a j := fun a j q => by rw [e29, st_no (by omega), e28, st_no (by omega)]
        have z : ∀ a, a = 53 ∨ a = 54 → S1 a n = S a n := fun a q => hf a n (by omega) (by omega) (by omega) (by omega) (by omega) (by omega) (by omega)
        refine ih (n + 1) y S29 (by rw [ey]; exact i_p1 hx (by omega)) (by omega) (fun j hj => ?_) (fun a j n1 n2 n3 n4 n5 n6 n7 => ?_)
        · rcases (by omega : j < n ∨ j = n) with q | rfl
          · rw [g 53 _ (by omega), g 54 _ (by omega)]; exact h1 j q
          · refine ⟨?_, ?_⟩
            · rw [e29, st_oth (by omega), e28, st_same]; exact z 53 (by omega)
            · rw [e29, st_same, e28, st_oth (by omega)]; exact z 54 (by omega)
        · rw [g a j (by omega)]; exact hf a j n1 n2 n3 n4 n5 n6 n7
  unfold f_X8_layTried fL_X8_layTried_L2
  exact l2 2000 0 0 S (by decide) (by omega) (fun j hj => absurd hj (by omega)) (fun _ _ _ _ _ _ _ _ _ => rfl)
-- 62.zaz.35.z25
/-! a train copied; what holds of the train that is now -/
theorem cp_at {f g : Nat → Int32} {n j : Nat} (h : j < n) : va_cpy f g 0 0 n j = f j := by
  unfold va_cpy
  rw [if_pos ⟨Nat.zero_le _, by omega⟩]
  simp
def cpA (T T2 A : Tr) : Prop := (∀ j, j ≤ 4 → A 0 j = T2 0 j) ∧ (∀ j, j < 6 → A 9 j = T2 9 j ∧ A 10 j = T2 10 j ∧ A 11 j = T2 11 j ∧ A 12 j = T2 12 j) ∧ (∀ j, j < 10 → A 13 j = T2 13 j ∧ A 14 j = T2 14 j ∧ A 15 j = T2 15 j) ∧ (∀ j, j < 50 → A 16 j = T2 16 j) ∧ (∀ j, j < 5 → A 17 j = T2 17 j ∧ A 18 j = T2 18 j) ∧ ∀ j, 5 ≤ j → A 0 j = T 0 j
theorem e_cpA (T T2 : Tr) (q q2 : Nat) : Ep (f_X6_copy T T2 q q2) (fun r => cpA T T2 r.1) := by
  unfold f_X6_copy
  refine Ep_lt (fun A1 e1 => Ep_lt (fun A2 e2 => Ep_lt (fun A3 e3 => Ep_lt (fun A4 e4 => Ep_lt (fun A5 e5 => Ep_lt (fun A6 e6 => Ep_lt (fun A7 e7 => Ep_lt (fun A8 e8 => Ep_lt (fun A9 e9 => Ep_lt (fun A10 e10 => Ep_lt (fun A11 e11 => Ep_lt (fun A12 e12 => Ep_lt (fun A13 e13 => Ep_lt (fun A14 e14 => Ep_lt (fun A15 e15 => Ep_some ?_)))))))))))))))
  have z : ∀ j, A15 0 j = A5 0 j := fun j => by rw [e15, stC_oth (by decide), e14, stC_oth (by decide), e13, stC_oth (by decide), e12, stC_oth (by decide), e11, stC_oth (by decide), e10, stC_oth (by decide), e9, stC_oth (by decide), e8, stC_oth (by decide), e7, stC_oth (by decide), e6, stC_oth (by decide)]
  have c0 : A5 0 0 = T2 0 0 := by rw [e5, st_ne (by decide), e4, st_ne (by decide), e3, st_ne (by decide), e2, st_ne (by decide), e1, st_same]
  have c1 : A5 0 1 = T2 0 1 := by rw [e5, st_ne (by decide), e4, st_ne (by decide), e3, st_ne (by decide), e2, st_same]
  have c2 : A5 0 2 = T2 0 2 := by rw [e5, st_ne (by decide), e4, st_ne (by decide), e3, st_same]
  have c3 : A5 0 3 = T2 0 3 := by rw [e5, st_ne (by decide), e4, st_same]
  have c4 : A5 0 4 = T2 0 4 := by rw [e5, st_same]
  have c5 : ∀ j, 5 ≤ j → A5 0 j = T 0 j := fun j hj => by rw [e5, st_ne (by omega), e4, st_ne (by omega), e3, st_ne (by omega), e2, st_ne (by omega), e1, st_ne (by omega)]
  have r9 : ∀ j, j < 6 → A15 9 j = T2 9 j := fun j hj => by rw [e15, stC_oth (by decide), e14, stC_oth (by decide), e13, stC_oth (by decide), e12, stC_oth (by decide), e11, stC_oth (by decide), e10, stC_oth (by decide), e9, stC_oth (by decide), e8, stC_oth (by decide), e7, stC_oth (by decide), e6, stC_same, cp_at hj]
  have r10 : ∀ j, j < 6 → A15 10 j = T2 10 j := fun j hj => by rw [e15, stC_oth (by decide), e14, stC_oth (by decide), e13, stC_oth (by decide), e12, stC_oth (by decide), e11, stC_oth (by decide), e10, stC_oth (by decide), e9, stC_oth (by decide), e8, stC_oth (by decide), e7, stC_same, cp_at hj]
  have r11 : ∀ j, j < 6 → A15 11 j = T2 11 j := fun j hj => by rw [e15, stC_oth (by decide), e14, stC_oth (by decide), e13, stC_oth (by decide), e12, stC_oth (by decide), e11, stC_oth (by decide), e10, stC_oth (by decide), e9, stC_oth (by decide), e8, stC_same, cp_at hj]
  have r12 : ∀ j, j < 6 → A15 12 j = T2 12 j := fun j hj => by rw [e15, stC_oth (by decide), e14, stC_oth (by decide), e13, stC_oth (by decide), e12, stC_oth (by decide), e11, stC_oth (by decide), e10, stC_oth (by decide), e9, stC_same, cp_at hj]
  have r13 : ∀ j, j < 10 → A15 13 j = T2 13 j := fun j hj => by rw [e15, stC_oth (by decide), e14, stC_oth (by decide), e13, stC_oth (by decide), e12, stC_oth (by decide), e11, stC_oth (by decide), e10, stC_same, cp_at hj]
  have r14 : ∀ j, j < 10 → A15 14 j = T2 14 j := fun j hj => by rw [e15, stC_oth (by decide), e14, stC_oth (by decide), e13, stC_oth (by decide), e12, stC_oth (by decide), e11, stC_same, cp_at hj]
  have r15 : ∀ j, j < 10 → A15 15 j = T2 15 j := fun j hj => by rw [e15, stC_oth (by decide), e14, stC_oth (by decide), e13, stC_oth (by decide), e12, stC_same, cp_at hj]
  have r16 : ∀ j, j < 50 → A15 16 j = T2 16 j := fun j hj => by rw [e15, stC_oth (by decide), e14, stC_oth (by decide), e13, stC_same, cp_at hj]
  have r17 : ∀ j, j < 5 → A15 17 j = T2 17 j := fun j hj => by rw [e15, stC_oth (by decide), e14, stC_same, cp_at hj]
  have r18 : ∀ j, j < 5 → A15 18 j = T2 18 j := fun j hj => by rw [e15, stC_same, cp_at hj]
  refine ⟨fun j hj => ?_, fun j hj => ⟨r9 j hj, r10 j hj, r11 j hj, r12 j hj⟩, fun j hj => ⟨r13 j hj, r14 j hj, r15 j hj⟩, r16, fun j hj => ⟨r17 j hj, r18 j hj⟩, fun j hj => (z j).trans (c5 j hj)⟩
  show A15 0 j = T2 0 j
  rw [z]
  rcases (by omega : j = 0 ∨ j = 1 ∨ j = 2 ∨ j = 3 ∨ j = 4) with rfl | rfl | rfl | rfl | rfl
  · exact c0
  · exact c1
  · exact c2
  · exact c3
  · exact c4
def sttQ (Tn A : Tr) : Prop := cpA A Tn A ∧ A 0 5 = 0 ∧ A 0 6 = 1 ∧ A 0 7 = 1
theorem e_stt (pa qa : Nat → Nat) (Tn Tu : Tr) (q0 q2 : Nat) : Ep (f_X7_startTrial pa qa Tn Tu q0 q2) (fun r => sttQ Tn r.1) := by
  unfold f_X7_startTrial
  refine Ep_bd (e_cpA Tu Tn q2 q0) (fun q hq => Ep_lt (fun A1 e1 => Ep_lt (fun n2 _ => Ep_lt (fun A5 e5 => Ep_lt (fun A6 e6 => Ep_lt (fun A7 e7 => Ep_some ?_))))))
  rw [← e1] at hq
  obtain ⟨h1, h2, h3, h4, h5, h6⟩ := hq
  have f : ∀ a j, ¬ (a = 0 ∧ 5 ≤ j) → A7 a j = A1 a j := fun a j n => by rw [e7, st_no (by omega), e6, st_no (by omega), e5, st_no (by omega)]
  refine ⟨⟨fun j hj => (f 0 j (by omega)).trans (h1 j hj), fun j hj => ?_, fun j hj => ?_, fun j hj => (f 16 j (by omega)).trans (h4 j hj), fun j hj => ?_, fun _ _ => rfl⟩, ?_, ?_, ?_⟩
  · show A7 9 j = _ ∧ A7 10 j = _ ∧ A7 11 j = _ ∧ A7 12 j = _
    rw [f 9 j (by omega), f 10 j (by omega), f 11 j (by omega), f 12 j (by omega)]; exact h2 j hj
  · show A7 13 j = _ ∧ A7 14 j = _ ∧ A7 15 j = _
    rw [f 13 j (by omega), f 14 j (by omega), f 15 j (by omega)]; exact h3 j hj
  · show A7 17 j = _ ∧ A7 18 j = _
    rw [f 17 j (by omega), f 18 j (by omega)]; exact h5 j hj
  · show A7 0 5 = 0
    rw [e7, st_ne (by omega), e6, st_ne (by omega), e5, st_same]
  · show A7 0 6 = 1
    rw [e7, st_ne (by omega), e6, st_same]
  · show A7 0 7 = 1
    rw [e7, st_same]
/-- the train that is now -/
def Nw (P T S : Tr) (L : Lo) : Prop := rI 0 S ∧ pK P S ∧ dyn 0 P T S ∧ inv 0 S ∧ (∀ p : Nat, (p : Int) < (S 0 13).toInt → T 9 p = S 57 p ∧ T 10 p = S 58 p) ∧ (∀ i : Nat, (i : Int) < (S 0 14).toInt → T 13 i = S 33 i) ∧ (T 0 3 = S 23 0 ∧ T 0 4 = S 23 1 ∧ 0 ≤ (S 23 0).toInt ∧ (S 23 0).toInt ≤ 2 ∧ ¬ T 0 6 = 0 ∧ ¬ T 0 7 = 0) ∧ (L 0 63 = (T 0 2).toInt64 ∧ 0 ≤ (T 0 2).toInt ∧ S 0 65 = 0) ∧ ∀ p : Nat, (p : Int) < (S 0 13).toInt → (S 62 0).toInt ≤ (S 57 p).toInt → S 59 p = 0
def trQ (Tn S A S1 : Tr) : Prop := S1 0 70 = 0 ∧ S1 0 65 = 0 ∧ A 0 5 = 0 ∧ hF0 S S1 ∧ cpH S S1 ∧ plT S S1 ∧ sttQ Tn A ∧ aG 1 S S1
theorem dyn_cp {P Tn A S S1 : Tr} (hS : iR BM S) (hd : dyn 0 P Tn S) (hA : cpA A Tn A) (hc : cpH S S1) (hf : hF0 S S1) : dyn 1 P A S1 := by
  have h13 : 0 ≤ (S 0 13).toInt ∧ (S 0 13).toInt ≤ 6 := hS 0 13
  have h14 : 0 ≤ (S 0 14).toInt ∧ (S 0 14).toInt ≤ 10 := hS 0 14
  obtain ⟨d1, d2, d3, d4, d5⟩ := hd
  obtain ⟨a1, a2, a3, a4, a5, _⟩ := hA
  obtain ⟨c1, c2, c3, c4, c5, c6, _⟩ := hc
  have e13 : S1 0 13 = S 0 13 := hf 0 13 (by omega) (by omega) (by omega) (by omega) (by omega) (by omega) (by omega)
  have e14 : S1 0 14 = S 0 14 := hf 0 14 (by omega) (by omega) (by omega) (by omega) (by omega) (by omega) (by omega)
  refine ⟨(a1 0 (by omega)).trans (d1.trans c6.symm), (a1 1 (by omega)).trans (d2.trans c5.symm), fun p hp => ?_, fun i hi => ?_, fun p hp => ⟨?_, fun k hk => ?_, ?_⟩⟩
  · rw [e13] at hp
    have x := d3 p hp
    rw [show 6 * 0 + p = p by omega] at x
    have y := c4 p (by omega)
    rw [show 6 * 1 + p = 6 + p by omega, y.2.2.1, y.2.2.2, (a2 p (by omega)).2.2.1, (a2 p (by omega)).2.2.2]
    exact x
  · rw [e14] at hi
    have x := d4 i hi
    rw [show 10 * 0 + i = i by omega] at x
    have y := c1 i (by omega)
    rw [show 10 * 1 + i = 10 + i by omega, y.1, y.2, (a3 i (by omega)).2.1, (a3 i (by omega)).2.2]
    exact x
  · have x := (d5 p hp).1
    rw [show 5 * 0 + p = p by omega] at x
    rw [show 5 * 1 + p = 5 + p by omega, c3 p hp, (a5 p hp).1]
    exact x
  · have b56 := BM56 hS p
    rw [show 5 * 1 + p = 5 + p by omega, c3 p hp] at hk
    have x := (d5 p hp).2.1 k (by rw [show 5 * 0 + p = p by omega]; exact hk)
    rw [show 50 * 0 + 10 * p + k = 10 * p + k by omega] at x
    rw [show 50 * 1 + 10 * p + k = 50 + (10 * p + k) by omega, c2 _ (by omega), a4 _ (by omega)]
    exact x
  · have x := (d5 p hp).2.2
    have y := (d5 p hp).1
    have b56 := BM56 hS (5 * 0 + p)
    rw [(a5 p hp).2, (a5 p hp).1, x]
    refine wsm_cg (fun k hk => ?_)
    rw [y, i_cl] at hk
    unfold wgt
    rw [a4 _ (by omega)]
theorem inv_cp {S S1 : Tr} (hS : rI 0 S) (hv : inv 0 S) (hc : cpH S S1) (hf : hF0 S S1) : inv 1 S1 := by
  have h13 : 0 ≤ (S 0 13).toInt ∧ (S 0 13).toInt ≤ 6 := hS.1 0 13
  have h14 : 0 ≤ (S 0 14).toInt ∧ (S 0 14).toInt ≤ 10 := hS.1 0 14
  obtain ⟨c1, c2, c3, c4, c5, c6, _⟩ := hc
  have g : ∀ a j, a ≤ 52 → ¬ (a = 0 ∧ 64 ≤ j) → S1 a j = S a j := fun a j h n => hf a j (by omega) (by omega) (by omega) (by omega) (by omega) (by omega) (by omega)
  refine ⟨fun i hi => ?_, fun p hp => ?_⟩
  · rw [g 0 14 (by omega) (by omega)] at hi
    have x := hv.1 i hi
    have ow := own_lt hS i hi
    rw [show 10 * 0 + i = i by omega, show 6 * 0 + (S 30 i).toNatClampNeg = (S 30 i).toNatClampNeg by omega] at x
    rw [g 30 i (by omega) (by omega), g 0 12 (by omega) (by omega), show 10 * 1 + i = 10 + i by omega, show 6 * 1 + (S 30 i).toNatClampNeg = 6 + (S 30 i).toNatClampNeg by omega, (c1 i (by omega)).1, (c1 i (by omega)).2, (c4 _ (by omega)).2.2.1]
    exact x
  · rw [g 0 13 (by omega) (by omega)] at hp
    have x := hv.2 p hp
    rw [show 6 * 0 + p = p by omega] at x
    rw [show 6 * 1 + p = 6 + p by omega, (c4 p (by omega)).2.2.1, (c4 p (by omega)).1]
    exact x
theorem e_start {P Tn Tu S : Tr} {L : Lo} {pa qa : Nat → Nat} {q0 q2 : Nat} (h : Nw P Tn S L) : E2 (f_X7_startTrial pa qa Tn Tu q0 q2) (f_X8_layTried S) (fun q S1 => Rl 1 P q.1 S1 ∧ trQ Tn S q.1 S1) := by
  obtain ⟨hS, hK, hd, hv, n9, n13, nr, nl, _⟩ := h
  have h13 : 0 ≤ (S 0 13).toInt ∧ (S 0 13).toInt ≤ 6 := hS.1 0 13
  have h14 : 0 ≤ (S 0 14).toInt ∧ (S 0 14).toInt ≤ 10 := hS.1 0 14
  refine E2_ep (e_stt pa qa Tn Tu q0 q2) (Ep_and (e_layT S) (D_to (t_X8_layTried S hS.1 hS.2.2 hS.2.1))) (fun q S1 hq hs => ?_)
  obtain ⟨⟨hc, hp, hf⟩, r1, rg, r2, r3, _⟩ := hs
  obtain ⟨hA, x5, x6, x7⟩ := id hq
  have g : ∀ a j, a ≤ 52 → ¬ (a = 0 ∧ 64 ≤ j) → S1 a j = S a j := fun a j h n => hf a j (by omega) (by omega) (by omega) (by omega) (by omega) (by omega) (by omega)
  have p65 := hp.2.1 65 (by omega) (by omega)
  have p66 := hp.2.1 66 (by omega) (by omega)
  have p67 := hp.2.1 67 (by omega) (by omega)
  have p68 := hp.2.1 68 (by omega) (by omega)
  have p69 := hp.2.1 69 (by omega) (by omega)
  have hK1 : pK P S1 := pK_o hK (fun j h1 h2 => g 0 j (by omega) (by omega)) (fun a j h1 h2 => g a j (by omega) (by omega))
  have hs1 : sta 1 q.1 S1 := by
    refine ⟨fun p hpp => ?_, fun i hi => ?_, ?_, ?_, ?_, ?_, ?_, ?_, ?_⟩
    · rw [g 0 13 (by omega) (by omega)] at hpp
      have y := hc.2.2.2.1 p (by omega)
      rw [if_pos p69, show 6 * 1 + p = 6 + p by omega, y.1, y.2.1, (hA.2.1 p (by omega)).1, (hA.2.1 p (by omega)).2.1]
      exact n9 p hpp
    · rw [g 0 14 (by omega) (by omega)] at hi
      have m1 := hp.2.2 i (by omega)
      have y := (hA.2.2.1 i (by omega)).1
      have k := (hK.2.2.2.1 i hi).2.2.2.2.2.2
      rw [m1, if_pos (by decide), g 33 i (by omega) (by omega), g 0 12 (by omega) (by omega), y, n13 i hi]
      exact ⟨rfl, k⟩
    · rw [hp.1, hA.1 3 (by omega)]; exact nr.1
    · rw [if_pos p68, hA.1 4 (by omega), g 23 1 (by omega) (by omega)]; exact nr.2.1
    · rw [x5, p65]
    · rw [x6, p66]
      exact ⟨fun e => absurd e (by decide), fun e => absurd rfl e⟩
    · rw [x7, p67]
      exact ⟨fun e => absurd e (by decide), fun e => absurd rfl e⟩
    · rw [hp.1]; exact nr.2.2.1
    · rw [hp.1]; exact nr.2.2.2.1
  exact ⟨⟨⟨r1, r3, r2⟩, hK1, hs1, dyn_cp hS.1 hd hA hc hf, inv_cp hS hv hc hf⟩, hp.2.1 70 (by omega) (by omega), p65, x5, hf, hc, hp, hq, rg⟩
-- 62.zaz.36.z26
/-! what a trial leaves of the train that is now -/
def h0c (a j : Nat) : Prop := (a = 0 ∧ 12 ≤ j ∧ j ≤ 15) ∨ (23 ≤ a ∧ a ≤ 41) ∨ ((a = 53 ∨ a = 54) ∧ j < 10) ∨ (a = 55 ∧ j < 50) ∨ (a = 56 ∧ j < 5) ∨ (57 ≤ a ∧ a ≤ 60 ∧ j < 6) ∨ ((a = 61 ∨ a = 62) ∧ j < 1)
theorem inB_no {n b j : Nat} (h : ¬ (n * b ≤ j ∧ j < n * b + n)) : inB n b j = false := by
  unfold inB
  by_cases g : n * b ≤ j
  · have : Nat.blt j (n * b + n) = false := by
      rw [← Bool.not_eq_true]; intro q
      exact h ⟨g, Nat.le_of_ble_eq_true q⟩
    rw [this, Bool.and_false]
  · have : Nat.ble (n * b) j = false := by
      rw [← Bool.not_eq_true]; intro q
      exact g (Nat.le_of_ble_eq_true q)
    rw [this, Bool.false_and]
theorem Wb_h {a j : Nat} (h : h0c a j) : Wb 1 a j = false := by
  rcases h with ⟨rfl, h1, h2⟩ | ⟨h1, h2⟩ | ⟨rfl | rfl, h1⟩ | ⟨rfl, h1⟩ | ⟨rfl, h1⟩ | ⟨h1, h2, h3⟩ | ⟨rfl | rfl, h1⟩
  · rcases (by omega : j = 12 ∨ j = 13 ∨ j = 14 ∨ j = 15) with rfl | rfl | rfl | rfl <;> rfl
  · rcases (by omega : a = 23 ∨ a = 24 ∨ a = 25 ∨ a = 26 ∨ a = 27 ∨ a = 28 ∨ a = 29 ∨ a = 30 ∨ a = 31 ∨ a = 32 ∨ a = 33 ∨ a = 34 ∨ a = 35 ∨ a = 36 ∨ a = 37 ∨ a = 38 ∨ a = 39 ∨ a = 40 ∨ a = 41) with rfl | rfl | rfl | rfl | rfl | rfl | rfl | rfl | rfl | rfl | rfl | rfl | rfl | rfl | rfl | rfl | rfl | rfl | rfl <;> rfl
  · unfold Wb; rw [inB_no (n := 10) (b := 1) (by omega)]; rfl
  · unfold Wb; rw [inB_no (n := 10) (b := 1) (by omega)]; rfl
  · unfold Wb; rw [inB_no (n := 50) (b := 1) (by omega)]; rfl
  · unfold Wb; rw [inB_no (n := 5) (b := 1) (by omega)]; rfl
  · unfold Wb; rw [inB_no (n := 6) (b := 1) (by omega)]
    rcases (by omega : a = 57 ∨ a = 58 ∨ a = 59 ∨ a = 60) with rfl | rfl | rfl | rfl <;> rfl
  · unfold Wb; rw [inB_no (n := 1) (b := 1) (by omega)]; rfl
  · unfold Wb; rw [inB_no (n := 1) (b := 1) (by omega)]; rfl
theorem inv0_of {S S2 : Tr} (hS : rI 0 S) (hv : inv 0 S) (f : ∀ a j, h0c a j → S2 a j = S a j) : inv 0 S2 := by
  have h13 : 0 ≤ (S 0 13).toInt ∧ (S 0 13).toInt ≤ 6 := hS.1 0 13
  have h14 : 0 ≤ (S 0 14).toInt ∧ (S 0 14).toInt ≤ 10 := hS.1 0 14
  have z : ∀ j, 12 ≤ j → j ≤ 15 → S2 0 j = S 0 j := fun j h1 h2 => f 0 j (Or.inl ⟨rfl, h1, h2⟩)
  refine ⟨fun i hi => ?_, fun p hp => ?_⟩
  · rw [z 14 (by omega) (by omega)] at hi
    have x := hv.1 i hi
    have ow := own_lt hS i hi
    rw [f 30 i (Or.inr (Or.inl (by omega))), z 12 (by omega) (by omega), f 53 (10 * 0 + i) (Or.inr (Or.inr (Or.inl ⟨Or.inl rfl, by omega⟩))), f 54 (10 * 0 + i) (Or.inr (Or.inr (Or.inl ⟨Or.inr rfl, by omega⟩))), f 59 (6 * 0 + (S 30 i).toNatClampNeg) (Or.inr (Or.inr (Or.inr (Or.inr (Or.inr (Or.inl ⟨by omega, by omega, by omega⟩))))))]
    exact x
  · rw [z 13 (by omega) (by omega)] at hp
    have x := hv.2 p hp
    rw [f 57 (6 * 0 + p) (Or.inr (Or.inr (Or.inr (Or.inr (Or.inr (Or.inl ⟨by omega, by omega, by omega⟩)))))), f 59 (6 * 0 + p) (Or.inr (Or.inr (Or.inr (Or.inr (Or.inr (Or.inl ⟨by omega, by omega, by omega⟩))))))]
    exact x
theorem dyn0_of {P T S S2 : Tr} (hS : rI 0 S) (hd : dyn 0 P T S) (f : ∀ a j, h0c a j → S2 a j = S a j) : dyn 0 P T S2 := by
  have h13 : 0 ≤ (S 0 13).toInt ∧ (S 0 13).toInt ≤ 6 := hS.1 0 13
  have h14 : 0 ≤ (S 0 14).toInt ∧ (S 0 14).toInt ≤ 10 := hS.1 0 14
  have z : ∀ j, 12 ≤ j → j ≤ 15 → S2 0 j = S 0 j := fun j h1 h2 => f 0 j (Or.inl ⟨rfl, h1, h2⟩)
  obtain ⟨d1, d2, d3, d4, d5⟩ := hd
  refine ⟨?_, ?_, fun p hp => ?_, fun i hi => ?_, fun p hp => ⟨?_, fun k hk => ?_, (d5 p hp).2.2⟩⟩
  · rw [f 62 0 (Or.inr (Or.inr (Or.inr (Or.inr (Or.inr (Or.inr ⟨Or.inr rfl, by omega⟩))))))]; exact d1
  · rw [f 61 0 (Or.inr (Or.inr (Or.inr (Or.inr (Or.inr (Or.inr ⟨Or.inl rfl, by omega⟩))))))]; exact d2
  · rw [z 13 (by omega) (by omega)] at hp
    rw [f 59 (6 * 0 + p) (Or.inr (Or.inr (Or.inr (Or.inr (Or.inr (Or.inl ⟨by omega, by omega, by omega⟩)))))), f 60 (6 * 0 + p) (Or.inr (Or.inr (Or.inr (Or.inr (Or.inr (Or.inl ⟨by omega, by omega, by omega⟩))))))]
    exact d3 p hp
  · rw [z 14 (by omega) (by omega)] at hi
    rw [f 53 (10 * 0 + i) (Or.inr (Or.inr (Or.inl ⟨Or.inl rfl, by omega⟩))), f 54 (10 * 0 + i) (Or.inr (Or.inr (Or.inl ⟨Or.inr rfl, by omega⟩)))]
    exact d4 i hi
  · rw [f 56 (5 * 0 + p) (Or.inr (Or.inr (Or.inr (Or.inr (Or.inl ⟨rfl, by omega⟩)))))]; exact (d5 p hp).1
  · rw [f 56 (5 * 0 + p) (Or.inr (Or.inr (Or.inr (Or.inr (Or.inl ⟨rfl, by omega⟩)))))] at hk
    have b56 := BM56 hS.1 (5 * 0 + p)
    rw [f 55 (50 * 0 + 10 * p + k) (Or.inr (Or.inr (Or.inr (Or.inl ⟨rfl, by omega⟩))))]
    exact (d5 p hp).2.1 k hk
theorem Nw_of {P T S S2 : Tr} {L L2 : Lo} (h : Nw P T S L) (hI : rI 0 S2) (f : ∀ a j, h0c a j → S2 a j = S a j) (h65 : S2 0 65 = 0) (h63 : L2 0 63 = L 0 63) : Nw P T S2 L2 := by
  obtain ⟨hS, hK, hd, hv, n9, n13, nr, nl, na⟩ := h
  have h13 : 0 ≤ (S 0 13).toInt ∧ (S 0 13).toInt ≤ 6 := hS.1 0 13
  have z : ∀ j, 12 ≤ j → j ≤ 15 → S2 0 j = S 0 j := fun j h1 h2 => f 0 j (Or.inl ⟨rfl, h1, h2⟩)
  have r : ∀ a j, 23 ≤ a → a ≤ 41 → S2 a j = S a j := fun a j h1 h2 => f a j (Or.inr (Or.inl ⟨h1, h2⟩))
  have s6 : ∀ a p, 57 ≤ a → a ≤ 60 → p < 6 → S2 a p = S a p := fun a p h1 h2 h3 => f a p (Or.inr (Or.inr (Or.inr (Or.inr (Or.inr (Or.inl ⟨h1, h2, h3⟩))))))
  refine ⟨hI, pK_o hK z r, dyn0_of hS hd f, inv0_of hS hv f, fun p hp => ?_, fun i hi => ?_, ?_, ⟨by rw [h63]; exact nl.1, nl.2.1, h65⟩, fun p hp hq => ?_⟩
  · rw [z 13 (by omega) (by omega)] at hp
    rw [s6 57 p (by omega) (by omega) (by omega), s6 58 p (by omega) (by omega) (by omega)]; exact n9 p hp
  · rw [z 14 (by omega) (by omega)] at hi
    rw [r 33 i (by omega) (by omega)]; exact n13 i hi
  · rw [r 23 0 (by omega) (by omega), r 23 1 (by omega) (by omega)]; exact nr
  · rw [z 13 (by omega) (by omega)] at hp
    rw [s6 57 p (by omega) (by omega) (by omega), f 62 0 (Or.inr (Or.inr (Or.inr (Or.inr (Or.inr (Or.inr ⟨Or.inr rfl, by omega⟩))))))] at hq
    rw [s6 59 p (by omega) (by omega) (by omega)]; exact na p hp hq
/-- a query's end: nothing of the train that is now has changed -/
theorem Nw_q {P T S S2 : Tr} {L L2 : Lo} (h : Nw P T S L) (hS : iR BM S2) (hp : pI S2) (hg : gI 0 S2) (a : aG 1 S S2) (h65 : S2 0 65 = 0) (h63 : L2 0 63 = L 0 63) : Nw P T S2 L2 := Nw_of h ⟨hS, hp, hg⟩ (fun c j q => a c j (Wb_h q)) h65 h63
