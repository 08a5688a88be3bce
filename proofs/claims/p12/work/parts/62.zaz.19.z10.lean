/-! a place for a piece -/
def chC (T P : Tr) (xi : Int32) : Option Int32 := if 0 ≤ (T 13 xi.toNatClampNeg) then (bd (f_X6_hasRoom T P (T 13 xi.toNatClampNeg) xi) fun r4 => if r4 = 0 then (some (-1)) else (some (T 13 xi.toNatClampNeg))) else (f_X6_placeByRule T P xi)
theorem stow_ch {T P : Tr} {xi : Int32} : f_X6_stow T P xi = ck (okI xi 10) (bd (chC T P xi) fun r => fJ_X6_stow_J31 P xi r T) := by
  unfold f_X6_stow chC
  refine congrArg (ck _) ?_
  show (if 0 ≤ (T 13 xi.toNatClampNeg) then _ else _) = _
  by_cases c : 0 ≤ (T 13 xi.toNatClampNeg)
  · rw [if_pos c, if_pos c, bd_bd]
    refine congrArg (bd _) (funext (fun r4 => ?_))
    by_cases d : r4 = 0
    · rw [if_pos d, if_pos d]; rfl
    · rw [if_neg d, if_neg d]; rfl
  · rw [if_neg c, if_neg c]
def plQ (S : Tr) (q q' : Int32) : Prop := q = q' ∧ (q'.toInt = -1 ∨ (0 ≤ q'.toInt ∧ q'.toInt < (S 0 12).toInt))
theorem e_pbr {b i : Nat} {P T S : Tr} {xb xi : Int32} (hb : xb.toNatClampNeg = b) (hxb : 0 ≤ xb.toInt ∧ xb.toInt ≤ 1) (hR : Rl b P T S) (hi : xi.toInt = i) (hii : (i : Int) < (S 0 14).toInt) : E2 (f_X6_placeByRule T P xi) (fL_X8_placeFor_L75 S xb xi (-1) 0) (plQ S) := by
  obtain ⟨⟨hS, hpI, hg⟩, hK, hs, hd, hv⟩ := id hR
  have h12 : 0 ≤ (S 0 12).toInt ∧ (S 0 12).toInt ≤ 5 := hS 0 12
  obtain ⟨m, hm⟩ : ∃ m : Nat, (S 0 12).toInt = m := ⟨(S 0 12).toInt.toNat, by omega⟩
  have hP0 : P 0 0 = S 0 12 := hK.1.1
  have h3 : T 0 3 = S 0 64 := hs.2.2.1
  have h64 := hs.2.2.2.2.2.2.2
  have lp : ∀ (N M n : Nat) (x2 x3 y3 y4 : Int32), x2 = y3 → x3.toInt = n → y4.toInt = n → n ≤ m → (y3.toInt = -1 ∨ (0 ≤ y3.toInt ∧ y3.toInt < (S 0 12).toInt)) → E2 (lpF (fun _ _ => none) (fB_X6_placeByRule_L4 T P xi) N x2 x3) (lpF (fun _ _ => none) (fB_X8_placeFor_L75 S xb xi) M y3 y4) (plQ S) := by
    intro N
    induction N with
    | zero => intro M n x2 x3 y3 y4 _ _ _ _ _; exact E2_nl
    | succ N ih =>
      intro M n x2 x3 y3 y4 he hx hy hn hb0
      cases M with
      | zero => exact E2_nr
      | succ M =>
        subst he
        show E2 (fB_X6_placeByRule_L4 T P xi (lpF (fun _ _ => none) (fB_X6_placeByRule_L4 T P xi) N) x2 x3) (fB_X8_placeFor_L75 S xb xi (lpF (fun _ _ => none) (fB_X8_placeFor_L75 S xb xi) M) x2 y4) _
        have ih := fun n x2 x3 y3 y4 => ih M n x2 x3 y3 y4
        generalize lpF (fun _ _ => none) (fB_X6_placeByRule_L4 T P xi) N = k at ih ⊢
        generalize lpF (fun _ _ => none) (fB_X8_placeFor_L75 S xb xi) M = k' at ih ⊢
        have exy : x3 = y4 := Int32.toInt_inj.mp (hx.trans hy.symm)
        subst exy
        unfold fB_X6_placeByRule_L4 fB_X8_placeFor_L75 fJ_X6_placeByRule_J70
        rw [hP0]
        refine E2_it Iff.rfl (fun _ _ => E2_some ⟨rfl, hb0⟩) (fun c _ => ?_)
        have c := tq_len hm hx c
        have hpp : (n : Int) < (S 0 12).toInt := by omega
        have ex : (x3 + 1).toInt = ((n + 1 : Nat) : Int) := i_p1 hx (by omega)
        have keep : ∀ z : Int32, (z.toInt = -1 ∨ (0 ≤ z.toInt ∧ z.toInt < (S 0 12).toInt)) → E2 (lt (x3 + 1) fun y10 => k z y10) (lt (x3 + 1) fun y11 => k' z y11) (plQ S) := fun z hz => E2_ltl (fun y10 e10 => E2_ltr (fun y11 e11 => ih (n + 1) z y10 z y11 rfl (by rw [e10]; exact ex) (by rw [e11]; exact ex) (by omega) hz))
        have here : x3.toInt = -1 ∨ (0 ≤ x3.toInt ∧ x3.toInt < (S 0 12).toInt) := Or.inr ⟨by omega, by omega⟩
        have j0 : ∀ z : Int32, fJ_X6_placeByRule_J75 k T P xi z x3 0 = (lt (x3 + 1) fun y10 => k z y10) := fun z => by unfold fJ_X6_placeByRule_J75; rw [if_pos rfl]
        have j1 : ∀ z : Int32, fJ_X6_placeByRule_J75 k T P xi z x3 1 = (lt (x3 + 1) fun y10 => k x3 y10) := fun z => by unfold fJ_X6_placeByRule_J75; rw [if_neg (by decide)]
        refine E2_bd (e_room hb hxb hx hS hg.1 hK hd.2.2.2.2 hpp hi hii) (fun r2 r6 hr => ?_)
        obtain ⟨hr1, hr2⟩ := hr
        subst hr1
        rw [h3, j0, j1]
        refine E2_it Iff.rfl (fun _ _ => keep x2 hb0) (fun _ _ => ?_)
        by_cases n2 : x2 < 0
        · have n2' : ¬ 0 ≤ x2 := fun q => by have := tq_lt rfl (b := 0) (by decide) n2; have := tq_le (a := 0) (by decide) rfl q; omega
          refine E2_pr n2 (E2_itl (fun _ => E2_ql n2' (keep x3 here)) (fun _ => E2_itl (fun _ => E2_pl n2 (keep x3 here)) (fun _ => keep x3 here)))
        · have n2' : 0 ≤ x2 := Int32.le_iff_toInt_le.mpr (by have := tq_ltn rfl (b := 0) (by decide) n2; show (0 : Int) ≤ _; omega)
          have b0 := tq_ltn rfl (b := 0) (by decide) n2
          refine E2_qr n2 ?_
          have cs : S 0 64 = 0 ∨ S 0 64 = 1 ∨ S 0 64 = 2 := by
            rcases (by omega : (S 0 64).toInt = 0 ∨ (S 0 64).toInt = 1 ∨ (S 0 64).toInt = 2) with g | g | g
            · exact Or.inl (Int32.toInt_inj.mp g)
            · exact Or.inr (Or.inl (Int32.toInt_inj.mp g))
            · exact Or.inr (Or.inr (Int32.toInt_inj.mp g))
          rcases cs with g | g | g
          · rw [g]
            exact E2_pl rfl (E2_pl n2' (E2_qr (by decide) (E2_qr (by decide) (keep x2 hb0))))
          · rw [g]
            refine E2_ql (by decide) (E2_pl rfl (E2_ql n2 (E2_ckl (fun _ => E2_ckl (fun _ => E2_qr (by decide) (E2_pr rfl ?_))))))
            obtain ⟨q, hq⟩ : ∃ q : Nat, x2.toInt = q := ⟨x2.toInt.toNat, by omega⟩
            have q12 : (q : Int) < (S 0 12).toInt := by rcases hb0 with z | z <;> omega
            refine E2_br (e_wgt hb hxb hx (by omega) hS hg.1 hK.2.2.2.1 (hd.2.2.2.2 n (by omega))) (fun r16 h16 => E2_br (e_wgt hb hxb hq (by omega) hS hg.1 hK.2.2.2.1 (hd.2.2.2.2 q (by omega))) (fun r19 h19 => ?_))
            rw [h16, h19, i_cn hx, i_cn hq]
            exact E2_it Iff.rfl (fun _ _ => keep x2 hb0) (fun _ _ => keep x3 here)
          · rw [g]
            exact E2_ql (by decide) (E2_ql (by decide) (E2_pr rfl (keep x3 here)))
  unfold f_X6_placeByRule fL_X6_placeByRule_L4 fL_X8_placeFor_L75
  exact lp 2000 2000 0 (-1) 0 (-1) 0 rfl (by decide) (by decide) (by omega) (Or.inl (by decide))
theorem e_ch {b i : Nat} {P T S : Tr} {xb xi : Int32} (hb : xb.toNatClampNeg = b) (hxb : 0 ≤ xb.toInt ∧ xb.toInt ≤ 1) (hR : Rl b P T S) (hi : xi.toInt = i) (hii : (i : Int) < (S 0 14).toInt) : E2 (chC T P xi) (f_X8_placeFor S xb xi) (plQ S) := by
  obtain ⟨⟨hS, hpI, hg⟩, hK, hs, hd, hv⟩ := id hR
  obtain ⟨t1, t2⟩ := hs.2.1 i hii
  have hold : ∀ v : Int32, T 13 i = v → 0 ≤ v.toInt → E2 (bd (f_X6_hasRoom T P (T 13 i) xi) fun r4 => if r4 = 0 then (some (-1 : Int32)) else (some (T 13 i))) (bd (f_X8_doesHold S xb v xi) fun r26 => if r26 = 0 then (some (-1)) else (some v)) (plQ S) := fun v hv0 hv1 => by
    obtain ⟨q, hq⟩ : ∃ q : Nat, v.toInt = q := ⟨v.toInt.toNat, by omega⟩
    rw [hv0] at t2 ⊢
    refine E2_bd (e_room hb hxb hq hS hg.1 hK hd.2.2.2.2 (by omega) hi hii) (fun r4 r26 hr => ?_)
    rw [hr.1]
    exact E2_it Iff.rfl (fun _ _ => E2_some ⟨rfl, Or.inl (by decide)⟩) (fun _ _ => E2_some ⟨rfl, Or.inr ⟨hv1, t2⟩⟩)
  unfold chC f_X8_placeFor
  rw [i_cn hi]
  refine E2_ckr (fun _ => ?_)
  by_cases c72 : S 72 i < 0
  · have c := tq_lt rfl (b := 0) (by decide) c72
    rw [if_pos c] at t1
    refine E2_pr c72 (E2_ckr (fun _ => ?_))
    by_cases c33 : S 33 i < 0
    · have d := tq_lt rfl (b := 0) (by decide) c33
      refine E2_pr c33 (E2_ql (fun q => ?_) (e_pbr hb hxb hR hi hii))
      have := tq_le (a := 0) (by decide) rfl q
      rw [t1] at this; omega
    · have d := tq_ltn rfl (b := 0) (by decide) c33
      exact E2_qr c33 (E2_pl (Int32.le_iff_toInt_le.mpr (by rw [t1]; show (0 : Int) ≤ _; omega)) (hold _ t1 d))
  · have c := tq_ltn rfl (b := 0) (by decide) c72
    rw [if_neg (by omega)] at t1
    exact E2_qr c72 (E2_pl (Int32.le_iff_toInt_le.mpr (by rw [t1]; show (0 : Int) ≤ _; omega)) (hold _ t1 c))
/-- a piece is stowed -/
def stQ (b : Nat) (P T S : Tr) (i : Nat) (T1 S1 : Tr) : Prop := Rl b P T1 S1 ∧ aG b S S1 ∧ (∀ a j, ¬ (53 ≤ a ∧ a ≤ 56) → S1 a j = S a j) ∧ (∀ j, j ≠ 10 * b + i → S1 53 j = S 53 j) ∧ (∀ a j, ¬ (14 ≤ a ∧ a ≤ 18) → T1 a j = T a j) ∧ (S1 53 (10 * b + i) = 1 ∨ S1 53 (10 * b + i) = 5)
theorem e_stow {α β : Type} {Q : α → β → Prop} {K : Tr → Option α} {K' : Tr → Option β} {b i : Nat} {P T S : Tr} {xb xi : Int32} (hb : xb.toNatClampNeg = b) (hxb : 0 ≤ xb.toInt ∧ xb.toInt ≤ 1) (hR : Rl b P T S) (hi : xi.toInt = i) (hii : (i : Int) < (S 0 14).toInt) (h0 : S 53 (10 * b + i) = 0) (hst : S 59 (6 * b + (S 30 i).toNatClampNeg) = 1) (hk : ∀ T1 S1, stQ b P T S i T1 S1 → E2 (K T1) (K' S1) Q) : E2 (bd (f_X6_stow T P xi) K) (bd (f_X8_placeFor S xb xi) fun r => if 0 ≤ r then (bd (f_X8_lays S xb r xi) fun S_27 => K' S_27) else (lt (st S 53 (((10 : Int32) * xb) + xi).toNatClampNeg 5) fun S_31 => K' S_31)) Q := by
  obtain ⟨⟨hS, hpI, hg⟩, hK, hs, hd, hv⟩ := id hR
  have h14 : (S 0 14).toInt ≤ 10 := (hS 0 14).2
  have j10 : (((10 : Int32) * xb) + xi).toNatClampNeg = 10 * b + i := by rw [jx 10 (by decide) (by omega) hxb hi (by omega), hb]
  have n1 : ¬ S 53 (10 * b + i) = 1 := by rw [h0]; decide
  rw [stow_ch, bd_ck, bd_bd]
  refine E2_ckl (fun _ => E2_bd (e_ch hb hxb hR hi hii) (fun r r' hr => ?_))
  obtain ⟨hr1, hr2⟩ := hr
  subst hr1
  unfold fJ_X6_stow_J31
  by_cases c : 0 ≤ r
  · have c0 := tq_le (a := 0) (by decide) rfl c
    obtain ⟨p, hp⟩ : ∃ p : Nat, r.toInt = p := ⟨r.toInt.toNat, by omega⟩
    have hpp : (p : Int) < (S 0 12).toInt := by rcases hr2 with z | z <;> omega
    rw [if_pos c, if_pos c, bd_bd]
    refine E2_bd (e_put hb hxb hR hi hii hp hpp n1 hst) (fun T1 S1 hq => ?_)
    rw [bd_some]
    obtain ⟨q1, q2, h, q3, q4, q5⟩ := hq
    refine hk T1 S1 ⟨q1, q2, q5.2.2.2.2, fun j hj => by rw [q5.2.2.2.1, if_neg hj], q4.2.2.2.2.2, Or.inl (by rw [q5.2.2.2.1, if_pos rfl])⟩
  · rw [if_neg c, if_neg c, bd_ck, bd_lt, j10, i_cn hi]
    refine E2_ckl (fun _ => E2_ltl (fun T13 t13 => E2_ltr (fun S31 s31 => ?_)))
    rw [bd_some]
    have g1 : gI b S31 := by
      have := gI_53 (S := S) (x1 := xb) (x3 := xi) (c := 5) (by rw [hb]; exact hg) hxb ⟨by omega, by omega⟩ (by rw [j10]; exact n1) (by decide)
      rw [hb, j10] at this; rw [s31]; exact this
    have aG1 : aG b S S31 := by rw [s31]; exact aG_set aG_rfl (Wb_53 (inB_of (by omega) (by omega)))
    have so : ∀ a j, ¬ (a = 53 ∧ j = 10 * b + i) → S31 a j = S a j := fun a j hn => by rw [s31, st_no hn]
    have to : ∀ a j, ¬ (a = 14 ∧ j = i) → T13 a j = T a j := fun a j hn => by rw [t13, st_no hn]
    have s5 : S31 53 (10 * b + i) = 5 := by rw [s31, st_same]
    have t5 : T13 14 i = 5 := by rw [t13, st_same]
    have hB : iR BM S31 := by rw [s31]; exact iR_set hS (by decide : (0 : Int) ≤ (5 : Int32).toInt) (by decide : (5 : Int32).toInt ≤ (5 : Int))
    have fM : aM b S S31 := aM_fx aG1 ⟨fun j _ => so 0 j (by omega), fun a j _ => so a j (by omega)⟩
    refine hk T13 S31 ⟨⟨⟨hB, pI_aG hpI aG1, g1⟩, pK_M hK fM, sta_M hs (cM_of (fun a j hn => to a j (by omega))) fM, ?_, ?_⟩, aG1, fun a j hn => so a j (by omega), fun j hj => so 53 j (by omega), fun a j hn => to a j (by omega), Or.inr s5⟩
    · obtain ⟨d1, d2, d3, d4, d5⟩ := hd
      refine ⟨by rw [to 0 0 (by omega), so 62 _ (by omega)]; exact d1, by rw [to 0 1 (by omega), so 61 _ (by omega)]; exact d2, fun q hq => ?_, fun q hq => ?_, stk_e d5 (fun j => to 16 j (by omega)) (fun j => to 17 j (by omega)) (fun j => to 18 j (by omega)) (fun j => so 55 j (by omega)) (fun j => so 56 j (by omega)) hS⟩
      · rw [so 0 13 (by omega)] at hq
        rw [to 11 q (by omega), to 12 q (by omega), so 59 _ (by omega), so 60 _ (by omega)]; exact d3 q hq
      · rw [so 0 14 (by omega)] at hq
        by_cases g : q = i
        · subst g
          rw [t5, s5, to 15 q (by omega), so 54 _ (by omega)]; exact ⟨rfl, (d4 q hq).2⟩
        · rw [to 14 q (by omega), to 15 q (by omega), so 53 _ (by omega), so 54 _ (by omega)]; exact d4 q hq
    · refine ⟨fun q hq => ?_, fun q hq => ?_⟩
      · rw [so 0 14 (by omega)] at hq
        obtain ⟨v1, v2, v3⟩ := hv.1 q hq
        rw [so 30 _ (by omega), so 59 _ (by omega), so 54 _ (by omega), so 0 12 (by omega)]
        by_cases g : q = i
        · subst g
          rw [s5]
          exact ⟨fun e => absurd e (by decide), fun e => by rw [hst] at e; exact absurd e (by decide), v3⟩
        · rw [so 53 _ (by omega)]; exact ⟨v1, v2, v3⟩
      · rw [so 0 13 (by omega)] at hq
        rw [so 59 _ (by omega), so 57 _ (by omega)]; exact hv.2 q hq
