/-! getting out: the whole way -/
theorem go_S {b o : Nat} {S : Tr} {xb xo : Int32} (hb : xb.toNatClampNeg = b) (hxb : 0 ≤ xb.toInt ∧ xb.toInt ≤ 1) (ho : xo.toInt = o) (ho6 : o < 6) : Ep (f_X8_getsOut S xb xo) (fun r => (S 59 (6 * b + o) = 1 → S 28 o ≤ S 62 b → r = 1) ∧ (¬ S 59 (6 * b + o) = 1 → r = 0) ∧ (S 59 (6 * b + o) = 1 → ¬ S 28 o ≤ S 62 b → ¬ S 62 b = 20 → r = 0)) := by
  have j6 : (((6 : Int32) * xb) + xo).toNatClampNeg = 6 * b + o := by rw [jx 6 (by decide) (by omega) hxb ho (by omega), hb]
  unfold f_X8_getsOut
  rw [j6, i_cn ho, hb]
  exact Ep_ck (Ep_ite (fun c => Ep_ck (Ep_ck (Ep_ite (fun d => Ep_some ⟨fun _ _ => rfl, fun n => absurd c n, fun _ n => absurd d n⟩) (fun d => Ep_ite (fun e => Ep_some ⟨fun _ q => absurd q d, fun n => absurd c n, fun _ _ n => absurd e n⟩) (fun e => Ep_some ⟨fun _ q => absurd q d, fun n => absurd c n, fun _ _ _ => rfl⟩))))) (fun c => Ep_some ⟨fun q => absurd q c, fun _ => rfl, fun q => absurd q c⟩))
theorem OU_skip {b o : Nat} {P T0 S0 T S : Tr} {L0 L : Lo} {x2 x3 : Int32} (h : OU b P T0 S0 L0 o x2 x3 T S L) (hsk : S0 62 b = 20 → ¬ S 59 (6 * b + o) = 1) : OU b P T0 S0 L0 (o + 1) x2 x3 T S L := by
  obtain ⟨⟨V, hV, hS, hv, v20, vn, v1⟩, h72, hx3, hu, fr⟩ := h
  refine ⟨⟨V, hV, hS, hv, fun q => ?_, vn, v1⟩, h72, hx3, ⟨hu.1, by omega⟩, fr⟩
  obtain ⟨p1, p2, p3, p4, p5⟩ := v20 q
  refine ⟨p1, p2, fun p hp hq => ?_, fun p hp hq => p4 p (by omega) hq, p5⟩
  by_cases g : p = o
  · subst g; rw [p4 p (Nat.le_refl _) hq]; exact hsk q
  · exact p3 p (by omega) hq
theorem ou_j {b o : Nat} {P T0 S0 T S : Tr} {L0 L Lc : Lo} {xb x2 x3 : Int32} (hb : xb.toNatClampNeg = b) (hxb : 0 ≤ xb.toInt ∧ xb.toInt ≤ 1) (hO : OU b P T0 S0 L0 o x2 x3 T S L) (ho : (S 0 13).toInt ≤ (o : Int)) (ho6 : o ≤ 6) (hst : (S0 62 b).toInt ≤ 20) : E2 (some (x2, T, Lc)) (fJ_X8_outs_J209 xb S L) (ouQ b P T0 S0 L0) := by
  obtain ⟨⟨V, hV, hS, hv, v20, vn, v1⟩, h72, hx3, hu, fr⟩ := hO
  have s62 : S 62 b = S0 62 b := fr.2.1 62 b (by omega) (by omega) (by omega)
  have s13 : S 0 13 = S0 0 13 := fr.2.1 0 13 (by omega) (by omega) (by omega)
  have s14 : S 0 14 = S0 0 14 := fr.2.1 0 14 (by omega) (by omega) (by omega)
  unfold fJ_X8_outs_J209
  rw [hb, s62]
  refine E2_ckr (fun _ => ?_)
  by_cases c20 : S0 62 b = 20
  · refine E2_pr (by rw [c20]; decide) ?_
    intro A B ea eb
    have e := en_223 (L := L) hb hxb hS B eb
    obtain ⟨B1, B2⟩ := B
    have f := ou_fin hV hS hv (v20 c20) ho e
    cases ea
    obtain ⟨e0, er, em, ei, ep, eo⟩ := e
    have e0 : B2 = L := e0
    refine ⟨f.1, ?_, ⟨hu.1, by show x2.toInt ≤ 60000; omega⟩, fr.1, fun a j n1 n2 n3 => (eo a j n2 (by omega)).trans (fr.2.1 a j n1 n2 n3), aM_t fr.2.2.1 em, ?_, fun i hi => ?_, fun _ => ⟨fun i hi => f.2.1 i (by rw [s14]; exact hi), fun p hp => f.2.2 p (by rw [s13]; exact hp)⟩⟩
    · show x2 = B1 0 72
      exact h72.symm.trans (eo 0 72 (by omega) (by omega)).symm
    · show oL L0 B2
      rw [e0]; exact fr.2.2.2.1
    · show B1 53 (10 * b + i) = S0 53 (10 * b + i) ∨ (S0 53 (10 * b + i) = 1 ∧ (B1 53 (10 * b + i) = 2 ∨ B1 53 (10 * b + i) = 5))
      rcases ei i (by rw [s14]; exact hi) with ⟨a1, a2, _⟩ | ⟨a1, a2, _⟩
      · have a2 : B1 53 (10 * b + i) = S 53 (10 * b + i) := a2
        rcases fr.2.2.2.2 i hi with w | ⟨w1, w2⟩
        · exact Or.inl (a2.trans w)
        · exact Or.inr ⟨w1, Or.inl (a2.trans w2)⟩
      · rcases fr.2.2.2.2 i hi with w | ⟨w1, w2⟩
        · exact Or.inr ⟨w.symm.trans a1, Or.inr a2⟩
        · exact Or.inr ⟨w1, Or.inr a2⟩
  · have n20 : ¬ (20 : Int32) ≤ S0 62 b := fun g => c20 (Int32.toInt_inj.mp (by
      have := tq_le (x := (20 : Int32)) (y := S0 62 b) (a := 20) (by decide) rfl g
      rw [show ((20 : Int32)).toInt = 20 by decide]; omega))
    refine E2_qr n20 (E2_some ?_)
    have hV' : Rl b P T S := by rw [← vn c20]; exact hV
    exact ⟨hV', h72.symm, ⟨hu.1, by show x2.toInt ≤ 60000; omega⟩, fr.1, fr.2.1, fr.2.2.1, fr.2.2.2.1, fun i hi => (fr.2.2.2.2 i hi).imp id (fun g => ⟨g.1, Or.inl g.2⟩), fun q => absurd q c20⟩
theorem e_outs {b : Nat} {P T0 S0 : Tr} {L0 Lc : Lo} {xb x1 : Int32} (hb : xb.toNatClampNeg = b) (hxb : 0 ≤ xb.toInt ∧ xb.toInt ≤ 1) (hR : Rl b P T0 S0) (lim : oLim b S0 x1) (hst : (S0 62 b).toInt ≤ 20) : E2 (f_X6_takeDown T0 P Lc x1) (f_X8_outs S0 L0 xb) (ouQ b P T0 S0 L0) := by
  have b13 : 0 ≤ (S0 0 13).toInt ∧ (S0 0 13).toInt ≤ 6 := hR.1.1 0 13
  have lp : ∀ (N o : Nat) (x2 x3 x4 : Int32) (T S : Tr) (L Lc : Lo), x4.toInt = o → o ≤ 6 → OU b P T0 S0 L0 o x2 x3 T S L → E2 (lpF (fun _ _ _ _ _ => none) (fB_X6_takeDown_L7 P x1) N x2 x3 x4 T Lc) (lpF (fun _ _ _ _ => none) (fB_X8_outs_L9 xb) N x3 x4 S L) (ouQ b P T0 S0 L0) := by
    intro N
    induction N with
    | zero => intro o x2 x3 x4 T S L Lc _ _ _; exact E2_nl
    | succ N ih =>
      intro o x2 x3 x4 T S L Lc hx4 ho6 hO
      show E2 (fB_X6_takeDown_L7 P x1 (lpF (fun _ _ _ _ _ => none) (fB_X6_takeDown_L7 P x1) N) x2 x3 x4 T Lc) (fB_X8_outs_L9 xb (lpF (fun _ _ _ _ => none) (fB_X8_outs_L9 xb) N) x3 x4 S L) _
      generalize lpF (fun _ _ _ _ _ => none) (fB_X6_takeDown_L7 P x1) N = k7 at ih ⊢
      generalize lpF (fun _ _ _ _ => none) (fB_X8_outs_L9 xb) N = k9 at ih ⊢
      have hO' := hO
      obtain ⟨⟨V, hV, hS, hv, v20, vn, v1⟩, h72, hx3, hu, fr⟩ := hO'
      have s13 : S 0 13 = S0 0 13 := fr.2.1 0 13 (by omega) (by omega) (by omega)
      have s62 : S 62 b = S0 62 b := fr.2.1 62 b (by omega) (by omega) (by omega)
      have qv : ∀ a j, ¬ (a = 0 ∧ j = 51) → ¬ (53 ≤ a ∧ a ≤ 56) → ¬ a = 59 → V a j = S a j := fun a j n1 n2 n3 => by
        by_cases c20 : S0 62 b = 20
        · exact (v20 c20).2.2.2.2 a j n1 n2 n3
        · rw [vn c20]
      have p13 : P 0 1 = S 0 13 := hV.2.1.1.2.1.trans (qv 0 13 (by omega) (by omega) (by omega))
      have e1 := i_p1 hx4 (by omega)
      unfold fB_X6_takeDown_L7 fB_X8_outs_L9
      rw [p13]
      refine E2_it Iff.rfl (fun c _ => ou_j hb hxb hO (tq_le rfl hx4 c) ho6 hst) (fun c _ => E2_ckl (fun _ => ?_))
      have hlt : (o : Int) < (S 0 13).toInt := tq_len rfl hx4 c
      have o6 : o < 6 := by rw [s13] at hlt; omega
      have hk : ∀ (x2 x3 y : Int32) (T1 S1 : Tr) (L1 Lc1 : Lo), y.toInt = ((o + 1 : Nat) : Int) → OU b P T0 S0 L0 (o + 1) x2 x3 T1 S1 L1 → E2 (k7 x2 x3 y T1 Lc1) (k9 x3 y S1 L1) (ouQ b P T0 S0 L0) := fun x2 x3 y T1 S1 L1 Lc1 hy hO1 => ih (o + 1) x2 x3 y T1 S1 L1 Lc1 hy (by omega) hO1
      have nx : (S0 62 b = 20 → ¬ S 59 (6 * b + o) = 1) → ∀ y y' : Int32, y = x4 + 1 → y' = x4 + 1 → E2 (k7 x2 x3 y T Lc) (k9 x3 y' S L) (ouQ b P T0 S0 L0) := fun h y y' ey ey' => by
        subst ey ey'
        exact ih (o + 1) x2 x3 (x4 + 1) T S L Lc e1 (by omega) (OU_skip hO h)
      have vlt : (o : Int) < (V 0 13).toInt := by rw [qv 0 13 (by omega) (by omega) (by omega)]; exact hlt
      have t11 : T 11 o = S 59 (6 * b + o) := by
        refine (hV.2.2.2.1.2.2.1 o vlt).1.trans ?_
        by_cases c20 : S0 62 b = 20
        · exact (v20 c20).2.2.2.1 o (Nat.le_refl _) hlt
        · rw [vn c20]
      have t00 : T 0 0 = S 62 b := hV.2.2.2.1.1.trans (qv 62 b (by omega) (by omega) (by omega))
      have p12 : P 12 o = S 28 o := (hV.2.1.2.2.1 o vlt).2.2.1.trans (qv 28 o (by omega) (by omega) (by omega))
      rw [i_cn hx4, t11, t00, p12]
      by_cases cA : S 59 (6 * b + o) = 1
      · refine E2_pl cA ?_
        by_cases cB : S 28 o ≤ S 62 b
        · refine E2_pl cB (E2_br (go_S hb hxb hx4 o6) (fun r hr => ?_))
          rw [hr.1 cA cB]
          refine E2_qr (by decide) ?_
          unfold fL_X6_takeDown_L53 fL_X8_outs_L32
          rcases hx3 with rfl | rfl
          · exact od_z hb hxb hx4 o6 hV hS hv v20 vn cA h72 ⟨hu.1, by omega⟩ fr hk 2000 2000
          · obtain rfl := v1 rfl
            exact od_in hb hxb hx4 o6 lim hk 2000 0 x2 0 T _ L Lc (by decide) (by omega) hV h72 ⟨hu.1, by omega⟩ (fun i hi => absurd hi (by omega)) cA (fun q p hp hp2 => (v20 q).2.2.1 p hp hp2) fr
        · refine E2_ql cB (E2_ltl (fun y ey => E2_br (go_S hb hxb hx4 o6) (fun r hr => ?_)))
          have n20 : ¬ S 62 b = 20 := fun g => by
            have g1 := tq_len (x := S 28 o) (y := S 62 b) rfl rfl cB
            have g2 : 0 ≤ (S 28 o).toInt ∧ (S 28 o).toInt ≤ 20 := hS.1 28 o
            rw [g, show ((20 : Int32)).toInt = 20 by decide] at g1
            omega
          rw [hr.2.2 cA cB n20]
          exact E2_pr rfl (E2_ltr (fun y' ey' => nx (fun q => absurd (s62.trans q) n20) y y' ey ey'))
      · refine E2_ql cA (E2_ltl (fun y ey => E2_br (go_S hb hxb hx4 o6) (fun r hr => ?_)))
        rw [hr.2.1 cA]
        exact E2_pr rfl (E2_ltr (fun y' ey' => nx (fun _ => cA) y y' ey ey'))
  unfold f_X6_takeDown f_X8_outs fL_X6_takeDown_L7 fL_X8_outs_L9
  refine E2_ltr (fun S1 e1 => ?_)
  have hR1 : Rl b P T0 S1 := by rw [e1]; exact Rl_72 hR
  refine lp 2000 0 0 1 0 T0 S1 L0 Lc (by decide) (by omega) ⟨⟨S1, hR1, hR1.1, hR1.2.2.2.2, fun _ => vS_r (fun p hp => absurd hp (by omega)), fun _ => rfl, fun _ => rfl⟩, by rw [e1, st_same], Or.inr rfl, ⟨by decide, by rw [show ((0 : Int32)).toInt = 0 by decide]; omega⟩, fun _ _ _ _ _ => rfl, fun a j n1 _ _ => by rw [e1, st_no (by omega)], by rw [e1]; exact aM_s aM_r (by simp [Mb]), oL_r, fun i hi => Or.inl (by rw [e1, st_oth (by decide)])⟩
