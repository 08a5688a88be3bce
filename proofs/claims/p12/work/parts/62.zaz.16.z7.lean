/-! seconds -/
theorem at2_sk {b p n : Nat} {P T S : Tr} (hR : Rl b P T S) (hp : p < 5) (hn : (n : Int) < (S 56 (5 * b + p)).toInt) : ∃ t : Nat, (t : Int) < (S 0 14).toInt ∧ (T 16 (10 * p + n)).toInt = t ∧ at2 b T S t p n := by
  obtain ⟨⟨hS, hpI, hg⟩, hK, hs, hd, hv⟩ := hR
  obtain ⟨t, t1, t2, t3, t4⟩ := sk_at hS hg.1 hp hn
  obtain ⟨k1, k2, k3⟩ := hd.2.2.2.2 p hp
  have e := k2 n hn
  obtain ⟨p', pos', ha⟩ := at2_of hS hg.1 hd.2.2.2.1 hd.2.2.2.2 t3 (by rw [t4]; omega)
  have ha' := ha
  obtain ⟨a1, a2, a3, a4, a5, a6, a7, a8, a9, a10⟩ := ha'
  have hp' : p' = p := by rw [a3, t4] at a1; omega
  subst hp'
  have e2 : (T 16 (10 * p' + n)).toInt = t := by rw [e]; exact t2
  have := a10 n hn e2
  rw [this] at e2 ⊢
  exact ⟨t, t3, e2, ha⟩
theorem at2_e {b i p pos : Nat} {T T1 S S1 : Tr} (h : at2 b T S i p pos) (e : o19 T T1) (f : o51 S S1) : at2 b T1 S1 i p pos := by
  unfold at2 at h ⊢
  rw [e 15 i (by omega), e 17 p (by omega), e 16 _ (by omega), f.1 54 _ (by omega), f.1 56 _ (by omega)]
  obtain ⟨a1, a2, a3, a4, a5, a6, a7, a8, a9, a10⟩ := h
  exact ⟨a1, a2, a3, a4, a5, a6, a7, a8, fun k hk => by rw [e 16 _ (by omega), f.1 55 _ (by omega)]; exact a9 k hk, fun k hk => by rw [e 16 _ (by omega)]; exact a10 k hk⟩
def lfQ (T S : Tr) (L : Lo) (d : Int32) (q : Int64 × Tr × Lo) (q' : Int32 × Tr × Lo) : Prop := o19 T q.2.1 ∧ o51 S q'.2.1 ∧ oL L q'.2.2 ∧ ((q.1 = -9223372036854775808 ∧ q'.1 = d) ∨ (bnd q.1 ∧ q'.1 = clm q.1 99))
theorem able_of {b o : Nat} {T S : Tr} (hS : iR BM S) (hg : gI b S) (hs : sta b T S) (ho : (o : Int) < (S 0 13).toInt) : 1 ≤ (T 10 o).toInt := by
  have h13 : (S 0 13).toInt ≤ 6 := (hS 0 13).2
  rw [(hs.1 o ho).2]
  split
  · exact hg.2.2 o (by omega) ho
  · decide
theorem e_lift {b i p pos o : Nat} {P T S : Tr} {L Lc : Lo} {xb x1 xo : Int32} (hb : xb.toNatClampNeg = b) (hxb : 0 ≤ xb.toInt ∧ xb.toInt ≤ 1) (hR : Rl b P T S) (hi : x1.toInt = i) (hii : (i : Int) < (S 0 14).toInt) (ha : at2 b T S i p pos) (ho : xo.toInt = o) (hop : (o : Int) < (S 0 13).toInt) : E2 (f_X6_worked T P Lc (0 : Int32) x1 (T 10 o)) (f_X8_liftOf S L xb x1 xo) (lfQ T S L ((P 15 i) / (T 10 o) + 1)) := by
  have h14 : (S 0 14).toInt ≤ 10 := (hR.1.1 0 14).2
  have h13 : (S 0 13).toInt ≤ 6 := (hR.1.1 0 13).2
  unfold f_X8_liftOf
  rw [i_cn hi]
  refine E2_br (e_lay hb hxb hR hi hii ha ho hop) (fun L2 h2 => E2_ckr (fun _ => E2_br (e_able hb hxb ho (by omega) hR.2.2.1 hop) (fun r5 h5 => E2_ckr (fun _ => ?_))))
  rw [h5, ← (hR.2.1.2.2.2.1 i hii).2.1]
  refine E2_rb (e_wk (Lc := Lc) hR hi ha (xw := 0) (w := 0) (by decide) (by decide) h2.1) (fun q q' hq => ?_)
  obtain ⟨u1, u2, u3, u4⟩ := hq
  exact E2_ltr (fun r9 e9 => E2_ltr (fun S10 s10 => E2_ltr (fun L11 l11 => E2_some ⟨u1, by rw [s10]; exact u2, by rw [l11]; exact oL_t h2.2 u3, by rw [e9]; exact u4⟩)))
theorem clm_99 (v : Int64) : 0 ≤ (clm v 99).toInt ∧ (clm v 99).toInt ≤ 99 := by
  unfold clm
  split
  · rename_i c
    have c := l_cge.mp c
    rw [show (0 : Int64).toInt = 0 by decide] at c
    split
    · rename_i c2
      have c2 := l_cle.mp c2
      rw [l_i32, show (99 : Int32).toInt = 99 by decide] at c2
      rw [Int64.toInt_toInt32, i_bm (by omega) (by omega)]
      exact ⟨c, c2⟩
    · decide
  · decide
theorem w_able {w a : Int32} (hw : 0 ≤ w.toInt ∧ w.toInt ≤ 99) (ha : 1 ≤ a.toInt) : 0 ≤ (w / a + 1).toInt ∧ (w / a + 1).toInt ≤ 100 := by
  have d := i_divv (a := w) (b := a) hw.1 (by omega)
  have e : (w / a + 1).toInt = (w / a).toInt + 1 := i_addK rfl (by decide) (by omega) (by omega)
  omega
def scQ (T S : Tr) (L : Lo) (q q' : Int32 × Tr × Lo) : Prop := q.1 = q'.1 ∧ o19 T q.2.1 ∧ o51 S q'.2.1 ∧ oL L q'.2.2 ∧ 0 ≤ q'.1.toInt ∧ q'.1.toInt ≤ 1000
theorem e_sec {b i p pos o : Nat} {P T S : Tr} {L Lc : Lo} {xb x1 : Int32} (hb : xb.toNatClampNeg = b) (hxb : 0 ≤ xb.toInt ∧ xb.toInt ≤ 1) (hR : Rl b P T S) (hi : x1.toInt = i) (hii : (i : Int) < (S 0 14).toInt) (ha : at2 b T S i p pos) (ho : (S 30 i).toInt = o) : E2 (f_X6_secondsFor T P Lc x1 (T 10 o)) (f_X8_secondsOf S L xb x1) (scQ T S L) := by
  have hS := hR.1.1
  have h14 : (S 0 14).toInt ≤ 10 := (hS 0 14).2
  have hop : (o : Int) < (S 0 13).toInt := by rw [← ho]; exact hR.1.2.1.2.2.1 i (by omega) hii
  have hab := able_of hS hR.1.2.2 hR.2.2.1 hop
  obtain ⟨a1, a2, a3, a4, a5, a6, a7, a8, a9, a10⟩ := id ha
  obtain ⟨h, hh⟩ : ∃ h : Nat, (S 56 (5 * b + p)).toInt = h := ⟨(S 56 (5 * b + p)).toInt.toNat, by omega⟩
  have lp : ∀ (N M n : Nat) (x4 y2 x5 x6 y4 y5 : Int32) (T1 S1 : Tr) (Lc1 L1 : Lo), x4.toInt = p → y2.toInt = p → x5 = y4 → x6.toInt = n → y5.toInt = n → n ≤ h → 0 ≤ y4.toInt ∧ y4.toInt ≤ 100 * (n : Int) → o19 T T1 → o51 S S1 → oL L L1 → E2 (lpF (fun _ _ _ _ => none) (fB_X6_secondsFor_L26 P (T 10 o) x4) N x5 x6 T1 Lc1) (lpF (fun _ _ _ _ => none) (fB_X8_secondsOf_L23 xb x1 y2) M y4 y5 S1 L1) (scQ T S L) := by
    intro N
    induction N with
    | zero => intro M n x4 y2 x5 x6 y4 y5 T1 S1 Lc1 L1 _ _ _ _ _ _ _ _ _ _; exact E2_nl
    | succ N ih =>
      intro M n x4 y2 x5 x6 y4 y5 T1 S1 Lc1 L1 hx4 hy2 he hx6 hy5 hn hB ho19 ho51 hoL
      cases M with
      | zero => exact E2_nr
      | succ M =>
        show E2 (fB_X6_secondsFor_L26 P (T 10 o) x4 (lpF (fun _ _ _ _ => none) (fB_X6_secondsFor_L26 P (T 10 o) x4) N) x5 x6 T1 Lc1) (fB_X8_secondsOf_L23 xb x1 y2 (lpF (fun _ _ _ _ => none) (fB_X8_secondsOf_L23 xb x1 y2) M) y4 y5 S1 L1) _
        have ih := fun n x5 x6 y4 y5 T1 S1 Lc1 L1 => ih M n x4 y2 x5 x6 y4 y5 T1 S1 Lc1 L1 hx4 hy2
        generalize lpF (fun _ _ _ _ => none) (fB_X6_secondsFor_L26 P (T 10 o) x4) N = k at ih ⊢
        generalize lpF (fun _ _ _ _ => none) (fB_X8_secondsOf_L23 xb x1 y2) M = k' at ih ⊢
        have j5 : (((5 : Int32) * xb) + y2).toNatClampNeg = 5 * b + p := by rw [jx 5 (by decide) (by omega) hxb hy2 (by omega), hb]
        have hR1 := Rl_e hR ho19 ho51
        have e56 : S1 56 (5 * b + p) = S 56 (5 * b + p) := ho51.1 56 _ (by omega)
        have e17 : T1 17 p = S 56 (5 * b + p) := by rw [ho19 17 p (by omega)]; exact a4
        unfold fB_X6_secondsFor_L26 fB_X8_secondsOf_L23
        rw [i_cn hx4, j5, e56, e17, (jy hx4 a2 hx6 (by omega)).1]
        refine E2_ckl (fun _ => E2_ckr (fun _ => ?_))
        by_cases c : S 56 (5 * b + p) ≤ x6
        · have c1 := tq_le hh hx6 c
          have c2 : S 56 (5 * b + p) ≤ y5 := Int32.le_iff_toInt_le.mpr (by rw [hh, hy5]; exact c1)
          exact E2_pl c (E2_pr c2 (E2_some ⟨he, ho19, ho51, hoL, hB.1, by show y4.toInt ≤ 1000; omega⟩))
        · have c1 := tq_len hh hx6 c
          have c2 : ¬ S 56 (5 * b + p) ≤ y5 := fun q => by have := tq_le hh hy5 q; omega
          refine E2_ql c (E2_qr c2 (E2_ckl (fun _ => E2_ltl (fun y10 e10 => E2_br (e_sat hb hxb hy2 a2 hy5 (by omega)) (fun r8 h8 => E2_ckr (fun _ => ?_))))))
          obtain ⟨t, t1, t2, t3⟩ := at2_sk hR1 (p := p) (n := n) (by omega) (by rw [e56, hh]; omega)
          have hy10 : y10.toInt = t := by rw [e10]; exact t2
          have er : r8 = y10 := by
            rw [h8, e10]
            exact ((hR1.2.2.2.1.2.2.2.2 p (by omega)).2.1 n (by rw [e56, hh]; omega)).symm
          have e30 : S1 30 x1.toNatClampNeg = S 30 i := by rw [i_cn hi]; exact ho51.1 30 i (by omega)
          have e10' : T1 10 o = T 10 o := ho19 10 o (by omega)
          have e13 : S1 0 13 = S 0 13 := ho51.1 0 13 (by omega)
          rw [er, e30, ← e10']
          refine E2_bd (e_lift (Lc := Lc1) hb hxb hR1 hy10 t1 t3 ho (by rw [e13]; exact hop)) (fun q q' hq => ?_)
          obtain ⟨u1, u2, u3, u4⟩ := hq
          rw [e10'] at u4
          refine E2_ltl (fun r11 e11 => E2_ltl (fun T12 t12 => E2_ltl (fun L13 l13 => E2_ltr (fun r12 e12 => E2_ltr (fun S13 s13 => E2_ltr (fun L14 l14 => ?_))))))
          have e11 : r11 = q.1 := e11
          have e12 : r12 = q'.1 := e12
          have v1 : o19 T T12 := by rw [show T12 = q.2.1 from t12]; exact o19_t ho19 u1
          have v2 : o51 S S13 := by rw [show S13 = q'.2.1 from s13]; exact o51_t ho51 u2
          have v3 : oL L L14 := by rw [show L14 = q'.2.2 from l14]; exact oL_t hoL u3
          rw [← e11, ← e12] at u4
          rw [i_cn hy10, e10']
          have wt := hR.2.1.2.2.2.1 t (by rw [← ho51.1 0 14 (by omega)]; exact t1)
          have wb : 0 ≤ (P 15 t).toInt ∧ (P 15 t).toInt ≤ 99 := by rw [wt.2.1]; exact ⟨by have := wt.2.2.2.2.1; omega, wt.2.2.2.2.2.1⟩
          rcases u4 with ⟨w1, w2⟩ | ⟨w1, w2⟩
          · have wa := w_able wb hab
            have na : ¬ T 10 o ≤ 0 := fun q => by have := tq_le rfl (b := 0) (by decide) q; omega
            refine E2_pl (by rw [w1]; decide) (E2_ql na (E2_ckl (fun _ => E2_ckl (fun _ => E2_ltl (fun y21 e21 => E2_ltl (fun y22 e22 => E2_ltr (fun y17 e17' => E2_ltr (fun y18 e18 => ?_))))))))
            refine ih (n + 1) y21 y22 y17 y18 T12 S13 L13 L14 (by rw [e21, e17', w2, he]) (by rw [e22]; exact i_p1 hx6 (by omega)) (by rw [e18]; exact i_p1 hy5 (by omega)) (by omega) ?_ v1 v2 v3
            rw [e17', w2, i_add (by omega) (by omega)]
            omega
          · have cb := clm_99 r11
            refine E2_ql (nmn w1) ?_
            rw [e_wi, bd_some]
            refine E2_ltl (fun y26 e26 => E2_ltl (fun y27 e27 => E2_ltr (fun y17 e17' => E2_ltr (fun y18 e18 => ?_))))
            refine ih (n + 1) y26 y27 y17 y18 T12 S13 L13 L14 (by rw [e26, e17', w2, he]) (by rw [e27]; exact i_p1 hx6 (by omega)) (by rw [e18]; exact i_p1 hy5 (by omega)) (by omega) ?_ v1 v2 v3
            rw [e17', w2, i_add (by omega) (by omega)]
            omega
  have j10 : (((10 : Int32) * xb) + x1).toNatClampNeg = 10 * b + i := by rw [jx 10 (by decide) (by omega) hxb hi (by omega), hb]
  unfold f_X6_secondsFor f_X8_secondsOf fL_X6_secondsFor_L26 fL_X8_secondsOf_L23
  rw [j10, i_cn hi]
  refine E2_bl (at_lvl ha hi) (fun r1 h1 => E2_pl (Int32.le_iff_toInt_le.mpr (by rw [h1]; show (0 : Int) ≤ _; omega)) (E2_ckl (fun _ => E2_ltl (fun y6 e6 => E2_ckr (fun _ => E2_ltr (fun y2 e2 => E2_br (at_bel ha hb hxb hS hR.1.2.2.1 hi (by omega)) (fun r3 h3 => ?_)))))))
  exact lp 2000 2000 pos y6 y2 0 r1 0 r3 T S Lc L (by rw [e6]; exact a1) (by rw [e2, ← a3]; exact a1) rfl h1 h3 (by omega) ⟨by decide, by show (0 : Int32).toInt ≤ _; rw [show (0 : Int32).toInt = 0 by decide]; omega⟩ o19_r o51_r oL_r
