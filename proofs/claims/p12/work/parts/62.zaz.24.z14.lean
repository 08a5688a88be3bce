/-! getting out: a person's pieces, all persons -/
theorem od_z {b o : Nat} {P T0 S0 : Tr} {L0 : Lo} {k7 : Int32 → Int32 → Int32 → Tr → Lo → Option (Int32 × Tr × Lo)} {k9 : Int32 → Int32 → Tr → Lo → Option (Tr × Lo)} {Q : Int32 × Tr × Lo → Tr × Lo → Prop} {xb xo x1 x2 x4 x5 : Int32} {T S V : Tr} {L Lc : Lo} (hb : xb.toNatClampNeg = b) (hxb : 0 ≤ xb.toInt ∧ xb.toInt ≤ 1) (ho : xo.toInt = o) (ho6 : o < 6) (hV : Rl b P T V) (hS : rI b S) (hv : inv b S) (v20 : S0 62 b = 20 → vS b o S V) (vn : ¬ S0 62 b = 20 → V = S) (hab : S 59 (6 * b + o) = 1) (h72 : S 0 72 = x2) (hu : 0 ≤ x2.toInt ∧ x2.toInt ≤ 10000 * (o : Int) + 10000) (fr : oFr b T0 S0 L0 T S L) (hk : ∀ (x2 x3 y : Int32) (T1 S1 : Tr) (L1 Lc1 : Lo), y.toInt = ((o + 1 : Nat) : Int) → OU b P T0 S0 L0 (o + 1) x2 x3 T1 S1 L1 → E2 (k7 x2 x3 y T1 Lc1) (k9 x3 y S1 L1) Q) (N M : Nat) : E2 (lpF (fun _ _ _ _ _ => none) (fB_X6_takeDown_L53 k7 P x1 xo) N x2 0 x5 T Lc) (lpF (fun _ _ _ _ => none) (fB_X8_outs_L32 k9 xb xo) M 0 x4 S L) Q := by
  cases N with
  | zero => exact E2_nl
  | succ N =>
    have g : E2 (fJ_X6_takeDown_J176 k7 P x1 x2 0 xo T Lc) (lpF (fun _ _ _ _ => none) (fB_X8_outs_L32 k9 xb xo) M 0 x4 S L) Q := by
      refine ou_z (S0 := S) (L0 := L) (fun S1 L1 h1 h2 => ?_) M x4 S L o51_r oL_r
      have a1 := rI_51 hS h1
      have a2 := inv_51 hv h1
      have a3 : S1 59 (6 * b + o) = 1 := (h1.1 59 _ (by omega)).trans hab
      have a4 : S1 0 72 = x2 := (h1.1 0 72 (by omega)).trans h72
      have a5 := oFr_e fr (o19_r (T := T)) h1 h2
      by_cases c20 : S0 62 b = 20
      · exact od_j hb hxb ho ho6 hV a1 a2 (fun q => vS_51 (v20 q) h1) (fun q => absurd c20 q) (fun q => absurd q (by decide)) a3 a4 (Or.inl rfl) hu a5 (fun y T1 S1 Lc1 hy hO => hk x2 0 y T1 S1 L1 Lc1 hy hO)
      · have hV1 : Rl b P T S1 := by
          have := vn c20
          rw [this] at hV
          exact Rl_e hV o19_r h1
        exact od_j hb hxb ho ho6 hV1 a1 a2 (fun q => absurd q c20) (fun _ => rfl) (fun q => absurd q (by decide)) a3 a4 (Or.inl rfl) hu a5 (fun y T1 S1 Lc1 hy hO => hk x2 0 y T1 S1 L1 Lc1 hy hO)
    show E2 (fB_X6_takeDown_L53 k7 P x1 xo (lpF (fun _ _ _ _ _ => none) (fB_X6_takeDown_L53 k7 P x1 xo) N) x2 0 x5 T Lc) _ Q
    generalize lpF (fun _ _ _ _ _ => none) (fB_X6_takeDown_L53 k7 P x1 xo) N = k
    unfold fB_X6_takeDown_L53
    exact E2_itl (fun _ => g) (fun _ => E2_pl rfl g)
/-- the limit of a stop -/
def oLim (b : Nat) (S0 : Tr) (x1 : Int32) : Prop := (S0 0 70 = 0 ∧ x1 = S0 34 (S0 62 b).toNatClampNeg) ∨ (¬ S0 0 70 = 0 ∧ x1 = 1000000)
theorem od_in {b o : Nat} {P T0 S0 : Tr} {L0 : Lo} {k7 : Int32 → Int32 → Int32 → Tr → Lo → Option (Int32 × Tr × Lo)} {k9 : Int32 → Int32 → Tr → Lo → Option (Tr × Lo)} {Q : Int32 × Tr × Lo → Tr × Lo → Prop} {xb xo x1 : Int32} (hb : xb.toNatClampNeg = b) (hxb : 0 ≤ xb.toInt ∧ xb.toInt ≤ 1) (ho : xo.toInt = o) (ho6 : o < 6) (lim : oLim b S0 x1) (hk : ∀ (x2 x3 y : Int32) (T1 S1 : Tr) (L1 Lc1 : Lo), y.toInt = ((o + 1 : Nat) : Int) → OU b P T0 S0 L0 (o + 1) x2 x3 T1 S1 L1 → E2 (k7 x2 x3 y T1 Lc1) (k9 x3 y S1 L1) Q) (N : Nat) : ∀ (n : Nat) (x2 x5 : Int32) (T S : Tr) (L Lc : Lo), x5.toInt = n → n ≤ 10 → Rl b P T S → S 0 72 = x2 → (0 ≤ x2.toInt ∧ x2.toInt ≤ 10000 * (o : Int) + 1000 * (n : Int)) → (∀ i : Nat, i < n → S 30 i = xo → ¬ S 53 (10 * b + i) = 1) → S 59 (6 * b + o) = 1 → (S0 62 b = 20 → ∀ p : Nat, p < o → (p : Int) < (S 0 13).toInt → ¬ S 59 (6 * b + p) = 1) → oFr b T0 S0 L0 T S L → E2 (lpF (fun _ _ _ _ _ => none) (fB_X6_takeDown_L53 k7 P x1 xo) N x2 1 x5 T Lc) (lpF (fun _ _ _ _ => none) (fB_X8_outs_L32 k9 xb xo) N 1 x5 S L) Q := by
  induction N with
  | zero => intro n x2 x5 T S L Lc _ _ _ _ _ _ _ _ _; exact E2_nl
  | succ N ih =>
    intro n x2 x5 T S L Lc hx5 hn hR h72 hu hz0 hab h20 fr
    have hz : ∀ (x2 y y' : Int32) (T S : Tr) (L Lc : Lo), Rl b P T S → S 59 (6 * b + o) = 1 → S 0 72 = x2 → (0 ≤ x2.toInt ∧ x2.toInt ≤ 10000 * (o : Int) + 10000) → (S0 62 b = 20 → ∀ p : Nat, p < o → (p : Int) < (S 0 13).toInt → ¬ S 59 (6 * b + p) = 1) → oFr b T0 S0 L0 T S L → E2 (lpF (fun _ _ _ _ _ => none) (fB_X6_takeDown_L53 k7 P x1 xo) N x2 0 y T Lc) (lpF (fun _ _ _ _ => none) (fB_X8_outs_L32 k9 xb xo) N 0 y' S L) Q :=
      fun x2 y y' T S L Lc hR hab h72 hu h20 fr => od_z hb hxb ho ho6 hR hR.1 hR.2.2.2.2 (fun q => vS_r (h20 q)) (fun _ => rfl) hab h72 hu fr hk N N
    show E2 (fB_X6_takeDown_L53 k7 P x1 xo (lpF (fun _ _ _ _ _ => none) (fB_X6_takeDown_L53 k7 P x1 xo) N) x2 1 x5 T Lc) (fB_X8_outs_L32 k9 xb xo (lpF (fun _ _ _ _ => none) (fB_X8_outs_L32 k9 xb xo) N) 1 x5 S L) Q
    generalize lpF (fun _ _ _ _ _ => none) (fB_X6_takeDown_L53 k7 P x1 xo) N = k at ih hz ⊢
    generalize lpF (fun _ _ _ _ => none) (fB_X8_outs_L32 k9 xb xo) N = k' at ih hz ⊢
    have h14 : 0 ≤ (S 0 14).toInt ∧ (S 0 14).toInt ≤ 10 := hR.1.1 0 14
    have p14 : P 0 2 = S 0 14 := hR.2.1.1.2.2.1
    have j10 : (((10 : Int32) * xb) + x5).toNatClampNeg = 10 * b + n := by rw [jx 10 (by decide) (by omega) hxb hx5 (by omega), hb]
    have j6 : (((6 : Int32) * xb) + xo).toNatClampNeg = 6 * b + o := by rw [jx 6 (by decide) (by omega) hxb ho (by omega), hb]
    have e1 := i_p1 hx5 (by omega)
    unfold fB_X6_takeDown_L53 fB_X8_outs_L32
    rw [p14]
    refine E2_it Iff.rfl (fun c _ => ?_) (fun c _ => E2_ql (by decide) (E2_ckl (fun _ => E2_ckr (fun _ => ?_))))
    · have := tq_le rfl hx5 c
      exact od_j hb hxb ho ho6 hR hR.1 hR.2.2.2.2 (fun q => vS_r (h20 q)) (fun _ => rfl) (fun _ => ⟨rfl, fun i hi => hz0 i (by omega)⟩) hab h72 (Or.inr rfl) ⟨hu.1, by omega⟩ fr (fun y T1 S1 Lc1 hy hO => hk x2 1 y T1 S1 L Lc1 hy hO)
    have hn1 : (n : Int) < (S 0 14).toInt := tq_len rfl hx5 c
    have nx : ∀ y y' : Int32, y = x5 + 1 → y' = x5 + 1 → (S 30 n = xo → ¬ S 53 (10 * b + n) = 1) → E2 (k x2 1 y T Lc) (k' 1 y' S L) Q := fun y y' ey ey' g => by
      subst ey ey'
      refine ih (n + 1) x2 (x5 + 1) T S L Lc e1 (by omega) hR h72 ⟨hu.1, by omega⟩ (fun i hi => ?_) hab h20 fr
      rcases (by omega : i < n ∨ i = n) with g2 | rfl
      · exact hz0 i g2
      · exact g
    rw [i_cn hx5, j10, i_cn ho, (hR.2.1.2.2.2.1 n hn1).1, (hR.2.2.2.1.2.2.2.1 n hn1).1]
    refine E2_it Iff.rfl (fun c2 _ => E2_ckr (fun _ => E2_it Iff.rfl (fun c3 _ => E2_ckl (fun _ => ?_)) (fun c3 _ => E2_ltl (fun y ey => E2_ltr (fun y' ey' => nx y y' ey ey' (fun _ => c3)))))) (fun c2 _ => E2_ltl (fun y ey => E2_ltr (fun y' ey' => nx y y' ey ey' (fun q => absurd q c2))))
    have hly : 0 ≤ (S 54 (10 * b + n)).toInt := (hR.1.2.2.2.1 n (by omega)).mp c3
    obtain ⟨p0, pos0, ha⟩ := at2_of hR.1.1 hR.1.2.2.1 hR.2.2.2.1.2.2.2.1 hR.2.2.2.1.2.2.2.2 hn1 hly
    refine E2_bd (e_sec hb hxb hR hx5 hn1 ha (by rw [c2]; exact ho)) (fun q q' hq => E2_ltl (fun r25 e25 => E2_ltl (fun T26 eT => E2_ltl (fun L27 _ => E2_ltr (fun r37 e37 => E2_ltr (fun S38 eS => E2_ltr (fun L39 eL => ?_)))))))
    have er : r25 = r37 := e25.trans (hq.1.trans e37.symm)
    have f19 : o19 T T26 := by rw [eT]; exact hq.2.1
    have f51 : o51 S S38 := by rw [eS]; exact hq.2.2.1
    have fL : oL L L39 := by rw [eL]; exact hq.2.2.2.1
    have rb : 0 ≤ r37.toInt ∧ r37.toInt ≤ 1000 := by rw [e37]; exact hq.2.2.2.2
    have hR1 := Rl_e hR f19 f51
    have u72 : S38 0 72 = x2 := (f51.1 0 72 (by omega)).trans h72
    have s13 : S38 0 13 = S 0 13 := f51.1 0 13 (by omega)
    have s14 : S38 0 14 = S 0 14 := f51.1 0 14 (by omega)
    have hab1 : S38 59 (6 * b + o) = 1 := (f51.1 59 _ (by omega)).trans hab
    have h201 : S0 62 b = 20 → ∀ p : Nat, p < o → (p : Int) < (S38 0 13).toInt → ¬ S38 59 (6 * b + p) = 1 := fun q p hp hp2 => by
      rw [s13] at hp2; rw [f51.1 59 _ (by omega)]; exact h20 q p hp hp2
    have fr1 := oFr_e fr f19 f51 fL
    rw [er]
    have over : E2 (fJ_X6_takeDown_J126 k7 k P x1 xo x2 x5 r37 0 T26 L27) (fJ_X8_outs_J116 k9 k' xb xo x5 r37 S38 L39) Q := by
      unfold fJ_X6_takeDown_J126 fJ_X8_outs_J116 fJ_X8_outs_J117
      exact E2_pl rfl (E2_ltl (fun y _ => E2_pr rfl (E2_ltr (fun y' _ => hz x2 y y' T26 S38 L39 L27 hR1 hab1 u72 ⟨hu.1, by omega⟩ h201 fr1))))
    have fits : E2 (fJ_X6_takeDown_J126 k7 k P x1 xo x2 x5 r37 1 T26 L27) (fJ_X8_outs_J112 k9 k' xb xo x5 r37 S38 L39) Q := by
      unfold fJ_X6_takeDown_J126 fJ_X8_outs_J112 fJ_X8_outs_J117
      rw [i_cn ho, j6]
      refine E2_ql (by decide) (E2_ltl (fun x2' e2' => E2_ckl (fun _ => E2_ltl (fun T35 e35 => ?_))))
      refine E2_qr (by decide) (E2_ltr (fun S44 e44 => E2_ckr (fun _ => E2_ltr (fun S46 e46 => E2_ckr (fun _ => ?_)))))
      have ho13 : (o : Int) < (S38 0 13).toInt ∨ ¬ (o : Int) < (S38 0 13).toInt := Decidable.em _
      have v60 : S44 60 (6 * b + o) = S38 60 (6 * b + o) := by rw [e44, st_oth (by decide)]
      have b30 : (S38 30 n).toInt < (S38 0 13).toInt := hR1.1.2.1.2.2.1 n (by omega) (by rw [s14]; exact hn1)
      have ho2 : (o : Int) < (S38 0 13).toInt := by rw [f51.1 30 n (by omega), c2, ho] at b30; exact b30
      have t12 : T26 12 o = S38 60 (6 * b + o) := (hR1.2.2.2.1.2.2.1 o ho2).2
      have hR2 : Rl b P T35 S46 := by
        have := Rl_sp (o := o) (v := S38 60 (6 * b + o) + r37) (Rl_72 (v := S38 0 72 + r37) hR1) ho6
        rw [e35, e46, v60, t12, e44]; exact this
      have k46 : ∀ a j, ¬ (a = 0 ∧ j = 72) → ¬ a = 60 → S46 a j = S38 a j := fun a j n1 n2 => by rw [e46, st_oth n2, e44, st_no n1]
      have c53 : S46 53 (10 * b + n) = 1 := by rw [k46 53 _ (by omega) (by omega), f51.1 53 _ (by omega)]; exact c3
      have n46 : (n : Int) < (S46 0 14).toInt := by rw [k46 0 14 (by omega) (by omega), s14]; exact hn1
      obtain ⟨p2, pos2, ha2⟩ := at2_of hR2.1.1 hR2.1.2.2.1 hR2.2.2.2.1.2.2.2.1 hR2.2.2.2.1.2.2.2.2 n46 ((hR2.1.2.2.2.1 n (by omega)).mp c53)
      have ab := e_abv ha2 hb hxb hR2.1.1 hR2.1.2.2.1 hx5 (by omega)
      refine E2_bd (R := fun a c => a = c) (E2_ep ab.1 ab.2 (fun a c h1 h2 => Int32.toInt_inj.mp (h1.trans h2.symm))) (fun r36 r48 er2 => ?_)
      have er2 : r36 = r48 := er2
      rw [er2]
      refine E2_ltl (fun T39 e39 => E2_ltr (fun S51 e51 => ?_))
      rw [hb] at e51
      have v61 : T35 0 1 = S46 61 b := hR2.2.2.2.1.2.1
      have hR3 : Rl b P T39 S51 := by rw [e39, e51, v61]; exact Rl_li hR2
      have k51 : ∀ a j, ¬ (a = 0 ∧ j = 72) → ¬ a = 60 → ¬ a = 61 → S51 a j = S38 a j := fun a j n1 n2 n3 => by rw [e51, st_oth n3]; exact k46 a j n1 n2
      have d53 : S51 53 (10 * b + n) = 1 := by rw [k51 53 _ (by omega) (by omega) (by omega), f51.1 53 _ (by omega)]; exact c3
      have n51 : (n : Int) < (S51 0 14).toInt := by rw [k51 0 14 (by omega) (by omega) (by omega), s14]; exact hn1
      refine E2_bd (e_take (c := 2) hb hxb hR3 hx5 n51 d53 (by decide) (by decide)) (fun T40 S52 hq4 => E2_ltl (fun y ey => E2_ltr (fun y' ey' => ?_)))
      obtain ⟨hR4, aG4, p, pos, h, _, _, hc4, hz4⟩ := hq4
      subst ey ey'
      have k52 : ∀ a j, ¬ (a = 0 ∧ j = 72) → ¬ (53 ≤ a ∧ a ≤ 56) → ¬ a = 60 → ¬ a = 61 → S52 a j = S38 a j := fun a j n1 n2 n3 n4 => by rw [hz4.2.2.2.2 a j n2]; exact k51 a j n1 n3 n4
      have z53 : ∀ i : Nat, S52 53 (10 * b + i) = if i = n then 2 else S 53 (10 * b + i) := fun i => by
        rw [hz4.2.2.2.1]
        by_cases g : i = n
        · rw [if_pos (by omega), if_pos g]
        · rw [if_neg (by omega), if_neg g, k51 53 _ (by omega) (by omega) (by omega), f51.1 53 _ (by omega)]
      have z72 : S52 0 72 = x2' := by
        rw [hz4.2.2.2.2 0 72 (by omega), e51, st_oth (by decide), e46, st_oth (by decide), e44, st_same, u72, e2']
      have b2 : x2'.toInt = x2.toInt + r37.toInt := by rw [e2']; exact i_addK rfl rfl (by omega) (by omega)
      refine ih (n + 1) x2' (x5 + 1) T40 S52 L39 L27 e1 (by omega) hR4 z72 ⟨by omega, by omega⟩ (fun i hi q => ?_) ?_ (fun q p hp hp2 => ?_) ?_
      · rw [z53]
        by_cases g : i = n
        · rw [if_pos g]; decide
        · rw [if_neg g]
          rw [k52 30 i (by omega) (by omega) (by omega) (by omega), f51.1 30 i (by omega)] at q
          exact hz0 i (by omega) q
      · rw [k52 59 _ (by omega) (by omega) (by omega) (by omega)]; exact hab1
      · rw [k52 0 13 (by omega) (by omega) (by omega) (by omega)] at hp2
        rw [k52 59 _ (by omega) (by omega) (by omega) (by omega)]; exact h201 q p hp hp2
      · refine ⟨fun a j n1 n2 n3 => ?_, fun a j n1 n2 n3 => ?_, ?_, fr1.2.2.2.1, fun i hi => ?_⟩
        · rw [hc4.2.2.2.2.2 a j (by omega), e39, st_no n1, e35, st_oth (by omega)]; exact fr1.1 a j n1 n2 n3
        · rw [k52 a j (by omega) n2 (by omega) (by omega)]; exact fr1.2.1 a j n1 n2 n3
        · refine aM_t fr1.2.2.1 (aM_t (S1 := S51) ?_ (aM_fx aG4 (fx_z hz4)))
          rw [e51, e46, e44]
          exact aM_s (aM_s (aM_s aM_r (by simp [Mb])) (Mb_60 (inB_of (by omega) (by omega)))) Mb_61
        · rw [z53]
          have w := fr.2.2.2.2 i hi
          by_cases g : i = n
          · subst g
            rw [if_pos rfl]
            rcases w with w | ⟨w1, w2⟩
            · exact Or.inr ⟨w.symm.trans c3, rfl⟩
            · exact Or.inr ⟨w1, rfl⟩
          · rw [if_neg g]; exact w
    have e70 : S38 0 70 = S0 0 70 := fr1.2.1 0 70 (by omega) (by omega) (by omega)
    have e62 : S38 62 b = S0 62 b := fr1.2.1 62 b (by omega) (by omega) (by omega)
    refine E2_qr (by decide) ?_
    rcases lim with ⟨l1, l2⟩ | ⟨l1, l2⟩
    · refine E2_pr (e70.trans l1) (E2_ckr (fun _ => E2_ckr (fun _ => ?_)))
      rw [hb, e62, u72, fr1.2.1 34 _ (by omega) (by omega) (by omega), ← l2]
      exact E2_it Iff.rfl (fun _ _ => over) (fun _ _ => fits)
    · refine E2_qr (by rw [e70]; exact l1) (E2_ql (fun c => ?_) fits)
      rw [l2] at c
      have := tq_lt (x := (1000000 : Int32)) (y := x2 + r37) (a := 1000000) (by decide) (i_addK rfl rfl (by omega) (by omega)) c
      omega
