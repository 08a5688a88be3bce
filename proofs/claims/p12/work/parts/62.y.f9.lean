/-! signs are closed by both -/
def clQ (j f e d n s : Nat) (x2 : Int32) (R P T R1 P1 T1 : Tr) : Prop := ∃ n1 s1, qC j f e d n1 s1 R1 P1 T1 ∧ n1 ≤ n ∧ s ≤ s1 ∧ (n1 = 0 ∨ ∃ m, n1 = m + 1 ∧ rkI (T 42 m).toInt < x2.toInt) ∧ zc (T 42) n1 = zc (T 42) n ∧ (∀ a i, ¬ (a = 0 ∧ i = 8) → R1 a i = R a i) ∧ (∀ a i, ¬ ((a = 30 + 3 * j ∧ i = 1) ∨ a = 31 + 3 * j) → P1 a i = P a i) ∧ (∀ a i, ¬ ((a = 0 ∧ (i = 19 ∨ i = 43 ∨ i = 44)) ∨ (39 ≤ a ∧ a ≤ 41 ∧ 64 + f ≤ i) ∨ a = 43) → T1 a i = T a i)
theorem bd_lt {α β γ : Type} {v : α} {k : α → Option β} {g : β → Option γ} : bd (lt v k) g = lt v (fun a => bd (k a) g) := rfl
theorem bd_ck {β γ : Type} {c : Bool} {k : Option β} {g : β → Option γ} : bd (ck c k) g = ck c (bd k g) := by
  cases c <;> rfl
theorem sg_rk {c k : Int} (h : sg2 c k) {x : Int} (h1 : 1 ≤ x) (h2 : ¬ rkI k < x) : ¬ k = 0 := fun q => by
  rw [q] at h2
  exact h2 (by have : rkI 0 = 0 := by decide
               omega)
theorem e_close {j f : Nat} {x2 : Int32} (hj : j < 3) (hx : 1 ≤ x2.toInt) (N : Nat) : ∀ (e d n s : Nat) (R P T : Tr), qC j f e d n s R P T → E2 (lpF (fun _ _ => none) (fB_X3_closeSigns_L0 j x2) N R P) (lpF (fun _ => none) (fB_X8_bind_L0 x2) N T) (fun q T1 => clQ j f e d n s x2 R P T q.1 q.2 T1) := by
  induction N with
  | zero => intro e d n s R P T _; exact E2_nl
  | succ N ih =>
    intro e d n s R P T G
    show E2 (fB_X3_closeSigns_L0 j x2 (lpF (fun _ _ => none) (fB_X3_closeSigns_L0 j x2) N) R P) (fB_X8_bind_L0 x2 (lpF (fun _ => none) (fB_X8_bind_L0 x2) N) T) _
    generalize lpF (fun _ _ => none) (fB_X3_closeSigns_L0 j x2) N = k1 at ih ⊢
    generalize lpF (fun _ => none) (fB_X8_bind_L0 x2) N = k2 at ih ⊢
    unfold fB_X3_closeSigns_L0 fB_X8_bind_L0
    have G0 := G
    obtain ⟨⟨⟨s1, s2, s3, s4⟩, s5, s6, s7⟩, ⟨n1, n2, n3⟩, ⟨h1, h2⟩, l1, c1, c2, c3⟩ := G
    have stop : (n = 0 ∨ ∃ m, n = m + 1 ∧ rkI (T 42 m).toInt < x2.toInt) → clQ j f e d n s x2 R P T R P T := fun q => ⟨n, s, G0, by omega, by omega, q, rfl, fun _ _ _ => rfl, fun _ _ _ => rfl, fun _ _ _ => rfl⟩
    rcases n with _ | n
    · exact E2_pl (Int32.le_iff_toInt_le.mpr (by rw [s1]; decide)) (E2_pr (Int32.le_iff_toInt_le.mpr (by rw [s2]; decide)) (E2_some (stop (Or.inl rfl))))
    · have r8 : (R 0 8 - 1).toInt = n := by rw [i_subK s1 (y := 1) (by decide) (by omega) (by omega)]; omega
      have t43 : (T 0 43 - 1).toInt = n := by rw [i_subK s2 (y := 1) (by decide) (by omega) (by omega)]; omega
      refine E2_ql (fun q => by have := tq_le (b := 0) s1 (by decide) q; omega) (E2_qr (fun q => by have := tq_le (b := 0) s2 (by decide) q; omega) (E2_ckr (fun _ => ?_)))
      rw [i_cn t43]
      have hsg := s4 n (by omega)
      obtain ⟨r, er, hr⟩ := e_rank (T 42 n)
      rw [er]
      unfold f_X3_latestBinds
      rw [if_neg (show ¬ R 0 8 = 0 from fun q => by rw [q] at s1; have : (0 : Int32).toInt = 0 := by decide
                                                    omega), i_cn r8]
      have hb := b_rank hsg
      have eb : bindsF (R 8 n).toNatClampNeg = r := i_z (by rw [hb, hr])
      rw [eb]
      refine E2_sr ?_
      have unck : ∀ {g1 g2 : Bool} {k : Int32 → Option (Tr × Tr)} {y : Option Tr} {Q : Tr × Tr → Tr → Prop}, E2 (k r) y Q → E2 (bd (ck g1 (ck g2 (some r))) k) y Q := fun {g1 g2 k y Q} hk => by
        cases g1
        · exact E2_nl
        · cases g2
          · exact E2_nl
          · exact hk
      refine unck ?_
      by_cases cr : rkI (T 42 n).toInt < x2.toInt
      · have cl : r < x2 := Int32.lt_iff_toInt_lt.mpr (by rw [hr]; exact cr)
        exact E2_pl cl (E2_pr cl (E2_some (stop (Or.inr ⟨n, rfl, cr⟩))))
      · have cl : ¬ r < x2 := fun q => cr (by have := tq_lt rfl rfl q; rw [hr] at this; exact this)
        refine E2_ql cl (E2_qr cl (E2_ltl (fun R1 e1 => E2_ltr (fun T1 f1 => E2_ckl (fun _ => E2_ckr (fun _ => ?_))))))
        have R18 : R1 0 8 = R 0 8 - 1 := by rw [e1, st_same]
        have T143 : T1 0 43 = T 0 43 - 1 := by rw [f1, st_same]
        rw [R18, T143, i_cn r8, i_cn t43]
        have R8n : R1 8 n = R 8 n := by rw [e1, st_no (by omega)]
        have T42 : ∀ i, T1 42 i = T 42 i := fun i => by rw [f1, st_no (by omega)]
        rw [R8n, T42]
        refine E2_ltr (fun y ey => ?_)
        have hk0 := sg_rk hsg hx cr
        have hc : 19 ≤ (R 8 n).toInt ∧ (R 8 n).toInt ≤ 38 := by unfold sg2 at hsg; omega
        have hcode : ((10000 : Int32) + R 8 n).toInt = 10000 + (R 8 n).toInt := i_addK (by decide) rfl (by omega) (by omega)
        have hz : zc (T 42) (n + 1) = zc (T 42) n := zc_s hk0
        have T144 : T1 0 44 = T 0 44 := by rw [f1, st_no (by omega)]
        have T119 : T1 0 19 = T 0 19 := by rw [f1, st_no (by omega)]
        have T145 : T1 0 45 = T 0 45 := by rw [f1, st_no (by omega)]
        have T146 : T1 0 46 = T 0 46 := by rw [f1, st_no (by omega)]
        have T1f : ∀ a i, ¬ (a = 0 ∧ i = 43) → T1 a i = T a i := fun a i hn => by rw [f1, st_no (by omega)]
        have hfs : f + s ≤ 100 := by omega
        -- what is left once the knot has grown
        have fin : ∀ (l : List Nat) (T2 : Tr) (a b : Int32), (∀ x i, ¬ (x = 0 ∧ i = 44) → T2 x i = T1 x i) → qH f l T2 → l.length + 1 = b2 (T 42) n + e → (∀ P3 T3, grQ j f s l.length ((10000 : Int32) + R 8 n) y a b P T2 P3 T3 → nd (P3 (31 + 3 * j)) (sh64 (T3 39)) (sh64 (T3 40)) (sh64 (T3 41)) f s ∧ hs (P3 (31 + 3 * j)) (s + 1) = s :: l) → E2 (bd (f_X1_append j P ((10000 : Int32) + R 8 n)) fun P_8 => k1 R1 P_8) (bd (f_X8_grown T2 y a b) fun S_19 => k2 S_19) (fun q T9 => clQ j f e d (n + 1) s x2 R P T q.1 q.2 T9) := by
          intro l T2 a b hT2 hH hl hnew
          refine E2_bd (e_grow (f := f) (s := s) (m := l.length) n1 (by rw [hT2 0 19 (by omega), T119]; exact n2) hH.1 hfs) (fun P3 T3 q => ?_)
          obtain ⟨w1, w2⟩ := hnew P3 T3 q
          have qN2 : qN j f s P T2 := ⟨n1, by rw [hT2 0 19 (by omega), T119]; exact n2, fun i hi => nd_of (n3 i hi) (fun _ _ => rfl) (by unfold sh64; rw [hT2 _ _ (by omega), T1f _ _ (by omega)]) (by unfold sh64; rw [hT2 _ _ (by omega), T1f _ _ (by omega)]) (by unfold sh64; rw [hT2 _ _ (by omega), T1f _ _ (by omega)])⟩
          have N3 := qN_add qN2 q w1
          have H3 := qH_add hH q
          have q1 := q.1
          have q4 := q.2.2.2.1
          have all : ∀ a i, ¬ ((a = 0 ∧ (i = 19 ∨ i = 43 ∨ i = 44)) ∨ (39 ≤ a ∧ a ≤ 41 ∧ 64 + f ≤ i) ∨ a = 43) → T3 a i = T a i := fun a i hn => by
            rw [q4 a i (by omega), hT2 a i (by omega), T1f a i (by omega)]
          have t42 : ∀ i, T3 42 i = T 42 i := fun i => all 42 i (by omega)
          have G3 : qC j f e d n (s + 1) R1 P3 T3 := by
            refine ⟨⟨⟨by rw [R18]; exact r8, ?_, by omega, fun i hi => ?_⟩, ?_, ?_, ?_⟩, N3, ?_, ?_, ?_, ?_, ?_⟩
            · rw [q4 0 43 (by omega), hT2 0 43 (by omega), T143]; exact t43
            · rw [e1, st_no (by omega), t42]; exact s4 i (by omega)
            · rw [e1, st_no (by omega), all 0 45 (by omega)]; exact s5
            · rw [all 0 45 (by omega), zc_cg (fun i _ => t42 i), s6, hz]
            · rw [zc_cg (fun i _ => t42 i)]; omega
            · rw [w2]; exact H3
            · rw [w2, b2_cg (fun i _ => t42 i)]; show l.length + 1 = _; exact hl
            · rw [q1 0 3 (by omega), all 0 46 (by omega)]; exact c1
            · rw [all 0 46 (by omega)]; exact c2
            · rw [all 0 46 (by omega), all 0 45 (by omega)]; omega
          refine E2_mono (ih e d n (s + 1) R1 P3 T3 G3) (fun v T9 hv => ?_)
          obtain ⟨n', s', v1, v2, v3, v4, v5, v6, v7, v8⟩ := hv
          refine ⟨n', s', v1, by omega, by omega, ?_, ?_, fun a i hn => ?_, fun a i hn => ?_, fun a i hn => ?_⟩
          · rcases v4 with g | ⟨m, g1, g2⟩
            · exact Or.inl g
            · exact Or.inr ⟨m, g1, by rw [t42] at g2; exact g2⟩
          · rw [zc_cg (fun i _ => t42 i), zc_cg (fun i _ => t42 i)] at v5
            rw [v5, hz]
          · rw [v6 a i hn, e1, st_no (by omega)]
          · rw [v7 a i hn, q1 a i (by omega)]
          · rw [v8 a i hn, all a i hn]
        have hl := l1
        by_cases k22 : (T 42 n).toInt = 2
        · have ey2 : y = 2 := i_z (by rw [ey, k22]; decide)
          have hcc : (R 8 n).toInt = 21 := by unfold sg2 at hsg; omega
          refine E2_pr ey2 ?_
          unfold fJ_X8_bind_J58 f_X8_dropHeld
          simp only [bd_lt, bd_ck]
          refine E2_ltr (fun T2 f2 => E2_ckr (fun h44 => E2_p2r ?_))
          have h44 := okI_d h44
          have tl := (T 0 44).toInt_lt
          have T244 : (T2 0 44).toInt = (T 0 44).toInt - 1 := by rw [f2, st_same, T144]; exact i_subK rfl (by decide) (by omega) (by omega)
          rcases hhs : hs (P (31 + 3 * j)) s with _ | ⟨a, r0⟩
          · rw [hhs] at h1; have : (([] : List Nat).length : Int) = 0 := rfl
            omega
          · rw [hhs] at h1 h2 hl
            have hlen : (a :: r0).length = r0.length + 1 := rfl
            have e44 : (T2 0 44).toInt = r0.length := by omega
            rw [i_cn e44]
            have v43 : (T2 43 r0.length).toInt = f + a := by rw [f2, st_no (by omega), T1f _ _ (by omega)]; exact h2.1
            have fr2 : ∀ x i, ¬ (x = 0 ∧ i = 44) → T2 x i = T1 x i := fun x i hn => by rw [f2, st_no (by omega)]
            refine fin r0 T2 _ _ fr2 ⟨e44, hV_cg (fun i _ => by rw [f2, st_no (by omega), T1f _ _ (by omega)]) h2.2⟩ (by rw [b2_s (by omega)] at hl; omega) (fun P3 T3 q => ?_)
            obtain ⟨q1, q2, q3, q4, ⟨q5, q6, q7⟩, q8⟩ := q
            have hg : ∀ i, i < s → P3 (31 + 3 * j) i = P (31 + 3 * j) i := fun i hi => q1 _ _ (by omega)
            have hgs : (P3 (31 + 3 * j) s).toInt = 10021 := by rw [q2, hcode, hcc]; rfl
            refine ⟨Or.inr (Or.inr (Or.inl ⟨a, r0, hgs, ?_, ?_, ?_⟩)), ?_⟩
            · unfold sh64; rw [q5, ey2]; decide
            · rw [hs_cg hg]; exact hhs
            · unfold sh64; rw [q6]; exact v43
            · rw [(hs_nx hg).2.1 hgs, hhs]; rfl
        · have ey2 : ¬ y = 2 := fun q => k22 (by rw [← ey, q]; decide)
          have k3 : 3 ≤ (T 42 n).toInt := by unfold sg2 at hsg; omega
          refine E2_qr ey2 ?_
          unfold f_X8_dropHeld
          simp only [bd_lt, bd_ck]
          refine E2_ltr (fun T2 f2 => E2_ckr (fun h44 => E2_p2r ?_))
          have h44 := okI_d h44
          have tl := (T 0 44).toInt_lt
          have T244 : (T2 0 44).toInt = (T 0 44).toInt - 1 := by rw [f2, st_same, T144]; exact i_subK rfl (by decide) (by omega) (by omega)
          unfold fJ_X8_bind_J58 f_X8_dropHeld
          simp only [bd_lt, bd_ck]
          refine E2_ltr (fun T3 f3 => E2_ckr (fun h45 => E2_p2r ?_))
          have h45 := okI_d h45
          have T344 : (T3 0 44).toInt = (T2 0 44).toInt - 1 := by rw [f3, st_same]; exact i_subK rfl (by decide) (by omega) (by omega)
          rcases hhs : hs (P (31 + 3 * j)) s with _ | ⟨b, _ | ⟨a, r0⟩⟩
          · rw [hhs] at h1; have : (([] : List Nat).length : Int) = 0 := rfl
            omega
          · rw [hhs] at h1; have : (([b] : List Nat).length : Int) = 1 := rfl
            omega
          · rw [hhs] at h1 h2 hl
            have hlen : (b :: a :: r0).length = r0.length + 2 := rfl
            have e44 : (T2 0 44).toInt = (r0.length + 1 : Nat) := by omega
            have e45 : (T3 0 44).toInt = r0.length := by omega
            rw [i_cn e44, i_cn e45]
            have vb : (T2 43 (r0.length + 1)).toInt = f + b := by rw [f2, st_no (by omega), T1f _ _ (by omega)]; exact h2.1
            have va : (T3 43 r0.length).toInt = f + a := by rw [f3, st_no (by omega), f2, st_no (by omega), T1f _ _ (by omega)]; exact h2.2.1
            have fr2 : ∀ x i, ¬ (x = 0 ∧ i = 44) → T3 x i = T1 x i := fun x i hn => by rw [f3, st_no (by omega), f2, st_no (by omega)]
            refine fin r0 T3 _ _ fr2 ⟨e45, hV_cg (fun i _ => by rw [f3, st_no (by omega), f2, st_no (by omega), T1f _ _ (by omega)]) h2.2.2⟩ (by rw [b2_z k3] at hl; omega) (fun P3 T4 q => ?_)
            obtain ⟨q1, q2, q3, q4, ⟨q5, q6, q7⟩, q8⟩ := q
            have hg : ∀ i, i < s → P3 (31 + 3 * j) i = P (31 + 3 * j) i := fun i hi => q1 _ _ (by omega)
            have hgs : (P3 (31 + 3 * j) s).toInt = 10000 + (R 8 n).toInt := by rw [q2, hcode]
            have hcc : ¬ (R 8 n).toInt = 21 ∧ ¬ (22 ≤ (R 8 n).toInt ∧ (R 8 n).toInt ≤ 28) := by unfold sg2 at hsg; omega
            refine ⟨Or.inr (Or.inr (Or.inr ⟨a, b, r0, ?_, ?_, ?_, ?_, ?_⟩)), ?_⟩
            · unfold sh64; rw [q5, hgs, ey, show 10000 + (R 8 n).toInt - 10000 = (R 8 n).toInt by omega]; exact hsg
            · unfold sh64; rw [q5, ey]; exact k3
            · rw [hs_cg hg]; exact hhs
            · unfold sh64; rw [q6]; exact va
            · unfold sh64; rw [q7]; exact vb
            · rw [(hs_nx hg).2.2 (by omega) (by omega), hhs]; rfl
