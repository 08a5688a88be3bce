theorem op_fail {j f : Nat} {w : Int32} {K R P T R1 P1 T1 : Tr} {c : Int32} (h : K 0 2 = T1 0 10) (hc : ¬ c = 0) : E2 (some ((0 : Int32), st (st R1 0 1 c) 0 2 (K 0 2), P1)) (some ((0 : Int32), st (st T1 0 4 c) 0 5 (T1 0 10))) (opQ j f w K R P T) := E2_some (Or.inl ⟨rfl, rfl, flt_of h hc⟩)
theorem op_good {j f : Nat} {w : Int32} {K R P T R1 P1 T1 : Tr} (h45 : ¬ (K 0 1).toInt = 45) (h1 : fmS j f w K R1 P1 T1) (h2 : qF j f R P T R1 P1 T1) : E2 (some ((1 : Int32), R1, P1)) (bd (f_X8_token T1) fun S => some ((1 : Int32), S)) (opQ j f w K R P T) := by
  intro a b e1 e2
  obtain ⟨T2, y1, y2⟩ := tx_bd e2
  have y2 := tx_1 y2
  have e1 := tx_1 e1
  subst y2; subst e1
  exact Or.inr ⟨rfl, rfl, h45, T1, y1, h1, h2⟩
/-- an open bracket -/
theorem e_op1 {j f : Nat} {K R P T : Tr} (hj : j < 3) (F : fmS j f 1 K R P T) (hc : (K 0 1).toInt = 39) : E2 (f_X3_readOperand j K R P) (f_X8_leafRead T) (opQ j f 1 K R P T) := by
  obtain ⟨kt, ⟨e, n, s, he, G, M⟩, w47, r01⟩ := F
  have he0 : e = 0 := by
    rcases he with ⟨g, _⟩ | ⟨_, g⟩
    · exact absurd g (by decide)
    · exact g
  subst he0
  have G0 := G
  obtain ⟨⟨⟨s1, s2, s3, s4⟩, s5, s6, s7⟩, ⟨n1, n2, n3⟩, ⟨h1, h2⟩, l1, c1, c2, c3⟩ := G
  have kk := (k_open kt.2.2.2.2.1).mp hc
  unfold f_X3_readOperand f_X8_leafRead
  rw [is_sg.1 ⟨kk.1, by rw [kk.2]; decide⟩]
  refine E2_ltl (fun y ey => E2_sr (E2_qr (by decide) (E2_pl (i_z (by rw [ey, hc]; decide)) ?_)))
  unfold fJ_X3_readOperand_J29
  by_cases c : (T 0 45).toInt = 8
  · rw [if_pos (show 8 ≤ R 0 9 from Int32.le_iff_toInt_le.mpr (by rw [s5, c]; decide)), if_pos (show T 0 45 = 8 from i_z (by rw [c]; decide)), ex0, wrE]
    exact E2_p2l (E2_pl rfl (op_fail kt.2.2.2.1 (by decide)))
  · rw [if_neg (show ¬ 8 ≤ R 0 9 from fun q => by rw [s5] at q; have := tq_le (a := 8) (by decide) rfl q; omega), if_neg (show ¬ T 0 45 = 8 from fun q => c (by rw [q]; decide)), ex1]
    refine E2_p2l (E2_ql (by decide) ?_)
    unfold f_X3_openBracket
    have hn : n < 72 := by omega
    have o := os_n (R := st R 0 9 (R 0 9 + 1)) (x := 39) (n := n) (by rw [st_no (by omega)]; exact s1) hn
    have w := wf_n (T := st T 0 45 (T 0 45 + 1)) (k := 0) (n := n) (by rw [st_no (by omega)]; exact s2) (by omega)
    refine E2_ltr (fun T1 f1 => ?_)
    rw [← f1] at w
    rw [w]
    refine E2_sr (E2_ltr (fun T2 f2 => ?_))
    show E2 (bd (bd (f_X3_openSign (st R 0 9 (R 0 9 + 1)) (39 : Int32)) fun q => lt q.1 fun r2 => lt q.2 fun R_3 => ck (okB r2) (some (r2, R_3))) fun q => lt q.1 fun r68 => lt q.2 fun R_69 => if r68 = 0 then (some ((0 : Int32), R_69, P)) else (some (1, R_69, P))) _ _
    obtain ⟨R3, g3⟩ : ∃ R3, R3 = st (st (st R 0 9 (R 0 9 + 1)) 8 n 39) 0 8 ((st R 0 9 (R 0 9 + 1)) 0 8 + 1) := ⟨_, rfl⟩
    rw [o, ← g3]
    show E2 (some ((1 : Int32), R3, P)) _ _
    have i45 : (T 0 45 + 1).toInt = (T 0 45).toInt + 1 := i_addK rfl (by decide) (by omega) (by omega)
    have R3f : ∀ a i, ¬ ((a = 0 ∧ (i = 9 ∨ i = 8)) ∨ (a = 8 ∧ i = n)) → R3 a i = R a i := fun a i hn => by rw [g3, st_no (by omega), st_no (by omega), st_no (by omega)]
    have T3f : ∀ a i, ¬ ((a = 0 ∧ (i = 45 ∨ i = 43 ∨ i = 48)) ∨ (a = 42 ∧ i = n)) → T2 a i = T a i := fun a i hn => by rw [f2, st_no (by omega), st_no (by omega), st_no (by omega), f1, st_no (by omega)]
    have t45 : T2 0 45 = T 0 45 + 1 := by rw [f2, st_no (by omega), st_no (by omega), st_no (by omega), f1, st_same]
    have t43 : (T2 0 43).toInt = n + 1 := by
      rw [f2, st_no (by omega), st_same, f1, st_no (by omega)]
      exact i_addK s2 (by decide) (by omega) (by omega)
    have t42n : T2 42 n = 0 := by rw [f2, st_no (by omega), st_no (by omega), st_same]
    have r8 : (R3 0 8).toInt = n + 1 := by
      rw [g3, st_same, st_no (by omega)]
      exact i_addK s1 (by decide) (by omega) (by omega)
    have t42o : ∀ i, i < n → T2 42 i = T 42 i := fun i hi => T3f 42 i (by omega)
    have zz : zc (T2 42) (n + 1) = zc (T 42) n + 1 := by rw [zc_z (by rw [t42n]; decide), zc_cg t42o]
    have bb : b2 (T2 42) (n + 1) = b2 (T 42) n := by rw [b2_s (by rw [t42n]; decide), b2_cg t42o]
    have k2 : tkS K T2 := by rw [f2]; exact tkS_st (tkS_st (tkS_st (by rw [f1]; exact tkS_st kt (by omega)) (by omega)) (by omega)) (by omega)
    refine op_good (by omega) ⟨k2, ⟨0, n + 1, s, Or.inr ⟨rfl, rfl⟩, qC_push (k := 0) (c := 39) (d' := 0) (e' := 0) G0 hn (Or.inl ⟨by decide, by decide⟩) r8 (by rw [g3, st_no (by omega), st_same]) (fun i hi => R3f 8 i (by omega)) t43 t42n t42o ?_ ?_ (fun _ _ _ => rfl) hj (fun a i g => T3f a i (by omega)) (by rw [bb]) (by rw [T3f 0 46 (by omega)]; exact c1) (by rw [T3f 0 46 (by omega)]; exact c2) (by rw [T3f 0 46 (by omega), t45, i45]; omega), fun _ => ?_⟩, ?_, ?_⟩ ⟨fun a i g => R3f a i (by omega), fun _ _ _ => rfl, fun a i g => T3f a i (by omega)⟩
    · rw [g3, st_no (by omega), st_no (by omega), st_same, t45, s5]
    · rw [t45, i45, zz]; omega
    · constructor
      · intro g; rw [f2, st_same] at g; exact absurd g (by decide)
      · rintro ⟨m, g1, g2⟩
        have : m = n := by omega
        rw [this, t42n] at g2
        exact absurd g2 (by decide)
    · rw [T3f 0 47 (by omega)]; exact w47
    · rw [R3f 0 1 (by omega)]; exact r01
/-- 'not' -/
theorem e_op2 {j f : Nat} {K R P T : Tr} (hj : j < 3) (F : fmS j f 1 K R P T) (hc : (K 0 1).toInt = 21) : E2 (f_X3_readOperand j K R P) (f_X8_leafRead T) (opQ j f 1 K R P T) := by
  obtain ⟨kt, ⟨e, n, s, he, G, M⟩, w47, r01⟩ := F
  have he0 : e = 0 := by
    rcases he with ⟨g, _⟩ | ⟨_, g⟩
    · exact absurd g (by decide)
    · exact g
  subst he0
  have M := M rfl
  have G0 := G
  obtain ⟨⟨⟨s1, s2, s3, s4⟩, s5, s6, s7⟩, ⟨n1, n2, n3⟩, ⟨h1, h2⟩, l1, c1, c2, c3⟩ := G
  have kk := (k_not kt.2.2.2.2.1).mp hc
  have lb := lb_n G0.1
  unfold f_X3_readOperand f_X8_leafRead
  rw [is_sg.2 (fun q => by omega), is_ky.1 ⟨kk.1, by rw [kk.2]; decide⟩]
  refine E2_ltl (fun y ey => E2_sr (E2_pr rfl (E2_sr (E2_qr (by decide) ?_))))
  have y21 : y = 21 := i_z (by rw [ey, hc]; decide)
  rw [if_neg (show ¬ y = 39 by rw [y21]; decide), if_pos y21, y21]
  have b21 : bindsF (21 : Int32).toNatClampNeg = 3 := by decide
  have ok21 : okI (21 : Int32) 40 = true := by decide
  rw [b21, ok21]
  show E2 (bd (f_X3_latestBinds R) fun r41 => if (3 : Int32) < r41 then (fJ_X3_readOperand_J73 j K 21 0 R P) else (fJ_X3_readOperand_J73 j K 21 1 R P)) _ _
  by_cases c : T 0 48 = 0
  · obtain ⟨m, g1, g2⟩ := M.mp c
    obtain ⟨r, er, hr⟩ := lb.2 m g1
    rw [er, if_pos c]
    refine E2_sl (E2_pl (Int32.lt_iff_toInt_lt.mpr (by rw [hr]; exact g2)) ?_)
    unfold fJ_X3_readOperand_J73 fJ_X8_leafRead_J86 f_X8_nameMet
    rw [if_pos (show T 0 8 = 1 from i_z (by rw [kk.1]; decide)), if_pos (show T 0 9 < 22 from Int32.lt_iff_toInt_lt.mpr (by rw [kk.2]; decide)), ex0, wrE]
    exact E2_p2l (E2_pl rfl (E2_sr (E2_qr (by decide) (E2_qr (fun q => by rw [q] at kk; exact absurd kk.1 (by decide)) (op_fail kt.2.2.2.1 (by decide))))))
  · have hr : ∃ r, f_X3_latestBinds R = some r ∧ r.toInt ≤ 3 := by
      rcases n with _ | m
      · exact ⟨_, lb.1 rfl, by decide⟩
      · obtain ⟨r, er, hr⟩ := lb.2 m rfl
        refine ⟨r, er, ?_⟩
        by_cases g : 3 < r.toInt
        · exact absurd (M.mpr ⟨m, rfl, by rw [← hr]; exact g⟩) c
        · omega
    obtain ⟨r, er, hr⟩ := hr
    rw [er, if_neg c]
    refine E2_sl (E2_ql (fun q => by have := tq_lt (a := 3) (by decide) rfl q; omega) ?_)
    unfold fJ_X3_readOperand_J73
    rw [ex1]
    refine E2_p2l (E2_ql (by decide) ?_)
    by_cases cc : (T 0 46).toInt = 64
    · rw [(cn_no (K := K) (R := R) c1 cc).1, (cn_no (K := K) (R := R) c1 cc).2]
      exact E2_sl (E2_v3l (E2_pl rfl (E2_p2r (E2_pr rfl (op_fail kt.2.2.2.1 (by decide))))))
    · have cc : (T 0 46).toInt < 64 := by omega
      rw [(cn_yes (K := K) (R := R) c1 cc).1, (cn_yes (K := K) (R := R) c1 cc).2]
      have G1 := qC_cnt G0 hj cc
      refine E2_sl (E2_v3l (E2_ql (by decide) (E2_p2r (E2_qr (by decide) ?_))))
      have hn : n < 72 := by omega
      have i46 : (T 0 46 + 1).toInt = (T 0 46).toInt + 1 := i_addK rfl (by decide) (by omega) (by omega)
      have o := os_n (R := R) (x := 21) (n := n) s1 hn
      have w := wf_n (T := st T 0 46 (T 0 46 + 1)) (k := 2) (n := n) (by rw [st_no (by omega)]; exact s2) (by omega)
      rw [o, w]
      refine E2_p2l (E2_ql (by decide) (E2_sr ?_))
      have R3f : ∀ a i, ¬ ((a = 0 ∧ i = 8) ∨ (a = 8 ∧ i = n)) → st (st R 8 n 21) 0 8 (R 0 8 + 1) a i = R a i := fun a i hn => by rw [st_no (by omega), st_no (by omega)]
      obtain ⟨T2, f2⟩ : ∃ T2, T2 = st (st (st T 0 46 (T 0 46 + 1)) 42 n 2) 0 43 ((st T 0 46 (T 0 46 + 1)) 0 43 + 1) := ⟨_, rfl⟩
      rw [← f2]
      have T3f : ∀ a i, ¬ ((a = 0 ∧ (i = 46 ∨ i = 43)) ∨ (a = 42 ∧ i = n)) → T2 a i = T a i := fun a i hn => by rw [f2, st_no (by omega), st_no (by omega), st_no (by omega)]
      have t46 : T2 0 46 = T 0 46 + 1 := by rw [f2, st_no (by omega), st_no (by omega), st_same]
      have t43 : (T2 0 43).toInt = n + 1 := by
        rw [f2, st_same, st_no (by omega)]
        exact i_addK s2 (by decide) (by omega) (by omega)
      have t42n : T2 42 n = 2 := by rw [f2, st_no (by omega), st_same]
      have r8 : ((st (st R 8 n 21) 0 8 (R 0 8 + 1)) 0 8).toInt = n + 1 := by
        rw [st_same]
        exact i_addK s1 (by decide) (by omega) (by omega)
      have t42o : ∀ i, i < n → T2 42 i = T 42 i := fun i hi => T3f 42 i (by omega)
      have zz : zc (T2 42) (n + 1) = zc (T 42) n := by rw [zc_s (by rw [t42n]; decide), zc_cg t42o]
      have bb : b2 (T2 42) (n + 1) = b2 (T 42) n := by rw [b2_s (by rw [t42n]; decide), b2_cg t42o]
      have k2 : tkS K T2 := by rw [f2]; exact tkS_st (tkS_st (tkS_st kt (by omega)) (by omega)) (by omega)
      refine op_good (by omega) ⟨k2, ⟨0, n + 1, s, Or.inr ⟨rfl, rfl⟩, qC_push (k := 2) (c := 21) (d' := 0) (e' := 0) G0 hn (Or.inr (Or.inl ⟨by decide, by decide⟩)) r8 (by rw [st_no (by omega), st_same]) (fun i hi => R3f 8 i (by omega)) t43 t42n t42o ?_ ?_ (fun a i g => st_no (by omega)) hj (fun a i g => T3f a i (by omega)) (by rw [bb]) (by rw [st_same, t46, c1]) (by rw [t46, i46]; omega) (by rw [t46, i46, T3f 0 45 (by omega)]; omega), fun _ => ?_⟩, ?_, ?_⟩ ⟨fun a i g => R3f a i (by omega), fun a i g => st_no (by omega), fun a i g => T3f a i (by omega)⟩
      · rw [R3f 0 9 (by omega), T3f 0 45 (by omega)]; exact s5
      · rw [T3f 0 45 (by omega), zz]; omega
      · rw [T3f 0 48 (by omega)]
        constructor
        · intro g; exact absurd g c
        · rintro ⟨m, g1, g2⟩
          have : m = n := by omega
          rw [this, t42n] at g2
          exact absurd g2 (by decide)
      · rw [T3f 0 47 (by omega)]; exact w47
      · rw [R3f 0 1 (by omega)]; exact r01
