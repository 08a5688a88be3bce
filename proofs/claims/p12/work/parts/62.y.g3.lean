theorem qC_of {j f e d n s : Nat} {R P T T1 : Tr} (G : qC j f e d n s R P T) (h : ∀ a i, (a = 0 ∧ (i = 19 ∨ (43 ≤ i ∧ i ≤ 46))) ∨ (39 ≤ a ∧ a ≤ 43) → T1 a i = T a i) : qC j f e d n s R P T1 := by
  have t39 : T1 39 = T 39 := funext fun i => h _ _ (by omega)
  have t40 : T1 40 = T 40 := funext fun i => h _ _ (by omega)
  have t41 : T1 41 = T 41 := funext fun i => h _ _ (by omega)
  have t42 : T1 42 = T 42 := funext fun i => h _ _ (by omega)
  have t43 : T1 43 = T 43 := funext fun i => h _ _ (by omega)
  unfold qC qS qN qH at G ⊢
  rw [t39, t40, t41, t42, t43, h 0 19 (by omega), h 0 43 (by omega), h 0 44 (by omega), h 0 45 (by omega), h 0 46 (by omega)]
  exact G
/-- a leaf grows -/
theorem e_leaf {j f n s : Nat} {K R P T : Tr} {c k a : Int32} (hj : j < 3) (kt : tkS K T) (G : qC j f 0 0 n s R P T) (r01 : R 0 1 = 0) (h45 : ¬ (K 0 1).toInt = 45)
    (hc : (0 ≤ c.toInt ∧ c.toInt < 10000 ∧ k.toInt = 0 ∧ a = c) ∨ (∃ m : Nat, m ≤ 6 ∧ c.toInt = 10022 + (m : Int) ∧ k.toInt = 1 ∧ a.toInt = m)) :
    E2 (bd (f_X3_countKnot K R P) fun q => lt q.1 fun r30 => lt q.2.1 fun R_31 => lt q.2.2 fun P_32 => if r30 = 0 then (some (0, R_31, P_32)) else (bd (f_X3_put j P_32 c) fun q => lt q.1 fun r36 => lt q.2 fun P_37 => if r36 = 0 then (some (0, R_31, P_37)) else (some (1, R_31, P_37))))
      (bd (f_X8_isCounted T) fun q => lt q.1 fun r14 => lt q.2 fun S_15 => if r14 = 0 then (some (0, S_15)) else (fJ_X8_leafRead_J160 a k S_15)) (opQ j f 0 K R P T) := by
  have G0 := G
  obtain ⟨⟨⟨s1, s2, s3, s4⟩, s5, s6, s7⟩, ⟨n1, n2, n3⟩, ⟨h1, h2⟩, l1, c1, c2, c3⟩ := G
  by_cases cc : (T 0 46).toInt = 64
  · rw [(cn_no (K := K) (R := R) c1 cc).1, (cn_no (K := K) (R := R) c1 cc).2]
    exact E2_sl (E2_v3l (E2_pl rfl (E2_p2r (E2_pr rfl (op_fail kt.2.2.2.1 (by decide))))))
  · have cc : (T 0 46).toInt < 64 := by omega
    rw [(cn_yes (K := K) (R := R) c1 cc).1, (cn_yes (K := K) (R := R) c1 cc).2]
    have G1 := qC_cnt G0 hj cc
    refine E2_sl (E2_v3l (E2_ql (by decide) (E2_p2r (E2_qr (by decide) ?_))))
    obtain ⟨T1, f1⟩ : ∃ T1, T1 = st T 0 46 (T 0 46 + 1) := ⟨_, rfl⟩
    obtain ⟨P1, p1⟩ : ∃ P1, P1 = st P 0 3 (P 0 3 + 1) := ⟨_, rfl⟩
    rw [← f1, ← p1] at G1 ⊢
    unfold f_X3_put fJ_X8_leafRead_J160
    rw [bd_bd]
    refine E2_bd (e_grow (f := f) (s := s) (m := (hs (P1 (31 + 3 * j)) s).length) G1.2.1.1 G1.2.1.2.1 G1.2.2.1.1 (by omega)) (fun P2 T2 q => E2_ltr (fun T3 f3 => ?_))
    show E2 (some ((1 : Int32), R, P2)) _ _
    have G2 := qC_leaf G1 q hj hc
    have q1 := q.1
    have q4 := q.2.2.2.1
    have T3f : ∀ a i, ¬ ((a = 0 ∧ (i = 19 ∨ (43 ≤ i ∧ i ≤ 48))) ∨ (39 ≤ a ∧ a ≤ 41 ∧ 64 + f ≤ i) ∨ a = 43) → T3 a i = T a i := fun a i hn => by
      rw [f3, st_no (by omega), q4 a i (by omega), f1, st_no (by omega)]
    refine op_good h45 ⟨?_, ⟨1, n, s + 1, Or.inl ⟨rfl, rfl⟩, qC_of G2 (fun a i g => by rw [f3, st_no (by omega)]), fun g => absurd g (by decide)⟩, ?_, r01⟩ ⟨fun _ _ _ => rfl, fun a i g => by rw [q1 a i (by omega), p1, st_no (by omega)], fun a i g => T3f a i (by omega)⟩
    · exact tkS_T kt (fun i h1 h2 => T3f 0 i (by omega)) (funext fun i => T3f 1 i (by omega)) (funext fun i => T3f 4 i (by omega))
    · rw [f3, st_same]
theorem e_op3 {j f : Nat} {K R P T : Tr} (hj : j < 3) (F : fmS j f 1 K R P T) (h39 : ¬ (K 0 1).toInt = 39) (h21 : ¬ (K 0 1).toInt = 21) : E2 (f_X3_readOperand j K R P) (f_X8_leafRead T) (opQ j f 0 K R P T) := by
  obtain ⟨kt, ⟨e, n, s, he, G, M⟩, w47, r01⟩ := F
  have he0 : e = 0 := by
    rcases he with ⟨g, _⟩ | ⟨_, g⟩
    · exact absurd g (by decide)
    · exact g
  subst he0
  have kk := kt.2.2.2.2.1
  have kn := k_num kk
  have kf := k_fact kk
  unfold f_X3_readOperand f_X8_leafRead
  rw [is_sg.2 (fun q => h39 ((k_open kk).mpr ⟨q.1, by rw [q.2]; decide⟩)), is_ky.2 (fun q => h21 ((k_not kk).mpr ⟨q.1, by rw [q.2]; decide⟩))]
  refine E2_ltl (fun y ey => E2_sr (E2_pr rfl (E2_sr (E2_pr rfl ?_))))
  rw [if_neg (show ¬ y = 39 from fun q => h39 (by rw [← ey, q]; decide)), if_neg (show ¬ y = 21 from fun q => h21 (by rw [← ey, q]; decide))]
  unfold fJ_X8_leafRead_J86
  by_cases c : (K 0 1).toInt = 42
  · have t8 := kn.mp c
    have nm : f_X8_nameMet T = some (-1) := by
      unfold f_X8_nameMet
      rw [if_neg (show ¬ T 0 8 = 1 from fun q => by rw [q] at t8; exact absurd t8 (by decide))]
    rw [if_pos (show y = 42 from i_z (by rw [ey, c]; decide)), nm]
    refine E2_sr (E2_qr (by decide) (E2_pr (i_z (by rw [t8]; decide)) ?_))
    unfold fJ_X8_leafRead_J109 fJ_X3_readOperand_J126
    refine E2_qr (by decide) ?_
    have nr := kt.2.2.2.2.2.2.1 t8
    by_cases d : (T 0 9).toInt ≤ 9999
    · have ev : K 0 3 = T 0 9 ∧ 0 ≤ (T 0 9).toInt := by
        rcases nr with ⟨z, z1, _⟩ | ⟨_, _, z, _⟩
        · exact ⟨z, z1⟩
        · omega
      rw [if_pos (show T 0 9 ≤ 9999 from Int32.le_iff_toInt_le.mpr (by show _ ≤ (9999 : Int); exact d)), if_neg (show ¬ 10000 ≤ K 0 3 from fun q => by rw [ev.1] at q; have := tq_le (a := 10000) (by decide) rfl q; omega), ex1]
      refine E2_p2l (E2_ql (by decide) ?_)
      unfold fJ_X8_leafRead_J129 fJ_X8_leafRead_J148
      have z := e_leaf (c := K 0 3) (k := 0) (a := T 0 9) hj kt G r01 (by omega) (Or.inl ⟨by rw [ev.1]; exact ev.2, by rw [ev.1]; omega, by decide, ev.1.symm⟩)
      have e9 : ∀ v : Int32 × Tr, f_X8_isCounted T = some v → v.2 0 9 = T 0 9 := by
        intro v hv
        by_cases cc : (T 0 46).toInt = 64
        · rw [(cn_no (K := K) (R := R) (P := P) G.2.2.2.2.1 cc).2] at hv
          rw [← tx_1 hv]
          show st (st T 0 4 2) 0 5 (T 0 10) 0 9 = T 0 9
          rw [st_no (by omega), st_no (by omega)]
        · rw [(cn_yes (K := K) (R := R) (P := P) G.2.2.2.2.1 (by have := G.2.2.2.2.2.1; omega)).2] at hv
          rw [← tx_1 hv]
          show st T 0 46 (T 0 46 + 1) 0 9 = T 0 9
          rw [st_no (by omega)]
      intro A B e1 e2
      refine z A B e1 ?_
      obtain ⟨v, v1, v2⟩ := tx_bd e2
      rw [v1]
      have v9 := e9 v v1
      show (if v.1 = 0 then _ else fJ_X8_leafRead_J160 (T 0 9) 0 v.2) = some B
      rw [← v9]
      exact v2
    · have nl : 10000 ≤ K 0 3 := Int32.le_iff_toInt_le.mpr (by
        show (10000 : Int) ≤ _
        rcases nr with ⟨z, _⟩ | ⟨z, _⟩
        · rw [z]; omega
        · omega)
      rw [if_neg (show ¬ T 0 9 ≤ 9999 from fun q => d (tq_le (b := 9999) rfl (by decide) q)), if_pos nl, ex0, wrE]
      exact E2_p2l (E2_pl rfl (op_fail kt.2.2.2.1 (by decide)))
  · rw [if_neg (show ¬ y = 42 from fun q => c (by rw [← ey, q]; decide))]
    by_cases cf : 22 ≤ (K 0 1).toInt ∧ (K 0 1).toInt ≤ 28
    · have kw := kf.mp cf
      have kv := k_fact2 kk cf
      have hf : f_X3_isFact y = some 1 := by
        unfold f_X3_isFact
        rw [if_neg (fun q => by rw [ey] at q; have := tq_lt (b := 22) rfl (by decide) q; omega), if_neg (fun q => by rw [ey] at q; have := tq_lt (a := 28) (by decide) rfl q; omega)]
      have nm : f_X8_nameMet T = some (T 0 9 - 22) := by
        unfold f_X8_nameMet
        rw [if_pos (show T 0 8 = 1 from i_z (by rw [kw.1]; decide)), if_neg (fun q => by have := tq_lt (b := 22) rfl (by decide) q; omega)]
      have i22 : (T 0 9 - 22).toInt = (T 0 9).toInt - 22 := i_subK rfl (by decide) (by omega) (by omega)
      have i10 : ((10000 : Int32) + y).toInt = 10000 + (K 0 1).toInt := by rw [ey]; exact i_addK (by decide) rfl (by omega) (by omega)
      have nn : (0 : Int32) ≤ T 0 9 - 22 := Int32.le_iff_toInt_le.mpr (by rw [i22]; show (0 : Int) ≤ _; omega)
      rw [hf, nm]
      refine E2_sl (E2_sr (E2_pr nn ?_))
      unfold fJ_X8_leafRead_J109 fJ_X8_leafRead_J129 fJ_X8_leafRead_J148
      rw [ex1]
      refine E2_p2l (E2_ql (by decide) (E2_pr nn ?_))
      have z := e_leaf (c := (10000 : Int32) + y) (k := 1) (a := T 0 9 - 22) hj kt G r01 (by omega) (Or.inr ⟨((T 0 9).toInt - 22).toNat, by omega, by omega, by decide, by omega⟩)
      have ng : ¬ (T 0 9 - 22) < 0 := neg1 (by omega)
      intro A B e1 e2
      refine z A B e1 ?_
      obtain ⟨v, v1, v2⟩ := tx_bd e2
      rw [v1]
      show (if v.1 = 0 then _ else fJ_X8_leafRead_J160 (T 0 9 - 22) 1 v.2) = some B
      have v2 : (if v.1 = 0 then some ((0 : Int32), v.2) else (if (T 0 9 - 22) < 0 then (if (T 0 9 - 22) < 0 then fJ_X8_leafRead_J160 (v.2 0 9) 0 v.2 else fJ_X8_leafRead_J160 (T 0 9 - 22) 0 v.2) else (if (T 0 9 - 22) < 0 then fJ_X8_leafRead_J160 (v.2 0 9) 1 v.2 else fJ_X8_leafRead_J160 (T 0 9 - 22) 1 v.2))) = some B := v2
      rw [if_neg ng, if_neg ng] at v2
      exact v2
    · have hf : f_X3_isFact y = some 0 := by
        unfold f_X3_isFact
        by_cases q : y < 22
        · rw [if_pos q]
        · have := tq_ltn (b := 22) rfl (by decide) q
          rw [ey] at this
          rw [if_neg q, if_pos (Int32.lt_iff_toInt_lt.mpr (by rw [ey]; show (28 : Int) < _; omega))]
      have nm : f_X8_nameMet T = some (-1) := by
        unfold f_X8_nameMet
        by_cases q : T 0 8 = 1
        · have : ¬ 22 ≤ (T 0 9).toInt := fun g => cf (kf.mpr ⟨by rw [q]; decide, g⟩)
          rw [if_pos q, if_pos (Int32.lt_iff_toInt_lt.mpr (by show _ < (22 : Int); omega))]
        · rw [if_neg q]
      rw [hf, nm]
      refine E2_sl ?_
      rw [ex0, wrE]
      exact E2_p2l (E2_pl rfl (E2_sr (E2_qr (by decide) (E2_qr (fun q => c (kn.mpr (by rw [q]; decide))) (op_fail kt.2.2.2.1 (by decide))))))
