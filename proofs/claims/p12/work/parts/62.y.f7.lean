/-! what stands once; a line with its semicolon -/
theorem v8 {v : Int32} (h : 0 ≤ v.toInt ∧ v.toInt < 8) : v = 0 ∨ v = 1 ∨ v = 2 ∨ v = 3 ∨ v = 4 ∨ v = 5 ∨ v = 6 ∨ v = 7 := by
  rcases (by omega : v.toInt = 0 ∨ v.toInt = 1 ∨ v.toInt = 2 ∨ v.toInt = 3 ∨ v.toInt = 4 ∨ v.toInt = 5 ∨ v.toInt = 6 ∨ v.toInt = 7) with g | g | g | g | g | g | g | g
  · exact Or.inl (i_z (by rw [g]; decide))
  · exact Or.inr (Or.inl (i_z (by rw [g]; decide)))
  · exact Or.inr (Or.inr (Or.inl (i_z (by rw [g]; decide))))
  · exact Or.inr (Or.inr (Or.inr (Or.inl (i_z (by rw [g]; decide)))))
  · exact Or.inr (Or.inr (Or.inr (Or.inr (Or.inl (i_z (by rw [g]; decide))))))
  · exact Or.inr (Or.inr (Or.inr (Or.inr (Or.inr (Or.inl (i_z (by rw [g]; decide)))))))
  · exact Or.inr (Or.inr (Or.inr (Or.inr (Or.inr (Or.inr (Or.inl (i_z (by rw [g]; decide))))))))
  · exact Or.inr (Or.inr (Or.inr (Or.inr (Or.inr (Or.inr (Or.inr (i_z (by rw [g]; decide))))))))
theorem or8 {v : Int32} (h : 0 ≤ v.toInt ∧ v.toInt < 8) : (∀ y : Int32, y = 1 ∨ y = 2 ∨ y = 4 → (0 ≤ (v ||| y).toInt ∧ (v ||| y).toInt < 8) ∧ ((v ||| y) &&& 1 = 0 ↔ (¬ y = 1 ∧ v &&& 1 = 0)) ∧ ((v ||| y) &&& 2 = 0 ↔ (¬ y = 2 ∧ v &&& 2 = 0)) ∧ ((v ||| y) &&& 4 = 0 ↔ (¬ y = 4 ∧ v &&& 4 = 0))) := by
  intro y hy
  rcases v8 h with rfl | rfl | rfl | rfl | rfl | rfl | rfl | rfl <;> rcases hy with rfl | rfl | rfl <;> decide
def onQ (K R P T : Tr) (q : Int32 × Tr × Tr) (q' : Int32 × Tr) : Prop := (q.1 = 0 ∧ q'.1 = 0 ∧ flt q.2.2 q'.2 ∧ frK K q.2.1) ∨ (q.1 = 1 ∧ q'.1 = 1 ∧ tkS q.2.1 q'.2 ∧ RD q.2.2 P q'.2 ∧ q.2.2 0 1 = 0 ∧ q.2.2 0 3 = R 0 3 ∧ frK K q.2.1 ∧ (T 0 7).toInt ≤ (q'.2 0 10).toInt)
theorem e_once {K R P T : Tr} (h : tkS K T) (hr : RD R P T) (h0 : R 0 1 = 0) {k : Nat} (hk : k < 3) (hc : (K 0 1).toInt = 4 + k) {x : Int32} (hx : x.toInt = k) : E2 (f_X3_startOnce K R) (f_X8_isOnce T x) (onQ K R P T) := by
  unfold f_X3_startOnce f_X8_isOnce
  refine E2_ltl (fun y ey => E2_ckr (fun _ => ?_))
  obtain ⟨g1, g2, g3, g4, g5, g6⟩ := hr
  obtain ⟨o0, o1, o2, o3, o4⟩ := g5
  have hy : (k = 0 ∧ y = 1) ∨ (k = 1 ∧ y = 2) ∨ (k = 2 ∧ y = 4) := by
    rcases (by omega : k = 0 ∨ k = 1 ∨ k = 2) with rfl | rfl | rfl
    · left; refine ⟨rfl, ?_⟩; rw [ey, show K 0 1 = 4 from i_z (by rw [hc]; decide)]; decide
    · right; left; refine ⟨rfl, ?_⟩; rw [ey, show K 0 1 = 5 from i_z (by rw [hc]; decide)]; decide
    · right; right; refine ⟨rfl, ?_⟩; rw [ey, show K 0 1 = 6 from i_z (by rw [hc]; decide)]; decide
  rw [i_cn hx]
  have hb : T 22 k = 0 ↔ (R 0 5) &&& y = 0 := by
    rcases hy with ⟨rfl, rfl⟩ | ⟨rfl, rfl⟩ | ⟨rfl, rfl⟩
    · exact o1
    · exact o2
    · exact o3
  by_cases c : T 22 k = 0
  · rw [if_pos c, if_pos (hb.mp c)]
    unfold fJ_X3_startOnce_J27
    rw [ex1, nar1]
    refine E2_p2l (E2_ql (by decide) (E2_ltl (fun R1 e1 => E2_ltr (fun T1 f1 => ?_))))
    have k1 : tkS K T1 := by rw [f1]; exact tkS_st h (by omega)
    refine E2_bd (e_advS k1) (fun K2 T2 h2 => E2_some (Or.inr ?_))
    obtain ⟨k2, k2f, t2f, k2p⟩ := h2
    have fr : ∀ a j, ¬ ((a = 0 ∧ 7 ≤ j ∧ j ≤ 10) ∨ a = 22) → T2 a j = T a j := fun a j hn => by rw [t2f a j (by omega), f1, st_no (by omega)]
    have b := or8 o0 y (by rcases hy with ⟨_, g⟩ | ⟨_, g⟩ | ⟨_, g⟩ <;> simp [g])
    have r5 : R1 0 5 = (R 0 5) ||| y := by rw [e1, st_same]
    have t22 : ∀ i, T2 22 i = 0 ↔ (¬ i = k ∧ T 22 i = 0) := fun i => by
      rw [t2f 22 i (by omega), f1]
      by_cases q : i = k
      · subst q
        rw [st_same]
        exact ⟨fun g => absurd g (by decide), fun g => absurd rfl g.1⟩
      · rw [st_no (by omega)]
        exact ⟨fun g => ⟨q, g⟩, fun g => g.2⟩
    refine ⟨rfl, rfl, k2, ⟨?_, ?_, ?_, ?_, ⟨?_, ?_, ?_, ?_, ?_⟩, ?_⟩, ?_, ?_, k2f, ?_⟩
    · exact rPl_of g1 (fun _ _ _ => rfl) (fun a j g => fr a j (by omega))
    · exact rPe_of g2 (fun _ _ _ => rfl) (fun a j g => fr a j (by omega))
    · exact rPi_of g3 (fun _ _ _ => rfl) (fun a j g => fr a j (by omega))
    · exact rW_of g4 (by show R1 0 6 = _; rw [e1, st_no (by omega)]) (fun _ => rfl) (fun a j g => fr a j (by omega))
    · show 0 ≤ (R1 0 5).toInt ∧ (R1 0 5).toInt < 8
      rw [r5]; exact b.1
    · show T2 22 0 = 0 ↔ (R1 0 5) &&& 1 = 0
      rw [t22, r5, b.2.1, o1]
      rcases hy with ⟨rfl, rfl⟩ | ⟨rfl, rfl⟩ | ⟨rfl, rfl⟩ <;> simp
    · show T2 22 1 = 0 ↔ (R1 0 5) &&& 2 = 0
      rw [t22, r5, b.2.2.1, o2]
      rcases hy with ⟨rfl, rfl⟩ | ⟨rfl, rfl⟩ | ⟨rfl, rfl⟩ <;> simp
    · show T2 22 2 = 0 ↔ (R1 0 5) &&& 4 = 0
      rw [t22, r5, b.2.2.2, o3]
      rcases hy with ⟨rfl, rfl⟩ | ⟨rfl, rfl⟩ | ⟨rfl, rfl⟩ <;> simp
    · show P 0 4 = T2 23 3 ∧ P 0 5 = T2 23 4 ∧ P 0 6 = T2 23 5
      rw [fr 23 3 (by omega), fr 23 4 (by omega), fr 23 5 (by omega)]; exact o4
    · exact rL_of g6 (fun _ _ _ => rfl) (fun a j g => fr a j (by omega))
    · show R1 0 1 = 0
      rw [e1, st_no (by omega)]; exact h0
    · show R1 0 3 = R 0 3
      rw [e1, st_no (by omega)]
    · show (T 0 7).toInt ≤ (T2 0 10).toInt
      rw [f1, st_no (by omega)] at k2p; exact k2p
  · rw [if_neg c, if_neg (fun q => c (hb.mpr q))]
    unfold fJ_X3_startOnce_J27
    rw [ex0, wrE]
    exact E2_p2l (E2_pl rfl (E2_some (Or.inl ⟨rfl, rfl, flt_of h.2.2.2.1 (by decide), frK_r⟩)))
/-- a line ahead of its semicolon (class), behind it (reference) -/
def lsQ (K R T : Tr) (q : Int32 × Tr × Tr × Tr) (q' : Int32 × Tr) : Prop := (q.1 = 0 ∧ q'.1 = 0 ∧ flt q.2.2.1 q'.2 ∧ frK K q.2.1) ∨ (q.1 = 1 ∧ ¬ q.2.1 0 1 = 41 ∧ q'.1 = 0 ∧ q'.2 0 4 = 1 ∧ q'.2 0 5 = q.2.1 0 2 ∧ frK K q.2.1 ∧ q.2.2.1 0 1 = 0) ∨ (q.1 = 1 ∧ q.2.1 0 1 = 41 ∧ q'.1 = 1 ∧ ∃ T0, f_X8_token T0 = some q'.2 ∧ tkS q.2.1 T0 ∧ RD q.2.2.1 q.2.2.2 T0 ∧ q.2.2.1 0 1 = 0 ∧ q.2.2.1 0 3 = R 0 3 ∧ frK K q.2.1 ∧ (T 0 7).toInt ≤ (T0 0 10).toInt)
theorem e_semi {K R T K1 R1 P1 T1 : Tr} (k : tkS K1 T1) (hr : RD R1 P1 T1) (h0 : R1 0 1 = 0) (h3 : R1 0 3 = R 0 3) (hf : frK K K1) (hp : (T 0 7).toInt ≤ (T1 0 10).toInt) : E2 (some ((1 : Int32), K1, R1, P1)) (fJ_X8_lineRead_J343 1 T1) (lsQ K R T) := by
  unfold fJ_X8_lineRead_J343 f_X8_isSign
  refine E2_qr (by decide) ?_
  have ks := k_semi k.2.2.2.2.1
  by_cases c : (T1 0 8).toInt = 4 ∧ (T1 0 9).toInt = 59
  · rw [if_pos (show T1 0 8 = 4 from i_z (by rw [c.1]; decide)), if_pos (show T1 0 9 = 59 from i_z (by rw [c.2]; decide))]
    refine E2_sr (E2_qr (by decide) ?_)
    intro a b e1 e2
    obtain ⟨T2, y1, y2⟩ := tx_bd e2
    have y2 := tx_1 y2
    have e1 := tx_1 e1
    subst y2; subst e1
    exact Or.inr (Or.inr ⟨rfl, i_z (by rw [ks.mpr c]; decide), rfl, T1, y1, k, hr, h0, h3, hf, hp⟩)
  · have no : (if T1 0 8 = 4 then (if T1 0 9 = 59 then some (1 : Int32) else some 0) else some 0) = some 0 := by
      by_cases c1 : T1 0 8 = 4
      · rw [if_pos c1, if_neg (fun q => c ⟨by rw [c1]; decide, by rw [q]; decide⟩)]
      · rw [if_neg c1]
    rw [no, wrE]
    refine E2_sr (E2_pr rfl (E2_some (Or.inr (Or.inl ⟨rfl, fun q => c (ks.mp (by rw [show K1 0 1 = 41 from q]; decide)), rfl, ?_, ?_, hf, h0⟩))))
    · show st (st T1 0 4 1) 0 5 (T1 0 10) 0 4 = 1
      rw [st_no (by omega), st_same]
    · show st (st T1 0 4 1) 0 5 (T1 0 10) 0 5 = K1 0 2
      rw [st_same]; exact k.2.2.2.1.symm
theorem e_semiF {K R T K1 R1 P1 T1 : Tr} (hf : flt R1 T1) (hk : frK K K1) : E2 (some ((0 : Int32), K1, R1, P1)) (fJ_X8_lineRead_J343 0 T1) (lsQ K R T) := by
  unfold fJ_X8_lineRead_J343
  exact E2_pr rfl (E2_some (Or.inl ⟨rfl, rfl, hf, hk⟩))
theorem e_ln {K R P T : Tr} {x : Option (Int32 × Tr × Tr × Tr)} {y : Option (Int32 × Tr)} (h : E2 x y (lnQ K R T)) : E2 (bd x fun q => lt q.1 fun r3 => lt q.2.1 fun K_4 => lt q.2.2.1 fun R_5 => lt q.2.2.2 fun P_6 => ck (okB r3) (some (r3, K_4, R_5, P_6))) (bd y fun q => lt q.1 fun r10 => lt q.2 fun S_11 => fJ_X8_lineRead_J343 r10 S_11) (lsQ K R T) := by
  refine E2_bd h (fun q q' hq => ?_)
  obtain ⟨r, K1, R1, P1⟩ := q
  obtain ⟨r', T1⟩ := q'
  refine E2_v4l (E2_v2r (E2_ckl (fun _ => ?_)))
  have hq : (r = 0 ∧ r' = 0 ∧ flt R1 T1 ∧ frK K K1) ∨ (r = 1 ∧ r' = 1 ∧ tkS K1 T1 ∧ RD R1 P1 T1 ∧ R1 0 1 = 0 ∧ R1 0 3 = R 0 3 ∧ frK K K1 ∧ (T 0 7).toInt ≤ (T1 0 10).toInt) := hq
  rcases hq with ⟨rfl, rfl, a1, a2⟩ | ⟨rfl, rfl, a1, a2, a3, a4, a5, a6⟩
  · exact e_semiF a1 a2
  · exact e_semi a1 a2 a3 a4 a5 a6
/-- numbers that stand once: curve, seed -/
theorem rO_set {R P T : Tr} {i : Nat} (h : rO R P T) (hi : i = 4 ∨ i = 5 ∨ i = 6) {v : Int32} : rO R (st P 0 i v) (st T 23 (i - 1) v) := by
  obtain ⟨o0, o1, o2, o3, o4, o5, o6⟩ := h
  refine ⟨o0, ?_, ?_, ?_, ?_, ?_, ?_⟩
  · rw [st_no (by omega)]; exact o1
  · rw [st_no (by omega)]; exact o2
  · rw [st_no (by omega)]; exact o3
  · rcases hi with rfl | rfl | rfl
    · rw [st_same, st_same]
    · rw [st_no (by omega), st_no (by omega)]; exact o4
    · rw [st_no (by omega), st_no (by omega)]; exact o4
  · rcases hi with rfl | rfl | rfl
    · rw [st_no (by omega), st_no (by omega)]; exact o5
    · rw [st_same, st_same]
    · rw [st_no (by omega), st_no (by omega)]; exact o5
  · rcases hi with rfl | rfl | rfl
    · rw [st_no (by omega), st_no (by omega)]; exact o6
    · rw [st_no (by omega), st_no (by omega)]; exact o6
    · rw [st_same, st_same]
theorem RD_set {R P T : Tr} {i : Nat} (h : RD R P T) (hi : i = 4 ∨ i = 5 ∨ i = 6) {v : Int32} : RD R (st P 0 i v) (st T 23 (i - 1) v) :=
  ⟨rPl_of h.1 (fun a j g => st_no (by omega)) (fun a j g => st_no (by omega)), rPe_of h.2.1 (fun a j g => st_no (by omega)) (fun a j g => st_no (by omega)), rPi_of h.2.2.1 (fun a j g => st_no (by omega)) (fun a j g => st_no (by omega)), rW_of h.2.2.2.1 rfl (fun j => st_no (by omega)) (fun a j g => st_no (by omega)), rO_set h.2.2.2.2.1 hi, rL_of h.2.2.2.2.2 (fun a j g => st_no (by omega)) (fun a j g => st_no (by omega))⟩
theorem on_cs {K R P T K1 R1 T1 : Tr} {r r' : Int32} (h : onQ K R P T (r, K1, R1) (r', T1)) : (r = 0 ∧ r' = 0 ∧ flt R1 T1 ∧ frK K K1) ∨ (r = 1 ∧ r' = 1 ∧ tkS K1 T1 ∧ RD R1 P T1 ∧ R1 0 1 = 0 ∧ R1 0 3 = R 0 3 ∧ frK K K1 ∧ (T 0 7).toInt ≤ (T1 0 10).toInt) := h
theorem neg1 {v : Int32} (h : 0 ≤ v.toInt) : ¬ v < 0 := fun q => by have := tq_lt (b := 0) rfl (by decide) q; omega
theorem e_curve {K R P T : Tr} (h : tkS K T) (hr : RD R P T) (h0 : R 0 1 = 0) (hc : (K 0 1).toInt = 5) : E2 (bd (f_X3_readCurve K R P) fun q => lt q.1 fun r3 => lt q.2.1 fun K_4 => lt q.2.2.1 fun R_5 => lt q.2.2.2 fun P_6 => ck (okB r3) (some (r3, K_4, R_5, P_6))) (bd (f_X8_isOnce T (1 : Int32)) fun q => lt q.1 fun r61 => lt q.2 fun S_62 => if r61 = 0 then (fJ_X8_lineRead_J186  S_62) else (bd (f_X8_number S_62 (0 : Int32) (99 : Int32)) fun q => lt q.1 fun r68 => lt q.2 fun S_69 => if r68 = 0 then (fJ_X8_lineRead_J186  S_69) else (fJ_X8_lineRead_J187  1 S_69))) (lsQ K R T) := by
  unfold f_X3_readCurve
  rw [bd_bd]
  refine E2_bd (e_once h hr h0 (k := 1) (by omega) hc (by decide)) (fun q q' hq => ?_)
  obtain ⟨r, K1, R1⟩ := q
  obtain ⟨r', T1⟩ := q'
  refine E2_v2r ?_
  unfold fJ_X8_lineRead_J186 fJ_X8_lineRead_J187
  rcases on_cs hq with ⟨rfl, rfl, a1, a2⟩ | ⟨rfl, rfl, a1, a2, a3, a4, a5, a6⟩
  · refine E2_pr rfl (E2_pr rfl ?_)
    show E2 (bd (some ((0 : Int32), K1, R1, P)) _) _ _
    exact E2_sl (E2_v4l (E2_ckl (fun _ => e_semiF a1 a2)))
  · show E2 (bd (bd (f_X3_takeNumber K1 R1 (0 : Int32) (99 : Int32)) fun q => lt q.1 fun r7 => lt q.2.1 fun K_8 => lt q.2.2 fun R_9 => lt (st P 0 5 r7) fun P_12 => if (P_12 0 5) < 0 then (some ((0 : Int32), K_8, R_9, P_12)) else (some (1, K_8, R_9, P_12))) _) _ _
    rw [bd_bd]
    refine E2_qr (by decide) (E2_bd (e_nq a1 (lo := 0) (hi := 99) (by decide) (by decide)) (fun q q' hq => ?_))
    obtain ⟨v, K2, R2⟩ := q
    obtain ⟨v', T2⟩ := q'
    refine E2_v2r ?_
    rcases nq_cs hq (by decide : (0 : Int32).toInt = 0) (by decide : (99 : Int32).toInt = 99) with ⟨rfl, rfl, q3, q4⟩ | ⟨rfl, q2, q3, q4, q5, rfl, q7, q8, q9⟩
    · refine E2_pr rfl (E2_pr rfl ?_)
      show E2 (bd (some ((0 : Int32), K2, R2, st P 0 5 (-1))) _) _ _
      exact E2_sl (E2_v4l (E2_ckl (fun _ => e_semiF q3 (frK_t a5 q4))))
    · refine E2_qr (by decide) (E2_qr (by decide) (E2_ltr (fun T3 f3 => ?_)))
      show E2 (bd (if (st P 0 5 v) 0 5 < 0 then (some ((0 : Int32), K2, R2, st P 0 5 v)) else (some (1, K2, R2, st P 0 5 v))) _) _ _
      rw [st_same, if_neg (neg1 q2)]
      refine E2_sl (E2_v4l (E2_ckl (fun _ => ?_)))
      have k3 : tkS K2 T3 := by rw [f3]; exact tkS_st q5 (by omega)
      refine e_semi k3 ?_ a3 a4 (frK_t a5 q7) ?_
      · have rd := RD_of (R1 := R2) a2 rfl rfl (T1 := T2) (fun a j hn => q8 a j (by omega))
        rw [f3, q4]
        exact RD_set (i := 5) rd (by omega)
      · have := tk_on a1
        rw [f3, st_no (by omega)]; omega
theorem e_seed {K R P T : Tr} (h : tkS K T) (hr : RD R P T) (h0 : R 0 1 = 0) (hc : (K 0 1).toInt = 6) : E2 (bd (f_X3_readSeed K R P) fun q => lt q.1 fun r3 => lt q.2.1 fun K_4 => lt q.2.2.1 fun R_5 => lt q.2.2.2 fun P_6 => ck (okB r3) (some (r3, K_4, R_5, P_6))) (bd (f_X8_isOnce T (2 : Int32)) fun q => lt q.1 fun r61 => lt q.2 fun S_62 => if r61 = 0 then (fJ_X8_lineRead_J227  S_62) else (bd (f_X8_number S_62 (0 : Int32) (99999 : Int32)) fun q => lt q.1 fun r68 => lt q.2 fun S_69 => if r68 = 0 then (fJ_X8_lineRead_J227  S_69) else (fJ_X8_lineRead_J228  1 S_69))) (lsQ K R T) := by
  unfold f_X3_readSeed
  rw [bd_bd]
  refine E2_bd (e_once h hr h0 (k := 2) (by omega) hc (by decide)) (fun q q' hq => ?_)
  obtain ⟨r, K1, R1⟩ := q
  obtain ⟨r', T1⟩ := q'
  refine E2_v2r ?_
  unfold fJ_X8_lineRead_J227 fJ_X8_lineRead_J228
  rcases on_cs hq with ⟨rfl, rfl, a1, a2⟩ | ⟨rfl, rfl, a1, a2, a3, a4, a5, a6⟩
  · refine E2_pr rfl (E2_pr rfl ?_)
    show E2 (bd (some ((0 : Int32), K1, R1, P)) _) _ _
    exact E2_sl (E2_v4l (E2_ckl (fun _ => e_semiF a1 a2)))
  · show E2 (bd (bd (f_X3_takeNumber K1 R1 (0 : Int32) (99999 : Int32)) fun q => lt q.1 fun r7 => lt q.2.1 fun K_8 => lt q.2.2 fun R_9 => lt (st P 0 6 r7) fun P_12 => if (P_12 0 6) < 0 then (some ((0 : Int32), K_8, R_9, P_12)) else (some (1, K_8, R_9, P_12))) _) _ _
    rw [bd_bd]
    refine E2_qr (by decide) (E2_bd (e_nq a1 (lo := 0) (hi := 99999) (by decide) (by decide)) (fun q q' hq => ?_))
    obtain ⟨v, K2, R2⟩ := q
    obtain ⟨v', T2⟩ := q'
    refine E2_v2r ?_
    rcases nq_cs hq (by decide : (0 : Int32).toInt = 0) (by decide : (99999 : Int32).toInt = 99999) with ⟨rfl, rfl, q3, q4⟩ | ⟨rfl, q2, q3, q4, q5, rfl, q7, q8, q9⟩
    · refine E2_pr rfl (E2_pr rfl ?_)
      show E2 (bd (some ((0 : Int32), K2, R2, st P 0 6 (-1))) _) _ _
      exact E2_sl (E2_v4l (E2_ckl (fun _ => e_semiF q3 (frK_t a5 q4))))
    · refine E2_qr (by decide) (E2_qr (by decide) (E2_ltr (fun T3 f3 => ?_)))
      show E2 (bd (if (st P 0 6 v) 0 6 < 0 then (some ((0 : Int32), K2, R2, st P 0 6 v)) else (some (1, K2, R2, st P 0 6 v))) _) _ _
      rw [st_same, if_neg (neg1 q2)]
      refine E2_sl (E2_v4l (E2_ckl (fun _ => ?_)))
      have k3 : tkS K2 T3 := by rw [f3]; exact tkS_st q5 (by omega)
      refine e_semi k3 ?_ a3 a4 (frK_t a5 q7) ?_
      · have rd := RD_of (R1 := R2) a2 rfl rfl (T1 := T2) (fun a j hn => q8 a j (by omega))
        rw [f3, q4]
        exact RD_set (i := 6) rd (by omega)
      · have := tk_on a1
        rw [f3, st_no (by omega)]; omega
theorem e_rule {K R P T : Tr} (h : tkS K T) (hr : RD R P T) (h0 : R 0 1 = 0) (hc : (K 0 1).toInt = 4) : E2 (bd (f_X3_readRule K R P) fun q => lt q.1 fun r3 => lt q.2.1 fun K_4 => lt q.2.2.1 fun R_5 => lt q.2.2.2 fun P_6 => ck (okB r3) (some (r3, K_4, R_5, P_6))) (bd (f_X8_isOnce T (0 : Int32)) fun q => lt q.1 fun r43 => lt q.2 fun S_44 => if r43 = 0 then (some (0, S_44)) else (if (S_44 0 8) = 1 then (if (S_44 0 9) < 13 then (fJ_X8_lineRead_J136  S_44) else (if (S_44 0 9) ≤ 15 then (lt (st S_44 23 3 ((S_44 0 9) - 13)) fun S_56 => bd (f_X8_token S_56) fun S_57 => fJ_X8_lineRead_J343  1 S_57) else (fJ_X8_lineRead_J136  S_44))) else (fJ_X8_lineRead_J136  S_44))) (lsQ K R T) := by
  unfold f_X3_readRule
  rw [bd_bd]
  refine E2_bd (e_once h hr h0 (k := 0) (by omega) hc (by decide)) (fun q q' hq => ?_)
  obtain ⟨r, K1, R1⟩ := q
  obtain ⟨r', T1⟩ := q'
  refine E2_v2r ?_
  rcases on_cs hq with ⟨rfl, rfl, a1, a2⟩ | ⟨rfl, rfl, a1, a2, a3, a4, a5, a6⟩
  · refine E2_pr rfl ?_
    show E2 (bd (some ((0 : Int32), K1, R1, P)) _) _ _
    exact E2_sl (E2_v4l (E2_ckl (fun _ => E2_some (Or.inl ⟨rfl, rfl, a1, a2⟩))))
  · show E2 (bd (bd (f_X3_takeWord K1 R1 (13 : Int32) (15 : Int32)) fun q => lt q.1 fun r7 => lt q.2.1 fun K_8 => lt q.2.2 fun R_9 => lt (st P 0 4 r7) fun P_12 => if (P_12 0 4) < 0 then (some ((0 : Int32), K_8, R_9, P_12)) else (some (1, K_8, R_9, P_12))) _) _ _
    refine E2_qr (by decide) ?_
    have kk := a1.2.2.2.2.1
    have kw := k_word kk (a := 13) (b := 15) (by omega) (by omega)
    have nofit : ¬ (13 ≤ (K1 0 1).toInt ∧ (K1 0 1).toInt ≤ 15) → E2 (bd (bd (f_X3_takeWord K1 R1 (13 : Int32) (15 : Int32)) fun q => lt q.1 fun r7 => lt q.2.1 fun K_8 => lt q.2.2 fun R_9 => lt (st P 0 4 r7) fun P_12 => if (P_12 0 4) < 0 then (some ((0 : Int32), K_8, R_9, P_12)) else (some (1, K_8, R_9, P_12))) fun q => lt q.1 fun r3 => lt q.2.1 fun K_4 => lt q.2.2.1 fun R_5 => lt q.2.2.2 fun P_6 => ck (okB r3) (some (r3, K_4, R_5, P_6))) (fJ_X8_lineRead_J136 T1) (lsQ K R T) := by
      intro hno
      unfold fJ_X8_lineRead_J136
      rw [tw_no (lo := 13) (hi := 15) hno, wrE]
      show E2 (bd (some ((0 : Int32), K1, st (st R1 0 1 1) 0 2 (K1 0 2), st P 0 4 (-1))) _) _ _
      exact E2_sl (E2_v4l (E2_ckl (fun _ => E2_some (Or.inl ⟨rfl, rfl, flt_of a1.2.2.2.1 (by decide), a5⟩))))
    by_cases d1 : (T1 0 8).toInt = 1
    · rw [if_pos (show T1 0 8 = 1 from i_z (by rw [d1]; decide))]
      by_cases d2 : (T1 0 9).toInt < 13
      · rw [if_pos (show T1 0 9 < 13 from Int32.lt_iff_toInt_lt.mpr (by show _ < (13 : Int); exact d2))]
        exact nofit (by omega)
      · rw [if_neg (show ¬ T1 0 9 < 13 from fun q => d2 (tq_lt rfl (b := 13) (by decide) q))]
        by_cases d3 : (T1 0 9).toInt ≤ 15
        · rw [if_pos (show T1 0 9 ≤ 15 from Int32.le_iff_toInt_le.mpr (by show _ ≤ (15 : Int); exact d3))]
          have kq := kw.mpr ⟨d1, by omega, d3⟩
          have kv : K1 0 1 = T1 0 9 := i_z (k_weq kk d1 (by omega))
          rw [tw_yes (show (13 : Int32).toInt ≤ _ from kq.1) (show _ ≤ (15 : Int32).toInt from kq.2), bd_bd, bd_bd]
          refine E2_ltr (fun T3 f3 => ?_)
          have k3 : tkS K1 T3 := by rw [f3]; exact tkS_st a1 (by omega)
          refine E2_bd (e_advS k3) (fun K4 T4 h4 => ?_)
          obtain ⟨k4, k4f, t4f, k4p⟩ := h4
          have e8 : (K1 0 1 - 13).toInt = (K1 0 1).toInt - 13 := i_subK rfl (by decide) (by omega) (by omega)
          show E2 (bd (if (st P 0 4 (K1 0 1 - 13)) 0 4 < 0 then some ((0 : Int32), K4, R1, st P 0 4 (K1 0 1 - 13)) else some (1, K4, R1, st P 0 4 (K1 0 1 - 13))) _) _ _
          rw [st_same, if_neg (neg1 (by omega))]
          refine E2_sl (E2_v4l (E2_ckl (fun _ => ?_)))
          refine e_semi k4 ?_ a3 a4 (frK_t a5 k4f) ?_
          · have rd := RD_set (i := 4) (v := K1 0 1 - 13) a2 (by omega)
            refine RD_of rd rfl rfl (fun a j hn => ?_)
            rw [t4f a j (by omega), f3, kv]
          · have := tk_on a1
            rw [f3, st_no (by omega)] at k4p
            omega
        · rw [if_neg (show ¬ T1 0 9 ≤ 15 from fun q => d3 (tq_le rfl (b := 15) (by decide) q))]
          exact nofit (by omega)
    · rw [if_neg (show ¬ T1 0 8 = 1 from fun q => d1 (by rw [q]; decide))]
      exact nofit (by omega)
