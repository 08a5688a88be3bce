/-! a line of a wait -/
theorem sa_n {x s : Int32} {k : Nat} (hx : 0 ≤ x.toInt) (hs : s.toBitVec.smod 32 = BitVec.ofNat 32 k) (hk : k < 32) : (x >>> s).toBitVec.toNat = x.toBitVec.toNat / 2 ^ k := by
  obtain ⟨e1, e2⟩ := i_nn hx
  have hm : x.toBitVec.msb = false := by
    rw [BitVec.msb_eq_decide]
    exact decide_eq_false (by show ¬ 2147483648 ≤ _; omega)
  rw [Int32.toBitVec_shiftRight, hs, BitVec.sshiftRight_eq', BitVec.toNat_ofNat, Nat.mod_eq_of_lt (show k < 2 ^ 32 by omega), BitVec.toNat_sshiftRight_of_msb_false hm, Nat.shiftRight_eq_div_pow]
theorem sm_t {t : Nat} (ht : t < 20) : ((Int32.ofNat t) &&& 31).toBitVec.smod 32 = BitVec.ofNat 32 t := by
  have : ∀ t : Fin 20, ((Int32.ofNat t.val) &&& 31).toBitVec.smod 32 = BitVec.ofNat 32 t.val := by decide
  exact this ⟨t, ht⟩
theorem bit_n {x : Int32} {n t : Nat} (h : x.toInt = n) (ht : t < 20) : ((x >>> ((Int32.ofNat t) &&& 31)) &&& 1 = 0) ↔ n / 2 ^ t % 2 = 0 := by
  have hx : x.toBitVec.toNat = n := by have := i_nn (x := x) (by omega); omega
  have e : ((x >>> ((Int32.ofNat t) &&& 31)) &&& 1).toBitVec.toNat = n / 2 ^ t % 2 := by
    rw [an_n, sa_n (by omega) (sm_t ht) (by omega), hx]
    exact Nat.and_one_is_mod _
  constructor
  · intro g
    rw [g] at e
    exact e.symm
  · intro g
    apply Int32.toBitVec_inj.mp
    apply BitVec.eq_of_toNat_eq
    rw [e, g]; rfl
theorem one_t {t : Nat} (ht : t < 20) : ((1 : Int32) <<< ((Int32.ofNat t) &&& 31)).toBitVec = BitVec.twoPow 32 t := by
  have : ∀ t : Fin 20, ((1 : Int32) <<< ((Int32.ofNat t.val) &&& 31)).toBitVec = BitVec.twoPow 32 t.val := by decide
  exact this ⟨t, ht⟩
theorem tp_n {t : Nat} (ht : t < 20) : (BitVec.twoPow 32 t).toNat = 2 ^ t := by
  have : ∀ t : Fin 20, (BitVec.twoPow 32 t.val).toNat = 2 ^ t.val := by decide
  exact this ⟨t, ht⟩
theorem tp_b {t : Nat} (ht : t < 20) : 2 ^ t < 1048576 := by
  have : ∀ t : Fin 20, 2 ^ t.val < 1048576 := by decide
  exact this ⟨t, ht⟩
theorem bit_set {x : Int32} {n t : Nat} (h : x.toInt = n) (hn : n < 1048576) (ht : t < 20) (hb : n / 2 ^ t % 2 = 0) : (x ||| ((1 : Int32) <<< ((Int32.ofNat t) &&& 31))).toInt = ((n + 2 ^ t : Nat) : Int) ∧ ∀ u, u < 20 → ((n + 2 ^ t) / 2 ^ u % 2 = 0 ↔ (u ≠ t ∧ n / 2 ^ u % 2 = 0)) := by
  have hx : x.toBitVec.toNat = n := by have := i_nn (x := x) (by omega); omega
  have hz : x.toBitVec &&& BitVec.twoPow 32 t = 0#32 := by
    rw [BitVec.and_twoPow]
    have : x.toBitVec.getLsbD t = false := by
      show x.toBitVec.toNat.testBit t = false
      rw [hx, Nat.testBit_eq_decide_div_mod_eq]
      exact decide_eq_false (by omega)
    rw [this]; rfl
  have ho := BitVec.add_eq_or_of_and_eq_zero _ _ hz
  have tb := tp_b ht
  have e : n ||| 2 ^ t = n + 2 ^ t := by
    have z := congrArg BitVec.toNat ho
    rw [BitVec.toNat_add, BitVec.toNat_or, hx, tp_n ht, Nat.mod_eq_of_lt (by omega)] at z
    exact z.symm
  constructor
  · refine i_of ?_ (by omega)
    rw [Int32.toBitVec_or, one_t ht, BitVec.toNat_or, hx, tp_n ht, e]
  · intro u hu
    have z : (n ||| 2 ^ t).testBit u = (n.testBit u || (2 ^ t).testBit u) := Nat.testBit_or _ _ _
    rw [e, Nat.testBit_two_pow, Nat.testBit_eq_decide_div_mod_eq, Nat.testBit_eq_decide_div_mod_eq] at z
    by_cases c : t = u
    · subst c
      simp at z
      constructor
      · intro g; omega
      · intro g; exact absurd rfl g.1
    · simp [c] at z
      constructor
      · intro g; exact ⟨fun q => c q.symm, by omega⟩
      · intro g; omega
theorem of_t {x : Int32} {t : Nat} (h : x.toInt = t) (ht : t < 100) : x = Int32.ofNat t := i_z (by rw [h, Int32.toInt_ofNat_of_lt (by omega)])
theorem nm_yes {T : Tr} {lo hi : Int32} (h8 : T 0 8 = 3) (h1 : lo.toInt ≤ (T 0 9).toInt) (h2 : (T 0 9).toInt ≤ hi.toInt) : f_X8_number T lo hi = bd (f_X8_token (st T 0 11 (T 0 9))) fun S7 => some (1, S7) := by
  unfold f_X8_number f_X8_isIn
  rw [if_pos h8, if_neg (fun q => by have := tq_lt rfl rfl q; omega), if_neg (fun q => by have := tq_lt rfl rfl q; omega)]
  rfl
theorem nm_no2 {T : Tr} {lo hi : Int32} (h8 : T 0 8 = 3) (h : ¬ (lo.toInt ≤ (T 0 9).toInt ∧ (T 0 9).toInt ≤ hi.toInt)) : f_X8_number T lo hi = some (0, st (st T 0 4 2) 0 5 (T 0 10)) := by
  unfold f_X8_number f_X8_isIn
  rw [if_pos h8, wrE]
  by_cases c : T 0 9 < lo
  · rw [if_pos c]; rfl
  · have := tq_ltn rfl rfl c
    rw [if_neg c, if_pos (Int32.lt_iff_toInt_lt.mpr (by omega))]; rfl
theorem nm_no1 {T : Tr} {lo hi : Int32} (h8 : ¬ T 0 8 = 3) : f_X8_number T lo hi = some (0, st (st T 0 4 1) 0 5 (T 0 10)) := by
  unfold f_X8_number
  rw [if_neg h8, wrE]
theorem nar1 : vp_nar .boolean 1 = 1 := rfl
theorem nar0 : vp_nar .boolean 0 = 0 := rfl
theorem e_wait {K R P T : Tr} (h : tkS K T) (hr : RD R P T) (h0 : R 0 1 = 0) : E2 (f_X3_readWait K R P) (f_X8_waitLine T) (lnQ K R T) := by
  unfold f_X3_readWait f_X8_waitLine
  obtain ⟨g1, g2, g3, g4, g5, g6⟩ := hr
  obtain ⟨w0, w1, w2, w3, w4⟩ := g4
  obtain ⟨nb, hnb⟩ : ∃ n : Nat, (R 0 6).toInt = n := ⟨(R 0 6).toInt.toNat, by omega⟩
  obtain ⟨bc1, rb, er1, er2⟩ := bc_n hnb (by omega)
  rw [er1]
  rw [w1] at er2
  refine E2_sl ?_
  by_cases c : (T 0 20).toInt = 10
  · rw [if_pos (show T 0 20 = 10 from i_z (by rw [c]; decide)), if_pos (show 10 ≤ rb from Int32.le_iff_toInt_le.mpr (by rw [er2, c]; decide))]
    unfold fJ_X3_readWait_J18
    rw [ex0, wrE]
    exact E2_p2l (E2_pl rfl (ln_fail h.2.2.2.1 (by decide) frK_r))
  · rw [if_neg (show ¬ T 0 20 = 10 from fun q => c (by rw [q]; decide)), if_neg (show ¬ 10 ≤ rb from fun q => by have := tq_le (a := 10) (by decide) er2 q; omega)]
    unfold fJ_X3_readWait_J18
    rw [ex1]
    refine E2_p2l (E2_ql (by decide) (E2_bd (e_advS h) (fun K2 T2 h2 => E2_ltl (fun x1 ex => E2_ltr (fun y5 e5 => ?_)))))
    obtain ⟨k2, k2f, t2f, k2p⟩ := h2
    have kk := k_num k2.2.2.2.2.1
    have t2r : ∀ a j, ¬ (a = 0 ∧ 7 ≤ j ∧ j ≤ 10) → T2 a j = T a j := t2f
    by_cases d1 : (T2 0 8).toInt = 3
    · have d8 : T2 0 8 = 3 := i_z (by rw [d1]; decide)
      rw [if_pos (show K2 0 1 = 42 from i_z (by rw [kk.mpr d1]; decide))]
      unfold fJ_X3_readWait_J60
      rw [ex1]
      refine E2_p2l (E2_ql (by decide) ?_)
      have nr := k2.2.2.2.2.2.2.1 d1
      unfold fJ_X3_readWait_J79
      by_cases d2 : (T2 0 9).toInt ≤ 19
      · have ev : x1 = T2 0 9 := by
          rcases nr with ⟨z, _⟩ | ⟨_, _, z, _⟩
          · rw [ex]; exact z
          · omega
        have nn : 0 ≤ (T2 0 9).toInt := by
          rcases nr with ⟨_, z, _⟩ | ⟨_, _, z, _⟩ <;> omega
        obtain ⟨t, ht⟩ : ∃ t : Nat, x1.toInt = t := ⟨x1.toInt.toNat, by rw [ev]; omega⟩
        have ht9 : (T2 0 9).toInt = t := by rw [← ev]; exact ht
        have t20 : t < 20 := by omega
        have et := of_t ht (by omega)
        rw [if_neg (show ¬ 20 ≤ x1 from fun q => by have := tq_le (a := 20) (by decide) ht q; omega), ex1, nm_yes d8 (by show (0 : Int) ≤ _; omega) (by show _ ≤ (19 : Int); exact d2), bd_bd]
        refine E2_p2l (E2_ql (by decide) ?_)
        unfold fJ_X3_readWait_J103
        have k3 : tkS K2 (st T2 0 11 (T2 0 9)) := tkS_st k2 (by omega)
        have hbit := w3 t t20
        rw [← et] at hbit
        have v11 : ∀ S7, frT (st T2 0 11 (T2 0 9)) S7 → S7 0 11 = x1 ∧ S7 35 t = T 35 t := fun S7 f => by
          rw [f 0 11 (by omega), st_same, f 35 t (by omega), st_no (by omega), t2r 35 t (by omega)]
          exact ⟨ev.symm, rfl⟩
        by_cases d3 : T 35 t = 0
        · rw [if_pos (hbit.mp d3), ex1]
          refine E2_p2l (E2_ql (by decide) (E2_bd (e_advS k3) (fun K4 T4 h4 => ?_)))
          obtain ⟨k4, k4f, t4f, k4p⟩ := h4
          obtain ⟨v1, v2⟩ := v11 T4 t4f
          refine E2_sr (E2_v2r (E2_qr (by decide) (E2_ltr (fun y11 e11 => E2_ckr (fun _ => ?_)))))
          rw [v1] at e11
          have c11 : y11.toNatClampNeg = t := i_cn (by rw [e11]; exact ht)
          rw [c11, v2]
          refine E2_pr d3 (E2_ltr (fun T5 f5 => ?_))
          have k5 : tkS K4 T5 := by rw [f5]; exact tkS_st k4 (by omega)
          have k24 := frK_t k2f k4f
          refine E2_bd (e_nq k5 (lo := 0) (hi := 999) (by decide) (by decide)) (fun q q' hq => ?_)
          obtain ⟨r1, K6, R6⟩ := q
          obtain ⟨r1', T6⟩ := q'
          refine E2_v3l (E2_v2r ?_)
          rcases nq_cs hq (by decide : (0 : Int32).toInt = 0) (by decide : (999 : Int32).toInt = 999) with ⟨rfl, rfl, q3, q4⟩ | ⟨rfl, q2, q3, q4, q5, rfl, q7, q8, q9⟩
          · exact E2_ql (by decide) (E2_pr rfl (E2_some (Or.inl ⟨rfl, rfl, q3, frK_t k24 q4⟩)))
          · refine E2_pl (Int32.le_iff_toInt_le.mpr (by show (0 : Int) ≤ _; omega)) (E2_qr (by decide) (E2_ltl (fun R7 e7 => E2_ckl (fun _ => E2_ltl (fun P7 p7 => E2_ckr (fun _ => E2_ltr (fun T7 f7 => E2_ltr (fun T8 f8 => E2_some ?_))))))))
            have c21 : ((21 : Int32) + y11).toNatClampNeg = 21 + t := i_cn (by rw [i_addK (x := 21) (y := t) (by decide) (by rw [e11]; exact ht) (by omega) (by omega)]; omega)
            rw [c21] at f7
            rw [i_cn ht] at p7
            have fr : ∀ a j, ¬ ((a = 0 ∧ (4 ≤ j ∧ j ≤ 11 ∨ j = 20)) ∨ a = 34 ∨ a = 35) → T8 a j = T a j := fun a j hn => by
              rw [f8, st_no (by omega), f7, st_no (by omega), q8 a j (by omega), f5, st_no (by omega), t4f a j (by omega), st_no (by omega), t2r a j (by omega)]
            have frP : ∀ a j, ¬ (a = 18) → P7 a j = P a j := fun a j hn => by rw [p7, st_no (by omega)]
            have s20 : T8 0 20 = T 0 20 + 1 := by rw [f8, st_same, f7, st_no (by omega), q8 0 20 (by omega), f5, st_no (by omega), t4f 0 20 (by omega), st_no (by omega), t2r 0 20 (by omega)]
            have s20i : (T8 0 20).toInt = (T 0 20).toInt + 1 := by rw [s20]; exact i_addK rfl (by decide) (by omega) (by omega)
            have hb0 : nb / 2 ^ t % 2 = 0 := (bit_n hnb t20).mp (by rw [← et]; exact hbit.mp d3)
            obtain ⟨b1, b2⟩ := bit_set hnb (by omega) t20 hb0
            obtain ⟨b3, b4⟩ := pc_set (n := nb) (by omega) t20 hb0
            have r6 : (R7 0 6).toInt = ((nb + 2 ^ t : Nat) : Int) := by rw [e7, st_same, et]; exact b1
            have r6c := (bc_n r6 b4).1
            refine Or.inr ⟨rfl, rfl, ?_, ⟨?_, ?_, ?_, ⟨?_, ?_, ?_, fun u hu => ?_, fun u hu => ?_⟩, ?_, ?_⟩, ?_, ?_, frK_t k24 q7, ?_⟩
            · show tkS K6 T8
              rw [f8, f7]; exact tkS_st (tkS_st q5 (by omega)) (by omega)
            · exact rPl_of g1 (fun a j g => frP a j (by omega)) (fun a j g => fr a j (by omega))
            · exact rPe_of g2 (fun a j g => frP a j (by omega)) (fun a j g => fr a j (by omega))
            · exact rPi_of g3 (fun a j g => frP a j (by omega)) (fun a j g => fr a j (by omega))
            · show 0 ≤ (R7 0 6).toInt ∧ (R7 0 6).toInt < 1048576
              rw [r6]
              clear b3 r6c r6 b2 b1
              generalize nb + 2 ^ t = z at b4 ⊢
              omega
            · show bcN (R7 0 6) = (T8 0 20).toInt
              rw [r6c, b3, s20i, ← w1, bc1]; omega
            · show 0 ≤ (T8 0 20).toInt ∧ (T8 0 20).toInt ≤ 10
              omega
            · show T8 35 u = 0 ↔ ((R7 0 6) >>> ((Int32.ofNat u) &&& 31)) &&& 1 = 0
              rw [bit_n r6 hu, b2 u hu]
              have e8 : T8 35 u = T5 35 u := by rw [f8, st_no (by omega), f7, st_no (by omega), q8 35 u (by omega)]
              rw [e8, f5]
              by_cases c : u = t
              · subst c
                rw [st_same, nar1]
                constructor
                · intro g; exact absurd g (by decide)
                · intro g; exact absurd rfl g.1
              · rw [st_no (by omega), t4f 35 u (by omega), st_no (by omega), t2r 35 u (by omega), w3 u hu, bit_n hnb hu]
                exact ⟨fun g => ⟨c, g⟩, fun g => g.2⟩
            · show P7 18 u = T8 34 (21 + u)
              by_cases c : u = t
              · subst c
                rw [p7, st_same, f8, st_no (by omega), f7, st_same, q4]
              · rw [p7, st_no (by omega), f8, st_no (by omega), f7, st_no (by omega), q8 34 _ (by omega), f5, st_no (by omega), t4f 34 _ (by omega), st_no (by omega), t2r 34 _ (by omega)]
                exact w4 u hu
            · exact rO_of g5 (by show R7 0 5 = _; rw [e7, st_no (by omega)]) (fun j _ _ => frP 0 j (by omega)) (fun a j g => fr a j (by omega))
            · exact rL_of g6 (fun a j g => frP a j (by omega)) (fun a j g => fr a j (by omega))
            · show R7 0 1 = 0
              rw [e7, st_no (by omega)]; exact h0
            · show R7 0 3 = _
              rw [e7, st_no (by omega)]
            · show (T 0 7).toInt ≤ (T8 0 10).toInt
              have x1 := tk_on k2
              have x2 := tk_on k4
              rw [st_no (by omega)] at k4p
              have y2 : T5 0 7 = T4 0 7 := by rw [f5, st_no (by omega)]
              rw [y2] at q9
              rw [f8, st_no (by omega), f7, st_no (by omega)]
              omega
        · rw [if_neg (fun q => d3 (hbit.mpr q)), ex0]
          refine E2_p2l (E2_pl rfl (E2_br frT_tok (fun T4 t4f => ?_)))
          obtain ⟨v1, v2⟩ := v11 T4 t4f
          refine E2_sr (E2_v2r (E2_qr (by decide) (E2_ltr (fun y11 e11 => E2_ckr (fun _ => ?_)))))
          rw [v1] at e11
          have c11 : y11.toNatClampNeg = t := i_cn (by rw [e11]; exact ht)
          rw [c11, v2]
          refine E2_qr d3 (E2_ltr (fun T5 f5 => ?_))
          rw [wrE]
          exact ln_fail (by rw [f5, st_same, e5]; exact k2.2.2.2.1) (by decide) k2f
      · have nl : 20 ≤ x1 := Int32.le_iff_toInt_le.mpr (by
          show (20 : Int) ≤ _
          rw [ex]
          rcases nr with ⟨z, _⟩ | ⟨z, _⟩
          · rw [z]; omega
          · omega)
        rw [if_pos nl, ex0, nm_no2 d8 (fun q => d2 (by have := q.2; exact this))]
        exact E2_p2l (E2_pl rfl (E2_p2r (E2_pr rfl (ln_fail k2.2.2.2.1 (by decide) k2f))))
    · rw [if_neg (show ¬ K2 0 1 = 42 from fun q => d1 (kk.mp (by rw [q]; decide))), nm_no1 (fun q => d1 (by rw [q]; decide))]
      unfold fJ_X3_readWait_J60
      rw [ex0]
      exact E2_p2l (E2_pl rfl (E2_p2r (E2_pr rfl (ln_fail k2.2.2.2.1 (by decide) k2f))))
