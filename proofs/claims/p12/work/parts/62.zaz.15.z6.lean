/-! numbers drawn -/
theorem l_nn {x : Int64} (h : 0 ≤ x.toInt) : x.toInt = (x.toBitVec.toNat : Int) ∧ x.toBitVec.toNat < 9223372036854775808 := by
  have e : x.toInt = x.toBitVec.toInt := rfl
  have hl := x.toBitVec.isLt
  rw [e, BitVec.toInt_eq_toNat_cond] at h ⊢
  split at h <;> rename_i g
  · rw [if_pos g]; exact ⟨rfl, by omega⟩
  · exfalso; omega
theorem l_of {x : Int64} {n : Nat} (h : x.toBitVec.toNat = n) (hn : n < 9223372036854775808) : x.toInt = n := by
  have e : x.toInt = x.toBitVec.toInt := rfl
  rw [e, BitVec.toInt_eq_toNat_cond, h, if_pos (by omega)]
theorem nx_eq {d n : Int32} {N : Int64} (h : 0 ≤ d.toInt) (hn : n = ((d * 1103515245) + 12345) &&& 2147483647) (hN : N = ((d.toInt64 * 1103515245) + 12345) &&& 2147483647) : N = n.toInt64 ∧ 0 ≤ n.toInt := by
  obtain ⟨d1, d2⟩ := i_nn h
  have D0 : d.toInt64.toInt = d.toInt := l_i32 d
  obtain ⟨D1, D2⟩ := l_nn (x := d.toInt64) (by rw [D0]; exact h)
  have eD : d.toInt64.toBitVec.toNat = d.toBitVec.toNat := by omega
  have a32 : n.toBitVec.toNat = (d.toBitVec.toNat * 1103515245 + 12345) % 2147483648 := by
    rw [hn]
    have k1 : (2147483647 : Int32).toBitVec.toNat = 2 ^ 31 - 1 := by decide
    have k2 : (1103515245 : Int32).toBitVec.toNat = 1103515245 := by decide
    have k3 : (12345 : Int32).toBitVec.toNat = 12345 := by decide
    rw [Int32.toBitVec_and, BitVec.toNat_and, k1, Nat.and_two_pow_sub_one_eq_mod, Int32.toBitVec_add, BitVec.toNat_add, Int32.toBitVec_mul, BitVec.toNat_mul, k2, k3]
    omega
  have a64 : N.toBitVec.toNat = (d.toBitVec.toNat * 1103515245 + 12345) % 2147483648 := by
    rw [hN]
    have k1 : (2147483647 : Int64).toBitVec.toNat = 2 ^ 31 - 1 := by decide
    have k2 : (1103515245 : Int64).toBitVec.toNat = 1103515245 := by decide
    have k3 : (12345 : Int64).toBitVec.toNat = 12345 := by decide
    rw [Int64.toBitVec_and, BitVec.toNat_and, k1, Nat.and_two_pow_sub_one_eq_mod, Int64.toBitVec_add, BitVec.toNat_add, Int64.toBitVec_mul, BitVec.toNat_mul, k2, k3, eD]
    omega
  have i32 := i_of a32 (by omega)
  have i64 := l_of a64 (by omega)
  exact ⟨Int64.toInt_inj.mp (by rw [i64, l_i32, i32]), by rw [i32]; omega⟩
theorem sh16 {n : Int32} (h : 0 ≤ n.toInt) : ((n.toUInt32 >>> ((16 : Int32).toUInt32 &&& Int32.toUInt32 31)).toInt32).toInt = n.toInt / 65536 := by
  obtain ⟨d1, d2⟩ := i_nn h
  have e : ((n.toUInt32 >>> ((16 : Int32).toUInt32 &&& Int32.toUInt32 31)).toInt32).toBitVec.toNat = n.toBitVec.toNat / 65536 := by
    show (n.toUInt32 >>> ((16 : Int32).toUInt32 &&& Int32.toUInt32 31)).toNat = _
    rw [UInt32.toNat_shiftRight, show ((16 : Int32).toUInt32 &&& Int32.toUInt32 31).toNat % 32 = 16 by decide, Nat.shiftRight_eq_div_pow]
    rfl
  rw [i_of e (by omega), d1]
  omega
theorem l_div {a b : Int64} (k : Int) (hk : b.toInt = k) (hp : 0 < k) (h0 : 0 ≤ a.toInt) : (a / b).toInt = a.toInt / k := by
  have h1 := Int.ediv_le_self k h0
  have h2 := a.toInt_lt
  have := Int.ediv_nonneg h0 (Int.le_of_lt hp)
  rw [Int64.toInt_div, hk, Int.tdiv_eq_ediv_of_nonneg h0]
  exact l_bm (by omega) (by omega)
theorem l_rem {a b : Int64} (k : Int) (hk : b.toInt = k) (hp : 0 < k) (h0 : 0 ≤ a.toInt) : (a - a / b * b).toInt = a.toInt % k := by
  have h1 := l_div k hk hp h0
  have h2 : (a / b * b).toInt = a.toInt / k * k := by
    rw [Int64.toInt_mul, h1, hk]
    have e1 := Int.ediv_mul_le a.toInt (Int.ne_of_gt hp)
    have e2 := a.toInt_lt
    have e3 := Int.mul_nonneg (Int.ediv_nonneg h0 (Int.le_of_lt hp)) (Int.le_of_lt hp)
    exact l_bm (by omega) (by omega)
  have h3 : a.toInt / k * k ≤ a.toInt := Int.ediv_mul_le a.toInt (Int.ne_of_gt hp)
  have h4 : a.toInt % k = a.toInt - a.toInt / k * k := by
    have := Int.emod_add_mul_ediv a.toInt k
    rw [Int.mul_comm] at this
    omega
  have h5 := Int.emod_nonneg a.toInt (Int.ne_of_gt hp)
  have h6 := a.toInt_lt
  have h7 := Int.mul_nonneg (Int.ediv_nonneg h0 (Int.le_of_lt hp)) (Int.le_of_lt hp)
  rw [Int64.toInt_sub, h2, h4]
  exact l_bm (by omega) (by omega)
/-- by a hundred -/
theorem r100 {n : Int32} {N : Int64} (h : 0 ≤ n.toInt) (e : N = n.toInt64) : (((n.toUInt32 >>> ((16 : Int32).toUInt32 &&& Int32.toUInt32 31)).toInt32) - ((n.toUInt32 >>> ((16 : Int32).toUInt32 &&& Int32.toUInt32 31)).toInt32) / 100 * 100) = (((N / 65536) - (N / 65536) / (100 : Int32).toInt64 * (100 : Int32).toInt64).toInt32) ∧ 0 ≤ (((N / 65536) - (N / 65536) / (100 : Int32).toInt64 * (100 : Int32).toInt64).toInt32).toInt ∧ (((N / 65536) - (N / 65536) / (100 : Int32).toInt64 * (100 : Int32).toInt64).toInt32).toInt < 100 := by
  have s := sh16 h
  have hN : N.toInt = n.toInt := by rw [e]; exact l_i32 n
  have q : (N / 65536).toInt = n.toInt / 65536 := by rw [l_div 65536 (by decide) (by decide) (by omega), hN]
  have a := i_rem (a := (n.toUInt32 >>> ((16 : Int32).toUInt32 &&& Int32.toUInt32 31)).toInt32) (b := 100) 100 (by decide) (by decide) (by rw [s]; omega)
  have c := l_rem (a := N / 65536) (b := (100 : Int32).toInt64) 100 (by decide) (by decide) (by rw [q]; omega)
  rw [s] at a
  rw [q] at c
  have d : (((N / 65536) - (N / 65536) / (100 : Int32).toInt64 * (100 : Int32).toInt64).toInt32).toInt = n.toInt / 65536 % 100 := by
    rw [Int64.toInt_toInt32, c]; exact i_bm (by omega) (by omega)
  exact ⟨Int32.toInt_inj.mp (by rw [a, d]), by rw [d]; omega, by rw [d]; omega⟩
/-- percents alike -/
def pcR (q q' : Int32) : Prop := q = q' ∨ (q.toInt = 100 ∧ 100 ≤ q'.toInt)
def oD (L L1 : Lo) : Prop := ∀ a j, a ≠ 50 → a ≠ 51 → ¬ (a = 0 ∧ j = 63) → L1 a j = L a j
theorem oD_r {L : Lo} : oD L L := fun _ _ _ _ _ => rfl
theorem oD_t {L M N : Lo} (h1 : oD L M) (h2 : oD M N) : oD L N := fun a j h h' h'' => (h2 a j h h' h'').trans (h1 a j h h' h'')
theorem oD_L {L M : Lo} (h : oL L M) : oD L M := fun a j h1 h2 _ => h a j h1 h2
def hpQ (T : Tr) (L : Lo) (a : Int32 × Tr) (b : Int32 × Lo) : Prop := a.1 = b.1 ∧ (b.1 = 0 ∨ b.1 = 1) ∧ drw a.2 b.2 ∧ (∀ c j, ¬ (c = 0 ∧ j = 2) → a.2 c j = T c j) ∧ oD L b.2
theorem e_nm1 (L : Lo) (x : Int32) : Ep (f_X8_number1 L x) (fun q => q.2 = stL L 0 63 ((((L 0 63) * 1103515245) + 12345) &&& 2147483647) ∧ q.1 = (((q.2 0 63) / 65536) - ((q.2 0 63) / 65536) / x.toInt64 * x.toInt64).toInt32) := by
  unfold f_X8_number1
  exact Ep_lt (fun L1 l1 => Ep_ck (Ep_some ⟨l1, rfl⟩))
theorem e_hap {T S : Tr} {L : Lo} {q q' : Int32} (hd : drw T L) (h5 : T 0 5 = S 0 65) (h : pcR q q') : E2 (f_X6_happens T q) (f_X8_isDrawn S L q') (hpQ T L) := by
  have le : ∀ m : Int32, m.toInt < 100 → (q ≤ m ↔ q' ≤ m) := fun m hm => by
    rcases h with e | ⟨e1, e2⟩
    · rw [e]
    · constructor
      · intro g; have := tq_le e1 rfl g; omega
      · intro g; have := tq_le rfl rfl g; omega
  have lt50 : q < 50 ↔ q' < 50 := by
    rcases h with e | ⟨e1, e2⟩
    · rw [e]
    · constructor
      · intro g; have := tq_lt e1 (b := 50) (by decide) g; omega
      · intro g; have := tq_lt rfl (b := 50) (by decide) g; omega
  unfold f_X6_happens f_X8_isDrawn
  rw [h5]
  refine E2_it Iff.rfl (fun c _ => E2_it lt50 (fun _ _ => E2_some ⟨rfl, Or.inl rfl, hd, fun _ _ _ => rfl, oD_r⟩) (fun _ _ => E2_some ⟨rfl, Or.inr rfl, hd, fun _ _ _ => rfl, oD_r⟩)) (fun c _ => E2_ltl (fun T2 t2 => ?_))
  obtain ⟨d1, d2⟩ := hd (by rw [h5]; exact c)
  refine E2_br (e_nm1 L 100) (fun v hv => E2_ltr (fun r3 e3 => E2_ltr (fun L4 l4 => ?_)))
  obtain ⟨rr, L1⟩ := v
  obtain ⟨l1, hr⟩ := hv
  have l1 : L1 = stL L 0 63 ((((L 0 63) * 1103515245) + 12345) &&& 2147483647) := l1
  have hr : rr = (((L1 0 63) / 65536) - ((L1 0 63) / 65536) / (100 : Int32).toInt64 * (100 : Int32).toInt64).toInt32 := hr
  have tv : T2 0 2 = ((T 0 2 * 1103515245) + 12345) &&& 2147483647 := by rw [t2, st_same]
  have lv : L1 0 63 = (((T 0 2).toInt64 * 1103515245) + 12345) &&& 2147483647 := by rw [l1, stL_same, d1]
  obtain ⟨n1, n2⟩ := nx_eq d2 tv lv
  obtain ⟨r1, r2, r3'⟩ := r100 n2 n1
  rw [r1]
  have e3 : r3 = rr := e3
  rw [← hr, ← e3]
  rw [← hr, ← e3] at r3'
  have l4 : L4 = L1 := l4
  have dd : drw T2 L4 := fun _ => ⟨by rw [l4]; exact n1, n2⟩
  have tf : ∀ c j, ¬ (c = 0 ∧ j = 2) → T2 c j = T c j := fun c j hn => by rw [t2, st_no hn]
  have lf : oD L L4 := fun a j h1 h2 h3 => by
    rw [l4, l1]
    by_cases ha : a = 0
    · subst ha; exact stL_ne (fun e => h3 ⟨rfl, e⟩)
    · exact congrFun (stL_oth ha) j
  exact E2_it (le r3 r3') (fun _ _ => E2_some ⟨rfl, Or.inl rfl, dd, tf, lf⟩) (fun _ _ => E2_some ⟨rfl, Or.inr rfl, dd, tf, lf⟩)
/-! what falls, what is stolen: percents -/
theorem clm_rng (v : Int64) : 0 ≤ (clm v 100).toInt ∧ (clm v 100).toInt ≤ 100 := by
  unfold clm
  split
  · rename_i c
    have c := l_cge.mp c
    rw [show (0 : Int64).toInt = 0 by decide] at c
    split
    · rename_i c2
      have c2 := l_cle.mp c2
      rw [l_i32, show (100 : Int32).toInt = 100 by decide] at c2
      rw [Int64.toInt_toInt32, i_bm (by omega) (by omega)]
      exact ⟨c, c2⟩
    · decide
  · decide
theorem clm_32 (x : Int32) : clm x.toInt64 100 = if 0 ≤ x then (if x ≤ 100 then x else 100) else 0 := by
  have a : (0 ≤ lg_cmp x.toInt64 0) ↔ 0 ≤ x := by rw [l_cge, l_i32, Int32.le_iff_toInt_le]; exact Iff.rfl
  have c : (lg_cmp x.toInt64 (100 : Int32).toInt64 ≤ 0) ↔ x ≤ 100 := by rw [l_cle, l_i32, l_i32, Int32.le_iff_toInt_le]
  have d : x.toInt64.toInt32 = x := Int32.toInt_inj.mp (by rw [Int64.toInt_toInt32, l_i32]; have := i_rng x; exact i_bm (by omega) (by omega))
  unfold clm
  by_cases h1 : 0 ≤ x
  · rw [if_pos h1, if_pos (a.mpr h1)]
    by_cases h2 : x ≤ 100
    · rw [if_pos h2, if_pos (c.mpr h2), d]
    · rw [if_neg h2, if_neg (fun q => h2 (c.mp q))]
  · rw [if_neg h1, if_neg (fun q => h1 (a.mp q))]
def pcQ (T S : Tr) (L : Lo) (q q' : Int32 × Tr × Lo) : Prop := pcR q.1 q'.1 ∧ o19 T q.2.1 ∧ o51 S q'.2.1 ∧ oL L q'.2.2
theorem nmn {v : Int64} (h : bnd v) : ¬ lg_cmp v (-9223372036854775808) = 0 := fun e => by
  have e := (lg_cmp_eq _ _).mp e
  rw [e] at h; exact nbnd_mn h
theorem e_stl {b i p pos : Nat} {P T S : Tr} {L Lc : Lo} {xb x1 : Int32} (hb : xb.toNatClampNeg = b) (hxb : 0 ≤ xb.toInt ∧ xb.toInt ≤ 1) (hR : Rl b P T S) (hi : x1.toInt = i) (hii : (i : Int) < (S 0 14).toInt) (ha : at2 b T S i p pos) : E2 (f_X6_stealPercent T P Lc x1) (bd (f_X8_layNames S L xb x1 (S 30 i)) fun L_10 => f_X8_boundLaw S L_10 (2 : Int32) (10 : Int32) (100 : Int32)) (pcQ T S L) := by
  have h14 : (S 0 14).toInt ≤ 10 := (hR.1.1 0 14).2
  have hpI := hR.1.2.1
  have ow := hpI.2.2.1 i (by omega) hii
  have ow0 : 0 ≤ (S 30 i).toInt := (hR.1.1 30 i).1
  obtain ⟨o, ho⟩ : ∃ o : Nat, (S 30 i).toInt = o := ⟨(S 30 i).toInt.toNat, by omega⟩
  have e14 := (hR.2.1.2.2.2.1 i hii).1
  unfold f_X6_stealPercent
  rw [i_cn hi, e14, i_cn ho]
  refine E2_ckl (fun _ => E2_ckl (fun _ => E2_br (e_lay hb hxb hR hi hii ha ho (by omega)) (fun L2 h2 => ?_)))
  refine E2_lb (e_wk (Lc := Lc) hR hi ha (xw := 2) (w := 2) (by decide) (by decide) h2.1) (fun q q' hq => ?_)
  obtain ⟨u1, u2, u3, u4⟩ := hq
  refine E2_ltl (fun r3 e3 => E2_ltl (fun T4 t4 => E2_ltl (fun L5 l5 => ?_)))
  have t4 : T4 = q.2.1 := t4
  have e3 : r3 = q.1 := e3
  rw [← e3] at u4
  rw [← t4] at u1
  rcases u4 with ⟨w1, w2⟩ | ⟨w1, w2⟩
  · refine E2_pl (by rw [w1]; decide) (E2_some ⟨Or.inl w2.symm, u1, u2, oL_t h2.2 u3⟩)
  · refine E2_ql (nmn w1) ?_
    rw [e_wi, bd_some]
    exact E2_some ⟨Or.inl w2.symm, u1, u2, oL_t h2.2 u3⟩
theorem e_fal {b i p pos : Nat} {P T S : Tr} {L Lc : Lo} {xb x1 : Int32} (hb : xb.toNatClampNeg = b) (hxb : 0 ≤ xb.toInt ∧ xb.toInt ≤ 1) (hR : Rl b P T S) (hi : x1.toInt = i) (hii : (i : Int) < (S 0 14).toInt) (ha : at2 b T S i p pos) : E2 (f_X6_fallPercent T P Lc x1) (f_X8_fallOf S L xb x1) (pcQ T S L) := by
  have h14 : (S 0 14).toInt ≤ 10 := (hR.1.1 0 14).2
  have hpI := hR.1.2.1
  have ow := hpI.2.2.1 i (by omega) hii
  have ow0 : 0 ≤ (S 30 i).toInt := (hR.1.1 30 i).1
  obtain ⟨o, ho⟩ : ∃ o : Nat, (S 30 i).toInt = o := ⟨(S 30 i).toInt.toNat, by omega⟩
  obtain ⟨e14, e15, -⟩ := hR.2.1.2.2.2.1 i hii
  have e4 := hR.2.2.1.2.2.2.1
  have at2e : ∀ T4, o19 T T4 → at2 b T4 S i p pos := fun T4 u => by
    obtain ⟨a1, a2, a3, a4, a5, a6, a7, a8, a9, a10⟩ := ha
    unfold at2
    rw [u 15 i (by omega), u 17 p (by omega), u 16 _ (by omega)]
    exact ⟨a1, a2, a3, a4, a5, a6, a7, a8, fun k hk => by rw [u 16 _ (by omega)]; exact a9 k hk, fun k hk => by rw [u 16 _ (by omega)]; exact a10 k hk⟩
  have main : ∀ s0 : Int32, T 0 4 = s0 → E2 (f_X6_fallPercent T P Lc x1) (fJ_X8_fallOf_J17 xb x1 s0 S L) (pcQ T S L) := by
    intro s0 hs0
    unfold f_X6_fallPercent fJ_X8_fallOf_J17
    rw [i_cn hi, e14, i_cn ho]
    refine E2_ckl (fun _ => E2_ckl (fun _ => E2_br (at_bel ha hb hxb hR.1.1 hR.1.2.2.1 hi (by omega)) (fun r2 h2 => E2_ckr (fun _ => E2_ltr (fun y6 e6 => E2_br (e_lay hb hxb hR hi hii ha ho (by omega)) (fun L7 h7 => ?_))))))
    -- the class's word once the law doesn't tell
    have lev : ∀ T4, o19 T T4 → Ep (f_X6_level T4 x1) (fun r9 => ((T4 0 4) + ((10 : Int32) * r9)) - (P 15 i) = y6) := fun T4 u => Ep_mono (at_lvl (at2e T4 u) hi) (fun r hr => by
      rw [u 0 4 (by omega), hs0, e6, e15, show r = r2 from Int32.toInt_inj.mp (by rw [hr, h2])])
    have rest : ∀ d : Int32, (0 ≤ y6 → d = y6) → (¬ 0 ≤ y6 → d = 0) → E2 (bd (f_X6_worked T P Lc (1 : Int32) x1 (T 10 o)) fun q => lt q.1 fun r3 => lt q.2.1 fun T_4 => lt q.2.2 fun L_5 => if (lg_cmp r3 (-9223372036854775808)) = 0 then (bd (f_X6_level T_4 x1) fun r9 => fJ_X6_fallPercent_J57 P ((((T_4 0 4) + ((10 : Int32) * r9)) - (P 15 i)).toInt64) T_4 L_5) else (fJ_X6_fallPercent_J57 P r3 T_4 L_5)) (fJ_X8_fallOf_J58 d 1 S L7) (pcQ T S L) := by
      intro d hd1 hd2
      unfold fJ_X8_fallOf_J58
      refine E2_bd (e_wk (Lc := Lc) hR hi ha (xw := 1) (w := 1) (by decide) (by decide) h7.1) (fun q q' hq => ?_)
      obtain ⟨u1, u2, u3, u4⟩ := hq
      refine E2_ltl (fun r3 e3 => E2_ltl (fun T4 t4 => E2_ltl (fun L5 l5 => E2_ltr (fun r11 e11 => E2_ltr (fun S12 s12 => E2_ltr (fun L13 l13 => ?_))))))
      have t4 : T4 = q.2.1 := t4
      have e3 : r3 = q.1 := e3
      have e11 : r11 = q'.1 := e11
      have s12 : S12 = q'.2.1 := s12
      have l13 : L13 = q'.2.2 := l13
      rw [← e3, ← e11] at u4
      rw [← t4] at u1
      rw [← s12] at u2
      rw [← l13] at u3
      unfold fJ_X6_fallPercent_J57
      rcases u4 with ⟨w1, w2⟩ | ⟨w1, w2⟩
      · refine E2_pl (by rw [w1]; decide) (E2_bl (lev T4 u1) (fun r9 h9 => ?_))
        rw [h9, e_wi, bd_some, clm_32]
        refine E2_some ⟨?_, u1, u2, oL_t h7.2 u3⟩
        show pcR _ r11
        rw [w2]
        by_cases c1 : 0 ≤ y6
        · rw [if_pos c1, hd1 c1]
          by_cases c2 : y6 ≤ 100
          · rw [if_pos c2]; exact Or.inl rfl
          · rw [if_neg c2]
            have := tq_len (x := y6) (b := 100) rfl (by decide) c2
            exact Or.inr ⟨show (100 : Int32).toInt = 100 from by decide, by omega⟩
        · rw [if_neg c1, hd2 c1]; exact Or.inl rfl
      · refine E2_ql (nmn w1) ?_
        rw [e_wi, bd_some]
        exact E2_some ⟨Or.inl w2.symm, u1, u2, oL_t h7.2 u3⟩
    exact E2_itr (fun c => rest y6 (fun _ => rfl) (fun n => absurd c n)) (fun c => rest 0 (fun n => absurd n c) (fun _ => rfl))
  unfold f_X8_fallOf
  exact E2_itr (fun c => main _ (by rw [e4, if_pos c])) (fun c => main _ (by rw [e4, if_neg c]))
