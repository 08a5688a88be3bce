/-! a law's value -/
def bnd (v : Int64) : Prop := -1000000000000 ≤ v.toInt ∧ v.toInt ≤ 1000000000000
theorem l_cge {x y : Int64} : (0 ≤ lg_cmp x y) ↔ y.toInt ≤ x.toInt := (lg_cmp_ge x y).trans Int64.le_iff_toInt_le
theorem l_cle {x y : Int64} : (lg_cmp x y ≤ 0) ↔ x.toInt ≤ y.toInt := (lg_cmp_le x y).trans Int64.le_iff_toInt_le
theorem l_cgt {x y : Int64} : (0 < lg_cmp x y) ↔ y.toInt < x.toInt := (lg_cmp_gt x y).trans Int64.lt_iff_toInt_lt
theorem l_clt {x y : Int64} : (lg_cmp x y < 0) ↔ x.toInt < y.toInt := (lg_cmp_lt x y).trans Int64.lt_iff_toInt_lt
theorem l_ceq {x y : Int64} : (lg_cmp x y = 0) ↔ x.toInt = y.toInt := (lg_cmp_eq x y).trans Int64.toInt_inj.symm
theorem l_bm {x : Int} (h1 : -9223372036854775808 ≤ x) (h2 : x < 9223372036854775808) : x.bmod (2 ^ 64) = x := by
  rw [Int.bmod_def]
  split <;> omega
theorem l_mx : (1000000000000 : Int64).toInt = 1000000000000 := by decide
theorem l_mn : (-1000000000000 : Int64).toInt = -1000000000000 := by decide
theorem l_ng {a : Int64} (h : bnd a) : (-a).toInt = -a.toInt := by
  rw [Int64.toInt_neg]; exact l_bm (by have := h.2; omega) (by have := h.1; omega)
theorem l_i32 (x : Int32) : x.toInt64.toInt = x.toInt := by simp
theorem bnd_i (x : Int32) : bnd x.toInt64 := by
  unfold bnd; rw [l_i32]; have := i_rng x; omega
theorem bnd_0 : bnd 0 := by unfold bnd; decide
theorem bnd_1 : bnd 1 := by unfold bnd; decide
theorem bnd_mul {a b : Int64} (ha : bnd a) (h0 : ¬ a.toInt = 0) (h : (b.toInt).natAbs * (a.toInt).natAbs ≤ 1000000000000) : bnd (a * b) := by
  have e : (a.toInt * b.toInt).natAbs ≤ 1000000000000 := by rw [Int.natAbs_mul, Nat.mul_comm]; exact h
  unfold bnd
  rw [Int64.toInt_mul, l_bm (by omega) (by omega)]
  omega
theorem bnd_div {a b : Int64} (ha : bnd a) (h0 : ¬ b.toInt = 0) : bnd (a / b) := by
  have e : (a.toInt.tdiv b.toInt).natAbs ≤ 1000000000000 := by
    rw [Int.natAbs_tdiv]
    have h1 : a.toInt.natAbs.div b.toInt.natAbs ≤ a.toInt.natAbs := Nat.div_le_self a.toInt.natAbs b.toInt.natAbs
    have h2 := ha.1
    have h3 := ha.2
    exact Nat.le_trans h1 (by omega)
  unfold bnd
  rw [Int64.toInt_div, l_bm (by omega) (by omega)]
  omega
/-- the most that may stand beside a -/
theorem l_most {a d : Int64} (hd : d.toInt = (a.toInt.natAbs : Int)) (ha : bnd a) (h0 : ¬ a.toInt = 0) : ((1000000000000 : Int64) / d).toInt = ((1000000000000 / a.toInt.natAbs : Nat) : Int) := by
  have e : (1000000000000 : Int).tdiv (a.toInt.natAbs : Int) = ((1000000000000 / a.toInt.natAbs : Nat) : Int) := by
    rw [Int.tdiv_eq_ediv_of_nonneg (by omega)]; rfl
  have k := Nat.div_le_self 1000000000000 a.toInt.natAbs
  rw [Int64.toInt_div, l_mx, hd, e]
  generalize (1000000000000 / a.toInt.natAbs : Nat) = q at k ⊢
  exact l_bm (by omega) (by omega)
theorem e_b29 (S : Tr) (v : Int64) (s0 : Int32) : Ep (fJ_X8_bounded_J29 v s0 S) (fun q => q.2 = st S 0 51 s0 ∧ (s0 = 0 → q.1 = v)) := by
  unfold fJ_X8_bounded_J29
  refine Ep_ck (Ep_lt (fun T e => Ep_ite (fun _ => Ep_some ⟨e, fun _ => rfl⟩) (fun c => Ep_some ⟨e, fun h => ?_⟩)))
  exact absurd (by rw [e, st_same]; exact h) c
theorem e_bnd (S : Tr) (v : Int64) (h : S 0 51 = 0) : Ep (f_X8_bounded S v) (fun q => o51 S q.2 ∧ ((q.2 0 51 = 0 ∧ q.1 = v ∧ bnd v) ∨ (¬ q.2 0 51 = 0 ∧ ¬ bnd v))) := by
  unfold f_X8_bounded fJ_X8_bounded_J24
  have err : ¬ bnd v → Ep (fJ_X8_bounded_J29 v 1 S) (fun q => o51 S q.2 ∧ ((q.2 0 51 = 0 ∧ q.1 = v ∧ bnd v) ∨ (¬ q.2 0 51 = 0 ∧ ¬ bnd v))) := fun n => Ep_mono (e_b29 S v 1) (fun q hq => ⟨by rw [hq.1]; exact o51_s o51_r, Or.inr ⟨by rw [hq.1, st_same]; decide, n⟩⟩)
  refine Ep_ite (fun _ => Ep_ite (fun c => err (fun hb => ?_)) (fun c => Ep_ite (fun c2 => Ep_mono (e_b29 S v 0) (fun q hq => ⟨by rw [hq.1]; exact o51_s o51_r, Or.inl ⟨by rw [hq.1, st_same], hq.2 rfl, ?_⟩⟩)) (fun c2 => err (fun hb => ?_)))) (fun c => absurd h c)
  · have c := l_cgt.mp c
    rw [l_mx] at c; have := hb.2; omega
  · have c := mt l_cgt.mpr c
    have c2 := l_cge.mp c2
    rw [l_mx] at c; rw [l_mn] at c2
    unfold bnd; omega
  · have c2 := mt l_cge.mpr c2
    rw [l_mn] at c2; have := hb.1; omega
theorem e_t69 (S : Tr) (a b : Int64) (s0 : Int32) : Ep (fJ_X8_times_J69 a b s0 S) (fun q => q.2 = st S 0 51 s0 ∧ (s0 = 0 → q.1 = a * b)) := by
  unfold fJ_X8_times_J69
  refine Ep_ck (Ep_lt (fun T e => Ep_ite (fun _ => Ep_some ⟨e, fun _ => rfl⟩) (fun c => Ep_some ⟨e, fun h => ?_⟩)))
  exact absurd (by rw [e, st_same]; exact h) c
def tmQ (S : Tr) (a b : Int64) (q : Int64 × Tr) : Prop := o51 S q.2 ∧ ((q.2 0 51 = 0 ∧ q.1 = a * b ∧ (a.toInt = 0 ∨ (b.toInt).natAbs * (a.toInt).natAbs ≤ 1000000000000)) ∨ (¬ q.2 0 51 = 0 ∧ ¬ a.toInt = 0 ∧ ¬ (b.toInt).natAbs * (a.toInt).natAbs ≤ 1000000000000))
theorem e_tms (S : Tr) (a b : Int64) (h : S 0 51 = 0) (ha : bnd a) (hb : bnd b) : Ep (f_X8_times S a b) (tmQ S a b) := by
  have j48 : (a.toInt = 0 ∨ (b.toInt).natAbs * (a.toInt).natAbs ≤ 1000000000000) → Ep (fJ_X8_times_J48 a b S) (tmQ S a b) := by
    intro z
    unfold fJ_X8_times_J48 fJ_X8_times_J49
    exact Ep_ite (fun _ => Ep_ite (fun _ => Ep_mono (e_t69 S a b 0) (fun q hq => ⟨by rw [hq.1]; exact o51_s o51_r, Or.inl ⟨by rw [hq.1, st_same], hq.2 rfl, z⟩⟩)) (fun c => absurd rfl c)) (fun c => absurd h c)
  have j64 : ¬ a.toInt = 0 → ¬ (b.toInt).natAbs * (a.toInt).natAbs ≤ 1000000000000 → Ep (fJ_X8_times_J49 a b 1 S) (tmQ S a b) := by
    intro z0 z
    unfold fJ_X8_times_J49 fJ_X8_times_J64
    exact Ep_ite (fun _ => Ep_ite (fun c => absurd c (by decide)) (fun _ => Ep_mono (e_t69 S a b 1) (fun q hq => ⟨by rw [hq.1]; exact o51_s o51_r, Or.inr ⟨by rw [hq.1, st_same]; decide, z0, z⟩⟩))) (fun c => absurd h c)
  have j39 : ¬ a.toInt = 0 → ∀ d e : Int64, d.toInt = (a.toInt.natAbs : Int) → e.toInt = (b.toInt.natAbs : Int) → Ep (fJ_X8_times_J39 a b d 1000000000000 e S) (tmQ S a b) := by
    intro z0 d e hd he
    have hp : 0 < a.toInt.natAbs := Int.natAbs_pos.mpr z0
    unfold fJ_X8_times_J39
    refine Ep_ck (Ep_ite (fun c => j48 (Or.inr ?_)) (fun c => j64 z0 (fun hz => c (l_cle.mpr ?_))))
    · have c := l_cle.mp c
      rw [l_most hd ha z0, he] at c
      exact (Nat.le_div_iff_mul_le hp).mp (by omega)
    · rw [l_most hd ha z0, he]
      have := (Nat.le_div_iff_mul_le hp).mpr hz
      omega
  have j24 : ¬ a.toInt = 0 → ∀ e : Int64, e.toInt = (b.toInt.natAbs : Int) → Ep (fJ_X8_times_J24 a b e S) (tmQ S a b) := by
    intro z0 e he
    unfold fJ_X8_times_J24
    refine Ep_ite (fun c => j39 z0 a e ?_ he) (fun c => j39 z0 (-a) e ?_ he)
    · have c := l_cge.mp c
      rw [show (0 : Int64).toInt = 0 by decide] at c
      omega
    · have c := mt l_cge.mpr c
      rw [show (0 : Int64).toInt = 0 by decide] at c
      rw [l_ng ha]; omega
  unfold f_X8_times
  have z0 : (0 : Int64).toInt = 0 := by decide
  refine Ep_ite (fun c => j48 (Or.inl ?_)) (fun c => Ep_ite (fun c2 => j48 (Or.inr ?_)) (fun c2 => Ep_ite (fun c3 => j24 ?_ b ?_) (fun c3 => j24 ?_ (-b) ?_)))
  · have c := l_ceq.mp c; rw [z0] at c; exact c
  · have c := l_ceq.mp c2; rw [z0] at c; rw [c]; simp
  · intro q; exact c (l_ceq.mpr (by rw [z0]; exact q))
  · have c := l_cge.mp c3; rw [z0] at c; omega
  · intro q; exact c (l_ceq.mpr (by rw [z0]; exact q))
  · have c := mt l_cge.mpr c3; rw [z0] at c; rw [l_ng hb]; omega
/-- a sign of the reference -/
def vop (S : Tr) (k : Int32) (y5 y8 : Int64) : Option (Int64 × Tr) :=
  if k = 3 then (if (lg_cmp y5 0) = 0 then (some (0, S)) else (if (lg_cmp y8 0) = 0 then (some (0, S)) else (some (1, S)))) else (if k = 4 then (if (lg_cmp y5 0) = 0 then (if (lg_cmp y8 0) = 0 then (some (0, S)) else (some (1, S))) else (some (1, S))) else (if k = 11 then (bd (f_X8_bounded S (y5 + y8)) fun q => lt q.1 fun r17 => lt q.2 fun S_18 => some (r17, S_18)) else (if k = 12 then (bd (f_X8_bounded S (y5 - y8)) fun q => lt q.1 fun r22 => lt q.2 fun S_23 => some (r22, S_23)) else (if k = 13 then (bd (f_X8_times S y5 y8) fun q => lt q.1 fun r27 => lt q.2 fun S_28 => some (r27, S_28)) else (if k = 14 then (if (S 0 51) = 0 then (if (lg_cmp y8 0) = 0 then (fJ_X8_valueOf_J235 (fun _ _ => 0) y5 y8 S) else (fJ_X8_valueOf_J240 (fun _ _ => 0) y5 y8 0 S)) else (fJ_X8_valueOf_J235 (fun _ _ => 0) y5 y8 S)) else (bd (f_X8_compares k y5 y8) fun r38 => if r38 = 0 then (some (0, S)) else (some (1, S))))))))
def jnQ (S : Tr) (r : Int64) (q : Int64 × Tr) : Prop := o51 S q.2 ∧ ((q.2 0 51 = 0 ∧ q.1 = r ∧ bnd r) ∨ (¬ q.2 0 51 = 0 ∧ ¬ bnd r))
theorem nbnd_mn : ¬ bnd (-9223372036854775808) := by unfold bnd; decide
theorem e_jm (S : Tr) (a b : Int64) (h : S 0 51 = 0) (ha : bnd a) (hb : bnd b) : E2 (if (lg_cmp a 0) = 0 then (some (0 : Int64)) else (if 0 ≤ (lg_cmp a 0) then (fJ_X1_joined_J231 a b a 1000000000000) else (fJ_X1_joined_J231 a b (-a) 1000000000000))) (f_X8_times S a b) (jnQ S) := by
  have z0 : (0 : Int64).toInt = 0 := by decide
  have j : ¬ a.toInt = 0 → ∀ d : Int64, d.toInt = (a.toInt.natAbs : Int) → Ep (fJ_X1_joined_J231 a b d 1000000000000) (fun r => ((b.toInt).natAbs * (a.toInt).natAbs ≤ 1000000000000 ∧ r = a * b) ∨ (¬ (b.toInt).natAbs * (a.toInt).natAbs ≤ 1000000000000 ∧ r = -9223372036854775808)) := by
    intro n0 d hd
    have hp : 0 < a.toInt.natAbs := Int.natAbs_pos.mpr n0
    have hm := l_most hd ha n0
    have kl := Nat.div_le_self 1000000000000 a.toInt.natAbs
    have le : (b.toInt).natAbs * (a.toInt).natAbs ≤ 1000000000000 ↔ (b.toInt).natAbs ≤ 1000000000000 / a.toInt.natAbs := (Nat.le_div_iff_mul_le hp).symm
    generalize (1000000000000 / a.toInt.natAbs : Nat) = w at hm kl le
    unfold fJ_X1_joined_J231
    refine Ep_ck (Ep_lt (fun y e => ?_))
    rw [← e] at hm
    have hy : bnd y := by unfold bnd; omega
    refine Ep_ite (fun c => Ep_some (Or.inr ⟨fun q => ?_, rfl⟩)) (fun c => Ep_ite (fun c2 => Ep_some (Or.inl ⟨le.mpr ?_, rfl⟩)) (fun c2 => Ep_some (Or.inr ⟨fun q => ?_, rfl⟩)))
    · have c := l_cgt.mp c
      have q := le.mp q
      omega
    · have c := mt l_cgt.mpr c
      have c2 := l_cge.mp c2
      rw [l_ng hy] at c2
      omega
    · have c2 := mt l_cge.mpr c2
      rw [l_ng hy] at c2
      have q := le.mp q
      omega
  have fin : ¬ a.toInt = 0 → ∀ d : Int64, d.toInt = (a.toInt.natAbs : Int) → E2 (fJ_X1_joined_J231 a b d 1000000000000) (f_X8_times S a b) (jnQ S) := by
    intro n0 d hd
    refine E2_ep (j n0 d hd) (e_tms S a b h ha hb) (fun r q hr hq => ⟨hq.1, ?_⟩)
    rcases hr with ⟨r1, r2⟩ | ⟨r1, r2⟩
    · rcases hq.2 with ⟨q1, q2, q3⟩ | ⟨q1, q2, q3⟩
      · exact Or.inl ⟨q1, by rw [q2, r2], by rw [r2]; exact bnd_mul ha n0 r1⟩
      · exact absurd r1 q3
    · rcases hq.2 with ⟨q1, q2, q3⟩ | ⟨q1, q2, q3⟩
      · rcases q3 with q3 | q3
        · exact absurd q3 n0
        · exact absurd q3 r1
      · exact Or.inr ⟨q1, by rw [r2]; exact nbnd_mn⟩
  refine E2_itl (fun c => ?_) (fun c => E2_itl (fun c2 => fin (fun q => c (l_ceq.mpr (by rw [z0]; exact q))) a ?_) (fun c2 => fin (fun q => c (l_ceq.mpr (by rw [z0]; exact q))) (-a) ?_))
  · have c := l_ceq.mp c
    rw [z0] at c
    refine fun r q er eq_ => ?_
    have hq := e_tms S a b h ha hb q eq_
    have er := tx_1 er
    have ea : a = 0 := Int64.toInt_inj.mp (by rw [z0]; exact c)
    refine ⟨hq.1, ?_⟩
    rcases hq.2 with ⟨q1, q2, q3⟩ | ⟨q1, q2, q3⟩
    · exact Or.inl ⟨q1, by rw [q2, ← er, ea]; simp, by rw [← er]; exact bnd_0⟩
    · exact absurd c q2
  · have c2 := l_cge.mp c2
    rw [z0] at c2
    omega
  · have c2 := mt l_cge.mpr c2
    rw [z0] at c2
    rw [l_ng ha]; omega
theorem e_v240 (S : Tr) (a b : Int64) (L : Lo) (s0 : Int32) : Ep (fJ_X8_valueOf_J240 L a b s0 S) (fun q => q.2 = st S 0 51 s0 ∧ (s0 = 0 → q.1 = a / b)) := by
  unfold fJ_X8_valueOf_J240
  refine Ep_ck (Ep_lt (fun T e => Ep_ite (fun _ => Ep_ck (Ep_some ⟨e, fun _ => rfl⟩)) (fun c => Ep_some ⟨e, fun h => ?_⟩)))
  exact absurd (by rw [e, st_same]; exact h) c
theorem e_jd (S : Tr) (L : Lo) (a b : Int64) (h : S 0 51 = 0) (ha : bnd a) : E2 (if (lg_cmp b 0) = 0 then (some (-9223372036854775808 : Int64)) else (ck (!(b == 0)) (some (a / b)))) (if (S 0 51) = 0 then (if (lg_cmp b 0) = 0 then (fJ_X8_valueOf_J235 L a b S) else (fJ_X8_valueOf_J240 L a b 0 S)) else (fJ_X8_valueOf_J235 L a b S)) (jnQ S) := by
  refine E2_pr h (E2_it Iff.rfl (fun _ _ => ?_) (fun c _ => E2_ckl (fun _ => ?_)))
  · unfold fJ_X8_valueOf_J235
    exact fun r q er eq_ => by
      have hq := e_v240 S a b L 1 q eq_
      have er := tx_1 er
      exact ⟨by rw [hq.1]; exact o51_s o51_r, Or.inr ⟨by rw [hq.1, st_same]; decide, by rw [← er]; exact nbnd_mn⟩⟩
  · exact fun r q er eq_ => by
      have hq := e_v240 S a b L 0 q eq_
      have er := tx_1 er
      exact ⟨by rw [hq.1]; exact o51_s o51_r, Or.inl ⟨by rw [hq.1, st_same], by rw [hq.2 rfl, er], by rw [← er]; exact bnd_div ha (fun q => c (l_ceq.mpr (by rw [show (0 : Int64).toInt = 0 by decide]; exact q)))⟩⟩
theorem jn_01 {S : Tr} {c : Prop} {d : Decidable c} (h : S 0 51 = 0) (v w : Int64) (hv : bnd v) (hw : bnd w) : E2 (@ite (Option Int64) c d (some v) (some w)) (@ite (Option (Int64 × Tr)) c d (some (v, S)) (some (w, S))) (jnQ S) := E2_it Iff.rfl (fun _ _ => E2_some ⟨o51_r, Or.inl ⟨h, rfl, hv⟩⟩) (fun _ _ => E2_some ⟨o51_r, Or.inl ⟨h, rfl, hw⟩⟩)
theorem jn_c {S : Tr} {c : Prop} {d : Decidable c} {y : Option Int32} (h : S 0 51 = 0) (u0 u1 : Int64) (v0 v1 : Int32) (hy : y = @ite (Option Int32) c d (some v0) (some v1)) (z0 : (if v0 = 0 then (0 : Int64) else 1) = u0) (z1 : (if v1 = 0 then (0 : Int64) else 1) = u1) (hu0 : bnd u0) (hu1 : bnd u1) : E2 (@ite (Option Int64) c d (some u0) (some u1)) (bd y fun r38 => if r38 = 0 then (some ((0 : Int64), S)) else (some (1, S))) (jnQ S) := by
  have one : ∀ v : Int32, (if v = 0 then (some ((0 : Int64), S)) else (some (1, S))) = some ((if v = 0 then (0 : Int64) else 1), S) := fun v => by split <;> rfl
  rw [hy]
  by_cases hc : c
  · rw [if_pos hc, if_pos hc, bd_some, one, z0]
    exact E2_some ⟨o51_r, Or.inl ⟨h, rfl, hu0⟩⟩
  · rw [if_neg hc, if_neg hc, bd_some, one, z1]
    exact E2_some ⟨o51_r, Or.inl ⟨h, rfl, hu1⟩⟩
theorem jn_b {S : Tr} {v : Int64} {x : Int64 × Tr → Option (Int64 × Tr)} (h : S 0 51 = 0) (hx : ∀ q, x q = some q) {y : Option (Int64 × Tr)} (hy : Ep y (fun q => o51 S q.2 ∧ ((q.2 0 51 = 0 ∧ q.1 = v ∧ bnd v) ∨ (¬ q.2 0 51 = 0 ∧ ¬ bnd v)))) : E2 (some v) (bd y x) (jnQ S) := fun r q er eq_ => by
  obtain ⟨q1, e1, e2⟩ := tx_bd eq_
  rw [hx] at e2
  have e2 := tx_1 e2
  have er := tx_1 er
  subst e2; subst er
  exact hy q1 e1
theorem e_jn {S : Tr} {c k : Int32} {a b : Int64} (hs : sg2 c.toInt k.toInt) (h3 : 3 ≤ k.toInt) (ha : bnd a) (hb : bnd b) (h : S 0 51 = 0) : E2 (f_X1_joined c a b) (vop S k a b) (jnQ S) := by
  have cs : (c = 20 ∧ k = 3) ∨ (c = 19 ∧ k = 4) ∨ (c = 29 ∧ k = 5) ∨ (c = 30 ∧ k = 6) ∨ (c = 31 ∧ k = 7) ∨ (c = 32 ∧ k = 8) ∨ (c = 33 ∧ k = 9) ∨ (c = 34 ∧ k = 10) ∨ (c = 35 ∧ k = 11) ∨ (c = 36 ∧ k = 12) ∨ (c = 37 ∧ k = 13) ∨ (c = 38 ∧ k = 14) := by
    have z : ∀ (x : Int32) (y : Int32), x.toInt = y.toInt → x = y := fun x y e => Int32.toInt_inj.mp e
    rcases hs with ⟨u1, u2⟩ | ⟨u1, u2⟩ | ⟨u1, u2⟩ | ⟨u1, u2⟩ | ⟨u1, u2, u3⟩
    · omega
    · omega
    · exact Or.inl ⟨z _ _ u1, z _ _ u2⟩
    · exact Or.inr (Or.inl ⟨z _ _ u1, z _ _ u2⟩)
    · rcases (by omega : c.toInt = 29 ∨ c.toInt = 30 ∨ c.toInt = 31 ∨ c.toInt = 32 ∨ c.toInt = 33 ∨ c.toInt = 34 ∨ c.toInt = 35 ∨ c.toInt = 36 ∨ c.toInt = 37 ∨ c.toInt = 38) with u | u | u | u | u | u | u | u | u | u
      · exact Or.inr (Or.inr (Or.inl ⟨z _ _ u, z _ 5 (by rw [u3, u]; decide)⟩))
      · exact Or.inr (Or.inr (Or.inr (Or.inl ⟨z _ _ u, z _ 6 (by rw [u3, u]; decide)⟩)))
      · exact Or.inr (Or.inr (Or.inr (Or.inr (Or.inl ⟨z _ _ u, z _ 7 (by rw [u3, u]; decide)⟩))))
      · exact Or.inr (Or.inr (Or.inr (Or.inr (Or.inr (Or.inl ⟨z _ _ u, z _ 8 (by rw [u3, u]; decide)⟩)))))
      · exact Or.inr (Or.inr (Or.inr (Or.inr (Or.inr (Or.inr (Or.inl ⟨z _ _ u, z _ 9 (by rw [u3, u]; decide)⟩))))))
      · exact Or.inr (Or.inr (Or.inr (Or.inr (Or.inr (Or.inr (Or.inr (Or.inl ⟨z _ _ u, z _ 10 (by rw [u3, u]; decide)⟩)))))))
      · exact Or.inr (Or.inr (Or.inr (Or.inr (Or.inr (Or.inr (Or.inr (Or.inr (Or.inl ⟨z _ _ u, z _ 11 (by rw [u3, u]; decide)⟩))))))))
      · exact Or.inr (Or.inr (Or.inr (Or.inr (Or.inr (Or.inr (Or.inr (Or.inr (Or.inr (Or.inl ⟨z _ _ u, z _ 12 (by rw [u3, u]; decide)⟩)))))))))
      · exact Or.inr (Or.inr (Or.inr (Or.inr (Or.inr (Or.inr (Or.inr (Or.inr (Or.inr (Or.inr (Or.inl ⟨z _ _ u, z _ 13 (by rw [u3, u]; decide)⟩))))))))))
      · exact Or.inr (Or.inr (Or.inr (Or.inr (Or.inr (Or.inr (Or.inr (Or.inr (Or.inr (Or.inr (Or.inr ⟨z _ _ u, z _ 14 (by rw [u3, u]; decide)⟩))))))))))
  have q2 : ∀ q : Int64 × Tr, (lt q.1 fun r17 => lt q.2 fun S_18 => some (r17, S_18)) = some q := fun _ => rfl
  unfold f_X1_joined vop
  rcases cs with ⟨rfl, rfl⟩ | ⟨rfl, rfl⟩ | ⟨rfl, rfl⟩ | ⟨rfl, rfl⟩ | ⟨rfl, rfl⟩ | ⟨rfl, rfl⟩ | ⟨rfl, rfl⟩ | ⟨rfl, rfl⟩ | ⟨rfl, rfl⟩ | ⟨rfl, rfl⟩ | ⟨rfl, rfl⟩ | ⟨rfl, rfl⟩
  · refine E2_ql (by decide) (E2_pl (by decide) (E2_pr (by decide) (E2_it Iff.rfl (fun _ _ => E2_some ⟨o51_r, Or.inl ⟨h, rfl, bnd_0⟩⟩) (fun _ _ => jn_01 h 0 1 bnd_0 bnd_1))))
  · refine E2_pl (by decide) (E2_qr (by decide) (E2_pr (by decide) (E2_it Iff.rfl (fun _ _ => jn_01 h 0 1 bnd_0 bnd_1) (fun _ _ => E2_some ⟨o51_r, Or.inl ⟨h, rfl, bnd_1⟩⟩))))
  · refine E2_ql (by decide) (E2_ql (by decide) (E2_pl (by decide) (E2_qr (by decide) (E2_qr (by decide) (E2_qr (by decide) (E2_qr (by decide) (E2_qr (by decide) (E2_qr (by decide) (jn_c h 0 1 0 1 rfl rfl rfl bnd_0 bnd_1)))))))))
  · refine E2_ql (by decide) (E2_ql (by decide) (E2_ql (by decide) (E2_pl (by decide) (E2_qr (by decide) (E2_qr (by decide) (E2_qr (by decide) (E2_qr (by decide) (E2_qr (by decide) (E2_qr (by decide) (jn_c h 0 1 0 1 rfl rfl rfl bnd_0 bnd_1))))))))))
  · refine E2_ql (by decide) (E2_ql (by decide) (E2_ql (by decide) (E2_ql (by decide) (E2_pl (by decide) (E2_qr (by decide) (E2_qr (by decide) (E2_qr (by decide) (E2_qr (by decide) (E2_qr (by decide) (E2_qr (by decide) (jn_c h 1 0 1 0 rfl rfl rfl bnd_1 bnd_0)))))))))))
  · refine E2_ql (by decide) (E2_ql (by decide) (E2_ql (by decide) (E2_ql (by decide) (E2_ql (by decide) (E2_pl (by decide) (E2_qr (by decide) (E2_qr (by decide) (E2_qr (by decide) (E2_qr (by decide) (E2_qr (by decide) (E2_qr (by decide) (jn_c h 0 1 0 1 rfl rfl rfl bnd_0 bnd_1))))))))))))
  · refine E2_ql (by decide) (E2_ql (by decide) (E2_ql (by decide) (E2_ql (by decide) (E2_ql (by decide) (E2_ql (by decide) (E2_pl (by decide) (E2_qr (by decide) (E2_qr (by decide) (E2_qr (by decide) (E2_qr (by decide) (E2_qr (by decide) (E2_qr (by decide) (jn_c h 0 1 0 1 rfl rfl rfl bnd_0 bnd_1)))))))))))))
  · refine E2_ql (by decide) (E2_ql (by decide) (E2_ql (by decide) (E2_ql (by decide) (E2_ql (by decide) (E2_ql (by decide) (E2_ql (by decide) (E2_pl (by decide) (E2_qr (by decide) (E2_qr (by decide) (E2_qr (by decide) (E2_qr (by decide) (E2_qr (by decide) (E2_qr (by decide) (jn_c h 0 1 0 1 rfl rfl rfl bnd_0 bnd_1))))))))))))))
  · refine E2_ql (by decide) (E2_ql (by decide) (E2_ql (by decide) (E2_ql (by decide) (E2_ql (by decide) (E2_ql (by decide) (E2_ql (by decide) (E2_ql (by decide) (E2_pl (by decide) (E2_qr (by decide) (E2_qr (by decide) (E2_pr (by decide) (jn_b h q2 (e_bnd S (a + b) h)))))))))))))
  · refine E2_ql (by decide) (E2_ql (by decide) (E2_ql (by decide) (E2_ql (by decide) (E2_ql (by decide) (E2_ql (by decide) (E2_ql (by decide) (E2_ql (by decide) (E2_ql (by decide) (E2_pl (by decide) (E2_qr (by decide) (E2_qr (by decide) (E2_qr (by decide) (E2_pr (by decide) (jn_b h q2 (e_bnd S (a - b) h)))))))))))))))
  · refine E2_ql (by decide) (E2_ql (by decide) (E2_ql (by decide) (E2_ql (by decide) (E2_ql (by decide) (E2_ql (by decide) (E2_ql (by decide) (E2_ql (by decide) (E2_ql (by decide) (E2_ql (by decide) (E2_pl (by decide) (E2_qr (by decide) (E2_qr (by decide) (E2_qr (by decide) (E2_qr (by decide) (E2_pr (by decide) ?_)))))))))))))))
    exact fun r q er eq_ => by
      obtain ⟨q1, e1, e2⟩ := tx_bd eq_
      rw [q2] at e2
      have e2 := tx_1 e2
      subst e2
      exact e_jm S a b h ha hb r q1 er e1
  · refine E2_ql (by decide) (E2_ql (by decide) (E2_ql (by decide) (E2_ql (by decide) (E2_ql (by decide) (E2_ql (by decide) (E2_ql (by decide) (E2_ql (by decide) (E2_ql (by decide) (E2_ql (by decide) (E2_ql (by decide) (E2_qr (by decide) (E2_qr (by decide) (E2_qr (by decide) (E2_qr (by decide) (E2_qr (by decide) (E2_pr (by decide) (e_jd S _ a b h ha)))))))))))))))))
