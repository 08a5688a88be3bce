/-! operands of a formula -/
def qF (j f : Nat) (R0 P0 T0 R P T : Tr) : Prop := (∀ a i, ¬ ((a = 0 ∧ (i = 1 ∨ i = 2 ∨ i = 8 ∨ i = 9)) ∨ a = 8) → R a i = R0 a i) ∧ (∀ a i, ¬ ((a = 0 ∧ i = 3) ∨ (a = 30 + 3 * j ∧ i = 1) ∨ a = 31 + 3 * j) → P a i = P0 a i) ∧ (∀ a i, ¬ ((a = 0 ∧ ((4 ≤ i ∧ i ≤ 11) ∨ i = 19 ∨ (43 ≤ i ∧ i ≤ 48))) ∨ (39 ≤ a ∧ a ≤ 41 ∧ 64 + f ≤ i) ∨ a = 42 ∨ a = 43) → T a i = T0 a i)
theorem qF_t {j f : Nat} {R0 P0 T0 R1 P1 T1 R P T : Tr} (h1 : qF j f R0 P0 T0 R1 P1 T1) (h2 : qF j f R1 P1 T1 R P T) : qF j f R0 P0 T0 R P T := ⟨fun a i hn => (h2.1 a i hn).trans (h1.1 a i hn), fun a i hn => (h2.2.1 a i hn).trans (h1.2.1 a i hn), fun a i hn => (h2.2.2 a i hn).trans (h1.2.2 a i hn)⟩
theorem qF_r {j f : Nat} {R P T : Tr} : qF j f R P T R P T := ⟨fun _ _ _ => rfl, fun _ _ _ => rfl, fun _ _ _ => rfl⟩
/-- 'not' may stand here -/
def qM (w : Int32) (n : Nat) (T : Tr) : Prop := w = 1 → (T 0 48 = 0 ↔ ∃ m, n = m + 1 ∧ 3 < rkI (T 42 m).toInt)
def eOf (w : Int32) (e : Nat) : Prop := (w = 0 ∧ e = 1) ∨ (w = 1 ∧ e = 0)
def fmS (j f : Nat) (w : Int32) (K R P T : Tr) : Prop := tkS K T ∧ (∃ e n s, eOf w e ∧ qC j f e 0 n s R P T ∧ qM w n T) ∧ T 0 47 = w ∧ R 0 1 = 0
def opQ (j f : Nat) (w : Int32) (K R P T : Tr) (q : Int32 × Tr × Tr) (q' : Int32 × Tr) : Prop := (q.1 = 0 ∧ q'.1 = 0 ∧ flt q.2.1 q'.2) ∨ (q.1 = 1 ∧ q'.1 = 1 ∧ ¬ (K 0 1).toInt = 45 ∧ ∃ T1, f_X8_token T1 = some q'.2 ∧ fmS j f w K q.2.1 q.2.2 T1 ∧ qF j f R P T q.2.1 q.2.2 T1)
theorem cn_no {K R P T : Tr} (h : P 0 3 = T 0 46) (c : (T 0 46).toInt = 64) : f_X3_countKnot K R P = some (0, st (st R 0 1 2) 0 2 (K 0 2), P) ∧ f_X8_isCounted T = some (0, st (st T 0 4 2) 0 5 (T 0 10)) := by
  unfold f_X3_countKnot fJ_X3_countKnot_J18 f_X8_isCounted
  rw [h, if_pos (show 64 ≤ T 0 46 from Int32.le_iff_toInt_le.mpr (by rw [c]; decide)), if_pos (show T 0 46 = 64 from i_z (by rw [c]; decide)), ex0, wrE]
  exact ⟨rfl, rfl⟩
theorem cn_yes {K R P T : Tr} (h : P 0 3 = T 0 46) (c : (T 0 46).toInt < 64) : f_X3_countKnot K R P = some (1, R, st P 0 3 (P 0 3 + 1)) ∧ f_X8_isCounted T = some (1, st T 0 46 (T 0 46 + 1)) := by
  unfold f_X3_countKnot fJ_X3_countKnot_J18 f_X8_isCounted
  rw [if_neg (show ¬ 64 ≤ P 0 3 from fun q => by rw [h] at q; have := tq_le (a := 64) (by decide) rfl q; omega), if_neg (show ¬ T 0 46 = 64 from fun q => by rw [q] at c; exact absurd c (by decide)), ex1]
  exact ⟨rfl, rfl⟩
theorem os_n {R : Tr} {x : Int32} {n : Nat} (h : (R 0 8).toInt = n) (hn : n < 72) : f_X3_openSign R x = some (1, st (st R 8 n x) 0 8 (R 0 8 + 1)) := by
  unfold f_X3_openSign
  rw [if_neg (fun q => by have := tq_le (a := 72) (by decide) h q; omega), okI_of (by omega) (by omega), i_cn h]
  show some ((1 : Int32), st (st R 8 n x) 0 8 ((st R 8 n x) 0 8 + 1)) = _
  rw [st_no (by omega)]
theorem wf_n {T : Tr} {k : Int32} {n : Nat} (h : (T 0 43).toInt = n) (hn : n < 96) : f_X8_waitsFor T k = some (st (st T 42 n k) 0 43 (T 0 43 + 1)) := by
  unfold f_X8_waitsFor
  rw [okI_of (by omega) (by omega), i_cn h]
  show some (st (st T 42 n k) 0 43 ((st T 42 n k) 0 43 + 1)) = _
  rw [st_no (by omega)]
theorem qC_push {j f e d e' d' n s : Nat} {R P T R1 P1 T1 : Tr} (G : qC j f e d n s R P T) (hn : n < 72) {c k : Int32} (hsg : sg2 c.toInt k.toInt)
    (r8 : (R1 0 8).toInt = n + 1) (r8n : R1 8 n = c) (r8o : ∀ i, i < n → R1 8 i = R 8 i) (t43 : (T1 0 43).toInt = n + 1) (t42n : T1 42 n = k) (t42o : ∀ i, i < n → T1 42 i = T 42 i)
    (br : R1 0 9 = T1 0 45) (zz : (T1 0 45).toInt = zc (T1 42) (n + 1) ∧ zc (T1 42) (n + 1) ≤ 8) (pf : ∀ a i, 30 ≤ a ∧ a ≤ 38 → P1 a i = P a i) (hj : j < 3)
    (tf : ∀ a i, (a = 0 ∧ (i = 19 ∨ i = 44)) ∨ (39 ≤ a ∧ a ≤ 41) ∨ a = 43 → T1 a i = T a i) (he : b2 (T1 42) (n + 1) + e' = b2 (T 42) n + e) (pk : P1 0 3 = T1 0 46) (pl : (T1 0 46).toInt ≤ 64)
    (eq : (n : Int) + 1 + s + f + d' = (T1 0 46).toInt + (T1 0 45).toInt) : qC j f e' d' (n + 1) s R1 P1 T1 := by
  obtain ⟨⟨⟨s1, s2, s3, s4⟩, s5, s6, s7⟩, ⟨n1, n2, n3⟩, ⟨h1, h2⟩, l1, c1, c2, c3⟩ := G
  have pg : P1 (31 + 3 * j) = P (31 + 3 * j) := funext fun i => pf _ i (by omega)
  refine ⟨⟨⟨by rw [r8]; omega, by rw [t43]; omega, by omega, fun i hi => ?_⟩, br, zz.1, zz.2⟩, ⟨by rw [pf _ _ (by omega)]; exact n1, by rw [tf 0 19 (by omega)]; exact n2, fun i hi => ?_⟩, ?_, ?_, pk, pl, by omega⟩
  · rcases Nat.lt_succ_iff_lt_or_eq.mp hi with g | g
    · rw [r8o i g, t42o i g]; exact s4 i g
    · rw [g, r8n, t42n]; exact hsg
  · rw [pg]
    refine nd_of (n3 i hi) (fun _ _ => rfl) ?_ ?_ ?_ <;> (unfold sh64; exact tf _ _ (by omega))
  · rw [pg]
    exact ⟨by rw [tf 0 44 (by omega)]; exact h1, hV_cg (fun i _ => tf 43 i (by omega)) h2⟩
  · rw [pg, l1, ← he]
theorem qC_leaf {j f n s : Nat} {c k a b : Int32} {R P T P1 T1 : Tr} (G : qC j f 0 1 n s R P T) (q : grQ j f s (hs (P (31 + 3 * j)) s).length c k a b P T P1 T1) (hj : j < 3)
    (hc : (0 ≤ c.toInt ∧ c.toInt < 10000 ∧ k.toInt = 0 ∧ a = c) ∨ (∃ m : Nat, m ≤ 6 ∧ c.toInt = 10022 + (m : Int) ∧ k.toInt = 1 ∧ a.toInt = m)) : qC j f 1 0 n (s + 1) R P1 T1 := by
  obtain ⟨⟨⟨s1, s2, s3, s4⟩, s5, s6, s7⟩, N, H, l1, c1, c2, c3⟩ := G
  have q0 := q
  obtain ⟨q1, q2, q3, q4, ⟨q5, q6, q7⟩, q8⟩ := q
  have hg : ∀ i, i < s → P1 (31 + 3 * j) i = P (31 + 3 * j) i := fun i hi => q1 _ _ (by omega)
  have hh : hs (P1 (31 + 3 * j)) (s + 1) = s :: hs (P (31 + 3 * j)) s := (hs_nx hg).1 (by
    rw [q2]
    rcases hc with g | ⟨m, g1, g2, _⟩
    · exact Or.inl g.2.1
    · exact Or.inr (by omega))
  have hnd : nd (P1 (31 + 3 * j)) (sh64 (T1 39)) (sh64 (T1 40)) (sh64 (T1 41)) f s := by
    rcases hc with g | ⟨m, g1, g2, g3, g4⟩
    · refine Or.inl ⟨by rw [q2]; exact g.1, by rw [q2]; exact g.2.1, ?_, ?_⟩
      · unfold sh64; rw [q5]; exact g.2.2.1
      · unfold sh64; rw [q6, q2]; exact g.2.2.2
    · refine Or.inr (Or.inl ⟨m, g1, by rw [q2]; exact g2, ?_, ?_⟩)
      · unfold sh64; rw [q5]; exact g3
      · unfold sh64; rw [q6]; exact g4
  have t42 : ∀ i, T1 42 i = T 42 i := fun i => q4 _ _ (by omega)
  refine ⟨⟨⟨s1, by rw [q4 0 43 (by omega)]; exact s2, s3, fun i hi => by rw [t42]; exact s4 i hi⟩, by rw [q4 0 45 (by omega)]; exact s5, ?_, ?_⟩, qN_add N q0 hnd, ?_, ?_, ?_, ?_, ?_⟩
  · rw [q4 0 45 (by omega), zc_cg (fun i _ => t42 i)]; exact s6
  · rw [zc_cg (fun i _ => t42 i)]; exact s7
  · rw [hh]; exact qH_add H q0
  · rw [hh, b2_cg (fun i _ => t42 i)]; show (hs (P (31 + 3 * j)) s).length + 1 = _; omega
  · rw [q1 0 3 (by omega), q4 0 46 (by omega)]; exact c1
  · rw [q4 0 46 (by omega)]; exact c2
  · rw [q4 0 46 (by omega), q4 0 45 (by omega)]; omega
theorem qC_cnt {j f e n s : Nat} {R P T : Tr} (G : qC j f e 0 n s R P T) (hj : j < 3) (h : (T 0 46).toInt < 64) : qC j f e 1 n s R (st P 0 3 (P 0 3 + 1)) (st T 0 46 (T 0 46 + 1)) := by
  obtain ⟨⟨⟨s1, s2, s3, s4⟩, s5, s6, s7⟩, ⟨n1, n2, n3⟩, ⟨h1, h2⟩, l1, c1, c2, c3⟩ := G
  have i1 : (T 0 46 + 1).toInt = (T 0 46).toInt + 1 := i_addK rfl (by decide) (by omega) (by omega)
  have pg : st P 0 3 (P 0 3 + 1) (31 + 3 * j) = P (31 + 3 * j) := funext fun i => st_no (by omega)
  have tg : ∀ a, ¬ a = 0 → st T 0 46 (T 0 46 + 1) a = T a := fun a ha => funext fun i => st_no (by omega)
  refine ⟨⟨⟨s1, by rw [st_no (by omega)]; exact s2, s3, fun i hi => by rw [tg 42 (by omega)]; exact s4 i hi⟩, by rw [st_no (by omega)]; exact s5, ?_, ?_⟩, ⟨by rw [st_no (by omega)]; exact n1, by rw [st_no (by omega)]; exact n2, fun i hi => ?_⟩, ?_, ?_, ?_, ?_, ?_⟩
  · rw [st_no (by omega), tg 42 (by omega)]; exact s6
  · rw [tg 42 (by omega)]; exact s7
  · rw [pg, tg 39 (by omega), tg 40 (by omega), tg 41 (by omega)]; exact n3 i hi
  · rw [pg]; exact ⟨by rw [st_no (by omega)]; exact h1, by rw [tg 43 (by omega)]; exact h2⟩
  · rw [pg, tg 42 (by omega)]; exact l1
  · rw [st_same, st_same, c1]
  · rw [st_same, i1]; omega
  · rw [st_same, i1, st_no (by omega)]; omega
theorem k_open {c k w : Int} (h : kI c k w) : c = 39 ↔ (k = 4 ∧ w = 40) := by unfold kI at h; omega
theorem k_not {c k w : Int} (h : kI c k w) : c = 21 ↔ (k = 1 ∧ w = 21) := by unfold kI at h; omega
theorem k_fact {c k w : Int} (h : kI c k w) : (22 ≤ c ∧ c ≤ 28) ↔ (k = 1 ∧ 22 ≤ w) := by unfold kI at h; omega
theorem k_fact2 {c k w : Int} (h : kI c k w) (h2 : 22 ≤ c ∧ c ≤ 28) : c = w := by unfold kI at h; omega
theorem is_sg {T : Tr} {x : Int32} : ((T 0 8).toInt = 4 ∧ (T 0 9).toInt = x.toInt → f_X8_isSign T x = some 1) ∧ (¬ ((T 0 8).toInt = 4 ∧ (T 0 9).toInt = x.toInt) → f_X8_isSign T x = some 0) := by
  unfold f_X8_isSign
  constructor
  · intro h
    rw [if_pos (show T 0 8 = 4 from i_z (by rw [h.1]; decide)), if_pos (i_z h.2)]
  · intro h
    by_cases c : T 0 8 = 4
    · rw [if_pos c, if_neg (fun q => h ⟨by rw [c]; decide, by rw [q]⟩)]
    · rw [if_neg c]
theorem is_ky {T : Tr} {x : Int32} : ((T 0 8).toInt = 1 ∧ (T 0 9).toInt = x.toInt → f_X8_isKey T x = some 1) ∧ (¬ ((T 0 8).toInt = 1 ∧ (T 0 9).toInt = x.toInt) → f_X8_isKey T x = some 0) := by
  unfold f_X8_isKey
  constructor
  · intro h
    rw [if_pos (show T 0 8 = 1 from i_z (by rw [h.1]; decide)), if_pos (i_z h.2)]
  · intro h
    by_cases c : T 0 8 = 1
    · rw [if_pos c, if_neg (fun q => h ⟨by rw [c]; decide, by rw [q]⟩)]
    · rw [if_neg c]
theorem lb_n {R T : Tr} {n : Nat} (h : qS n R T) : (n = 0 → f_X3_latestBinds R = some (-1)) ∧ (∀ m, n = m + 1 → ∃ r, f_X3_latestBinds R = some r ∧ r.toInt = rkI (T 42 m).toInt) := by
  obtain ⟨⟨s1, s2, s3, s4⟩, _⟩ := h
  constructor
  · intro g
    unfold f_X3_latestBinds
    rw [if_pos (i_z (by rw [s1, g]; decide))]
  · intro m g
    subst g
    have r8 : (R 0 8 - 1).toInt = m := by rw [i_subK s1 (y := 1) (by decide) (by omega) (by omega)]; omega
    have hsg := s4 m (by omega)
    have hb := b_rank hsg
    refine ⟨bindsF (R 8 m).toNatClampNeg, ?_, hb⟩
    unfold f_X3_latestBinds
    rw [if_neg (show ¬ R 0 8 = 0 from fun q => by rw [q] at s1; have : (0 : Int32).toInt = 0 := by decide
                                                  omega), i_cn r8, okI_of (by omega) (by omega), okI_of (by unfold sg2 at hsg; omega) (by unfold sg2 at hsg; omega)]
    rfl
