/-! a formula: the signs that wait, the knots that are held -/
def zc (u : Nat → Int32) : Nat → Nat
  | 0 => 0
  | n + 1 => zc u n + (bif decide ((u n).toInt = 0) then 1 else 0)
def b2 (u : Nat → Int32) : Nat → Nat
  | 0 => 0
  | n + 1 => b2 u n + (bif decide (3 ≤ (u n).toInt) then 1 else 0)
def hV (f : Nat) (u : Nat → Int32) : List Nat → Prop
  | [] => True
  | a :: r => (u r.length).toInt = f + a ∧ hV f u r
theorem zc_s {u : Nat → Int32} {n : Nat} (h : ¬ (u n).toInt = 0) : zc u (n + 1) = zc u n := by
  show zc u n + (bif decide ((u n).toInt = 0) then 1 else 0) = _
  rw [decide_eq_false h]; rfl
theorem zc_z {u : Nat → Int32} {n : Nat} (h : (u n).toInt = 0) : zc u (n + 1) = zc u n + 1 := by
  show zc u n + (bif decide ((u n).toInt = 0) then 1 else 0) = _
  rw [decide_eq_true h]; rfl
theorem b2_s {u : Nat → Int32} {n : Nat} (h : ¬ 3 ≤ (u n).toInt) : b2 u (n + 1) = b2 u n := by
  show b2 u n + (bif decide (3 ≤ (u n).toInt) then 1 else 0) = _
  rw [decide_eq_false h]; rfl
theorem b2_z {u : Nat → Int32} {n : Nat} (h : 3 ≤ (u n).toInt) : b2 u (n + 1) = b2 u n + 1 := by
  show b2 u n + (bif decide (3 ≤ (u n).toInt) then 1 else 0) = _
  rw [decide_eq_true h]; rfl
theorem zc_cg {u v : Nat → Int32} : ∀ {n : Nat}, (∀ i, i < n → v i = u i) → zc v n = zc u n
  | 0, _ => rfl
  | n + 1, h => by
    show zc v n + (bif decide ((v n).toInt = 0) then 1 else 0) = zc u n + (bif decide ((u n).toInt = 0) then 1 else 0)
    rw [zc_cg (fun i hi => h i (by omega)), h n (by omega)]
theorem b2_cg {u v : Nat → Int32} : ∀ {n : Nat}, (∀ i, i < n → v i = u i) → b2 v n = b2 u n
  | 0, _ => rfl
  | n + 1, h => by
    show b2 v n + (bif decide (3 ≤ (v n).toInt) then 1 else 0) = b2 u n + (bif decide (3 ≤ (u n).toInt) then 1 else 0)
    rw [b2_cg (fun i hi => h i (by omega)), h n (by omega)]
theorem hV_cg {f : Nat} {u v : Nat → Int32} : ∀ {l : List Nat}, (∀ i, i < l.length → v i = u i) → hV f u l → hV f v l
  | [], _, _ => trivial
  | a :: r, h, g => ⟨by rw [h r.length (by simp)]; exact g.1, hV_cg (fun i hi => h i (by simp; omega)) g.2⟩
def qS (n : Nat) (R T : Tr) : Prop := ((R 0 8).toInt = n ∧ (T 0 43).toInt = n ∧ n ≤ 72 ∧ ∀ i, i < n → sg2 (R 8 i).toInt (T 42 i).toInt) ∧ R 0 9 = T 0 45 ∧ (T 0 45).toInt = zc (T 42) n ∧ zc (T 42) n ≤ 8
def qN (j f s : Nat) (P T : Tr) : Prop := (P (30 + 3 * j) 1).toInt = s ∧ (T 0 19).toInt = f + s ∧ ∀ i, i < s → nd (P (31 + 3 * j)) (sh64 (T 39)) (sh64 (T 40)) (sh64 (T 41)) f i
def qH (f : Nat) (l : List Nat) (T : Tr) : Prop := (T 0 44).toInt = l.length ∧ hV f (T 43) l
def qC (j f e d n s : Nat) (R P T : Tr) : Prop := qS n R T ∧ qN j f s P T ∧ qH f (hs (P (31 + 3 * j)) s) T ∧ (hs (P (31 + 3 * j)) s).length = b2 (T 42) n + e ∧ P 0 3 = T 0 46 ∧ (T 0 46).toInt ≤ 64 ∧ (n : Int) + s + f + d = (T 0 46).toInt + (T 0 45).toInt
theorem okI_d {x : Int32} {n : Nat} (h : okI x n = true) : 0 ≤ x.toInt ∧ x.toInt < n := by
  simp only [okI, Bool.and_eq_true, decide_eq_true_eq] at h
  exact h
def grQ (j f s m : Nat) (c k a b : Int32) (P T P1 T1 : Tr) : Prop := (∀ x i, ¬ ((x = 30 + 3 * j ∧ i = 1) ∨ (x = 31 + 3 * j ∧ i = s)) → P1 x i = P x i) ∧ P1 (31 + 3 * j) s = c ∧ (P1 (30 + 3 * j) 1).toInt = s + 1 ∧ (∀ x i, ¬ ((x = 0 ∧ (i = 19 ∨ i = 44)) ∨ (39 ≤ x ∧ x ≤ 41 ∧ i = 64 + (f + s)) ∨ (x = 43 ∧ i = m)) → T1 x i = T x i) ∧ (T1 39 (64 + (f + s)) = k ∧ T1 40 (64 + (f + s)) = a ∧ T1 41 (64 + (f + s)) = b) ∧ (T1 43 m).toInt = f + s ∧ (T1 0 44).toInt = m + 1 ∧ (T1 0 19).toInt = f + s + 1
theorem e_grow {P T : Tr} {j f s m : Nat} {c k a b : Int32} (hP : (P (30 + 3 * j) 1).toInt = s) (hT : (T 0 19).toInt = f + s) (hm : (T 0 44).toInt = m) (hfs : f + s ≤ 100) : E2 (f_X1_append j P c) (f_X8_grown T k a b) (grQ j f s m c k a b P T) := by
  unfold f_X1_append f_X8_grown
  have i64 : ((64 : Int32) + T 0 19).toInt = ((64 + (f + s) : Nat) : Int) := by rw [i_addK (x := 64) (by decide) hT (by omega) (by omega)]; omega
  have c64 : ((64 : Int32) + T 0 19).toNatClampNeg = 64 + (f + s) := i_cn i64
  refine E2_ckr (fun h1 => E2_ltr (fun T2 e2 => ?_))
  have h1 := okI_d h1
  rw [c64] at e2
  have z2 : T2 0 19 = T 0 19 := by rw [e2, st_no (by omega)]
  rw [z2, c64]
  refine E2_ckr (fun _ => E2_ltr (fun T3 e3 => ?_))
  have z3 : T3 0 19 = T 0 19 := by rw [e3, st_no (by omega), z2]
  rw [z3, c64]
  refine E2_ckr (fun _ => E2_ltr (fun T4 e4 => ?_))
  have z4 : T4 0 19 = T 0 19 := by rw [e4, st_no (by omega), z3]
  have w4 : T4 0 44 = T 0 44 := by rw [e4, st_no (by omega), e3, st_no (by omega), e2, st_no (by omega)]
  rw [z4, w4, i_cn hm]
  refine E2_ckr (fun h96 => E2_ltr (fun T5 e5 => E2_ltr (fun T6 e6 => E2_ltr (fun T7 e7 => ?_))))
  have h96 := okI_d h96
  refine E2_ql (fun q => by have := tq_le (a := 64) (by decide) hP q; omega) (E2_ckl (fun _ => ?_))
  rw [i_cn hP]
  refine E2_ltl (fun P1 p1 => E2_ltl (fun P2 p2 => E2_some ?_))
  have q1 : P1 (30 + 3 * j) 1 = P (30 + 3 * j) 1 := by rw [p1, st_no (by omega)]
  have w5 : T5 0 44 = T 0 44 := by rw [e5, st_no (by omega), w4]
  have w6 : (T6 0 44).toInt = m + 1 := by rw [e6, st_same, w5]; exact i_addK hm (by decide) (by omega) (by omega)
  have z6 : T6 0 19 = T 0 19 := by rw [e6, st_no (by omega), e5, st_no (by omega), z4]
  refine ⟨fun x i hn => ?_, ?_, ?_, fun x i hn => ?_, ⟨?_, ?_, ?_⟩, ?_, ?_, ?_⟩
  · rw [p2, st_no (by omega), p1, st_no (by omega)]
  · rw [p2, st_no (by omega), p1, st_same]
  · rw [p2, st_same, q1]; exact i_addK hP (by decide) (by omega) (by omega)
  · rw [e7, st_no (by omega), e6, st_no (by omega), e5, st_no (by omega), e4, st_no (by omega), e3, st_no (by omega), e2, st_no (by omega)]
  · rw [e7, st_no (by omega), e6, st_no (by omega), e5, st_no (by omega), e4, st_no (by omega), e3, st_no (by omega), e2, st_same]
  · rw [e7, st_no (by omega), e6, st_no (by omega), e5, st_no (by omega), e4, st_no (by omega), e3, st_same]
  · rw [e7, st_no (by omega), e6, st_no (by omega), e5, st_no (by omega), e4, st_same]
  · rw [e7, st_no (by omega), e6, st_no (by omega), e5, st_same]; exact hT
  · rw [e7, st_no (by omega)]; exact w6
  · rw [e7, st_same, z6]; exact i_addK hT (by decide) (by omega) (by omega)
theorem qN_add {j f s m : Nat} {c k a b : Int32} {P T P1 T1 : Tr} (h : qN j f s P T) (q : grQ j f s m c k a b P T P1 T1) (hn : nd (P1 (31 + 3 * j)) (sh64 (T1 39)) (sh64 (T1 40)) (sh64 (T1 41)) f s) : qN j f (s + 1) P1 T1 := by
  obtain ⟨q1, q2, q3, q4, q5, q6, q7, q8⟩ := q
  refine ⟨by rw [q3]; omega, by rw [q8]; omega, fun i hi => ?_⟩
  rcases Nat.lt_succ_iff_lt_or_eq.mp hi with g | g
  · refine nd_of (h.2.2 i g) (fun u hu => q1 _ _ (by omega)) ?_ ?_ ?_ <;> (unfold sh64; exact q4 _ _ (by omega))
  · rw [g]; exact hn
theorem qH_add {j f s : Nat} {l : List Nat} {c k a b : Int32} {P T P1 T1 : Tr} (h : qH f l T) (q : grQ j f s l.length c k a b P T P1 T1) : qH f (s :: l) T1 := by
  obtain ⟨q1, q2, q3, q4, q5, q6, q7, q8⟩ := q
  refine ⟨by rw [q7]; simp, by rw [q6], hV_cg (fun i hi => q4 _ _ (by omega)) h.2⟩
/-- how tightly -/
def rkI (k : Int) : Int := if 13 ≤ k then 6 else if 11 ≤ k then 5 else if 5 ≤ k then 4 else if k = 2 then 3 else if k = 3 then 2 else if k = 4 then 1 else 0
theorem e_rank (x : Int32) : ∃ r, f_X8_rank x = some r ∧ r.toInt = rkI x.toInt := by
  unfold f_X8_rank
  by_cases c1 : x < 13
  · have k1 := tq_lt (b := 13) rfl (by decide) c1
    have n1 : ¬ 13 ≤ x.toInt := by omega
    rw [if_pos c1]
    by_cases c2 : x < 11
    · have k2 := tq_lt (b := 11) rfl (by decide) c2
      have n2 : ¬ 11 ≤ x.toInt := by omega
      rw [if_pos c2]
      by_cases c3 : x < 5
      · have k3 := tq_lt (b := 5) rfl (by decide) c3
        have n3 : ¬ 5 ≤ x.toInt := by omega
        rw [if_pos c3]
        by_cases c4 : x = 2
        · rw [if_pos c4, c4]; exact ⟨_, rfl, by decide⟩
        · rw [if_neg c4]
          by_cases c5 : x = 3
          · rw [if_pos c5, c5]; exact ⟨_, rfl, by decide⟩
          · rw [if_neg c5]
            by_cases c6 : x = 4
            · rw [if_pos c6, c6]; exact ⟨_, rfl, by decide⟩
            · rw [if_neg c6]
              refine ⟨_, rfl, ?_⟩
              unfold rkI
              rw [if_neg n1, if_neg n2, if_neg n3, if_neg (i_isn (by decide) c4), if_neg (i_isn (by decide) c5), if_neg (i_isn (by decide) c6)]; decide
      · have k3 := tq_ltn (b := 5) rfl (by decide) c3
        rw [if_neg c3]
        refine ⟨_, rfl, ?_⟩
        unfold rkI
        rw [if_neg n1, if_neg n2, if_pos k3]; decide
    · have k2 := tq_ltn (b := 11) rfl (by decide) c2
      rw [if_neg c2]
      refine ⟨_, rfl, ?_⟩
      unfold rkI
      rw [if_neg n1, if_pos k2]; decide
  · have k1 := tq_ltn (b := 13) rfl (by decide) c1
    rw [if_neg c1]
    refine ⟨_, rfl, ?_⟩
    unfold rkI
    rw [if_pos k1]; decide
theorem b_rank {c k : Int32} (h : sg2 c.toInt k.toInt) : (bindsF c.toNatClampNeg).toInt = rkI k.toInt := by
  have hc : ∃ n : Nat, c.toInt = n ∧ n ≤ 39 := ⟨c.toInt.toNat, by unfold sg2 at h; omega, by unfold sg2 at h; omega⟩
  obtain ⟨n, hn, hn2⟩ := hc
  rw [i_cn hn]
  rw [hn] at h
  generalize k.toInt = kk at h ⊢
  unfold sg2 at h
  rcases h with ⟨h1, rfl⟩ | ⟨h1, rfl⟩ | ⟨h1, rfl⟩ | ⟨h1, rfl⟩ | ⟨h1, h2, rfl⟩
  · rw [show n = 39 by omega]; decide
  · rw [show n = 21 by omega]; decide
  · rw [show n = 20 by omega]; decide
  · rw [show n = 19 by omega]; decide
  · have : n = 29 ∨ n = 30 ∨ n = 31 ∨ n = 32 ∨ n = 33 ∨ n = 34 ∨ n = 35 ∨ n = 36 ∨ n = 37 ∨ n = 38 := by omega
    rcases this with rfl | rfl | rfl | rfl | rfl | rfl | rfl | rfl | rfl | rfl <;> decide
theorem hs_nx {g g1 : Nat → Int32} {s : Nat} (h : ∀ i, i < s → g1 i = g i) : (((g1 s).toInt < 10000 ∨ (10022 ≤ (g1 s).toInt ∧ (g1 s).toInt ≤ 10028)) → hs g1 (s + 1) = s :: hs g s) ∧ ((g1 s).toInt = 10021 → hs g1 (s + 1) = s :: (hs g s).drop 1) ∧ (¬ ((g1 s).toInt < 10000 ∨ (10022 ≤ (g1 s).toInt ∧ (g1 s).toInt ≤ 10028)) → ¬ (g1 s).toInt = 10021 → hs g1 (s + 1) = s :: (hs g s).drop 2) := by
  have e := hs_cg h
  have u : hs g1 (s + 1) = bif decide ((g1 s).toInt < 10000) || decide (10022 ≤ (g1 s).toInt ∧ (g1 s).toInt ≤ 10028) then s :: hs g s else bif decide ((g1 s).toInt = 10021) then s :: (hs g s).drop 1 else s :: (hs g s).drop 2 := by rw [← e]; rfl
  refine ⟨fun c => ?_, fun c => ?_, fun c c2 => ?_⟩
  · have : (decide ((g1 s).toInt < 10000) || decide (10022 ≤ (g1 s).toInt ∧ (g1 s).toInt ≤ 10028)) = true := by simpa using c
    rw [u, this]; rfl
  · have : (decide ((g1 s).toInt < 10000) || decide (10022 ≤ (g1 s).toInt ∧ (g1 s).toInt ≤ 10028)) = false := by rw [c]; rfl
    rw [u, this, decide_eq_true c]; rfl
  · have : (decide ((g1 s).toInt < 10000) || decide (10022 ≤ (g1 s).toInt ∧ (g1 s).toInt ≤ 10028)) = false := by
      cases h : (decide ((g1 s).toInt < 10000) || decide (10022 ≤ (g1 s).toInt ∧ (g1 s).toInt ≤ 10028)) with
      | false => rfl
      | true => exact absurd (by simpa using h) c
    rw [u, this, decide_eq_false c2]; rfl
