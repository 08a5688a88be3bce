/-! what has been read is alike: places, persons, pieces, waits, what stands once, laws -/
theorem st_no {S : Tr} {a i : Nat} {v : Int32} {b j : Nat} (h : ¬ (b = a ∧ j = i)) : st S a i v b j = S b j := by
  rcases st_or (S := S) (a := a) (i := i) (b := b) (j := j) (v := v) with g | g
  · exact g
  · exact absurd g h
def rPl (P T : Tr) : Prop := P 0 0 = T 0 16 ∧ (0 ≤ (T 0 16).toInt ∧ (T 0 16).toInt ≤ 5) ∧ ∀ i : Nat, (i : Int) < (T 0 16).toInt → P 8 i = T 24 (5 + i) ∧ P 9 i = T 25 (5 + i)
def rPe (P T : Tr) : Prop := P 0 1 = T 0 17 ∧ (0 ≤ (T 0 17).toInt ∧ (T 0 17).toInt ≤ 6) ∧ ∀ i : Nat, (i : Int) < (T 0 17).toInt → P 10 i = T 26 (6 + i) ∧ P 11 i = T 27 (6 + i) ∧ P 12 i = T 28 (6 + i) ∧ P 13 i = T 29 (6 + i)
def rPi (P T : Tr) : Prop := P 0 2 = T 0 18 ∧ (0 ≤ (T 0 18).toInt ∧ (T 0 18).toInt ≤ 10) ∧ ∀ i : Nat, (i : Int) < (T 0 18).toInt → P 14 i = T 30 (10 + i) ∧ P 15 i = T 31 (10 + i) ∧ P 16 i = T 32 (10 + i) ∧ P 17 i = T 33 (10 + i)
def bcN (x : Int32) : Int := match f_J6_bitCount_0f7a4 x with | some r => r.toInt | none => 0
def rW (R P T : Tr) : Prop := (0 ≤ (R 0 6).toInt ∧ (R 0 6).toInt < 1048576) ∧ bcN (R 0 6) = (T 0 20).toInt ∧ (0 ≤ (T 0 20).toInt ∧ (T 0 20).toInt ≤ 10) ∧ (∀ t : Nat, t < 20 → (T 35 t = 0 ↔ ((R 0 6) >>> ((Int32.ofNat t) &&& 31)) &&& 1 = 0)) ∧ ∀ t : Nat, t < 21 → P 18 t = T 34 (21 + t)
def rO (R P T : Tr) : Prop := (0 ≤ (R 0 5).toInt ∧ (R 0 5).toInt < 8) ∧ (T 22 0 = 0 ↔ (R 0 5) &&& 1 = 0) ∧ (T 22 1 = 0 ↔ (R 0 5) &&& 2 = 0) ∧ (T 22 2 = 0 ↔ (R 0 5) &&& 4 = 0) ∧ P 0 4 = T 23 3 ∧ P 0 5 = T 23 4 ∧ P 0 6 = T 23 5
/-- the knots that are held behind i knots of a law -/
def hs (g : Nat → Int32) : Nat → List Nat
  | 0 => []
  | i + 1 => bif decide ((g i).toInt < 10000) || decide (10022 ≤ (g i).toInt ∧ (g i).toInt ≤ 10028) then i :: hs g i else bif decide ((g i).toInt = 10021) then i :: (hs g i).drop 1 else i :: (hs g i).drop 2
/-- a sign: the class's kind, the reference's knot -/
def sg2 (c k : Int) : Prop := (c = 39 ∧ k = 0) ∨ (c = 21 ∧ k = 2) ∨ (c = 20 ∧ k = 3) ∨ (c = 19 ∧ k = 4) ∨ (29 ≤ c ∧ c ≤ 38 ∧ k = c - 24)
/-- knot i of a law whose first is f: class and reference -/
def nd (g kn pa ot : Nat → Int32) (f i : Nat) : Prop :=
  (0 ≤ (g i).toInt ∧ (g i).toInt < 10000 ∧ (kn (f + i)).toInt = 0 ∧ pa (f + i) = g i) ∨
  (∃ m : Nat, m ≤ 6 ∧ (g i).toInt = 10022 + (m : Int) ∧ (kn (f + i)).toInt = 1 ∧ (pa (f + i)).toInt = m) ∨
  (∃ a r, (g i).toInt = 10021 ∧ (kn (f + i)).toInt = 2 ∧ hs g i = a :: r ∧ (pa (f + i)).toInt = f + a) ∨
  (∃ a b r, sg2 ((g i).toInt - 10000) (kn (f + i)).toInt ∧ 3 ≤ (kn (f + i)).toInt ∧ hs g i = b :: a :: r ∧ (pa (f + i)).toInt = f + a ∧ (ot (f + i)).toInt = f + b)
def sh64 (u : Nat → Int32) (i : Nat) : Int32 := u (64 + i)
/-- a law that has been read -/
def lwR (P T : Tr) (k : Nat) : Prop := (P (30 + 3 * k) 1 = 0 ∧ T 36 (3 + k) = 0) ∨ (T 36 (3 + k) = 1 ∧ ∃ f s : Nat, 1 ≤ s ∧ (P (30 + 3 * k) 1).toInt = s ∧ (T 37 (3 + k)).toInt = f ∧ (T 38 (3 + k)).toInt = f + s ∧ (f : Int) + s ≤ (T 0 19).toInt ∧ (hs (P (31 + 3 * k)) s).length = 1 ∧ ∀ i, i < s → nd (P (31 + 3 * k)) (sh64 (T 39)) (sh64 (T 40)) (sh64 (T 41)) f i)
def rL (P T : Tr) : Prop := P 0 3 = T 0 46 ∧ T 0 19 = T 0 46 ∧ (0 ≤ (T 0 46).toInt ∧ (T 0 46).toInt ≤ 64) ∧ lwR P T 0 ∧ lwR P T 1 ∧ lwR P T 2
section
variable {P T P1 T1 R R1 : Tr}
theorem rPl_of (h : rPl P T) (e : ∀ a j, (a = 0 ∧ j = 0) ∨ a = 8 ∨ a = 9 → P1 a j = P a j) (f : ∀ a j, (a = 0 ∧ j = 16) ∨ a = 24 ∨ a = 25 → T1 a j = T a j) : rPl P1 T1 := by
  unfold rPl at h ⊢
  rw [e 0 0 (by omega), f 0 16 (by omega)]
  refine ⟨h.1, h.2.1, fun i hi => ?_⟩
  rw [e 8 i (by omega), e 9 i (by omega), f 24 _ (by omega), f 25 _ (by omega)]
  exact h.2.2 i hi
theorem rPe_of (h : rPe P T) (e : ∀ a j, (a = 0 ∧ j = 1) ∨ (10 ≤ a ∧ a ≤ 13) → P1 a j = P a j) (f : ∀ a j, (a = 0 ∧ j = 17) ∨ (26 ≤ a ∧ a ≤ 29) → T1 a j = T a j) : rPe P1 T1 := by
  unfold rPe at h ⊢
  rw [e 0 1 (by omega), f 0 17 (by omega)]
  refine ⟨h.1, h.2.1, fun i hi => ?_⟩
  rw [e 10 i (by omega), e 11 i (by omega), e 12 i (by omega), e 13 i (by omega), f 26 _ (by omega), f 27 _ (by omega), f 28 _ (by omega), f 29 _ (by omega)]
  exact h.2.2 i hi
theorem rPi_of (h : rPi P T) (e : ∀ a j, (a = 0 ∧ j = 2) ∨ (14 ≤ a ∧ a ≤ 17) → P1 a j = P a j) (f : ∀ a j, (a = 0 ∧ j = 18) ∨ (30 ≤ a ∧ a ≤ 33) → T1 a j = T a j) : rPi P1 T1 := by
  unfold rPi at h ⊢
  rw [e 0 2 (by omega), f 0 18 (by omega)]
  refine ⟨h.1, h.2.1, fun i hi => ?_⟩
  rw [e 14 i (by omega), e 15 i (by omega), e 16 i (by omega), e 17 i (by omega), f 30 _ (by omega), f 31 _ (by omega), f 32 _ (by omega), f 33 _ (by omega)]
  exact h.2.2 i hi
theorem rW_of (h : rW R P T) (r : R1 0 6 = R 0 6) (e : ∀ j, P1 18 j = P 18 j) (f : ∀ a j, (a = 0 ∧ j = 20) ∨ a = 34 ∨ a = 35 → T1 a j = T a j) : rW R1 P1 T1 := by
  unfold rW at h ⊢
  rw [r, f 0 20 (by omega)]
  refine ⟨h.1, h.2.1, h.2.2.1, fun t ht => ?_, fun t ht => ?_⟩
  · rw [f 35 _ (by omega)]; exact h.2.2.2.1 t ht
  · rw [e t, f 34 _ (by omega)]; exact h.2.2.2.2 t ht
theorem rO_of (h : rO R P T) (r : R1 0 5 = R 0 5) (e : ∀ j, 4 ≤ j → j ≤ 6 → P1 0 j = P 0 j) (f : ∀ a j, a = 22 ∨ a = 23 → T1 a j = T a j) : rO R1 P1 T1 := by
  unfold rO at h ⊢
  rw [r, e 4 (by omega) (by omega), e 5 (by omega) (by omega), e 6 (by omega) (by omega), f 22 0 (by omega), f 22 1 (by omega), f 22 2 (by omega), f 23 3 (by omega), f 23 4 (by omega), f 23 5 (by omega)]
  exact h
theorem hs_cg {g g1 : Nat → Int32} : ∀ {n : Nat}, (∀ i, i < n → g1 i = g i) → hs g1 n = hs g n
  | 0, _ => rfl
  | n + 1, h => by
    unfold hs
    rw [hs_cg (fun i hi => h i (by omega)), h n (by omega)]
theorem nd_of {g kn pa ot g1 kn1 pa1 ot1 : Nat → Int32} {f i : Nat} (h : nd g kn pa ot f i) (e : ∀ j, j ≤ i → g1 j = g j) (e1 : kn1 (f + i) = kn (f + i)) (e2 : pa1 (f + i) = pa (f + i)) (e3 : ot1 (f + i) = ot (f + i)) : nd g1 kn1 pa1 ot1 f i := by
  unfold nd at h ⊢
  rw [e i (by omega), e1, e2, e3, hs_cg (fun j hj => e j (by omega))]
  exact h
theorem lwR_of {k : Nat} (h : lwR P T k) (e : ∀ j, P1 (30 + 3 * k) j = P (30 + 3 * k) j) (e1 : ∀ j, P1 (31 + 3 * k) j = P (31 + 3 * k) j) (f : ∀ a, (36 ≤ a ∧ a ≤ 38) → T1 a (3 + k) = T a (3 + k)) (m : (T 0 19).toInt ≤ (T1 0 19).toInt) (g : ∀ a j : Nat, (39 ≤ a ∧ a ≤ 41) → (j : Int) < 64 + (T 0 19).toInt → T1 a j = T a j) : lwR P1 T1 k := by
  unfold lwR at h ⊢
  rw [e 1, f 36 (by omega), f 37 (by omega), f 38 (by omega), show P1 (31 + 3 * k) = P (31 + 3 * k) from funext e1]
  rcases h with h | ⟨h0, F, s, h1, h2, h3, h4, h5, h6, h7⟩
  · exact Or.inl h
  · refine Or.inr ⟨h0, F, s, h1, h2, h3, h4, by omega, h6, fun i hi => nd_of (h7 i hi) (fun _ _ => rfl) ?_ ?_ ?_⟩ <;> (unfold sh64; exact g _ _ (by omega) (by omega))
theorem rL_of (h : rL P T) (e : ∀ a j, (a = 0 ∧ j = 3) ∨ (30 ≤ a ∧ a ≤ 38) → P1 a j = P a j) (f : ∀ a j, (a = 0 ∧ (j = 46 ∨ j = 19)) ∨ (36 ≤ a ∧ a ≤ 41) → T1 a j = T a j) : rL P1 T1 := by
  have m : (T 0 19).toInt ≤ (T1 0 19).toInt := by rw [f 0 19 (by omega)]; exact Int.le_refl _
  refine ⟨by rw [e 0 3 (by omega), f 0 46 (by omega)]; exact h.1, by rw [f 0 19 (by omega), f 0 46 (by omega)]; exact h.2.1, by rw [f 0 46 (by omega)]; exact h.2.2.1, ?_, ?_, ?_⟩
  · exact lwR_of h.2.2.2.1 (fun j => e _ j (by omega)) (fun j => e _ j (by omega)) (fun a ha => f a _ (by omega)) m (fun a j ha _ => f a j (by omega))
  · exact lwR_of h.2.2.2.2.1 (fun j => e _ j (by omega)) (fun j => e _ j (by omega)) (fun a ha => f a _ (by omega)) m (fun a j ha _ => f a j (by omega))
  · exact lwR_of h.2.2.2.2.2 (fun j => e _ j (by omega)) (fun j => e _ j (by omega)) (fun a ha => f a _ (by omega)) m (fun a j ha _ => f a j (by omega))
end
/-- all that has been read is alike -/
def RD (R P T : Tr) : Prop := rPl P T ∧ rPe P T ∧ rPi P T ∧ rW R P T ∧ rO R P T ∧ rL P T
/-- what stays of the reader at a fault -/
def frF (R q : Tr) : Prop := ∀ a j, ¬ (a = 0 ∧ (j = 1 ∨ j = 2)) → q a j = R a j
theorem RD_of {R P T R1 T1 : Tr} (h : RD R P T) (r5 : R1 0 5 = R 0 5) (r6 : R1 0 6 = R 0 6) (f : ∀ a j, ¬ (a = 0 ∧ 4 ≤ j ∧ j ≤ 11) → T1 a j = T a j) : RD R1 P T1 :=
  ⟨rPl_of h.1 (fun _ _ _ => rfl) (fun a j g => f a j (by omega)), rPe_of h.2.1 (fun _ _ _ => rfl) (fun a j g => f a j (by omega)), rPi_of h.2.2.1 (fun _ _ _ => rfl) (fun a j g => f a j (by omega)), rW_of h.2.2.2.1 r6 (fun _ => rfl) (fun a j g => f a j (by omega)), rO_of h.2.2.2.2.1 r5 (fun _ _ _ => rfl) (fun a j g => f a j (by omega)), rL_of h.2.2.2.2.2 (fun _ _ _ => rfl) (fun a j g => f a j (by omega))⟩
/-- how a line comes back from both -/
def lnQ (K R T : Tr) (q : Int32 × Tr × Tr × Tr) (q' : Int32 × Tr) : Prop := (q.1 = 0 ∧ q'.1 = 0 ∧ flt q.2.2.1 q'.2 ∧ frK K q.2.1) ∨ (q.1 = 1 ∧ q'.1 = 1 ∧ tkS q.2.1 q'.2 ∧ RD q.2.2.1 q.2.2.2 q'.2 ∧ q.2.2.1 0 1 = 0 ∧ q.2.2.1 0 3 = R 0 3 ∧ frK K q.2.1 ∧ (T 0 7).toInt ≤ (q'.2 0 10).toInt)
theorem frK_r {K : Tr} : frK K K := fun _ _ _ => rfl
theorem ln_fail {K R T K1 P1 R1 T1 : Tr} {c : Int32} (h : K1 0 2 = T1 0 10) (hc : ¬ c = 0) (hf : frK K K1) : E2 (some ((0 : Int32), K1, st (st R1 0 1 c) 0 2 (K1 0 2), P1)) (some ((0 : Int32), st (st T1 0 4 c) 0 5 (T1 0 10))) (lnQ K R T) :=
  E2_some (Or.inl ⟨rfl, rfl, flt_of h hc, hf⟩)
theorem frK_num {K R : Tr} {lo hi : Int32} : Ep (f_X3_takeNumber K R lo hi) (fun q => frK K q.2.1) := by
  have h49 : ∀ (x s : Int32) (R : Tr), Ep (fJ_X3_takeNumber_J49 x s K R) (fun q => frK K q.2.1) := fun x s R => by
    unfold fJ_X3_takeNumber_J49
    exact Ep_any (fun q => Ep_lt (fun _ _ => Ep_lt (fun _ _ => Ep_ite (fun _ => Ep_some frK_r) (fun _ => Ep_bd frK_adv (fun _ g => Ep_some g)))))
  have h26 : ∀ (x1 x2 x s : Int32) (R : Tr), Ep (fJ_X3_takeNumber_J26 x1 x2 x s K R) (fun q => frK K q.2.1) := fun x1 x2 x s R => by
    unfold fJ_X3_takeNumber_J26 fJ_X3_takeNumber_J48
    exact Ep_any (fun q => Ep_lt (fun _ _ => Ep_lt (fun _ _ => Ep_ite (fun _ => Ep_some frK_r) (fun _ => Ep_ite (fun _ => h49 _ _ _) (fun _ => Ep_ite (fun _ => h49 _ _ _) (fun _ => h49 _ _ _))))))
  unfold f_X3_takeNumber
  exact Ep_lt (fun _ _ => Ep_ite (fun _ => h26 _ _ _ _ _) (fun _ => h26 _ _ _ _ _))
/-- a number comes back from both -/
def nqQ (K R T : Tr) (lo hi : Int32) (q : Int32 × Tr × Tr) (q' : Int32 × Tr) : Prop := (q.1 = -1 ∧ q'.1 = 0 ∧ flt q.2.2 q'.2 ∧ frK K q.2.1) ∨ (q'.1 = 1 ∧ lo.toInt ≤ q.1.toInt ∧ q.1.toInt ≤ hi.toInt ∧ q'.2 0 11 = q.1 ∧ tkS q.2.1 q'.2 ∧ q.2.2 = R ∧ frK K q.2.1 ∧ frR T q'.2 ∧ (T 0 7).toInt ≤ (q'.2 0 10).toInt)
theorem e_nq {K R T : Tr} {lo hi : Int32} (h : tkS K T) (hlo : 0 ≤ lo.toInt) (hhi : hi.toInt ≤ 99999) : E2 (f_X3_takeNumber K R lo hi) (f_X8_number T lo hi) (nqQ K R T lo hi) := fun a b e1 e2 => by
  have h1 := e_num h hlo hhi a b e1 e2
  have h2 := frK_num a e1
  rcases h1 with ⟨g1, g2, g3⟩ | g
  · exact Or.inl ⟨g1, g2, g3, h2⟩
  · exact Or.inr g
/-- after a token the one at hand stands further on -/
theorem tk_on {K T : Tr} (h : tkS K T) : (T 0 10).toInt ≤ (T 0 7).toInt := by
  rcases h.2.2.2.2.2.2.2.2 with g | g
  · rw [g.2]; exact Int.le_refl _
  · exact Int.le_of_lt g
theorem tkS_st {K T : Tr} {a i : Nat} {v : Int32} (h : tkS K T) (ha : ¬ (a = 0 ∧ 6 ≤ i ∧ i ≤ 10) ∧ a ≠ 1 ∧ a ≠ 4) : tkS K (st T a i v) :=
  tkS_T h (fun j h1 h2 => st_no (by omega)) (funext fun j => st_no (by omega)) (funext fun j => st_no (by omega))
/-- a word of those from .. to -/
theorem tw_yes {K R : Tr} {lo hi : Int32} (h1 : lo.toInt ≤ (K 0 1).toInt) (h2 : (K 0 1).toInt ≤ hi.toInt) : f_X3_takeWord K R lo hi = bd (f_X5_advance K) fun K8 => some (K 0 1 - lo, K8, R) := by
  unfold f_X3_takeWord fJ_X3_takeWord_J23 fJ_X3_takeWord_J24
  show (if K 0 1 < lo then _ else _) = _
  rw [if_neg (fun q => by have := tq_lt rfl rfl q; omega), if_neg (fun q => by have := tq_lt rfl rfl q; omega), ex1]
  rfl
theorem tw_no {K R : Tr} {lo hi : Int32} (h : ¬ (lo.toInt ≤ (K 0 1).toInt ∧ (K 0 1).toInt ≤ hi.toInt)) : f_X3_takeWord K R lo hi = some (-1, K, st (st R 0 1 1) 0 2 (K 0 2)) := by
  unfold f_X3_takeWord fJ_X3_takeWord_J23 fJ_X3_takeWord_J24
  show (if K 0 1 < lo then _ else _) = _
  by_cases c : K 0 1 < lo
  · rw [if_pos c, ex0]; rfl
  · rw [if_neg c]
    have c1 := tq_ltn rfl rfl c
    rw [if_pos (Int32.lt_iff_toInt_lt.mpr (by omega)), ex0]; rfl
