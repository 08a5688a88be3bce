/-! a law's sum: signs that wait, numbers that are held -/
def cwB (T : Tr) : Nat → Int
  | 0 => 0
  | n + 1 => cwB T n + (if T 42 n = 0 ∨ T 42 n = 2 then 0 else 1)
def cwO (T : Tr) : Nat → Int
  | 0 => 0
  | n + 1 => cwO T n + (if T 42 n = 0 then 1 else 0)
theorem cwB_eq {T T1 : Tr} : ∀ n : Nat, (∀ i, i < n → T1 42 i = T 42 i) → cwB T1 n = cwB T n := by
  intro n
  induction n with
  | zero => intro _; rfl
  | succ n ih =>
    intro h
    show cwB T1 n + (if T1 42 n = 0 ∨ T1 42 n = 2 then 0 else 1) = cwB T n + (if T 42 n = 0 ∨ T 42 n = 2 then 0 else 1)
    rw [ih (fun i hi => h i (by omega)), h n (by omega)]
theorem cwO_eq {T T1 : Tr} : ∀ n : Nat, (∀ i, i < n → T1 42 i = T 42 i) → cwO T1 n = cwO T n := by
  intro n
  induction n with
  | zero => intro _; rfl
  | succ n ih =>
    intro h
    show cwO T1 n + (if T1 42 n = 0 then 1 else 0) = cwO T n + (if T 42 n = 0 then 1 else 0)
    rw [ih (fun i hi => h i (by omega)), h n (by omega)]
theorem cw_b (T : Tr) : ∀ n : Nat, 0 ≤ cwB T n ∧ 0 ≤ cwO T n ∧ cwB T n + cwO T n ≤ (n : Int) := by
  intro n
  induction n with
  | zero => exact ⟨Int.le_refl _, Int.le_refl _, Int.le_refl _⟩
  | succ n ih =>
    show 0 ≤ cwB T n + (if T 42 n = 0 ∨ T 42 n = 2 then 0 else 1) ∧ 0 ≤ cwO T n + (if T 42 n = 0 then 1 else 0) ∧ (cwB T n + (if T 42 n = 0 ∨ T 42 n = 2 then 0 else 1)) + (cwO T n + (if T 42 n = 0 then 1 else 0)) ≤ ((n + 1 : Nat) : Int)
    by_cases h0 : T 42 n = 0
    · rw [if_pos (Or.inl h0), if_pos h0]; omega
    · rw [if_neg h0]
      by_cases h2 : T 42 n = 2
      · rw [if_pos (Or.inr h2)]; omega
      · rw [if_neg (fun hz => hz.elim h0 h2)]; omega
theorem cw_0 {T : Tr} {n : Nat} (h : T 42 n = 0) : cwB T (n + 1) = cwB T n ∧ cwO T (n + 1) = cwO T n + 1 := by
  constructor
  · show cwB T n + (if T 42 n = 0 ∨ T 42 n = 2 then 0 else 1) = _
    rw [if_pos (Or.inl h)]; omega
  · show cwO T n + (if T 42 n = 0 then 1 else 0) = _
    rw [if_pos h]
theorem cw_2 {T : Tr} {n : Nat} (h : T 42 n = 2) : cwB T (n + 1) = cwB T n ∧ cwO T (n + 1) = cwO T n := by
  constructor
  · show cwB T n + (if T 42 n = 0 ∨ T 42 n = 2 then 0 else 1) = _
    rw [if_pos (Or.inr h)]; omega
  · show cwO T n + (if T 42 n = 0 then 1 else 0) = _
    rw [if_neg (by rw [h]; decide)]; omega
theorem cw_3 {T : Tr} {n : Nat} (h0 : ¬ T 42 n = 0) (h2 : ¬ T 42 n = 2) : cwB T (n + 1) = cwB T n + 1 ∧ cwO T (n + 1) = cwO T n := by
  constructor
  · show cwB T n + (if T 42 n = 0 ∨ T 42 n = 2 then 0 else 1) = _
    rw [if_neg (fun hz => hz.elim h0 h2)]
  · show cwO T n + (if T 42 n = 0 then 1 else 0) = _
    rw [if_neg h0]; omega
/-- the standing within a sum: n signs wait, w numbers more are held than signs ask for -/
def sI (n : Nat) (w : Int) (T : Tr) : Prop := (T 0 43).toInt = n ∧ (∀ i, i < n → T 42 i = 0 ∨ 2 ≤ (T 42 i).toInt) ∧ (T 0 44).toInt = cwB T n + w ∧ (T 0 45).toInt = cwO T n ∧ (T 0 19).toInt + n - cwO T n = (T 0 46).toInt ∧ (w = 1 → 1 ≤ (T 0 19).toInt)
theorem sI_eq {n : Nat} {w : Int} {T T1 : Tr} (h : sI n w T) (e43 : T1 0 43 = T 0 43) (e44 : T1 0 44 = T 0 44) (e45 : T1 0 45 = T 0 45) (e19 : T1 0 19 = T 0 19) (e46 : T1 0 46 = T 0 46) (e42 : ∀ j, T1 42 j = T 42 j) : sI n w T1 := by
  unfold sI at h ⊢
  rw [e43, e44, e45, e19, e46, cwB_eq n (fun i _ => e42 i), cwO_eq n (fun i _ => e42 i)]
  exact ⟨h.1, fun i hi => by rw [e42]; exact h.2.1 i hi, h.2.2⟩
theorem sI_K {n : Nat} {w : Int} {T T1 : Tr} (h : sI n w T) (e : aK T T1) : sI n w T1 :=
  sI_eq h (e 0 43 rfl) (e 0 44 rfl) (e 0 45 rfl) (e 0 19 rfl) (e 0 46 rfl) (fun j => e 42 j rfl)
/-- a number is held no more -/
theorem r_dropHeld {x : Nat} {z S : Tr} (h : rP x z S) (h1 : 1 ≤ (S 0 44).toInt) : D (f_X8_dropHeld S) (fun q => 0 ≤ q.1.toInt ∧ q.1.toInt ≤ 63 ∧ rP x z q.2 ∧ (q.2 0 44).toInt = (S 0 44).toInt - 1 ∧ (∀ a j, ¬ (a = 0 ∧ j = 44) → q.2 a j = S a j)) := by
  have b : 0 ≤ (S 0 44).toInt ∧ (S 0 44).toInt ≤ 96 := h.1 0 44
  unfold f_X8_dropHeld
  refine D_lt (fun T eT => ?_)
  have e1 : (S 0 44 - 1).toInt = (S 0 44).toInt - 1 := i_subK rfl (show (1 : Int32).toInt = 1 by decide) (by omega) (by omega)
  have hT : rP x z T := by
    rw [eT]; refine rP_set (a := 0) h ?_ ?_ rfl rfl (fun _ => Or.inr (by decide))
    · show (0 : Int) ≤ _; omega
    · show _ ≤ (96 : Int); omega
  have e44 : (T 0 44).toInt = (S 0 44).toInt - 1 := by rw [eT, st_same]; exact e1
  refine D_ck (okI_of (by omega) (by omega)) (D_some ?_)
  have b43 : 0 ≤ (T 43 (T 0 44).toNatClampNeg).toInt ∧ (T 43 (T 0 44).toNatClampNeg).toInt ≤ 63 := hT.1 43 _
  refine ⟨b43.1, b43.2, hT, e44, fun a j hn => ?_⟩
  rw [eT]
  rcases st_or (S := S) (a := 0) (i := 44) (b := a) (j := j) (v := S 0 44 - 1) with e | e
  · exact e
  · exact absurd e hn
/-- what a new knot may be -/
def nvOK (a b c : Int32) : Prop := a = 0 ∨ (a = 1 ∧ 0 ≤ b.toInt ∧ b.toInt ≤ 6) ∨ (a = 2 ∧ 0 ≤ b.toInt ∧ b.toInt ≤ 63) ∨ (¬ a = 1 ∧ 0 ≤ b.toInt ∧ b.toInt ≤ 63 ∧ 0 ≤ c.toInt ∧ c.toInt ≤ 63)
theorem r_grown {x : Nat} {z S : Tr} (h : rP x z S) (hx : x < 3) {x1 x2 x3 : Int32} (hv : nvOK x1 x2 x3) (h19 : (S 0 19).toInt ≤ 63) (h44 : (S 0 44).toInt ≤ 95) : D (f_X8_grown S x1 x2 x3) (fun q => rP x z q ∧ (q 0 44).toInt = (S 0 44).toInt + 1 ∧ (q 0 19).toInt = (S 0 19).toInt + 1 ∧ (∀ j, ¬ j = 44 → ¬ j = 19 → q 0 j = S 0 j) ∧ (∀ j, q 42 j = S 42 j)) := by
  have b44 : 0 ≤ (S 0 44).toInt ∧ (S 0 44).toInt ≤ 96 := h.1 0 44
  have b19 : 0 ≤ (S 0 19).toInt ∧ (S 0 19).toInt ≤ 64 := h.1 0 19
  have i64 : ∀ v : Int32, v = S 0 19 → ((64 : Int32) + v).toInt = 64 + (S 0 19).toInt := fun v hv => by
    rw [hv]; exact i_addK (by decide) rfl (by omega) (by omega)
  have c64 : ∀ v : Int32, v = S 0 19 → ((64 : Int32) + v).toNatClampNeg = 64 + (S 0 19).toInt.toNat := fun v hv => by
    simp only [i_cl]; rw [i64 v hv]; omega
  unfold f_X8_grown
  refine D_ck (okI_of (by rw [i64 _ rfl]; omega) (by rw [i64 _ rfl]; omega)) (D_lt (fun S2 e2 => ?_))
  rw [c64 _ rfl] at e2
  have t2 : S2 0 19 = S 0 19 := by rw [e2, st_oth (by decide)]
  refine D_ck (okI_of (by rw [i64 _ t2]; omega) (by rw [i64 _ t2]; omega)) (D_lt (fun S4 e4 => ?_))
  rw [c64 _ t2] at e4
  have t4 : S4 0 19 = S 0 19 := by rw [e4, st_oth (by decide), t2]
  refine D_ck (okI_of (by rw [i64 _ t4]; omega) (by rw [i64 _ t4]; omega)) (D_lt (fun S6 e6 => ?_))
  rw [c64 _ t4] at e6
  have o6 : ∀ c, ¬ c = 39 → ¬ c = 40 → ¬ c = 41 → S6 c = S c := fun c n1 n2 n3 => by
    rw [e6, st_oth n3, e4, st_oth n2, e2, st_oth n1]
  have a6 : ∀ k, ¬ k = 64 + (S 0 19).toInt.toNat → S6 39 k = S 39 k ∧ S6 40 k = S 40 k ∧ S6 41 k = S 41 k := fun k hk => by
    refine ⟨?_, ?_, ?_⟩
    · rw [e6, st_oth (by decide), e4, st_oth (by decide), e2, st_ne hk]
    · rw [e6, st_oth (by decide), e4, st_ne hk, e2, st_oth (by decide)]
    · rw [e6, st_ne hk, e4, st_oth (by decide), e2, st_oth (by decide)]
  have v39 : S6 39 (64 + (S 0 19).toInt.toNat) = x1 := by rw [e6, st_oth (by decide), e4, st_oth (by decide), e2, st_same]
  have v40 : S6 40 (64 + (S 0 19).toInt.toNat) = x2 := by rw [e6, st_oth (by decide), e4, st_same]
  have v41 : S6 41 (64 + (S 0 19).toInt.toNat) = x3 := by rw [e6, st_same]
  have hp := h.2.2.2.2.1
  have h6 : rP x z S6 := by
    refine ⟨?_, ?_, wK_S (fun j => by rw [o6 4 (by decide) (by decide) (by decide)]) h.2.2.1, ?_, ?_, ?_⟩
    · rw [e6]; refine iR_setU ?_ rfl
      rw [e4]; refine iR_setU ?_ rfl
      rw [e2]; exact iR_setU h.1 rfl
    · rw [e6]; refine aP_set ?_ (Wp_41 (by omega))
      rw [e4]; refine aP_set ?_ (Wp_40 (by omega))
      rw [e2]; exact aP_set h.2.1 (Wp_39 (by omega))
    · exact kP_of h.2.2.2.1 (by rw [o6 0 (by decide) (by decide) (by decide)]) (by rw [o6 0 (by decide) (by decide) (by decide)]) (by rw [o6 0 (by decide) (by decide) (by decide)]) (by rw [o6 0 (by decide) (by decide) (by decide)])
    · refine ⟨?_, ?_, fun k => ?_, ?_, fun hz => absurd hz (by omega)⟩
      · rw [o6 30 (by decide) (by decide) (by decide), o6 0 (by decide) (by decide) (by decide)]; exact hp.1
      · rw [o6 29 (by decide) (by decide) (by decide), o6 0 (by decide) (by decide) (by decide)]; exact hp.2.1
      · by_cases hk : k = 64 + (S 0 19).toInt.toNat
        · subst hk; unfold nodeOK; rw [v39, v40, v41]; exact hv
        · have := a6 k hk; exact nodeOK_eq (hp.2.2.1 k) this.1 this.2.1 this.2.2
      · rw [o6 36 (by decide) (by decide) (by decide), o6 38 (by decide) (by decide) (by decide)]; exact hp.2.2.2.1
    · rw [mu_eq (T := S) (T1 := S6) (by rw [o6 0 (by decide) (by decide) (by decide)]) (by rw [o6 0 (by decide) (by decide) (by decide)]) (by rw [o6 0 (by decide) (by decide) (by decide)]) (by rw [o6 0 (by decide) (by decide) (by decide)]) (fun j => by rw [o6 22 (by decide) (by decide) (by decide)]) (fun j => by rw [o6 36 (by decide) (by decide) (by decide)])]
      exact h.2.2.2.2.2
  have z6 : S6 0 = S 0 := o6 0 (by decide) (by decide) (by decide)
  refine D_ck (okI_of (by rw [z6]; omega) (by rw [z6]; omega)) (D_lt (fun S8 e8 => ?_))
  rw [z6] at e8
  have h8 : rP x z S8 := by
    rw [e8]; refine rP_set (a := 43) h6 ?_ ?_ rfl rfl (fun hz => absurd hz (by decide))
    · show (0 : Int) ≤ _; omega
    · show _ ≤ (63 : Int); omega
  have z8 : S8 0 = S 0 := by rw [e8, st_oth (by decide), z6]
  refine D_lt (fun S9 e9 => ?_)
  rw [z8] at e9
  have f44 : (S 0 44 + 1).toInt = (S 0 44).toInt + 1 := i_addK rfl (show (1 : Int32).toInt = 1 by decide) (by omega) (by omega)
  have f19 : (S 0 19 + 1).toInt = (S 0 19).toInt + 1 := i_addK rfl (show (1 : Int32).toInt = 1 by decide) (by omega) (by omega)
  have h9 : rP x z S9 := by
    rw [e9]; refine rP_set (a := 0) h8 ?_ ?_ rfl rfl (fun _ => Or.inr (by decide))
    · show (0 : Int) ≤ _; omega
    · show _ ≤ (96 : Int); omega
  have t9 : S9 0 19 = S 0 19 := by rw [e9, st_ne (by decide), z8]
  refine D_lt (fun S10 e10 => ?_)
  rw [t9] at e10
  have eo : ∀ c, ¬ c = 0 → ∀ j, S10 c j = S9 c j := fun c hc j => by rw [e10, st_oth hc]
  have ez : ∀ j, ¬ j = 19 → S10 0 j = S9 0 j := fun j hj => by rw [e10, st_ne hj]
  have hp9 := h9.2.2.2.2.1
  refine D_some ⟨⟨?_, ?_, wK_S (eo 4 (by decide)) h9.2.2.1, kP_of h9.2.2.2.1 (ez 6 (by decide)) (ez 7 (by decide)) (ez 8 (by decide)) (ez 9 (by decide)), ⟨fun i hi hl => ?_, fun p hp1 hl => ?_, fun k => nodeOK_eq (hp9.2.2.1 k) (eo 39 (by decide) k) (eo 40 (by decide) k) (eo 41 (by decide) k), fun u hu hx1 hl => ?_, fun hz => absurd hz (by omega)⟩, ?_⟩, ?_, ?_, ?_, ?_⟩
  · rw [e10]; refine iR_set (a := 0) (i := 19) h9.1 ?_ ?_
    · show (0 : Int) ≤ _; omega
    · show _ ≤ (64 : Int); omega
  · rw [e10]; exact aP_set h9.2.1 rfl
  · rw [eo 30 (by decide), ez 17 (by decide)]; rw [ez 18 (by decide)] at hl; exact hp9.1 i hi hl
  · rw [eo 29 (by decide)]; rw [ez 17 (by decide)] at hl; exact hp9.2.1 p hp1 hl
  · rw [eo 38 (by decide)]; rw [eo 36 (by decide)] at hl; exact hp9.2.2.2.1 u hu hx1 hl
  · rw [mu_eq (T := S9) (T1 := S10) (ez 16 (by decide)) (ez 17 (by decide)) (ez 18 (by decide)) (ez 20 (by decide)) (eo 22 (by decide)) (eo 36 (by decide))]; exact h9.2.2.2.2.2
  · rw [ez 44 (by decide), e9, st_same]; exact f44
  · rw [e10, st_same]; exact f19
  · intro j h1 h2; rw [ez j h2, e9, st_ne h1, z8]
  · intro j; rw [eo 42 (by decide), e9, st_oth (by decide), e8, st_oth (by decide), o6 42 (by decide) (by decide) (by decide)]
/-- the rank of a bracket is none, that of every other sign is one -/
theorem t2_rank (v : Int32) : D (f_X8_rank v) (fun r => (0 ≤ r.toInt ∧ r.toInt ≤ 6) ∧ (v = 0 → r.toInt = 0) ∧ (2 ≤ v.toInt → 1 ≤ r.toInt)) := by
  unfold f_X8_rank
  have l : ∀ {r : Int32}, (0 ≤ r.toInt ∧ r.toInt ≤ 6) → (v = 0 → r.toInt = 0) → (2 ≤ v.toInt → 1 ≤ r.toInt) → D (some r) (fun r => (0 ≤ r.toInt ∧ r.toInt ≤ 6) ∧ (v = 0 → r.toInt = 0) ∧ (2 ≤ v.toInt → 1 ≤ r.toInt)) := fun h1 h2 h3 => D_some ⟨h1, h2, h3⟩
  refine D_ite (fun c => D_ite (fun c => D_ite (fun c => D_ite (fun c => ?_) (fun c2 => D_ite (fun c => ?_) (fun c3 => D_ite (fun c => ?_) (fun c4 => ?_)))) (fun c => ?_)) (fun c => ?_)) (fun c => ?_)
  · exact l (by decide) (fun hz => by rw [hz] at c; exact absurd c (by decide)) (fun _ => by decide)
  · exact l (by decide) (fun hz => by rw [hz] at c; exact absurd c (by decide)) (fun _ => by decide)
  · exact l (by decide) (fun hz => by rw [hz] at c; exact absurd c (by decide)) (fun _ => by decide)
  · refine l (by decide) (fun _ => by decide) (fun hz => ?_)
    exfalso
    have k := tq_lt (x := v) (y := (5 : Int32)) rfl (b := 5) (by decide) c
    have m2 : ¬ v.toInt = 2 := fun hz => c2 (Int32.toInt_inj.mp (hz.trans (by decide)))
    have m3 : ¬ v.toInt = 3 := fun hz => c3 (Int32.toInt_inj.mp (hz.trans (by decide)))
    have m4 : ¬ v.toInt = 4 := fun hz => c4 (Int32.toInt_inj.mp (hz.trans (by decide)))
    omega
  · exact l (by decide) (fun hz => by rw [hz] at c; exact absurd (by decide) c) (fun _ => by decide)
  · exact l (by decide) (fun hz => by rw [hz] at c; exact absurd (by decide) c) (fun _ => by decide)
  · exact l (by decide) (fun hz => by rw [hz] at c; exact absurd (by decide) c) (fun _ => by decide)
