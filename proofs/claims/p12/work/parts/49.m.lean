/-! what has been read so far; x = 3: every law that was begun has been read -/
def hP (x : Nat) (T : Tr) : Prop := (∀ i : Nat, i < 10 → (i : Int) < (T 0 18).toInt → (T 30 (10 + i)).toInt < (T 0 17).toInt) ∧ (∀ p : Nat, p < 6 → (p : Int) < (T 0 17).toInt → 1 ≤ (T 29 (6 + p)).toInt) ∧ (∀ k, nodeOK T k) ∧ (∀ w : Nat, w < 3 → ¬ w = x → ¬ T 36 (3 + w) = 0 → 1 ≤ (T 38 (3 + w)).toInt) ∧ (x = 3 → T 0 19 = T 0 46)
def flg (v : Int32) : Int := if v = 0 then 0 else 1
/-- how many lines have been read -/
def mu (T : Tr) : Int := (T 0 16).toInt + (T 0 17).toInt + (T 0 18).toInt + (T 0 20).toInt + flg (T 22 0) + flg (T 22 1) + flg (T 22 2) + flg (T 36 3) + flg (T 36 4) + flg (T 36 5)
def Hc (a j : Nat) : Bool := bif Nat.beq a 0 then (Nat.beq j 16 || Nat.beq j 17 || Nat.beq j 18 || Nat.beq j 19 || Nat.beq j 20 || Nat.beq j 46) else (Nat.beq a 4 || Nat.beq a 22 || Nat.beq a 29 || Nat.beq a 30 || Nat.beq a 36 || Nat.beq a 38 || Nat.beq a 39 || Nat.beq a 40 || Nat.beq a 41)
theorem nodeOK_eq {T T1 : Tr} {k : Nat} (h : nodeOK T k) (e39 : T1 39 k = T 39 k) (e40 : T1 40 k = T 40 k) (e41 : T1 41 k = T 41 k) : nodeOK T1 k := by
  unfold nodeOK at h ⊢
  rw [e39, e40, e41]; exact h
theorem hP_eq {x : Nat} {T T1 : Tr} (h : hP x T) (e17 : T1 0 17 = T 0 17) (e18 : T1 0 18 = T 0 18) (e19 : T1 0 19 = T 0 19) (e46 : T1 0 46 = T 0 46) (e29 : ∀ j, T1 29 j = T 29 j) (e30 : ∀ j, T1 30 j = T 30 j) (e36 : ∀ j, T1 36 j = T 36 j) (e38 : ∀ j, T1 38 j = T 38 j) (e39 : ∀ j, T1 39 j = T 39 j) (e40 : ∀ j, T1 40 j = T 40 j) (e41 : ∀ j, T1 41 j = T 41 j) : hP x T1 := by
  refine ⟨fun i hi hl => ?_, fun p hp hl => ?_, fun k => nodeOK_eq (h.2.2.1 k) (e39 k) (e40 k) (e41 k), fun w hw hx hl => ?_, fun hx => ?_⟩
  · rw [e30, e17]; rw [e18] at hl; exact h.1 i hi hl
  · rw [e29]; rw [e17] at hl; exact h.2.1 p hp hl
  · rw [e38]; rw [e36] at hl; exact h.2.2.2.1 w hw hx hl
  · rw [e19, e46]; exact h.2.2.2.2 hx
theorem hP_c {x : Nat} {T T1 : Tr} (h : hP x T) (e : ∀ a j, Hc a j = true → T1 a j = T a j) : hP x T1 :=
  hP_eq h (e 0 17 rfl) (e 0 18 rfl) (e 0 19 rfl) (e 0 46 rfl) (fun j => e 29 j rfl) (fun j => e 30 j rfl) (fun j => e 36 j rfl) (fun j => e 38 j rfl) (fun j => e 39 j rfl) (fun j => e 40 j rfl) (fun j => e 41 j rfl)
theorem mu_eq {T T1 : Tr} (e16 : T1 0 16 = T 0 16) (e17 : T1 0 17 = T 0 17) (e18 : T1 0 18 = T 0 18) (e20 : T1 0 20 = T 0 20) (e22 : ∀ j, T1 22 j = T 22 j) (e36 : ∀ j, T1 36 j = T 36 j) : mu T1 = mu T := by
  unfold mu
  rw [e16, e17, e18, e20, e22, e22, e22, e36, e36, e36]
theorem mu_c {T T1 : Tr} (e : ∀ a j, Hc a j = true → T1 a j = T a j) : mu T1 = mu T :=
  mu_eq (e 0 16 rfl) (e 0 17 rfl) (e 0 18 rfl) (e 0 20 rfl) (fun j => e 22 j rfl) (fun j => e 36 j rfl)
def rP (x : Nat) (z T : Tr) : Prop := iR BM T ∧ aP z T ∧ wK T ∧ kP T ∧ hP x T ∧ mu z ≤ mu T
theorem rP_tr {x y : Nat} {z T T1 : Tr} (h : rP x z T) (h1 : rP y T T1) : rP y z T1 := ⟨h1.1, aP_tr h.2.1 h1.2.1, h1.2.2.1, h1.2.2.2.1, h1.2.2.2.2.1, Int.le_trans h.2.2.2.2.2 h1.2.2.2.2.2⟩
theorem rP_self {x : Nat} {z T : Tr} (h : rP x z T) : rP x T T := ⟨h.1, aP_rfl, h.2.2.1, h.2.2.2.1, h.2.2.2.2.1, Int.le_refl _⟩
theorem Wn_p {a j : Nat} (h : Wp a j = false) : Wn a j = false := by
  unfold Wp at h
  unfold Wn
  cases hq : Nat.beq a 0 with
  | false => rfl
  | true =>
    rw [hq] at h
    have h1 : Wp0 j = false := h
    cases hn : (Nat.beq j 4 || Nat.beq j 5 || (Nat.ble 7 j && Nat.ble j 11)) with
    | false => rfl
    | true =>
      exfalso
      have h2 : 4 ≤ j ∧ j ≤ 11 := by
        simp only [Bool.or_eq_true, Bool.and_eq_true] at hn
        rcases hn with (e | e) | ⟨e1, e2⟩
        · have := Nat.eq_of_beq_eq_true e; omega
        · have := Nat.eq_of_beq_eq_true e; omega
        · have := Nat.le_of_ble_eq_true e1; have := Nat.le_of_ble_eq_true e2; omega
      unfold Wp0 at h1
      rw [Nat.ble_eq_true_of_le h2.1, Nat.ble_eq_true_of_le h2.2] at h1
      simp at h1
theorem Hc_n {a j : Nat} (h : Hc a j = true) : Wn a j = false := by
  unfold Hc at h
  unfold Wn
  cases hq : Nat.beq a 0 with
  | false => rfl
  | true =>
    rw [hq] at h
    simp only [cond_true, Bool.or_eq_true] at h
    rcases h with ((((e | e) | e) | e) | e) | e
    · have := Nat.eq_of_beq_eq_true e; subst this; rfl
    · have := Nat.eq_of_beq_eq_true e; subst this; rfl
    · have := Nat.eq_of_beq_eq_true e; subst this; rfl
    · have := Nat.eq_of_beq_eq_true e; subst this; rfl
    · have := Nat.eq_of_beq_eq_true e; subst this; rfl
    · have := Nat.eq_of_beq_eq_true e; subst this; rfl
theorem mu_N {T T1 : Tr} (hn : aN T T1) : mu T1 = mu T := mu_c (fun a j hc => hn a j (Hc_n hc))
theorem mu_K {T T1 : Tr} (hn : aK T T1) : mu T1 = mu T := mu_N (aN_K hn)
theorem rP_N {x : Nat} {z T T1 : Tr} (h : rP x z T) (hi : iR BM T1) (hn : aN T T1) (hk : kP T1) : rP x z T1 :=
  ⟨hi, fun a j hf => (hn a j (Wn_p hf)).trans (h.2.1 a j hf), wK_S (fun j => hn 4 j rfl) h.2.2.1, hk, hP_c h.2.2.2.2.1 (fun a j hc => hn a j (Hc_n hc)), by rw [mu_N hn]; exact h.2.2.2.2.2⟩
theorem r_token {x : Nat} {z S : Tr} (h : rP x z S) : D (f_X8_token S) (fun q => rP x z q ∧ aK S q) :=
  D_mono (t_X8_token S h.1 h.2.2.1 h.2.2.2.1.1) (fun _ hq => ⟨rP_N h hq.1 (aN_K hq.2.1) hq.2.2, hq.2.1⟩)
theorem r_number {x : Nat} {z S : Tr} (h : rP x z S) (x1 x2 : Int32) : D (f_X8_number S x1 x2) (fun q => (q.1 = 0 ∨ (q.1 = 1 ∧ x1.toInt ≤ (q.2 0 11).toInt ∧ (q.2 0 11).toInt ≤ x2.toInt)) ∧ rP x z q.2 ∧ aN S q.2) :=
  D_mono (t_X8_number S x1 x2 h.1 h.2.2.1 h.2.2.2.1) (fun _ hq => ⟨hq.1, rP_N h hq.2.1 hq.2.2.1 hq.2.2.2, hq.2.2.1⟩)
/-- a line's answer -/
def lP (x : Nat) (z : Tr) (q : Int32 × Tr) : Prop := (q.1 = 0 ∨ (q.1 = 1 ∧ mu z < mu q.2)) ∧ rP x z q.2
theorem r_wrong {x : Nat} {z S : Tr} (h : rP x z S) (y : Int32) : D (bd (f_X8_wrong S y) fun q => lt q.1 fun r => lt q.2 fun S1 => ck (okB r) (some (r, S1))) (fun q => q.1 = 0 ∧ rP x z q.2) := by
  refine D_bd (t2_wrong S y h.1 h.2.2.2.1) (fun q _ hq => ?_)
  refine D_ck ?_ (D_some ⟨hq.1, rP_N h hq.2.1 hq.2.2.1 hq.2.2.2⟩)
  rw [hq.1]; decide
theorem l_wrong {x : Nat} {z S : Tr} (h : rP x z S) (y : Int32) : D (bd (f_X8_wrong S y) fun q => lt q.1 fun r => lt q.2 fun S1 => ck (okB r) (some (r, S1))) (lP x z) :=
  D_mono (r_wrong h y) (fun _ hq => ⟨Or.inl hq.1, hq.2⟩)
/-- a write at a cell of which nothing is told -/
theorem rP_set {x : Nat} {z T : Tr} (h : rP x z T) {a i : Nat} {v : Int32} (h1 : (BM a i).1 ≤ v.toInt) (h2 : v.toInt ≤ (BM a i).2) (hw : Wp a i = true) (hc : Hc a i = false) (h0 : a = 0 → i < 6 ∨ 9 < i) : rP x z (st T a i v) := by
  have e : ∀ c j, Hc c j = true → st T a i v c j = T c j := fun c j hj => by
    rcases st_or (S := T) (a := a) (i := i) (b := c) (j := j) (v := v) with e | ⟨e1, e2⟩
    · exact e
    · subst e1; subst e2; rw [hj] at hc; cases hc
  have e0 : ∀ j, 6 ≤ j → j ≤ 9 → st T a i v 0 j = T 0 j := fun j hj1 hj2 => by
    rcases st_or (S := T) (a := a) (i := i) (b := 0) (j := j) (v := v) with e | ⟨e1, e2⟩
    · exact e
    · have := h0 e1.symm; omega
  exact ⟨iR_set h.1 h1 h2, aP_set h.2.1 hw, wK_S (fun j => e 4 j rfl) h.2.2.1, kP_of h.2.2.2.1 (e0 6 (by decide) (by decide)) (e0 7 (by decide) (by decide)) (e0 8 (by decide) (by decide)) (e0 9 (by decide) (by decide)), hP_c h.2.2.2.2.1 e, by rw [mu_c e]; exact h.2.2.2.2.2⟩
theorem rP_full {x : Nat} {z T : Tr} (h : rP x z T) {a i : Nat} (v : Int32) (hb : BM a i = (-2147483648, 2147483647)) (hw : Wp a i = true) (hc : Hc a i = false) (h0 : a = 0 → i < 6 ∨ 9 < i) : rP x z (st T a i v) := by
  have r := i_rng v
  refine rP_set h ?_ ?_ hw hc h0
  · rw [hb]; exact r.1
  · rw [hb]; show v.toInt ≤ 2147483647; omega
/-- a further place -/
theorem rP_16 {x : Nat} {z T : Tr} (h : rP x z T) (hb : (T 0 16).toInt < 5) : rP x z (st T 0 16 (T 0 16 + 1)) ∧ mu z < mu (st T 0 16 (T 0 16 + 1)) := by
  have b : 0 ≤ (T 0 16).toInt ∧ (T 0 16).toInt ≤ 5 := h.1 0 16
  have e1 : (T 0 16 + 1).toInt = (T 0 16).toInt + 1 := i_addK rfl (show (1 : Int32).toInt = 1 by decide) (by omega) (by omega)
  have eo : ∀ c, ¬ c = 0 → ∀ j, st T 0 16 (T 0 16 + 1) c j = T c j := fun c hc j => by rw [st_oth hc]
  have em : mu (st T 0 16 (T 0 16 + 1)) = mu T + 1 := by
    unfold mu
    rw [st_same, e1, st_ne (by decide), st_ne (by decide), st_ne (by decide), st_oth (by decide), st_oth (by decide)]; omega
  have hm := h.2.2.2.2.2
  refine ⟨⟨iR_set (a := 0) (i := 16) h.1 ?_ ?_, aP_set h.2.1 rfl, wK_S (eo 4 (by decide)) h.2.2.1, kP_of h.2.2.2.1 (st_ne (by decide)) (st_ne (by decide)) (st_ne (by decide)) (st_ne (by decide)), hP_eq h.2.2.2.2.1 (st_ne (by decide)) (st_ne (by decide)) (st_ne (by decide)) (st_ne (by decide)) (eo 29 (by decide)) (eo 30 (by decide)) (eo 36 (by decide)) (eo 38 (by decide)) (eo 39 (by decide)) (eo 40 (by decide)) (eo 41 (by decide)), by omega⟩, by omega⟩
  · show (0 : Int) ≤ _; omega
  · show _ ≤ (5 : Int); omega
/-- a further wait -/
theorem rP_20 {x : Nat} {z T : Tr} (h : rP x z T) (hb : (T 0 20).toInt < 10) : rP x z (st T 0 20 (T 0 20 + 1)) ∧ mu z < mu (st T 0 20 (T 0 20 + 1)) := by
  have b : 0 ≤ (T 0 20).toInt ∧ (T 0 20).toInt ≤ 10 := h.1 0 20
  have e1 : (T 0 20 + 1).toInt = (T 0 20).toInt + 1 := i_addK rfl (show (1 : Int32).toInt = 1 by decide) (by omega) (by omega)
  have eo : ∀ c, ¬ c = 0 → ∀ j, st T 0 20 (T 0 20 + 1) c j = T c j := fun c hc j => by rw [st_oth hc]
  have em : mu (st T 0 20 (T 0 20 + 1)) = mu T + 1 := by
    unfold mu
    rw [st_same, e1, st_ne (by decide), st_ne (by decide), st_ne (by decide), st_oth (by decide), st_oth (by decide)]; omega
  have hm := h.2.2.2.2.2
  refine ⟨⟨iR_set (a := 0) (i := 20) h.1 ?_ ?_, aP_set h.2.1 rfl, wK_S (eo 4 (by decide)) h.2.2.1, kP_of h.2.2.2.1 (st_ne (by decide)) (st_ne (by decide)) (st_ne (by decide)) (st_ne (by decide)), hP_eq h.2.2.2.2.1 (st_ne (by decide)) (st_ne (by decide)) (st_ne (by decide)) (st_ne (by decide)) (eo 29 (by decide)) (eo 30 (by decide)) (eo 36 (by decide)) (eo 38 (by decide)) (eo 39 (by decide)) (eo 40 (by decide)) (eo 41 (by decide)), by omega⟩, by omega⟩
  · show (0 : Int) ≤ _; omega
  · show _ ≤ (10 : Int); omega
theorem flg_b (v : Int32) : 0 ≤ flg v ∧ flg v ≤ 1 := by unfold flg; split <;> omega
theorem flg_0 {v : Int32} (h : v = 0) : flg v = 0 := if_pos h
theorem flg_1 {v : Int32} (h : ¬ v = 0) : flg v = 1 := if_neg h
/-- a line that may stand but once -/
theorem rP_22 {x : Nat} {z T : Tr} (h : rP x z T) {i : Nat} (hi : i < 3) {v : Int32} (hv : ¬ v = 0) (h0 : T 22 i = 0) : rP x z (st T 22 i v) ∧ mu z < mu (st T 22 i v) := by
  have eo : ∀ c, ¬ c = 22 → ∀ j, st T 22 i v c j = T c j := fun c hc j => by rw [st_oth hc]
  have em : mu (st T 22 i v) = mu T + 1 := by
    unfold mu
    rw [eo 0 (by decide), eo 0 (by decide), eo 0 (by decide), eo 0 (by decide), eo 36 (by decide), eo 36 (by decide), eo 36 (by decide)]
    rcases (by omega : i = 0 ∨ i = 1 ∨ i = 2) with e | e | e <;> subst e
    · rw [st_same, st_ne (by decide), st_ne (by decide), flg_1 hv, flg_0 h0]; omega
    · rw [st_same, st_ne (by decide), st_ne (by decide), flg_1 hv, flg_0 h0]; omega
    · rw [st_same, st_ne (by decide), st_ne (by decide), flg_1 hv, flg_0 h0]; omega
  have hm := h.2.2.2.2.2
  exact ⟨⟨iR_setU h.1 rfl, aP_set h.2.1 rfl, wK_S (eo 4 (by decide)) h.2.2.1, kP_of h.2.2.2.1 (eo 0 (by decide) 6) (eo 0 (by decide) 7) (eo 0 (by decide) 8) (eo 0 (by decide) 9), hP_eq h.2.2.2.2.1 (eo 0 (by decide) 17) (eo 0 (by decide) 18) (eo 0 (by decide) 19) (eo 0 (by decide) 46) (eo 29 (by decide)) (eo 30 (by decide)) (eo 36 (by decide)) (eo 38 (by decide)) (eo 39 (by decide)) (eo 40 (by decide)) (eo 41 (by decide)), by omega⟩, by omega⟩
/-- a law is begun -/
theorem rP_36 {z T : Tr} (h : rP 3 z T) {w k : Nat} (hi : w < 3) (hk : k = 3 + w) {v : Int32} (hv : ¬ v = 0) (h0 : T 36 k = 0) : rP w z (st T 36 k v) ∧ mu z < mu (st T 36 k v) := by
  have eo : ∀ c, ¬ c = 36 → ∀ j, st T 36 k v c j = T c j := fun c hc j => by rw [st_oth hc]
  have em : mu (st T 36 k v) = mu T + 1 := by
    unfold mu
    rw [eo 0 (by decide), eo 0 (by decide), eo 0 (by decide), eo 0 (by decide), eo 22 (by decide), eo 22 (by decide), eo 22 (by decide)]
    rcases (by omega : k = 3 ∨ k = 4 ∨ k = 5) with e | e | e <;> subst e
    · rw [st_same, st_ne (by decide), st_ne (by decide), flg_1 hv, flg_0 h0]; omega
    · rw [st_same, st_ne (by decide), st_ne (by decide), flg_1 hv, flg_0 h0]; omega
    · rw [st_same, st_ne (by decide), st_ne (by decide), flg_1 hv, flg_0 h0]; omega
  have hm := h.2.2.2.2.2
  have hp := h.2.2.2.2.1
  refine ⟨⟨iR_setU h.1 rfl, aP_set h.2.1 (Wp_36 (by omega)), wK_S (eo 4 (by decide)) h.2.2.1, kP_of h.2.2.2.1 (eo 0 (by decide) 6) (eo 0 (by decide) 7) (eo 0 (by decide) 8) (eo 0 (by decide) 9), ⟨fun i hi hl => ?_, fun p hp1 hl => ?_, fun n => nodeOK_eq (hp.2.2.1 n) (eo 39 (by decide) n) (eo 40 (by decide) n) (eo 41 (by decide) n), fun u hu hx hl => ?_, fun hx => ?_⟩, by omega⟩, by omega⟩
  · rw [eo 30 (by decide), eo 0 (by decide)]; rw [eo 0 (by decide)] at hl; exact hp.1 i hi hl
  · rw [eo 29 (by decide)]; rw [eo 0 (by decide)] at hl; exact hp.2.1 p hp1 hl
  · rw [eo 38 (by decide)]; rw [st_ne (by omega)] at hl; exact hp.2.2.2.1 u hu (by omega) hl
  · omega
/-- a law has been read -/
theorem rP_38 {w k : Nat} {z T : Tr} (h : rP w z T) (hi : w < 3) (hk : k = 3 + w) {v : Int32} (hv : 1 ≤ v.toInt ∧ v.toInt ≤ 64) (he : T 0 19 = T 0 46) : rP 3 z (st T 38 k v) := by
  have eo : ∀ c, ¬ c = 38 → ∀ j, st T 38 k v c j = T c j := fun c hc j => by rw [st_oth hc]
  have em : mu (st T 38 k v) = mu T := mu_eq (eo 0 (by decide) 16) (eo 0 (by decide) 17) (eo 0 (by decide) 18) (eo 0 (by decide) 20) (eo 22 (by decide)) (eo 36 (by decide))
  have hm := h.2.2.2.2.2
  have hp := h.2.2.2.2.1
  refine ⟨iR_set (a := 38) (i := k) h.1 ?_ ?_, aP_set h.2.1 (Wp_38 (by omega)), wK_S (eo 4 (by decide)) h.2.2.1, kP_of h.2.2.2.1 (eo 0 (by decide) 6) (eo 0 (by decide) 7) (eo 0 (by decide) 8) (eo 0 (by decide) 9), ⟨fun i hi hl => ?_, fun p hp1 hl => ?_, fun n => nodeOK_eq (hp.2.2.1 n) (eo 39 (by decide) n) (eo 40 (by decide) n) (eo 41 (by decide) n), fun u hu hx hl => ?_, fun hx => ?_⟩, by omega⟩
  · show (0 : Int) ≤ _; omega
  · show _ ≤ (64 : Int); omega
  · rw [eo 30 (by decide), eo 0 (by decide)]; rw [eo 0 (by decide)] at hl; exact hp.1 i hi hl
  · rw [eo 29 (by decide)]; rw [eo 0 (by decide)] at hl; exact hp.2.1 p hp1 hl
  · rw [eo 36 (by decide)] at hl
    by_cases hu1 : u = w
    · subst hu1; rw [← hk, st_same]; omega
    · rw [st_ne (by omega)]; exact hp.2.2.2.1 u hu hu1 hl
  · rw [eo 0 (by decide), eo 0 (by decide)]; exact he
/-- .. or not -/
theorem rP_38f {w k : Nat} {z T : Tr} (h : rP w z T) (hi : w < 3) (hk : k = 3 + w) {v : Int32} (hv : 0 ≤ v.toInt ∧ v.toInt ≤ 64) : rP w z (st T 38 k v) := by
  have eo : ∀ c, ¬ c = 38 → ∀ j, st T 38 k v c j = T c j := fun c hc j => by rw [st_oth hc]
  have em : mu (st T 38 k v) = mu T := mu_eq (eo 0 (by decide) 16) (eo 0 (by decide) 17) (eo 0 (by decide) 18) (eo 0 (by decide) 20) (eo 22 (by decide)) (eo 36 (by decide))
  have hm := h.2.2.2.2.2
  have hp := h.2.2.2.2.1
  refine ⟨iR_set (a := 38) (i := k) h.1 ?_ ?_, aP_set h.2.1 (Wp_38 (by omega)), wK_S (eo 4 (by decide)) h.2.2.1, kP_of h.2.2.2.1 (eo 0 (by decide) 6) (eo 0 (by decide) 7) (eo 0 (by decide) 8) (eo 0 (by decide) 9), ⟨fun i hi hl => ?_, fun p hp1 hl => ?_, fun n => nodeOK_eq (hp.2.2.1 n) (eo 39 (by decide) n) (eo 40 (by decide) n) (eo 41 (by decide) n), fun u hu hx hl => ?_, fun hx => ?_⟩, by omega⟩
  · show (0 : Int) ≤ _; omega
  · show _ ≤ (64 : Int); omega
  · rw [eo 30 (by decide), eo 0 (by decide)]; rw [eo 0 (by decide)] at hl; exact hp.1 i hi hl
  · rw [eo 29 (by decide)]; rw [eo 0 (by decide)] at hl; exact hp.2.1 p hp1 hl
  · rw [eo 36 (by decide)] at hl
    rw [st_ne (by omega)]; exact hp.2.2.2.1 u hu hx hl
  · omega
/-- a person's strength, before the person counts -/
theorem rP_29 {x : Nat} {z T : Tr} (h : rP x z T) {i : Nat} (v : Int32) (hi : (T 0 17).toInt + 6 ≤ (i : Int)) : rP x z (st T 29 i v) := by
  have b17 : 0 ≤ (T 0 17).toInt ∧ (T 0 17).toInt ≤ 6 := h.1 0 17
  have eo : ∀ c, ¬ c = 29 → ∀ j, st T 29 i v c j = T c j := fun c hc j => by rw [st_oth hc]
  have em : mu (st T 29 i v) = mu T := mu_eq (eo 0 (by decide) 16) (eo 0 (by decide) 17) (eo 0 (by decide) 18) (eo 0 (by decide) 20) (eo 22 (by decide)) (eo 36 (by decide))
  have hm := h.2.2.2.2.2
  have hp := h.2.2.2.2.1
  refine ⟨iR_setU h.1 rfl, aP_set h.2.1 (Wp_29 (by omega)), wK_S (eo 4 (by decide)) h.2.2.1, kP_of h.2.2.2.1 (eo 0 (by decide) 6) (eo 0 (by decide) 7) (eo 0 (by decide) 8) (eo 0 (by decide) 9), ⟨fun i hi hl => ?_, fun p hp1 hl => ?_, fun k => nodeOK_eq (hp.2.2.1 k) (eo 39 (by decide) k) (eo 40 (by decide) k) (eo 41 (by decide) k), fun u hu hx hl => ?_, fun hx => ?_⟩, by omega⟩
  · rw [eo 30 (by decide), eo 0 (by decide)]; rw [eo 0 (by decide)] at hl; exact hp.1 _ hi hl
  · rw [eo 0 (by decide)] at hl
    rw [st_ne (by omega)]; exact hp.2.1 p hp1 hl
  · rw [eo 38 (by decide)]; rw [eo 36 (by decide)] at hl; exact hp.2.2.2.1 u hu hx hl
  · rw [eo 0 (by decide), eo 0 (by decide)]; exact hp.2.2.2.2 hx
/-- a further person -/
theorem rP_17 {x : Nat} {z T : Tr} (h : rP x z T) (h6 : (T 0 17).toInt < 6) (ha : 1 ≤ (T 29 (6 + (T 0 17).toInt.toNat)).toInt) : rP x z (st T 0 17 (T 0 17 + 1)) ∧ mu z < mu (st T 0 17 (T 0 17 + 1)) := by
  have b : 0 ≤ (T 0 17).toInt ∧ (T 0 17).toInt ≤ 6 := h.1 0 17
  have e1 : (T 0 17 + 1).toInt = (T 0 17).toInt + 1 := i_addK rfl (show (1 : Int32).toInt = 1 by decide) (by omega) (by omega)
  have eo : ∀ c, ¬ c = 0 → ∀ j, st T 0 17 (T 0 17 + 1) c j = T c j := fun c hc j => by rw [st_oth hc]
  have em : mu (st T 0 17 (T 0 17 + 1)) = mu T + 1 := by
    unfold mu
    rw [st_same, e1, st_ne (by decide), st_ne (by decide), st_ne (by decide), st_oth (by decide), st_oth (by decide)]; omega
  have hm := h.2.2.2.2.2
  have hp := h.2.2.2.2.1
  refine ⟨⟨iR_set (a := 0) (i := 17) h.1 ?_ ?_, aP_set h.2.1 rfl, wK_S (eo 4 (by decide)) h.2.2.1, kP_of h.2.2.2.1 (st_ne (by decide)) (st_ne (by decide)) (st_ne (by decide)) (st_ne (by decide)), ⟨fun i hi hl => ?_, fun p hp1 hl => ?_, fun k => nodeOK_eq (hp.2.2.1 k) (eo 39 (by decide) k) (eo 40 (by decide) k) (eo 41 (by decide) k), fun u hu hx hl => ?_, fun hx => ?_⟩, by omega⟩, by omega⟩
  · show (0 : Int) ≤ _; omega
  · show _ ≤ (6 : Int); omega
  · rw [st_ne (by decide)] at hl
    rw [eo 30 (by decide), st_same, e1]; have := hp.1 i hi hl; omega
  · rw [st_same, e1] at hl
    rw [eo 29 (by decide)]
    rcases (by omega : (p : Int) < (T 0 17).toInt ∨ (T 0 17).toInt ≤ (p : Int)) with hz | hz
    · exact hp.2.1 p hp1 hz
    · have : p = (T 0 17).toInt.toNat := by omega
      rw [this]; exact ha
  · rw [eo 38 (by decide)]; rw [eo 36 (by decide)] at hl; exact hp.2.2.2.1 u hu hx hl
  · rw [st_ne (by decide), st_ne (by decide)]; exact hp.2.2.2.2 hx
/-- a piece's person, before the piece counts -/
theorem rP_30 {x : Nat} {z T : Tr} (h : rP x z T) {i : Nat} {v : Int32} (hv : 0 ≤ v.toInt ∧ v.toInt ≤ 5) (hi : (T 0 18).toInt + 10 ≤ (i : Int)) : rP x z (st T 30 i v) := by
  have b18 : 0 ≤ (T 0 18).toInt ∧ (T 0 18).toInt ≤ 10 := h.1 0 18
  have eo : ∀ c, ¬ c = 30 → ∀ j, st T 30 i v c j = T c j := fun c hc j => by rw [st_oth hc]
  have em : mu (st T 30 i v) = mu T := mu_eq (eo 0 (by decide) 16) (eo 0 (by decide) 17) (eo 0 (by decide) 18) (eo 0 (by decide) 20) (eo 22 (by decide)) (eo 36 (by decide))
  have hm := h.2.2.2.2.2
  have hp := h.2.2.2.2.1
  refine ⟨iR_set (a := 30) (i := i) h.1 hv.1 hv.2, aP_set h.2.1 (Wp_30 (by omega)), wK_S (eo 4 (by decide)) h.2.2.1, kP_of h.2.2.2.1 (eo 0 (by decide) 6) (eo 0 (by decide) 7) (eo 0 (by decide) 8) (eo 0 (by decide) 9), ⟨fun j hj hl => ?_, fun p hp1 hl => ?_, fun k => nodeOK_eq (hp.2.2.1 k) (eo 39 (by decide) k) (eo 40 (by decide) k) (eo 41 (by decide) k), fun u hu hx hl => ?_, fun hx => ?_⟩, by omega⟩
  · rw [eo 0 (by decide)] at hl
    rw [eo 0 (by decide), st_ne (by omega)]; exact hp.1 _ hj hl
  · rw [eo 29 (by decide)]; rw [eo 0 (by decide)] at hl; exact hp.2.1 p hp1 hl
  · rw [eo 38 (by decide)]; rw [eo 36 (by decide)] at hl; exact hp.2.2.2.1 u hu hx hl
  · rw [eo 0 (by decide), eo 0 (by decide)]; exact hp.2.2.2.2 hx
/-- a further piece -/
theorem rP_18 {x : Nat} {z T : Tr} (h : rP x z T) (h6 : (T 0 18).toInt < 10) (ha : (T 30 (10 + (T 0 18).toInt.toNat)).toInt < (T 0 17).toInt) : rP x z (st T 0 18 (T 0 18 + 1)) ∧ mu z < mu (st T 0 18 (T 0 18 + 1)) := by
  have b : 0 ≤ (T 0 18).toInt ∧ (T 0 18).toInt ≤ 10 := h.1 0 18
  have e1 : (T 0 18 + 1).toInt = (T 0 18).toInt + 1 := i_addK rfl (show (1 : Int32).toInt = 1 by decide) (by omega) (by omega)
  have eo : ∀ c, ¬ c = 0 → ∀ j, st T 0 18 (T 0 18 + 1) c j = T c j := fun c hc j => by rw [st_oth hc]
  have em : mu (st T 0 18 (T 0 18 + 1)) = mu T + 1 := by
    unfold mu
    rw [st_same, e1, st_ne (by decide), st_ne (by decide), st_ne (by decide), st_oth (by decide), st_oth (by decide)]; omega
  have hm := h.2.2.2.2.2
  have hp := h.2.2.2.2.1
  refine ⟨⟨iR_set (a := 0) (i := 18) h.1 ?_ ?_, aP_set h.2.1 rfl, wK_S (eo 4 (by decide)) h.2.2.1, kP_of h.2.2.2.1 (st_ne (by decide)) (st_ne (by decide)) (st_ne (by decide)) (st_ne (by decide)), ⟨fun i hi hl => ?_, fun p hp1 hl => ?_, fun k => nodeOK_eq (hp.2.2.1 k) (eo 39 (by decide) k) (eo 40 (by decide) k) (eo 41 (by decide) k), fun u hu hx hl => ?_, fun hx => ?_⟩, by omega⟩, by omega⟩
  · show (0 : Int) ≤ _; omega
  · show _ ≤ (10 : Int); omega
  · rw [st_same, e1] at hl
    rw [eo 30 (by decide), st_ne (by decide)]
    rcases (by omega : (i : Int) < (T 0 18).toInt ∨ (T 0 18).toInt ≤ (i : Int)) with hz | hz
    · exact hp.1 i hi hz
    · have : i = (T 0 18).toInt.toNat := by omega
      rw [this]; exact ha
  · rw [st_ne (by decide)] at hl
    rw [eo 29 (by decide)]; exact hp.2.1 p hp1 hl
  · rw [eo 38 (by decide)]; rw [eo 36 (by decide)] at hl; exact hp.2.2.2.1 u hu hx hl
  · rw [st_ne (by decide), st_ne (by decide)]; exact hp.2.2.2.2 hx
