/-! counting; what an insertion does -/
def cnt (f : Nat → Bool) : Nat → Nat
  | 0 => 0
  | n + 1 => cnt f n + (bif f n then 1 else 0)
theorem cnt_cg {f g : Nat → Bool} : ∀ {n : Nat}, (∀ k, k < n → f k = g k) → cnt f n = cnt g n
  | 0, _ => rfl
  | n + 1, h => by
    show cnt f n + _ = cnt g n + _
    rw [cnt_cg (fun k hk => h k (by omega)), h n (by omega)]
theorem cnt_b {b : Bool} : (bif b then (1 : Nat) else 0) ≤ 1 := by cases b <;> decide
theorem cnt_le {f : Nat → Bool} : ∀ {n : Nat}, cnt f n ≤ n
  | 0 => Nat.le_refl _
  | n + 1 => by
    show cnt f n + _ ≤ n + 1
    have := cnt_le (f := f) (n := n)
    have := cnt_b (b := f n)
    omega
theorem cnt_0 {f : Nat → Bool} : ∀ {n : Nat}, (∀ k, k < n → f k = false) → cnt f n = 0
  | 0, _ => rfl
  | n + 1, h => by
    show cnt f n + _ = 0
    rw [cnt_0 (fun k hk => h k (by omega)), h n (by omega)]
    rfl
theorem cnt_seg {f : Nat → Bool} {k : Nat} : ∀ {n : Nat}, k ≤ n → (∀ q, q < k → f q = true) → (∀ q, k ≤ q → q < n → f q = false) → cnt f n = k
  | 0, h, _, _ => by
    show 0 = k
    omega
  | n + 1, h, h1, h2 => by
    show cnt f n + _ = k
    by_cases c : k ≤ n
    · rw [cnt_seg c h1 (fun q q1 q2 => h2 q q1 (by omega)), h2 n c (by omega)]
      rfl
    · have e : k = n + 1 := by omega
      subst e
      rw [cnt_seg (k := n) (n := n) (Nat.le_refl _) (fun q hq => h1 q (by omega)) (fun q q1 q2 => absurd q2 (by omega)), h1 n (by omega)]
      rfl
theorem cnt_mono {f g : Nat → Bool} : ∀ {n : Nat}, (∀ k, k < n → f k = true → g k = true) → cnt f n ≤ cnt g n
  | 0, _ => Nat.le_refl _
  | n + 1, h => by
    show cnt f n + (bif f n then 1 else 0) ≤ cnt g n + (bif g n then 1 else 0)
    have ih := cnt_mono (f := f) (g := g) (n := n) (fun k hk => h k (by omega))
    cases hf : f n with
    | false =>
      have : (bif false then (1 : Nat) else 0) = 0 := rfl
      omega
    | true =>
      rw [h n (by omega) hf]
      have : (bif true then (1 : Nat) else 0) = 1 := rfl
      omega
theorem cnt_slt {f g : Nat → Bool} {j : Nat} : ∀ {n : Nat}, (∀ k, k < n → f k = true → g k = true) → j < n → f j = false → g j = true → cnt f n < cnt g n
  | 0, _, h, _, _ => absurd h (by omega)
  | n + 1, h, hj, h1, h2 => by
    show cnt f n + (bif f n then 1 else 0) < cnt g n + (bif g n then 1 else 0)
    by_cases c : j = n
    · subst c
      have ih := cnt_mono (f := f) (g := g) (n := j) (fun k hk => h k (by omega))
      rw [h1, h2]
      have : (bif true then (1 : Nat) else 0) = 1 := rfl
      have : (bif false then (1 : Nat) else 0) = 0 := rfl
      omega
    · have ih := cnt_slt (f := f) (g := g) (j := j) (n := n) (fun k hk => h k (by omega)) (by omega) h1 h2
      cases hf : f n with
      | false =>
        have : (bif false then (1 : Nat) else 0) = 0 := rfl
        omega
      | true =>
        rw [h n (by omega) hf]
        omega
theorem cnt_rm (f : Nat → Bool) (l : Nat) : ∀ n, l ≤ n → cnt f (n + 1) = cnt (fun k => if l ≤ k then f (k + 1) else f k) n + (bif f l then 1 else 0)
  | 0, h => by
    have : l = 0 := by omega
    subst this
    rfl
  | n + 1, h => by
    show cnt f (n + 1) + (bif f (n + 1) then 1 else 0) = cnt (fun k => if l ≤ k then f (k + 1) else f k) n + (bif (if l ≤ n then f (n + 1) else f n) then 1 else 0) + (bif f l then 1 else 0)
    by_cases c : l ≤ n
    · rw [cnt_rm f l n c, if_pos c]
      omega
    · have e : l = n + 1 := by omega
      subst e
      rw [if_neg (by omega), cnt_cg (f := fun k => if n + 1 ≤ k then f (k + 1) else f k) (g := f) (n := n) (fun k hk => if_neg (by omega))]
      rfl
/-- the first i of a stack, put in order -/
def insI (ky : Nat → Int) (g r : Nat → Nat) (i : Nat) : Prop := (∀ q, q < i → ∃ j, j < i ∧ r q = g j) ∧ (∀ q q', q < q' → q' < i → ky (r q') < ky (r q)) ∧ (∀ c : Int, cnt (fun m => decide (c < ky (g m))) i = cnt (fun m => decide (c < ky (r m))) i) ∧ ∀ w : Nat → Int32, wsm (fun m => w (g m)) i = wsm (fun m => w (r m)) i
theorem insI_cg {ky : Nat → Int} {g r r1 : Nat → Nat} {i : Nat} (h : insI ky g r i) (e : ∀ q, q < i → r1 q = r q) : insI ky g r1 i := by
  obtain ⟨h1, h2, h3, h4⟩ := h
  refine ⟨fun q hq => ?_, fun q q' a b => ?_, fun c => ?_, fun w => ?_⟩
  · rw [e q hq]; exact h1 q hq
  · rw [e q (by omega), e q' b]; exact h2 q q' a b
  · rw [h3 c]
    exact cnt_cg (fun k hk => by show decide (c < ky (r k)) = decide (c < ky (r1 k)); rw [e k hk])
  · rw [h4 w]
    exact wsm_cg (fun k hk => by show w (r k) = w (r1 k); rw [e k hk])
theorem ins_step {ky : Nat → Int} {g r r1 : Nat → Nat} {i l : Nat} (h : insI ky g r i) (hl : l ≤ i) (e1 : ∀ q, q < l → r1 q = r q) (e2 : r1 l = g i) (e3 : ∀ q, l < q → q ≤ i → r1 q = r (q - 1)) (u1 : ∀ q, q < l → ky (g i) < ky (r q)) (u2 : ∀ q, l ≤ q → q < i → ky (r q) < ky (g i)) : insI ky g r1 (i + 1) := by
  obtain ⟨h1, h2, h3, h4⟩ := h
  refine ⟨fun q hq => ?_, fun q q' a b => ?_, fun c => ?_, fun w => ?_⟩
  · rcases (by omega : q < l ∨ q = l ∨ l < q) with g1 | g1 | g1
    · obtain ⟨j, j1, j2⟩ := h1 q (by omega)
      exact ⟨j, by omega, by rw [e1 q g1]; exact j2⟩
    · subst g1; exact ⟨i, by omega, e2⟩
    · obtain ⟨j, j1, j2⟩ := h1 (q - 1) (by omega)
      exact ⟨j, by omega, by rw [e3 q g1 (by omega)]; exact j2⟩
  · rcases (by omega : q' < l ∨ q' = l ∨ l < q') with g1 | g1 | g1
    · rw [e1 q (by omega), e1 q' g1]; exact h2 q q' a (by omega)
    · subst g1; rw [e2, e1 q a]; exact u1 q a
    · rw [e3 q' g1 (by omega)]
      rcases (by omega : q < l ∨ q = l ∨ l < q) with g2 | g2 | g2
      · rw [e1 q g2]; exact h2 q (q' - 1) (by omega) (by omega)
      · subst g2; rw [e2]; exact u2 (q' - 1) (by omega) (by omega)
      · rw [e3 q g2 (by omega)]; exact h2 (q - 1) (q' - 1) (by omega) (by omega)
  · rw [cnt_rm (fun m => decide (c < ky (r1 m))) l i hl]
    show cnt (fun m => decide (c < ky (g m))) i + (bif decide (c < ky (g i)) then 1 else 0) = _ + (bif decide (c < ky (r1 l)) then 1 else 0)
    rw [e2, h3 c]
    refine congrArg (· + _) (cnt_cg (fun k hk => ?_))
    show decide (c < ky (r k)) = if l ≤ k then decide (c < ky (r1 (k + 1))) else decide (c < ky (r1 k))
    by_cases d : l ≤ k
    · rw [if_pos d, e3 (k + 1) (by omega) (by omega), Nat.add_sub_cancel]
    · rw [if_neg d, e1 k (by omega)]
  · have x := wsm_rm (fun m => w (r1 m)) l i hl
    show wsm (fun m => w (g m)) i + w (g i) = _
    rw [← x, e2, h4 w]
    refine congrArg (· + _) (wsm_cg (fun k hk => ?_))
    show w (r k) = if l ≤ k then w (r1 (k + 1)) else w (r1 k)
    by_cases d : l ≤ k
    · rw [if_pos d, e3 (k + 1) (by omega) (by omega), Nat.add_sub_cancel]
    · rw [if_neg d, e1 k (by omega)]
/-- how many lie below one -/
def rnk (ky : Nat → Int) (g : Nat → Nat) (n x : Nat) : Nat := cnt (fun m => decide (ky x < ky (g m))) n
theorem ins_end {ky : Nat → Int} {g r : Nat → Nat} {n : Nat} (h : insI ky g r n) {k : Nat} (hk : k < n) : (∃ j, j < n ∧ r k = g j) ∧ rnk ky g n (r k) = k := by
  obtain ⟨h1, h2, h3, _⟩ := h
  refine ⟨h1 k hk, ?_⟩
  unfold rnk
  rw [h3 (ky (r k))]
  refine cnt_seg (by omega) (fun q hq => decide_eq_true (h2 q k hq hk)) (fun q q1 q2 => decide_eq_false (fun c => ?_))
  rcases (by omega : q = k ∨ k < q) with e | e
  · subst e; exact Int.lt_irrefl _ c
  · exact Int.lt_irrefl _ (Int.lt_trans c (h2 k q e q2))
theorem rnk_lt {ky : Nat → Int} {g : Nat → Nat} {n j k : Nat} (hj : j < n) (h : ky (g k) < ky (g j)) : rnk ky g n (g j) < rnk ky g n (g k) := by
  unfold rnk
  exact cnt_slt (j := j) (fun m hm a => decide_eq_true (Int.lt_trans h (of_decide_eq_true a))) hj (decide_eq_false (Int.lt_irrefl _)) (decide_eq_true h)
theorem rnk_ne {ky : Nat → Int} {g : Nat → Nat} {n j k : Nat} (hj : j < n) (hk : k < n) (h : ¬ ky (g j) = ky (g k)) : ¬ rnk ky g n (g j) = rnk ky g n (g k) := fun e => by
  rcases (by omega : ky (g j) < ky (g k) ∨ ky (g k) < ky (g j)) with c | c
  · have := rnk_lt (n := n) hk c; omega
  · have := rnk_lt (n := n) hj c; omega
theorem rnk_bd {ky : Nat → Int} {g : Nat → Nat} {n j : Nat} (hj : j < n) : rnk ky g n (g j) < n := by
  unfold rnk
  have h := cnt_slt (f := fun m => decide (ky (g j) < ky (g m))) (g := fun _ => true) (j := j) (n := n) (fun _ _ _ => rfl) hj (decide_eq_false (Int.lt_irrefl _)) rfl
  have e := cnt_le (f := fun _ => true) (n := n)
  omega
theorem insI_1 {ky : Nat → Int} {g r : Nat → Nat} (h : r 0 = g 0) : insI ky g r 1 := by
  refine ⟨fun q hq => ⟨0, by omega, by rw [show q = 0 by omega]; exact h⟩, fun q q' a b => absurd a (by omega), fun c => ?_, fun w => ?_⟩
  · show 0 + (bif decide (c < ky (g 0)) then 1 else 0) = 0 + (bif decide (c < ky (r 0)) then 1 else 0)
    rw [h]
  · show 0 + w (g 0) = 0 + w (r 0)
    rw [h]
theorem insI_0 {ky : Nat → Int} {g r : Nat → Nat} : insI ky g r 0 := ⟨fun q hq => absurd hq (by omega), fun q q' a b => absurd b (by omega), fun _ => rfl, fun _ => rfl⟩
