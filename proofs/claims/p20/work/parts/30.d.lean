/-! that a function comes to an end, and what then holds -/
def D {ρ : Type} (x : Option ρ) (Q : ρ → Prop) : Prop := ∃ r, x = some r ∧ Q r
section
variable {ρ α α1 α2 α3 α4 α5 α6 α7 : Type} {Q : ρ → Prop}
theorem D_ck {g : Bool} {k : Option ρ} (hg : g = true) (h : D k Q) : D (ck g k) Q := by subst hg; exact h
theorem D_lt {v : α} {k : α → Option ρ} (h : ∀ y, y = v → D (k y) Q) : D (lt v k) Q := h v rfl
theorem D_lte {v y : α} {k : α → Option ρ} (e : v = y) (h : D (k y) Q) : D (lt v k) Q := by rw [← e] at h; exact h
theorem D_bd {x : Option α} {k : α → Option ρ} {Q1 : α → Prop} (h1 : D x Q1) (h : ∀ a, x = some a → Q1 a → D (k a) Q) : D (bd x k) Q := by
  obtain ⟨a, ha, hq⟩ := h1
  obtain ⟨r, hr, hR⟩ := h a ha hq
  exact ⟨r, by rw [ha]; exact hr, hR⟩
theorem D_bd2 {x : Option (α1 × α2)} {k : α1 × α2 → Option ρ} {Q1 : α1 × α2 → Prop} (h1 : D x Q1) (h : ∀ a b, x = some (a, b) → Q1 (a, b) → D (k (a, b)) Q) : D (bd x k) Q := D_bd h1 (fun q => h q.1 q.2)
theorem D_bd3 {x : Option (α1 × α2 × α3)} {k : α1 × α2 × α3 → Option ρ} {Q1 : α1 × α2 × α3 → Prop} (h1 : D x Q1) (h : ∀ a b c, x = some (a, b, c) → Q1 (a, b, c) → D (k (a, b, c)) Q) : D (bd x k) Q := D_bd h1 (fun q => h q.1 q.2.1 q.2.2)
theorem D_bd4 {x : Option (α1 × α2 × α3 × α4)} {k : α1 × α2 × α3 × α4 → Option ρ} {Q1 : α1 × α2 × α3 × α4 → Prop} (h1 : D x Q1) (h : ∀ a b c d, x = some (a, b, c, d) → Q1 (a, b, c, d) → D (k (a, b, c, d)) Q) : D (bd x k) Q := D_bd h1 (fun q => h q.1 q.2.1 q.2.2.1 q.2.2.2)
theorem D_bd5 {x : Option (α1 × α2 × α3 × α4 × α5)} {k : α1 × α2 × α3 × α4 × α5 → Option ρ} {Q1 : α1 × α2 × α3 × α4 × α5 → Prop} (h1 : D x Q1) (h : ∀ a b c d e, x = some (a, b, c, d, e) → Q1 (a, b, c, d, e) → D (k (a, b, c, d, e)) Q) : D (bd x k) Q := D_bd h1 (fun q => h q.1 q.2.1 q.2.2.1 q.2.2.2.1 q.2.2.2.2)
theorem D_bd6 {x : Option (α1 × α2 × α3 × α4 × α5 × α6)} {k : α1 × α2 × α3 × α4 × α5 × α6 → Option ρ} {Q1 : α1 × α2 × α3 × α4 × α5 × α6 → Prop} (h1 : D x Q1) (h : ∀ a b c d e f, x = some (a, b, c, d, e, f) → Q1 (a, b, c, d, e, f) → D (k (a, b, c, d, e, f)) Q) : D (bd x k) Q := D_bd h1 (fun q => h q.1 q.2.1 q.2.2.1 q.2.2.2.1 q.2.2.2.2.1 q.2.2.2.2.2)
theorem D_bd7 {x : Option (α1 × α2 × α3 × α4 × α5 × α6 × α7)} {k : α1 × α2 × α3 × α4 × α5 × α6 × α7 → Option ρ} {Q1 : α1 × α2 × α3 × α4 × α5 × α6 × α7 → Prop} (h1 : D x Q1) (h : ∀ a b c d e f g, x = some (a, b, c, d, e, f, g) → Q1 (a, b, c, d, e, f, g) → D (k (a, b, c, d, e, f, g)) Q) : D (bd x k) Q := D_bd h1 (fun q => h q.1 q.2.1 q.2.2.1 q.2.2.2.1 q.2.2.2.2.1 q.2.2.2.2.2.1 q.2.2.2.2.2.2)
theorem D_ite {c : Prop} {d : Decidable c} {a b : Option ρ} (h1 : c → D a Q) (h2 : ¬ c → D b Q) : D (@ite (Option ρ) c d a b) Q := by
  by_cases hc : c
  · rw [if_pos hc]; exact h1 hc
  · rw [if_neg hc]; exact h2 hc
theorem D_some {r : ρ} (h : Q r) : D (some r) Q := ⟨r, rfl, h⟩
theorem D_mono {x : Option ρ} {Q1 : ρ → Prop} (h1 : D x Q1) (h : ∀ r, Q1 r → Q r) : D x Q := by
  obtain ⟨a, ha, hq⟩ := h1
  exact ⟨a, ha, h a hq⟩
theorem D_and {x : Option ρ} {Q1 Q2 : ρ → Prop} (h1 : D x Q1) (h2 : D x Q2) : D x (fun r => Q1 r ∧ Q2 r) := by
  obtain ⟨a, ha, hq⟩ := h1
  obtain ⟨b, hb, hq2⟩ := h2
  rw [ha] at hb
  cases hb
  exact ⟨a, ha, hq, hq2⟩
end
theorem lp_ind {F : Type} {z : F} {b : F → F} {P : Nat → F → Prop} (h0 : P 0 z) (hs : ∀ n f, P n f → P (n + 1) (b f)) : ∀ N, P N (lpF z b N)
  | 0 => h0
  | n + 1 => hs n _ (lp_ind h0 hs n)
/-! numbers -/
theorem i_bm {x : Int} (h1 : -2147483648 ≤ x) (h2 : x < 2147483648) : x.bmod (2 ^ 32) = x := by
  rw [Int.bmod_def]
  split <;> omega
theorem i_add {a b : Int32} (h1 : -2147483648 ≤ a.toInt + b.toInt) (h2 : a.toInt + b.toInt < 2147483648) : (a + b).toInt = a.toInt + b.toInt := by rw [Int32.toInt_add]; exact i_bm h1 h2
theorem i_sub {a b : Int32} (h1 : -2147483648 ≤ a.toInt - b.toInt) (h2 : a.toInt - b.toInt < 2147483648) : (a - b).toInt = a.toInt - b.toInt := by rw [Int32.toInt_sub]; exact i_bm h1 h2
theorem i_addK {a b : Int32} {x y : Int} (ha : a.toInt = x) (hb : b.toInt = y) (h1 : -2147483648 ≤ x + y) (h2 : x + y < 2147483648) : (a + b).toInt = x + y := by subst ha; subst hb; exact i_add h1 h2
theorem i_subK {a b : Int32} {x y : Int} (ha : a.toInt = x) (hb : b.toInt = y) (h1 : -2147483648 ≤ x - y) (h2 : x - y < 2147483648) : (a - b).toInt = x - y := by subst ha; subst hb; exact i_sub h1 h2
theorem i_mulL {a b : Int32} (k : Int) (hk : a.toInt = k) (h1 : -2147483648 ≤ k * b.toInt) (h2 : k * b.toInt < 2147483648) : (a * b).toInt = k * b.toInt := by rw [Int32.toInt_mul, hk]; exact i_bm h1 h2
theorem i_mulR {a b : Int32} (k : Int) (hk : b.toInt = k) (h1 : -2147483648 ≤ a.toInt * k) (h2 : a.toInt * k < 2147483648) : (a * b).toInt = a.toInt * k := by rw [Int32.toInt_mul, hk]; exact i_bm h1 h2
theorem i_div {a b : Int32} (k : Int) (hk : b.toInt = k) (hp : 0 < k) (h0 : 0 ≤ a.toInt) : (a / b).toInt = a.toInt / k := by
  rw [Int32.toInt_div, hk, Int.tdiv_eq_ediv_of_nonneg h0]
  refine i_bm ?_ ?_
  · have := Int.ediv_nonneg h0 (Int.le_of_lt hp); omega
  · have h1 := Int.ediv_le_self k h0
    have h2 := a.toInt_lt
    omega
theorem i_rem {a b : Int32} (k : Int) (hk : b.toInt = k) (hp : 0 < k) (h0 : 0 ≤ a.toInt) : (a - a / b * b).toInt = a.toInt % k := by
  have h1 := i_div k hk hp h0
  have h2 : (a / b * b).toInt = a.toInt / k * k := by
    rw [Int32.toInt_mul, h1, hk]
    have e1 := Int.ediv_mul_le a.toInt (Int.ne_of_gt hp)
    have e2 := a.toInt_lt
    have e3 := Int.mul_nonneg (Int.ediv_nonneg h0 (Int.le_of_lt hp)) (Int.le_of_lt hp)
    exact i_bm (by omega) (by omega)
  have h3 : a.toInt / k * k ≤ a.toInt := Int.ediv_mul_le a.toInt (Int.ne_of_gt hp)
  have h4 : a.toInt % k = a.toInt - a.toInt / k * k := by
    have := Int.emod_add_mul_ediv a.toInt k
    rw [Int.mul_comm] at this
    omega
  have h5 := Int.emod_nonneg a.toInt (Int.ne_of_gt hp)
  have h6 := a.toInt_lt
  have h7 := Int.mul_nonneg (Int.ediv_nonneg h0 (Int.le_of_lt hp)) (Int.le_of_lt hp)
  rw [Int32.toInt_sub, h2, h4]
  exact i_bm (by omega) (by omega)
theorem i_rng (a : Int32) : -2147483648 ≤ a.toInt ∧ a.toInt < 2147483648 := ⟨a.le_toInt, a.toInt_lt⟩
theorem i_n {i : Int32} {n : Nat} (h0 : 0 ≤ i.toInt) (h1 : i.toInt < (n : Int)) : i.toNatClampNeg < n := by
  have hc : i.toNatClampNeg = i.toInt.toNat := rfl
  omega
theorem i_and255 (x : Int32) : 0 ≤ (x &&& 255).toInt ∧ (x &&& 255).toInt ≤ 255 := by
  have h : ∀ b : BitVec 32, 0 ≤ (b &&& 255#32).toInt ∧ (b &&& 255#32).toInt ≤ 255 := by
    intro b
    have h1 : (b &&& 255#32).toNat ≤ 255 := by rw [BitVec.toNat_and]; exact Nat.and_le_right
    rw [BitVec.toInt_eq_toNat_of_lt (by omega)]
    omega
  exact h x.toBitVec
theorem i_and1 (x : Int32) : 0 ≤ (x &&& 1).toInt ∧ (x &&& 1).toInt ≤ 1 := by
  have h : ∀ b : BitVec 32, 0 ≤ (b &&& 1#32).toInt ∧ (b &&& 1#32).toInt ≤ 1 := by
    intro b
    have h1 : (b &&& 1#32).toNat ≤ 1 := by rw [BitVec.toNat_and]; exact Nat.and_le_right
    rw [BitVec.toInt_eq_toNat_of_lt (by omega)]
    omega
  exact h x.toBitVec
theorem okI_of {i : Int32} {n : Nat} (h0 : 0 ≤ i.toInt) (h1 : i.toInt < (n : Int)) : okI i n = true := by
  simp only [okI, Bool.and_eq_true, decide_eq_true_eq]; exact ⟨h0, h1⟩
theorem okI_to {i : Int32} {n : Nat} (h : okI i n = true) : 0 ≤ i.toInt ∧ i.toInt < (n : Int) := by
  simp only [okI, Bool.and_eq_true, decide_eq_true_eq] at h; exact h
theorem okC_of {sp dp n : Int32} {n0 n1 : Nat} (h1 : 0 ≤ sp.toInt) (h2 : 0 ≤ dp.toInt) (h3 : 0 ≤ n.toInt) (h4 : sp.toInt + n.toInt ≤ (n0 : Int)) (h5 : dp.toInt + n.toInt ≤ (n1 : Int)) : okC sp dp n n0 n1 = true := by
  simp only [okC, Bool.and_eq_true, decide_eq_true_eq]; exact ⟨⟨⟨⟨h1, h2⟩, h3⟩, h4⟩, h5⟩
theorem okB_01 {v : Int32} (h : v.toInt = 0 ∨ v.toInt = 1) : okB v = true := by
  rcases h with h | h
  · have : v = 0 := Int32.toInt_inj.mp (h.trans (by decide)); subst this; rfl
  · have : v = 1 := Int32.toInt_inj.mp (h.trans (by decide)); subst this; rfl
theorem ok_ne {a b : Int32} (h : a.toInt ≠ b.toInt) : (!(a == b)) = true := by
  have : ¬ a = b := fun e => h (by rw [e])
  simpa using this
theorem ok_nel {a b : Int64} (h : ¬ a = b) : (!(a == b)) = true := by simpa using h
theorem lg_ne0 {a : Int64} (h : ¬ lg_cmp a 0 = 0) : ¬ a = 0 := fun e => h (by subst e; decide)
theorem lg_neg0 {a : Int64} (h : ¬ lg_cmp a 0 = 0) : ¬ (-a) = 0 := fun e => lg_ne0 h (by
  have := congrArg (fun z : Int64 => -z) e
  simpa using this)
theorem bindsF_rng (j : Nat) : 0 ≤ (bindsF j).toInt ∧ (bindsF j).toInt ≤ 6 := by
  have h : ∀ k : Fin 40, 0 ≤ (bindsF k).toInt ∧ (bindsF k).toInt ≤ 6 := by decide
  by_cases hj : j < 40
  · exact h ⟨j, hj⟩
  · have : bindsF j = 0 := by
      unfold bindsF
      rw [List.getD_eq_getElem?_getD, List.getElem?_eq_none (by simp; omega)]
      rfl
    rw [this]; decide
/-! bounds of what cells hold -/
abbrev fullB : Int × Int := (-2147483648, 2147483647)
def iR (B : Nat → Nat → Int × Int) (T : Tr) : Prop := ∀ a j, (B a j).1 ≤ (T a j).toInt ∧ (T a j).toInt ≤ (B a j).2
theorem st_same {T : Tr} {a i : Nat} {v : Int32} : st T a i v a i = v := by simp [st, upd]
theorem st_oth {T : Tr} {a b i : Nat} {v : Int32} (h : b ≠ a) : st T a i v b = T b := by
  have : Nat.beq b a = false := by rw [← Bool.not_eq_true]; intro e; exact h (Nat.eq_of_beq_eq_true e)
  simp [st, this]
theorem st_ne {T : Tr} {a i j : Nat} {v : Int32} (h : j ≠ i) : st T a i v a j = T a j := by
  simp [st, upd, h]
theorem stC_same {T : Tr} {a : Nat} {f : Nat → Int32} : stC T a f a = f := by simp [stC]
theorem stC_oth {T : Tr} {a b : Nat} {f : Nat → Int32} (h : b ≠ a) : stC T a f b = T b := by
  have : Nat.beq b a = false := by rw [← Bool.not_eq_true]; intro e; exact h (Nat.eq_of_beq_eq_true e)
  simp [stC, this]
theorem iR_set {B : Nat → Nat → Int × Int} {T : Tr} (h : iR B T) {a i : Nat} {v : Int32} (h1 : (B a i).1 ≤ v.toInt) (h2 : v.toInt ≤ (B a i).2) : iR B (st T a i v) := by
  intro b j
  by_cases hb : b = a
  · subst hb
    by_cases hj : j = i
    · subst hj; rw [st_same]; exact ⟨h1, h2⟩
    · rw [st_ne hj]; exact h b j
  · rw [st_oth hb]; exact h b j
theorem iR_setU {B : Nat → Nat → Int × Int} {T : Tr} (h : iR B T) {a i : Nat} {v : Int32} (e : B a i = fullB) : iR B (st T a i v) := by
  have h1 := v.le_toInt
  have h2 := v.toInt_lt
  refine iR_set h ?_ ?_
  · rw [e]; show (-2147483648 : Int) ≤ _; omega
  · rw [e]; show _ ≤ (2147483647 : Int); omega
theorem iR_cpy {B : Nat → Nat → Int × Int} {T : Tr} (h : iR B T) {a n : Nat} {f : Nat → Int32} (h2 : ∀ j, (B a j).1 ≤ (f j).toInt ∧ (f j).toInt ≤ (B a j).2) : iR B (stC T a (va_cpy f (T a) 0 0 n)) := by
  intro b j
  by_cases hb : b = a
  · subst hb
    rw [stC_same]
    unfold va_cpy
    split
    · simpa using h2 j
    · exact h b j
  · rw [stC_oth hb]; exact h b j
/-! the class's bounds -/
def BT (a j : Nat) : Int × Int := bif Nat.beq a 0 then (bif Nat.beq j 0 then (0, 21) else fullB) else bif Nat.beq a 13 then (-1, 4) else bif Nat.beq a 15 then (-1, 4) else bif Nat.beq a 16 then (0, 9) else bif Nat.beq a 17 then (0, 10) else fullB
def BP (a j : Nat) : Int × Int := bif Nat.beq a 0 then (bif Nat.beq j 0 then (0, 5) else bif Nat.beq j 1 then (0, 6) else bif Nat.beq j 2 then (0, 10) else bif Nat.beq j 3 then (0, 64) else fullB) else bif Nat.beq a 12 then (0, 20) else bif Nat.beq a 14 then (0, 5) else bif Nat.beq a 17 then (-1, 4) else bif Nat.beq a 30 then (bif Nat.beq j 1 then (0, 64) else fullB) else bif Nat.beq a 33 then (bif Nat.beq j 1 then (0, 64) else fullB) else bif Nat.beq a 36 then (bif Nat.beq j 1 then (0, 64) else fullB) else fullB
theorem BP_law {P : Tr} (h : iR BP P) {j : Nat} (hj : j < 3) : 0 ≤ (P (30 + 3 * j) 1).toInt ∧ (P (30 + 3 * j) 1).toInt ≤ 64 := by
  rcases (show j = 0 ∨ j = 1 ∨ j = 2 by omega) with rfl | rfl | rfl
  · exact h 30 1
  · exact h 33 1
  · exact h 36 1
theorem BP_lawset {P : Tr} (h : iR BP P) {j : Nat} (hj : j < 3) {v : Int32} (h1 : 0 ≤ v.toInt) (h2 : v.toInt ≤ 64) : iR BP (st P (30 + 3 * j) 1 v) := by
  rcases (show j = 0 ∨ j = 1 ∨ j = 2 by omega) with rfl | rfl | rfl
  · exact iR_set (a := 30) (i := 1) h h1 h2
  · exact iR_set (a := 33) (i := 1) h h1 h2
  · exact iR_set (a := 36) (i := 1) h h1 h2
theorem BP_knotset {P : Tr} (h : iR BP P) {j i : Nat} (hj : j < 3) {v : Int32} : iR BP (st P (31 + 3 * j) i v) := by
  rcases (show j = 0 ∨ j = 1 ∨ j = 2 by omega) with rfl | rfl | rfl
  · exact iR_setU (a := 31) h rfl
  · exact iR_setU (a := 34) h rfl
  · exact iR_setU (a := 37) h rfl
def BK (a j : Nat) : Int × Int := bif Nat.beq a 0 then (bif Nat.beq j 0 then (0, 700) else bif Nat.beq j 1 then (0, 45) else bif Nat.beq j 6 then (0, 700) else bif Nat.beq j 7 then (0, 702) else fullB) else fullB
def BR (a j : Nat) : Int × Int := bif Nat.beq a 0 then (bif Nat.beq j 8 then (0, 72) else bif Nat.beq j 9 then (0, 8) else fullB) else bif Nat.beq a 8 then (0, 39) else fullB
/-- a number that is read isn't below 0 -/
def nK (K : Tr) : Prop := K 0 1 = 42 → 0 ≤ (K 0 3).toInt
theorem nK_lit {K : Tr} {v : Int32} (h : ¬ v = 42) : nK (st K 0 1 v) := fun hz => absurd hz h
/-! the signs that wait -/
def cO (f : Nat → Int32) : Nat → Nat
  | 0 => 0
  | n + 1 => cO f n + (bif f n == 39 then 1 else 0)
/-- of the signs that wait as many are brackets as are counted, and what binds nothing is one -/
def gO (R : Tr) : Prop := (cO (R 8) (R 0 8).toNatClampNeg : Int) = (R 0 9).toInt ∧ ∀ i, i < (R 0 8).toNatClampNeg → bindsF (R 8 i).toNatClampNeg = 0 → R 8 i = 39
theorem cO_congr {f g : Nat → Int32} : ∀ n : Nat, (∀ i, i < n → f i = g i) → cO f n = cO g n
  | 0, _ => rfl
  | n + 1, h => by
    show cO f n + _ = cO g n + _
    rw [cO_congr n (fun i hi => h i (by omega)), h n (by omega)]
theorem gO_congr {R R1 : Tr} (h : gO R) (e1 : R1 8 = R 8) (e2 : R1 0 8 = R 0 8) (e3 : R1 0 9 = R 0 9) : gO R1 := by
  unfold gO
  rw [e1, e2, e3]
  exact h
theorem gO_zero {R : Tr} (h8 : R 0 8 = 0) (h9 : R 0 9 = 0) : gO R := by
  unfold gO
  rw [h8, h9]
  exact ⟨rfl, fun i hi => absurd hi (Nat.not_lt_zero i)⟩
theorem i_cl {i : Int32} : i.toNatClampNeg = i.toInt.toNat := rfl
/-- a sign is put behind the others -/
theorem gO_push {R R1 : Tr} {x : Int32} {b : Int} (h : gO R) (h0 : 0 ≤ (R 0 8).toInt) (p8 : R1 8 = upd (R 8) (R 0 8).toNatClampNeg x) (p0 : (R1 0 8).toInt = (R 0 8).toInt + 1) (p9 : (R1 0 9).toInt = (R 0 9).toInt + (bif x == 39 then 1 else 0)) (hx : bindsF x.toNatClampNeg = 0 → x = 39) : gO R1 := by
  obtain ⟨h1, h2⟩ := h
  have en : (R1 0 8).toNatClampNeg = (R 0 8).toNatClampNeg + 1 := by rw [i_cl, i_cl]; omega
  have eu : ∀ i, i < (R 0 8).toNatClampNeg → upd (R 8) (R 0 8).toNatClampNeg x i = R 8 i := fun i hi => by
    unfold upd; rw [if_neg (by omega)]
  have eo : upd (R 8) (R 0 8).toNatClampNeg x (R 0 8).toNatClampNeg = x := by unfold upd; rw [if_pos rfl]
  refine ⟨?_, fun i hi hb => ?_⟩
  · rw [en, p8]
    show ((cO _ _ + (bif upd (R 8) (R 0 8).toNatClampNeg x (R 0 8).toNatClampNeg == 39 then 1 else 0) : Nat) : Int) = _
    rw [eo, cO_congr _ eu, p9, ← h1]
    cases x == 39 <;> simp
  · rw [en] at hi
    rw [p8] at hb ⊢
    by_cases hj : i = (R 0 8).toNatClampNeg
    · subst hj
      rw [eo] at hb ⊢
      exact hx hb
    · rw [eu i (by omega)] at hb ⊢
      exact h2 i (by omega) hb
theorem i_top {i : Int32} (h : 1 ≤ i.toInt) : (i - 1).toNatClampNeg + 1 = i.toNatClampNeg ∧ (i - 1).toInt = i.toInt - 1 := by
  have h1 : (1 : Int32).toInt = 1 := by decide
  have h2 := i.toInt_lt
  have h3 := i_sub (a := i) (b := 1) (by omega) (by omega)
  rw [i_cl, i_cl]
  omega
theorem gO_pop {R R1 : Tr} (h : gO R) (h1 : 1 ≤ (R 0 8).toInt) (hn : (bindsF (R 8 ((R 0 8) - 1).toNatClampNeg).toNatClampNeg).toInt ≠ 0) (e : R1 = st R 0 8 ((R 0 8) - 1)) : gO R1 := by
  obtain ⟨g1, g2⟩ := h
  obtain ⟨en, -⟩ := i_top h1
  subst e
  refine ⟨?_, fun i hi hb => g2 i ?_ hb⟩
  · show (cO (R 8) ((R 0 8) - 1).toNatClampNeg : Int) = (R 0 9).toInt
    rw [← g1, ← en]
    show _ = ((cO _ _ + (bif R 8 ((R 0 8) - 1).toNatClampNeg == 39 then 1 else 0) : Nat) : Int)
    have hne : (R 8 ((R 0 8) - 1).toNatClampNeg == 39) = false := by
      cases hq : (R 8 ((R 0 8) - 1).toNatClampNeg == 39) with
      | false => rfl
      | true =>
        exfalso
        rw [eq_of_beq hq] at hn
        exact hn (by decide)
    rw [hne]
    rfl
  · have hi : i < ((R 0 8) - 1).toNatClampNeg := hi
    omega
theorem gO_pos {R : Tr} (h : gO R) (hb : 1 ≤ (R 0 9).toInt) (h0 : 0 ≤ (R 0 8).toInt) : 1 ≤ (R 0 8).toInt := by
  by_cases hz : (R 0 8).toInt = 0
  · exfalso
    have h1 := h.1
    have e : (R 0 8).toNatClampNeg = 0 := by rw [i_cl]; omega
    rw [e] at h1
    have : (cO (R 8) 0 : Int) = 0 := rfl
    omega
  · omega
theorem gO_popB {R R1 R2 : Tr} (h : gO R) (h1 : 1 ≤ (R 0 8).toInt) (hb : 1 ≤ (R 0 9).toInt) (hn : (bindsF (R 8 ((R 0 8) - 1).toNatClampNeg).toNatClampNeg).toInt < 1) (e1 : R1 = st R 0 8 ((R 0 8) - 1)) (e2 : R2 = st R1 0 9 ((R1 0 9) - 1)) : gO R2 := by
  obtain ⟨g1, g2⟩ := h
  obtain ⟨en, -⟩ := i_top h1
  obtain ⟨-, eb⟩ := i_top hb
  subst e1
  subst e2
  have hz : bindsF (R 8 ((R 0 8) - 1).toNatClampNeg).toNatClampNeg = 0 := by
    have := bindsF_rng (R 8 ((R 0 8) - 1).toNatClampNeg).toNatClampNeg
    exact Int32.toInt_inj.mp (show _ = (0 : Int) by omega)
  have ht : R 8 ((R 0 8) - 1).toNatClampNeg = 39 := g2 _ (by omega) hz
  refine ⟨?_, fun i hi hb => g2 i ?_ hb⟩
  · show (cO (R 8) ((R 0 8) - 1).toNatClampNeg : Int) = ((R 0 9) - 1).toInt
    rw [eb, ← g1, ← en]
    show _ = ((cO _ _ + (bif R 8 ((R 0 8) - 1).toNatClampNeg == 39 then 1 else 0) : Nat) : Int) - 1
    rw [ht]
    show _ = ((cO _ _ + 1 : Nat) : Int) - 1
    omega
  · have hi : i < ((R 0 8) - 1).toNatClampNeg := hi
    omega
theorem bindJ {x : Int32} (h : 19 ≤ x.toInt ∧ x.toInt ≤ 20 ∨ 29 ≤ x.toInt ∧ x.toInt ≤ 38) : 1 ≤ (bindsF x.toNatClampNeg).toInt := by
  have hk : ∀ k : Fin 40, (19 ≤ k.val ∧ k.val ≤ 20 ∨ 29 ≤ k.val ∧ k.val ≤ 38) → 1 ≤ (bindsF k).toInt := by decide
  have hc : x.toNatClampNeg = x.toInt.toNat := rfl
  exact hk ⟨x.toNatClampNeg, by omega⟩ (by dsimp only; omega)
theorem bindJ39 {x : Int32} (h : 1 ≤ (bindsF x.toNatClampNeg).toInt) : bindsF x.toNatClampNeg = 0 → x = 39 := fun e => by
  rw [e] at h
  exact absurd h (by decide)
theorem ne39 {x : Int32} (h : 1 ≤ (bindsF x.toNatClampNeg).toInt) : (x == 39) = false := by
  cases hq : (x == 39) with
  | false => rfl
  | true =>
    rw [eq_of_beq hq] at h
    exact absurd h (by decide)
/-! changes, sights, the object's own rows -/
def rB (m : Nat) : Int × Int := bif Nat.blt m 50 then (0, 9) else bif Nat.blt m 55 then (0, 10) else bif Nat.blt m 60 then fullB else bif Nat.blt m 70 then (-1, 4) else fullB
def BC (a j : Nat) : Int × Int := bif Nat.beq a 0 then (bif Nat.beq j 0 then (0, 20) else bif Nat.beq j 1 then (0, 19) else fullB) else bif Nat.beq a 3 then rB (j % 76) else fullB
def BZ (a j : Nat) : Int × Int := bif Nat.beq a 0 then (bif Nat.beq j 0 then (0, 24) else bif Nat.beq j 1 then (-1, 24) else fullB) else bif Nat.beq a 4 then (0, 23) else fullB
def BX (a _j : Nat) : Int × Int := bif Nat.beq a 10 then (0, 9) else fullB
/-- what was seen at a stop is a piece -/
def dZ (Z : Tr) : Prop := ∀ i : Nat, 0 ≤ (Z 3 i).toInt → (Z 4 i).toInt ≤ 9
def z0T (T : Tr) : Prop := T 0 0 = 0
theorem rB_A {m : Nat} (h : m < 50) : rB m = (0, 9) := by
  unfold rB; rw [show Nat.blt m 50 = true from Nat.blt_eq.mpr h]; rfl
theorem rB_B {m : Nat} (h0 : 50 ≤ m) (h : m < 55) : rB m = (0, 10) := by
  rcases (show m = 50 ∨ m = 51 ∨ m = 52 ∨ m = 53 ∨ m = 54 by omega) with rfl | rfl | rfl | rfl | rfl <;> rfl
theorem rB_C {m : Nat} (h0 : 55 ≤ m) (h : m < 60) : rB m = fullB := by
  rcases (show m = 55 ∨ m = 56 ∨ m = 57 ∨ m = 58 ∨ m = 59 by omega) with rfl | rfl | rfl | rfl | rfl <;> rfl
theorem rB_D {m : Nat} (h0 : 60 ≤ m) (h : m < 70) : rB m = (-1, 4) := by
  rcases (show m = 60 ∨ m = 61 ∨ m = 62 ∨ m = 63 ∨ m = 64 ∨ m = 65 ∨ m = 66 ∨ m = 67 ∨ m = 68 ∨ m = 69 by omega) with rfl | rfl | rfl | rfl | rfl | rfl | rfl | rfl | rfl | rfl <;> rfl
theorem rB_E {m : Nat} (h0 : 70 ≤ m) (h : m < 76) : rB m = fullB := by
  rcases (show m = 70 ∨ m = 71 ∨ m = 72 ∨ m = 73 ∨ m = 74 ∨ m = 75 by omega) with rfl | rfl | rfl | rfl | rfl | rfl <;> rfl
theorem full_at (v : Int32) : (-2147483648 : Int) ≤ v.toInt ∧ v.toInt ≤ 2147483647 := by
  have h1 := v.le_toInt
  have h2 := v.toInt_lt
  omega
theorem BC_to {C : Tr} (h : iR BC C) {f : Nat → Int32} {d n : Nat} (hf : ∀ k, k < n → (rB ((d + k) % 76)).1 ≤ (f k).toInt ∧ (f k).toInt ≤ (rB ((d + k) % 76)).2) : iR BC (stC C 3 (va_cpy f (C 3) 0 d n)) := by
  intro b j
  by_cases hb : b = 3
  · subst hb
    rw [stC_same]
    unfold va_cpy
    split
    · rename_i hq
      have := hf (j - d) (by omega)
      rw [show d + (j - d) = j by omega] at this
      rw [Nat.zero_add]
      exact this
    · exact h 3 j
  · rw [stC_oth hb]; exact h b j
theorem BC_fr {C T : Tr} (h : iR BC C) (hT : iR BT T) {a d n : Nat} (hf : ∀ k, k < n → rB ((d + k) % 76) = BT a k) : iR BT (stC T a (va_cpy (C 3) (T a) d 0 n)) := by
  intro b j
  by_cases hb : b = a
  · subst hb
    rw [stC_same]
    unfold va_cpy
    split
    · rename_i hq
      have h1 := h 3 (d + j)
      have h2 : BC 3 (d + j) = rB ((d + j) % 76) := rfl
      rw [h2, hf j (by omega)] at h1
      simpa using h1
    · exact hT b j
  · rw [stC_oth hb]; exact hT b j
theorem i_m76 {x : Int32} {o : Nat} (h0 : 0 ≤ x.toInt) (hm : x.toInt % 76 = (o : Int)) : x.toNatClampNeg % 76 = o := by rw [i_cl]; omega
theorem i_mul5 {a b : Int32} (h0 : 0 ≤ a.toInt) (h1 : a.toInt ≤ 1000000) (h2 : 0 ≤ b.toInt) (h3 : b.toInt ≤ 5) : 0 ≤ (a * b).toInt ∧ (a * b).toInt ≤ 5 * a.toInt := by
  have e : (a * b).toInt = a.toInt * b.toInt := by
    rw [Int32.toInt_mul]
    have h4 := Int.mul_nonneg h0 h2
    have h5 : a.toInt * b.toInt ≤ a.toInt * 5 := Int.mul_le_mul_of_nonneg_left h3 h0
    exact i_bm (by omega) (by omega)
  rw [e]
  have h4 := Int.mul_nonneg h0 h2
  have h5 : a.toInt * b.toInt ≤ a.toInt * 5 := Int.mul_le_mul_of_nonneg_left h3 h0
  omega
theorem i_divv {a b : Int32} (h0 : 0 ≤ a.toInt) (hb : 0 < b.toInt) : 0 ≤ (a / b).toInt ∧ (a / b).toInt ≤ a.toInt := by
  have h1 := i_div (a := a) (b := b) b.toInt rfl hb h0
  have h2 := Int.ediv_nonneg h0 (Int.le_of_lt hb)
  have h3 := Int.ediv_le_self b.toInt h0
  omega
theorem i_remv {a b : Int32} (h0 : 0 ≤ a.toInt) (hb : 0 < b.toInt) : 0 ≤ (a - a / b * b).toInt ∧ (a - a / b * b).toInt < b.toInt := by
  have h1 := i_rem (a := a) (b := b) b.toInt rfl hb h0
  have h2 := Int.emod_nonneg a.toInt (Int.ne_of_gt hb)
  have h3 := Int.emod_lt_of_pos a.toInt hb
  omega
theorem dZ_add {Z : Tr} (h : dZ Z) {n : Nat} {a w : Int32} (hz : 0 ≤ a.toInt → w.toInt ≤ 9) : dZ (st (st Z 3 n a) 4 n w) := by
  intro i hi
  by_cases hn : i = n
  · subst hn
    have e1 : st (st Z 3 i a) 4 i w 3 i = a := by rw [st_oth (by decide), st_same]
    have e2 : st (st Z 3 i a) 4 i w 4 i = w := st_same
    rw [e1] at hi
    rw [e2]
    exact hz hi
  · have e1 : st (st Z 3 n a) 4 n w 3 i = Z 3 i := by rw [st_oth (by decide), st_ne hn]
    have e2 : st (st Z 3 n a) 4 n w 4 i = Z 4 i := by rw [st_ne hn, st_oth (by decide)]
    rw [e1] at hi
    rw [e2]
    exact h i hi
