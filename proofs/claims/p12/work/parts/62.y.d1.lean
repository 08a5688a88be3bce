/-! words: packed alike -/
theorem i_nn {x : Int32} (h : 0 ≤ x.toInt) : x.toInt = (x.toBitVec.toNat : Int) ∧ x.toBitVec.toNat < 2147483648 := by
  have e : x.toInt = x.toBitVec.toInt := rfl
  have hl := x.toBitVec.isLt
  rw [e, BitVec.toInt_eq_toNat_cond] at h ⊢
  split at h <;> rename_i g
  · rw [if_pos g]; exact ⟨rfl, by omega⟩
  · exfalso; omega
theorem i_of {x : Int32} {n : Nat} (h : x.toBitVec.toNat = n) (hn : n < 2147483648) : x.toInt = n := by
  have e : x.toInt = x.toBitVec.toInt := rfl
  rw [e, BitVec.toInt_eq_toNat_cond, h, if_pos (by omega)]
theorem shN {x s : Int32} {k : Nat} (hs : s.toBitVec.smod 32 = BitVec.ofNat 32 k) (hk : k < 32) : (x <<< s).toBitVec = x.toBitVec <<< k := by
  rw [Int32.toBitVec_shiftLeft, hs]
  apply BitVec.eq_of_toNat_eq
  simp only [BitVec.shiftLeft_eq', BitVec.toNat_shiftLeft, BitVec.toNat_ofNat]
  rw [Nat.mod_eq_of_lt (show k < 2 ^ 32 by omega)]
theorem shT {x s : Int32} {k : Nat} (hs : s.toBitVec.smod 32 = BitVec.ofNat 32 k) (hk : k < 32) (hx : 0 ≤ x.toInt) (hb : x.toInt * (2 ^ k : Nat) < 2147483648) : (x <<< s).toInt = x.toInt * (2 ^ k : Nat) := by
  obtain ⟨e1, e2⟩ := i_nn hx
  have e3 : x.toBitVec.toNat * 2 ^ k < 2147483648 := by
    rw [e1, ← Int.natCast_mul] at hb; omega
  have e4 : (x <<< s).toBitVec.toNat = x.toBitVec.toNat * 2 ^ k := by
    rw [shN hs hk, BitVec.toNat_shiftLeft, Nat.shiftLeft_eq, Nat.mod_eq_of_lt (by omega)]
  rw [i_of e4 e3, e1, Int.natCast_mul]
theorem sh5 {x v : Int32} (hx : 0 ≤ x.toInt ∧ x.toInt < 33554432) (hv : 0 ≤ v.toInt ∧ v.toInt < 32) : ((x <<< ((5 : Int32) &&& 31)) ||| v).toInt = x.toInt * 32 + v.toInt := by
  obtain ⟨e1, e2⟩ := i_nn hx.1
  obtain ⟨f1, f2⟩ := i_nn hv.1
  have e3 : (x <<< ((5 : Int32) &&& 31)).toBitVec.toNat = x.toBitVec.toNat <<< 5 := by
    rw [shN (k := 5) (by decide) (by decide), BitVec.toNat_shiftLeft, Nat.mod_eq_of_lt (by rw [Nat.shiftLeft_eq]; omega)]
  have e4 : ((x <<< ((5 : Int32) &&& 31)) ||| v).toBitVec.toNat = x.toBitVec.toNat * 32 + v.toBitVec.toNat := by
    rw [Int32.toBitVec_or, BitVec.toNat_or, e3, ← Nat.shiftLeft_add_eq_or_of_lt (by omega), Nat.shiftLeft_eq]
  rw [i_of e4 (by omega), e1, f1]
  omega
def pkL (f : Nat → Int) : Nat → Int
  | 0 => 0
  | n + 1 => pkL f n * 32 + f n
theorem pkL_cg {f g : Nat → Int} : ∀ {n : Nat}, (∀ i, i < n → f i = g i) → pkL f n = pkL g n
  | 0, _ => rfl
  | n + 1, h => by
    show pkL f n * 32 + f n = pkL g n * 32 + g n
    rw [pkL_cg (fun i hi => h i (Nat.lt_succ_of_lt hi)), h n (Nat.lt_succ_self n)]
theorem pkL_inj {f g : Nat → Int} : ∀ {n : Nat}, (∀ i, i < n → 0 ≤ f i ∧ f i < 32) → (∀ i, i < n → 0 ≤ g i ∧ g i < 32) → pkL f n = pkL g n → ∀ i, i < n → f i = g i
  | 0, _, _, _, i, hi => absurd hi (Nat.not_lt_zero i)
  | n + 1, hf, hg, e, i, hi => by
    have e : pkL f n * 32 + f n = pkL g n * 32 + g n := e
    have h1 := hf n (Nat.lt_succ_self n)
    have h2 := hg n (Nat.lt_succ_self n)
    rcases Nat.lt_succ_iff_lt_or_eq.mp hi with q | q
    · exact pkL_inj (fun i hi => hf i (Nat.lt_succ_of_lt hi)) (fun i hi => hg i (Nat.lt_succ_of_lt hi)) (by omega) i q
    · subst q; omega
theorem pkL_bd {f : Nat → Int} : ∀ {n : Nat}, (∀ i, i < n → 0 ≤ f i ∧ f i < 32) → 0 ≤ pkL f n ∧ pkL f n < 32 ^ n
  | 0, _ => ⟨Int.le_refl 0, by show (0 : Int) < 32 ^ 0; decide⟩
  | n + 1, h => by
    have h1 := pkL_bd (f := f) (n := n) (fun i hi => h i (Nat.lt_succ_of_lt hi))
    have h2 := h n (Nat.lt_succ_self n)
    show 0 ≤ pkL f n * 32 + f n ∧ pkL f n * 32 + f n < 32 ^ (n + 1)
    rw [Int.pow_succ]
    constructor <;> omega
/-- the letters of the word that begins at a and has n letters, behind them noughts -/
def ltr (T : Tr) (a n i : Nat) : Int := if i < n then (T 1 (a + i)).toInt - 96 else 0
theorem pk_pad {f : Nat → Int} {n : Nat} (hn : n ≤ 6) (h : ∀ i, n ≤ i → f i = 0) : pkL f 6 = pkL f n * (2 ^ (5 * (6 - n)) : Nat) := by
  have : n = 0 ∨ n = 1 ∨ n = 2 ∨ n = 3 ∨ n = 4 ∨ n = 5 ∨ n = 6 := by omega
  rcases this with rfl | rfl | rfl | rfl | rfl | rfl | rfl
  · simp [pkL, h 0 (by omega), h 1 (by omega), h 2 (by omega), h 3 (by omega), h 4 (by omega), h 5 (by omega)]
  · simp [pkL, h 1 (by omega), h 2 (by omega), h 3 (by omega), h 4 (by omega), h 5 (by omega)]; omega
  · simp [pkL, h 2 (by omega), h 3 (by omega), h 4 (by omega), h 5 (by omega)]; omega
  · simp [pkL, h 3 (by omega), h 4 (by omega), h 5 (by omega)]; omega
  · simp [pkL, h 4 (by omega), h 5 (by omega)]; omega
  · simp [pkL, h 5 (by omega)]
  · simp
