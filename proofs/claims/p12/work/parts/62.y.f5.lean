/-! how many bits: as numbers -/
theorem and256 {a b c d : Nat} (ha : a < 256) (hc : c < 256) : (a + 256 * b) &&& (c + 256 * d) = (a &&& c) + 256 * (b &&& d) := by
  have m : ((a + 256 * b) &&& (c + 256 * d)) % 256 = a &&& c := by
    have := Nat.and_mod_two_pow (a := a + 256 * b) (b := c + 256 * d) (n := 8)
    rw [show 2 ^ 8 = 256 from rfl] at this
    rw [this, show (a + 256 * b) % 256 = a by omega, show (c + 256 * d) % 256 = c by omega]
  have q : ((a + 256 * b) &&& (c + 256 * d)) / 256 = b &&& d := by
    have := Nat.and_div_two_pow (a := a + 256 * b) (b := c + 256 * d) (n := 8)
    rw [show 2 ^ 8 = 256 from rfl] at this
    rw [this, show (a + 256 * b) / 256 = b by omega, show (c + 256 * d) / 256 = d by omega]
  have := Nat.div_add_mod ((a + 256 * b) &&& (c + 256 * d)) 256
  rw [m, q] at this
  omega
def pA1 (a : Nat) : Nat := a - ((a / 2) &&& 85)
def pA2 (a : Nat) : Nat := (pA1 a &&& 51) + ((pA1 a / 4) &&& 51)
def pA3 (a : Nat) : Nat := (pA2 a + pA2 a / 16) % 16
def pM1 (m : Nat) : Nat := m - ((m / 2) &&& 5592405)
def pM2 (m : Nat) : Nat := (pM1 m &&& 3355443) + ((pM1 m / 4) &&& 3355443)
def pM3 (m : Nat) : Nat := (pM2 m + pM2 m / 16) &&& 986895
def pH (m : Nat) : Nat := pM3 m % 256 + pM3 m / 256
def pc1 (n : Nat) : Nat := n - ((n / 2) &&& 1431655765)
def pc2 (n : Nat) : Nat := (pc1 n &&& 858993459) + ((pc1 n / 4) &&& 858993459)
def pc3 (n : Nat) : Nat := (pc2 n + pc2 n / 16) &&& 252645135
def pc4 (n : Nat) : Nat := pc3 n + pc3 n / 256
def pc5 (n : Nat) : Nat := pc4 n + pc4 n / 65536
theorem pA_0 : ∀ x, x < 16 → ∀ y, y < 16 → ∀ e, e < 2 → ((x + 16 * y) / 2 + 128 * e) &&& 85 = ((x + 16 * y) / 2) &&& 85 := by decide +kernel
theorem pA_1 : ∀ x, x < 16 → ∀ y, y < 16 → pA1 (x + 16 * y) < 256 ∧ ((x + 16 * y) / 2) &&& 85 ≤ x + 16 * y ∧ pA2 (x + 16 * y) ≤ 68 ∧ pA3 (x + 16 * y) ≤ 8 := by decide +kernel
theorem pA_2 : ∀ x, x < 16 → ∀ y, y < 16 → ∀ e, e < 4 → (pA1 (x + 16 * y) / 4 + 64 * e) &&& 51 = (pA1 (x + 16 * y) / 4) &&& 51 := by decide +kernel
theorem pM_1 : ∀ x, x < 64 → ∀ y, y < 64 → (((x + 64 * y) / 2) &&& 5592405) ≤ x + 64 * y ∧ pM2 (x + 64 * y) % 16 ≤ 4 ∧ pM3 (x + 64 * y) % 256 ≤ 8 ∧ pM3 (x + 64 * y) / 256 ≤ 8 ∧ pM2 (x + 64 * y) < 65536 ∧ pM1 (x + 64 * y) < 65536 := by decide +kernel
theorem pA_s : ∀ x, x < 16 → ∀ y, y < 16 → ∀ t, t < 8 → (x + 16 * y) / 2 ^ t % 2 = 0 → pA3 (x + 16 * y + 2 ^ t) = pA3 (x + 16 * y) + 1 ∧ x + 16 * y + 2 ^ t < 256 := by decide +kernel
theorem pM_s : ∀ x, x < 64 → ∀ y, y < 64 → ∀ t, t < 12 → (x + 64 * y) / 2 ^ t % 2 = 0 → pH (x + 64 * y + 2 ^ t) = pH (x + 64 * y) + 1 ∧ x + 64 * y + 2 ^ t < 4096 := by decide +kernel
theorem sp16 {a : Nat} (h : a < 256) : ∃ x y, x < 16 ∧ y < 16 ∧ a = x + 16 * y := ⟨a % 16, a / 16, by omega, by omega, by omega⟩
theorem sp64 {a : Nat} (h : a < 4096) : ∃ x y, x < 64 ∧ y < 64 ∧ a = x + 64 * y := ⟨a % 64, a / 64, by omega, by omega, by omega⟩
theorem pc_sp {a m : Nat} (ha : a < 256) (hm : m < 4096) : pc1 (a + 256 * m) = pA1 a + 256 * pM1 m ∧ pc2 (a + 256 * m) = pA2 a + 256 * pM2 m ∧ pc3 (a + 256 * m) = pA3 a + 256 * pM3 m ∧ pc5 (a + 256 * m) &&& 63 = pA3 a + pH m := by
  obtain ⟨x, y, hx, hy, rfl⟩ := sp16 ha
  obtain ⟨u, v, hu, hv, rfl⟩ := sp64 hm
  have a1 := pA_1 x hx y hy
  have m1 := pM_1 u hu v hv
  have a0 := pA_0 x hx y hy ((u + 64 * v) % 2) (by omega)
  have a2 := pA_2 x hx y hy (pM1 (u + 64 * v) % 4) (by omega)
  generalize x + 16 * y = a at *
  generalize u + 64 * v = m at *
  have e1 : pc1 (a + 256 * m) = pA1 a + 256 * pM1 m := by
    have z : ((a + 256 * m) / 2) &&& 1431655765 = ((a / 2) &&& 85) + 256 * ((m / 2) &&& 5592405) := by
      rw [show (a + 256 * m) / 2 = (a / 2 + 128 * (m % 2)) + 256 * (m / 2) by omega, show 1431655765 = 85 + 256 * 5592405 by omega, and256 (by omega) (by omega), a0]
    unfold pc1 pA1 pM1
    rw [z]
    omega
  have e2 : pc2 (a + 256 * m) = pA2 a + 256 * pM2 m := by
    have z : ((pA1 a + 256 * pM1 m) / 4) &&& 858993459 = ((pA1 a / 4) &&& 51) + 256 * ((pM1 m / 4) &&& 3355443) := by
      rw [show (pA1 a + 256 * pM1 m) / 4 = (pA1 a / 4 + 64 * (pM1 m % 4)) + 256 * (pM1 m / 4) by omega, show 858993459 = 51 + 256 * 3355443 by omega, and256 (by omega) (by omega), a2]
    have w : (pA1 a + 256 * pM1 m) &&& 858993459 = (pA1 a &&& 51) + 256 * (pM1 m &&& 3355443) := by
      rw [show 858993459 = 51 + 256 * 3355443 by omega, and256 (by omega) (by omega)]
    unfold pc2 pA2 pM2
    rw [e1, z, w]
    omega
  have e3 : pc3 (a + 256 * m) = pA3 a + 256 * pM3 m := by
    unfold pc3
    rw [e2, show pA2 a + 256 * pM2 m + (pA2 a + 256 * pM2 m) / 16 = (pA2 a + pA2 a / 16 + 16 * (pM2 m % 16)) + 256 * (pM2 m + pM2 m / 16) by omega, show 252645135 = 15 + 256 * 986895 by omega, and256 (by omega) (by omega)]
    have z : (pA2 a + pA2 a / 16 + 16 * (pM2 m % 16)) &&& 15 = pA3 a := by
      have := Nat.and_two_pow_sub_one_eq_mod (pA2 a + pA2 a / 16 + 16 * (pM2 m % 16)) 4
      rw [show 2 ^ 4 - 1 = 15 from rfl, show 2 ^ 4 = 16 from rfl] at this
      rw [this]
      unfold pA3
      omega
    rw [z]
    rfl
  refine ⟨e1, e2, e3, ?_⟩
  have := Nat.and_two_pow_sub_one_eq_mod (pc5 (a + 256 * m)) 6
  rw [show 2 ^ 6 - 1 = 63 from rfl, show 2 ^ 6 = 64 from rfl] at this
  rw [this]
  unfold pc5 pc4 pH
  rw [e3]
  obtain ⟨p0, p1, hp, h0, h1⟩ : ∃ p0 p1, pM3 m = p0 + 256 * p1 ∧ p0 ≤ 8 ∧ p1 ≤ 8 := ⟨pM3 m % 256, pM3 m / 256, by omega, by omega, by omega⟩
  have hA : pA3 a ≤ 8 := by omega
  rw [hp]
  generalize pA3 a = A at hA ⊢
  rw [show (A + 256 * (p0 + 256 * p1)) / 256 = p0 + 256 * p1 by omega, show (A + 256 * (p0 + 256 * p1) + (p0 + 256 * p1)) / 65536 = p1 by omega, show A + 256 * (p0 + 256 * p1) + (p0 + 256 * p1) + p1 = (A + p0 + p1) + 64 * (4 * p0 + 1028 * p1) by omega, Nat.add_mul_mod_self_left, Nat.mod_eq_of_lt (by omega), show (p0 + 256 * p1) % 256 = p0 by omega, show (p0 + 256 * p1) / 256 = p1 by omega]
  omega
/-- a bit more -/
theorem pc_set {n t : Nat} (hn : n < 1048576) (ht : t < 20) (hb : n / 2 ^ t % 2 = 0) : pc5 (n + 2 ^ t) &&& 63 = (pc5 n &&& 63) + 1 ∧ n + 2 ^ t < 1048576 := by
  obtain ⟨a, m, ha, hm, rfl⟩ : ∃ a m, a < 256 ∧ m < 4096 ∧ n = a + 256 * m := ⟨n % 256, n / 256, by omega, by omega, by omega⟩
  rw [(pc_sp ha hm).2.2.2]
  by_cases c : t < 8
  · obtain ⟨x, y, hx, hy, rfl⟩ := sp16 ha
    have hb2 : (x + 16 * y) / 2 ^ t % 2 = 0 := by
      rcases (by omega : t = 0 ∨ t = 1 ∨ t = 2 ∨ t = 3 ∨ t = 4 ∨ t = 5 ∨ t = 6 ∨ t = 7) with rfl | rfl | rfl | rfl | rfl | rfl | rfl | rfl <;> omega
    obtain ⟨s1, s2⟩ := pA_s x hx y hy t c hb2
    rw [show x + 16 * y + 256 * m + 2 ^ t = (x + 16 * y + 2 ^ t) + 256 * m by omega, (pc_sp s2 hm).2.2.2, s1]
    omega
  · obtain ⟨u, v, hu, hv, rfl⟩ := sp64 hm
    obtain ⟨s, rfl⟩ : ∃ s, t = 8 + s := ⟨t - 8, by omega⟩
    have h8 : 2 ^ (8 + s) = 256 * 2 ^ s := by rw [Nat.pow_add]
    have hb2 : (u + 64 * v) / 2 ^ s % 2 = 0 := by
      rw [h8, ← Nat.div_div_eq_div_mul, show (a + 256 * (u + 64 * v)) / 256 = u + 64 * v by omega] at hb
      exact hb
    obtain ⟨s1, s2⟩ := pM_s u hu v hv s (by omega) hb2
    rw [h8, show a + 256 * (u + 64 * v) + 256 * 2 ^ s = a + 256 * (u + 64 * v + 2 ^ s) by omega, (pc_sp ha s2).2.2.2, s1]
    omega
/-! and as the machine has it -/
theorem nn_of {x : Int32} {n : Nat} (h : x.toBitVec.toNat = n) (hn : n < 2147483648) : x.toInt = n := i_of h hn
theorem sr_n {x : Int32} {k : Nat} {s : UInt32} (hs : s.toBitVec % 32 = BitVec.ofNat 32 k) (hk : k < 32) : ((x.toUInt32 >>> s).toInt32).toBitVec.toNat = x.toBitVec.toNat / 2 ^ k := by
  have : ((x.toUInt32 >>> s).toInt32).toBitVec = x.toBitVec >>> (s.toBitVec % 32) := rfl
  rw [this, hs, BitVec.ushiftRight_eq', BitVec.toNat_ushiftRight, BitVec.toNat_ofNat, Nat.mod_eq_of_lt (show k < 2 ^ 32 by omega), Nat.shiftRight_eq_div_pow]
theorem an_n {x y : Int32} : (x &&& y).toBitVec.toNat = x.toBitVec.toNat &&& y.toBitVec.toNat := by rw [Int32.toBitVec_and, BitVec.toNat_and]
theorem ad_n {x y : Int32} (h : x.toBitVec.toNat + y.toBitVec.toNat < 4294967296) : (x + y).toBitVec.toNat = x.toBitVec.toNat + y.toBitVec.toNat := by
  rw [Int32.toBitVec_add, BitVec.toNat_add, Nat.mod_eq_of_lt h]
theorem su_n {x y : Int32} (h : y.toBitVec.toNat ≤ x.toBitVec.toNat) : (x - y).toBitVec.toNat = x.toBitVec.toNat - y.toBitVec.toNat := by
  rw [Int32.toBitVec_sub, BitVec.toNat_sub_of_le (BitVec.le_def.mpr h)]
theorem bc_n {x : Int32} {n : Nat} (h : x.toInt = n) (hn : n < 1048576) : bcN x = ((pc5 n &&& 63 : Nat) : Int) ∧ ∃ r, f_J6_bitCount_0f7a4 x = some r ∧ r.toInt = bcN x := by
  have hx : x.toBitVec.toNat = n := by have := i_nn (x := x) (by omega); omega
  obtain ⟨a, m, ha, hm, rfl⟩ : ∃ a m, a < 256 ∧ m < 4096 ∧ n = a + 256 * m := ⟨n % 256, n / 256, by omega, by omega, by omega⟩
  obtain ⟨s1, s2, s3, s4⟩ := pc_sp ha hm
  obtain ⟨b1, b2, b3⟩ : pc1 (a + 256 * m) < 16777216 ∧ pc2 (a + 256 * m) < 16777216 ∧ pc3 (a + 256 * m) < 16777216 := by
    obtain ⟨x0, y0, hx0, hy0, e0⟩ := sp16 ha
    obtain ⟨u, v, hu, hv, e1⟩ := sp64 hm
    have a1 := pA_1 x0 hx0 y0 hy0
    have m1 := pM_1 u hu v hv
    rw [← e0] at a1
    rw [← e1] at m1
    rw [s1, s2, s3]
    omega
  generalize a + 256 * m = n at *
  have key : ∀ y1 y2 y3 y4 y5 : Int32, y1 = (x - (((x.toUInt32 >>> ((1 : Int32).toUInt32 &&& Int32.toUInt32 31)).toInt32) &&& 1431655765)) → y2 = ((y1 &&& 858993459) + (((y1.toUInt32 >>> ((2 : Int32).toUInt32 &&& Int32.toUInt32 31)).toInt32) &&& 858993459)) → y3 = ((y2 + ((y2.toUInt32 >>> ((4 : Int32).toUInt32 &&& Int32.toUInt32 31)).toInt32)) &&& 252645135) → y4 = (y3 + ((y3.toUInt32 >>> ((8 : Int32).toUInt32 &&& Int32.toUInt32 31)).toInt32)) → y5 = (y4 + ((y4.toUInt32 >>> ((16 : Int32).toUInt32 &&& Int32.toUInt32 31)).toInt32)) → (y5 &&& 63).toInt = ((pc5 n &&& 63 : Nat) : Int) := by
    intro y1 y2 y3 y4 y5 e1 e2 e3 e4 e5
    have n1 : y1.toBitVec.toNat = pc1 n := by
      have z : (((x.toUInt32 >>> ((1 : Int32).toUInt32 &&& Int32.toUInt32 31)).toInt32) &&& 1431655765).toBitVec.toNat = (n / 2) &&& 1431655765 := by
        rw [an_n, sr_n (k := 1) (by decide) (by omega), hx]; rfl
      have zl : (n / 2) &&& 1431655765 ≤ n / 2 := Nat.and_le_left
      rw [e1, su_n (by rw [z, hx]; omega), z, hx]; rfl
    have n2 : y2.toBitVec.toNat = pc2 n := by
      have z : (((y1.toUInt32 >>> ((2 : Int32).toUInt32 &&& Int32.toUInt32 31)).toInt32) &&& 858993459).toBitVec.toNat = (pc1 n / 4) &&& 858993459 := by
        rw [an_n, sr_n (k := 2) (by decide) (by omega), n1]; rfl
      have w : (y1 &&& 858993459).toBitVec.toNat = pc1 n &&& 858993459 := by rw [an_n, n1]; rfl
      have zl : (pc1 n / 4) &&& 858993459 ≤ pc1 n / 4 := Nat.and_le_left
      have wl : pc1 n &&& 858993459 ≤ pc1 n := Nat.and_le_left
      rw [e2, ad_n (by rw [z, w]; omega), z, w]; rfl
    have n3 : y3.toBitVec.toNat = pc3 n := by
      have z : ((y2.toUInt32 >>> ((4 : Int32).toUInt32 &&& Int32.toUInt32 31)).toInt32).toBitVec.toNat = pc2 n / 16 := by
        rw [sr_n (k := 4) (by decide) (by omega), n2]
      rw [e3, an_n, ad_n (by rw [z, n2]; omega), z, n2]; rfl
    have n4 : y4.toBitVec.toNat = pc4 n := by
      have z : ((y3.toUInt32 >>> ((8 : Int32).toUInt32 &&& Int32.toUInt32 31)).toInt32).toBitVec.toNat = pc3 n / 256 := by
        rw [sr_n (k := 8) (by decide) (by omega), n3]
      rw [e4, ad_n (by rw [z, n3]; omega), z, n3]; rfl
    have b4 : pc4 n < 33554432 := by unfold pc4; omega
    have n5 : y5.toBitVec.toNat = pc5 n := by
      have z : ((y4.toUInt32 >>> ((16 : Int32).toUInt32 &&& Int32.toUInt32 31)).toInt32).toBitVec.toNat = pc4 n / 65536 := by
        rw [sr_n (k := 16) (by decide) (by omega), n4]
      rw [e5, ad_n (by rw [z, n4]; omega), z, n4]; rfl
    have wl : pc5 n &&& 63 ≤ 63 := Nat.and_le_right
    exact nn_of (by rw [an_n, n5]; rfl) (by omega)
  have k := key _ _ _ _ _ rfl rfl rfl rfl rfl
  exact ⟨k, _, rfl, rfl⟩
