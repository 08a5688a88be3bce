/-! the tape: what both put on it -/
def shB (m : Nat) : Int32 := bif Nat.beq m 0 then 0 else bif Nat.beq m 1 then 8 else bif Nat.beq m 2 then 16 else 24
def byteOf (x : Int32) (m : Nat) : Int32 := (x >>> (shB m &&& 31)) &&& 255
theorem nar_b (y : Int32) : vp_nar .byte (y.toInt8.toInt32) = y.toInt8.toInt32 := by
  show (y.toInt8.toInt32).toInt8.toInt32 = _
  simp
theorem byte_c (x : Int32) {m : Nat} (hm : m < 4) : vp_nar .byte (((x.toUInt32 >>> ((shB m : Int32).toUInt32 &&& Int32.toUInt32 31)).toInt32).toInt8.toInt32) &&& 255 = byteOf x m := by
  rw [nar_b]
  rcases (by omega : m = 0 ∨ m = 1 ∨ m = 2 ∨ m = 3) with e | e | e | e <;> subst e
  · exact by_b0 x
  · exact by_b8 x
  · exact by_b16 x
  · exact by_b24 x
theorem e_app2 (pa qa : Nat → Nat) (x1 : Int32) (K : Tr) (n0 : Nat) (h : (K 0 0).toInt = n0) (hn : n0 + 4 ≤ 700) : Ep (f_X5_append_x pa qa K x1) (fun q => (q 0 0).toInt = n0 + 4 ∧ (∀ j, j < n0 → q 5 j = K 5 j) ∧ (∀ i, i < 4 → q 5 (n0 + i) &&& 255 = byteOf x1 (3 - i)) ∧ (∀ j, ¬ j = 0 → q 0 j = K 0 j) ∧ (∀ a, ¬ a = 0 → ¬ a = 5 → q a = K a)) := by
  have main : ∀ (N n n1 : Nat) (x2 : Int32) (T : Tr), n ≤ 4 → (n = 0 → x2.toInt = -8) → (∀ m, n = m + 1 → x2 = shB m) → (T 0 0).toInt = n1 → n1 + n ≤ 700 → Ep (lpF (fun _ _ => none) (fB_X5_append_x_L3 pa qa x1) N x2 T) (fun q => (q 0 0).toInt = n1 + n ∧ (∀ j, j < n1 → q 5 j = T 5 j) ∧ (∀ i, i < n → q 5 (n1 + i) &&& 255 = byteOf x1 (n - 1 - i)) ∧ (∀ j, ¬ j = 0 → q 0 j = T 0 j) ∧ (∀ a, ¬ a = 0 → ¬ a = 5 → q a = T a)) := by
    intro N
    induction N with
    | zero => intro n n1 x2 T _ _ _ _ _; exact Ep_none
    | succ N ih =>
      intro n n1 x2 T g1 g2 g3 g4 g5
      show Ep (fB_X5_append_x_L3 pa qa x1 (lpF (fun _ _ => none) (fB_X5_append_x_L3 pa qa x1) N) x2 T) _
      generalize lpF (fun _ _ => none) (fB_X5_append_x_L3 pa qa x1) N = k at ih ⊢
      unfold fB_X5_append_x_L3
      refine Ep_ite (fun c => ?_) (fun c => ?_)
      · have k1 := tq_lt (x := x2) (y := (0 : Int32)) rfl (b := 0) (by decide) c
        have hn0 : n = 0 := by
          rcases n with _ | m
          · rfl
          · exfalso
            rw [g3 m rfl] at k1
            rcases (by omega : m = 0 ∨ m = 1 ∨ m = 2 ∨ m = 3) with e | e | e | e <;> subst e <;> exact absurd k1 (by decide)
        subst hn0
        exact Ep_some ⟨by omega, fun _ _ => rfl, fun i hi => by omega, fun _ _ => rfl, fun _ _ _ => rfl⟩
      · have k1 := tq_ltn (x := x2) (y := (0 : Int32)) rfl (b := 0) (by decide) c
        obtain ⟨m, rfl⟩ : ∃ m, n = m + 1 := by
          rcases n with _ | m
          · have := g2 rfl; omega
          · exact ⟨m, rfl⟩
        have ex := g3 m rfl
        refine Ep_ite (fun c2 => ?_) (fun _ => ?_)
        · have k2 := tq_le (x := (700 : Int32)) (y := T 0 0) (a := 700) (by decide) rfl c2
          omega
        refine Ep_ck (Ep_lt (fun T1 e1 => Ep_lt (fun T2 e2 => Ep_lt (fun y ey => ?_))))
        have c0 : (T 0 0).toNatClampNeg = n1 := by simp only [i_cl]; omega
        rw [c0] at e1
        have t1 : T1 0 0 = T 0 0 := by rw [e1, st_oth (by decide)]
        have t2 : (T2 0 0).toInt = ((n1 + 1 : Nat) : Int) := by
          rw [e2, st_same, t1]
          have : (T 0 0 + 1).toInt = (T 0 0).toInt + 1 := i_addK rfl (by decide) (by omega) (by omega)
          omega
        have T25 : T2 5 = T1 5 := by rw [e2, st_oth (by decide)]
        have hb : T2 5 n1 &&& 255 = byteOf x1 m := by
          rw [T25, e1, st_same, ex]; exact byte_c x1 (by omega)
        intro r hr
        have z := ih m (n1 + 1) y T2 (by omega) (fun hz => by rw [ey, ex, hz]; decide) (fun m' hm' => by
          rw [ey, ex, hm']
          rcases (by omega : m' = 0 ∨ m' = 1 ∨ m' = 2) with e | e | e <;> subst e <;> decide) t2 (by omega) r hr
        obtain ⟨z1, z2, z3, z4, z5⟩ := z
        refine ⟨by omega, fun j hj => ?_, fun i hi => ?_, fun j hj => ?_, fun a h0 h5 => ?_⟩
        · rw [z2 j (by omega), T25, e1, st_ne (by omega)]
        · rcases (by omega : i = 0 ∨ 1 ≤ i) with e | e
          · subst e
            rw [Nat.add_zero, z2 n1 (by omega)]; exact hb
          · have := z3 (i - 1) (by omega)
            rw [show n1 + 1 + (i - 1) = n1 + i by omega, show m - 1 - (i - 1) = m + 1 - 1 - i by omega] at this
            exact this
        · rw [z4 j hj, e2, st_ne hj, e1, st_oth (by decide)]
        · rw [z5 a h0 h5, e2, st_oth h0, e1, st_oth h5]
  intro r hr
  have z := main 2000 4 n0 24 K (by omega) (fun hz => by omega) (fun m hm => by rw [show m = 3 by omega]; decide) h (by omega) r hr
  exact ⟨z.1, z.2.1, fun i hi => z.2.2.1 i hi, z.2.2.2⟩
