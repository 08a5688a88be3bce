def pk5 (x1 x2 x3 x4 x5 : Int32) (i : Nat) : Int32 := if i < 4 then x1 else if i < 8 then x2 else if i < 12 then x3 else if i < 16 then x4 else x5
theorem e_feed2 (pa qa : Nat → Nat) (K : Tr) (x1 x2 x3 x4 x5 : Int32) (n0 : Nat) (h : (K 0 0).toInt = n0) (hn : n0 + 20 ≤ 700) : Ep (f_X7_feed pa qa K x1 x2 x3 x4 x5) (fun q => (q.2 0 0).toInt = n0 + 20 ∧ (∀ j, j < n0 → q.2 5 j = K 5 j) ∧ (∀ i, i < 20 → q.2 5 (n0 + i) &&& 255 = byteOf (pk5 x1 x2 x3 x4 x5 i) (3 - i % 4)) ∧ (∀ j, ¬ j = 0 → q.2 0 j = K 0 j) ∧ (∀ a, ¬ a = 0 → ¬ a = 5 → q.2 a = K a)) := by
  unfold f_X7_feed
  have f20 : (K 0 0 + 20).toInt = (K 0 0).toInt + 20 := i_addK rfl (by decide) (by omega) (by omega)
  refine Ep_ite (fun _ => ?_) (fun c => ?_)
  · refine Ep_bd (e_app2 pa qa x1 K n0 h (by omega)) (fun K1 h1 => ?_)
    refine Ep_bd (e_app2 pa qa x2 K1 (n0 + 4) (by have := h1.1; omega) (by omega)) (fun K2 h2 => ?_)
    refine Ep_bd (e_app2 pa qa x3 K2 (n0 + 8) (by have := h2.1; omega) (by omega)) (fun K3 h3 => ?_)
    refine Ep_bd (e_app2 pa qa x4 K3 (n0 + 12) (by have := h3.1; omega) (by omega)) (fun K4 h4 => ?_)
    refine Ep_bd (e_app2 pa qa x5 K4 (n0 + 16) (by have := h4.1; omega) (by omega)) (fun K5 h5 => ?_)
    refine Ep_some ⟨?_, fun j hj => ?_, fun i hi => ?_, fun j hj => ?_, fun a g0 g5 => ?_⟩
    · show (K5 0 0).toInt = _; have := h5.1; omega
    · show K5 5 j = K 5 j
      rw [h5.2.1 j (by omega), h4.2.1 j (by omega), h3.2.1 j (by omega), h2.2.1 j (by omega), h1.2.1 j hj]
    · show K5 5 (n0 + i) &&& 255 = _
      unfold pk5
      rcases (by omega : i < 4 ∨ (4 ≤ i ∧ i < 8) ∨ (8 ≤ i ∧ i < 12) ∨ (12 ≤ i ∧ i < 16) ∨ 16 ≤ i) with g | g | g | g | g
      · rw [if_pos g, h5.2.1 _ (by omega), h4.2.1 _ (by omega), h3.2.1 _ (by omega), h2.2.1 _ (by omega), h1.2.2.1 i g, show i % 4 = i by omega]
      · rw [if_neg (by omega), if_pos g.2, h5.2.1 _ (by omega), h4.2.1 _ (by omega), h3.2.1 _ (by omega)]
        have z := h2.2.2.1 (i - 4) (by omega)
        rw [show n0 + 4 + (i - 4) = n0 + i by omega] at z
        rw [z, show i % 4 = i - 4 by omega]
      · rw [if_neg (by omega), if_neg (by omega), if_pos g.2, h5.2.1 _ (by omega), h4.2.1 _ (by omega)]
        have z := h3.2.2.1 (i - 8) (by omega)
        rw [show n0 + 8 + (i - 8) = n0 + i by omega] at z
        rw [z, show i % 4 = i - 8 by omega]
      · rw [if_neg (by omega), if_neg (by omega), if_neg (by omega), if_pos g.2, h5.2.1 _ (by omega)]
        have z := h4.2.2.1 (i - 12) (by omega)
        rw [show n0 + 12 + (i - 12) = n0 + i by omega] at z
        rw [z, show i % 4 = i - 12 by omega]
      · rw [if_neg (by omega), if_neg (by omega), if_neg (by omega), if_neg (by omega)]
        have z := h5.2.2.1 (i - 16) (by omega)
        rw [show n0 + 16 + (i - 16) = n0 + i by omega] at z
        rw [z, show i % 4 = i - 16 by omega]
    · show K5 0 j = K 0 j
      rw [h5.2.2.2.1 j hj, h4.2.2.2.1 j hj, h3.2.2.2.1 j hj, h2.2.2.2.1 j hj, h1.2.2.2.1 j hj]
    · show K5 a = K a
      rw [h5.2.2.2.2 a g0 g5, h4.2.2.2.2 a g0 g5, h3.2.2.2.2 a g0 g5, h2.2.2.2.2 a g0 g5, h1.2.2.2.2 a g0 g5]
  · have k := tq_len (x := K 0 0 + 20) (y := (700 : Int32)) f20 (b := 700) (by decide) c
    omega
theorem sh_mod {x6 : Int32} (h1 : 0 ≤ x6.toInt) (h2 : x6.toInt < 20) : (24 : Int32) - (8 : Int32) * (x6 - x6 / 4 * 4) = shB (3 - x6.toInt.toNat % 4) := by
  obtain ⟨n, hn⟩ : ∃ n : Nat, x6.toInt = n := ⟨x6.toInt.toNat, by omega⟩
  have ex : x6 = Int32.ofNat n := Int32.toInt_inj.mp (by rw [Int32.toInt_ofNat_of_lt (by omega)]; exact hn)
  rw [ex]
  have hlt : n < 20 := by omega
  have key : ∀ k : Fin 20, (24 : Int32) - (8 : Int32) * (Int32.ofNat k.val - Int32.ofNat k.val / 4 * 4) = shB (3 - (Int32.ofNat k.val).toInt.toNat % 4) := by decide
  exact key ⟨n, hlt⟩
theorem r_g23 (S : Tr) (x1 x2 x3 x4 x5 : Int32) (n0 : Nat) (h0 : (S 0 1).toInt = n0) (hn : n0 + 20 ≤ 700) (N : Nat) : ∀ (n : Nat) (x6 : Int32) (T : Tr), x6.toInt = n → n ≤ 20 → (∀ a, ¬ a = 1 → T a = S a) → (∀ j, j < n0 → T 1 j = S 1 j) → (∀ i, i < n → T 1 (n0 + i) = byteOf (pk5 x1 x2 x3 x4 x5 i) (3 - i % 4)) → Ep (lpF (fun _ _ => none) (fB_X8_feed_L23 x1 x2 x3 x4 x5) N x6 T) (fun q => (∀ j, j < n0 → q.2 1 j = S 1 j) ∧ (∀ i, i < 20 → q.2 1 (n0 + i) = byteOf (pk5 x1 x2 x3 x4 x5 i) (3 - i % 4))) := by
  induction N with
  | zero => intro n x6 T _ _ _ _ _; exact Ep_none
  | succ N ih =>
    intro n x6 T g1 g2 g3 g4 g5
    show Ep (fB_X8_feed_L23 x1 x2 x3 x4 x5 (lpF (fun _ _ => none) (fB_X8_feed_L23 x1 x2 x3 x4 x5) N) x6 T) _
    generalize lpF (fun _ _ => none) (fB_X8_feed_L23 x1 x2 x3 x4 x5) N = k at ih ⊢
    unfold fB_X8_feed_L23
    have z0 := g3 0 (by decide)
    have hJ : n < 20 → ∀ s0 : Int32, s0 = pk5 x1 x2 x3 x4 x5 n → Ep (fJ_X8_feed_J76 k x1 x2 x3 x4 x5 x6 s0 T) (fun q => (∀ j, j < n0 → q.2 1 j = S 1 j) ∧ (∀ i, i < 20 → q.2 1 (n0 + i) = byteOf (pk5 x1 x2 x3 x4 x5 i) (3 - i % 4))) := by
      intro hl s0 hs
      unfold fJ_X8_feed_J76
      have ea : (T 0 1 + x6).toInt = ((n0 + n : Nat) : Int) := by
        rw [z0]
        have : (S 0 1 + x6).toInt = (S 0 1).toInt + x6.toInt := i_addK rfl rfl (by omega) (by omega)
        omega
      have ec : (T 0 1 + x6).toNatClampNeg = n0 + n := by simp only [i_cl]; omega
      refine Ep_ck (Ep_lt (fun T1 e1 => Ep_lt (fun y ey => ?_)))
      rw [ec, sh_mod (by omega) (by omega), hs] at e1
      have ey2 : y.toInt = ((n + 1 : Nat) : Int) := by
        rw [ey]
        have : (x6 + 1).toInt = x6.toInt + 1 := i_addK rfl (by decide) (by omega) (by omega)
        omega
      have em : x6.toInt.toNat = n := by omega
      rw [em] at e1
      refine ih (n + 1) y T1 ey2 (by omega) (fun a ha => by rw [e1, st_oth ha, g3 a ha]) (fun j hj => by rw [e1, st_ne (by omega), g4 j hj]) (fun i hi => ?_)
      rcases (by omega : i < n ∨ i = n) with e | e
      · rw [e1, st_ne (by omega)]; exact g5 i e
      · subst e; rw [e1, st_same]; rfl
    refine Ep_ite (fun c => ?_) (fun c => ?_)
    · have k1 := tq_le (x := (20 : Int32)) (y := x6) (a := 20) (by decide) rfl c
      unfold fJ_X8_feed_J113
      refine Ep_lt (fun T1 e1 => Ep_some ⟨fun j hj => ?_, fun i hi => ?_⟩)
      · show T1 1 j = S 1 j
        rw [e1, st_oth (by decide), g4 j hj]
      · show T1 1 (n0 + i) = _
        rw [e1, st_oth (by decide)]; exact g5 i (by omega)
    · have k1 := tq_len (x := (20 : Int32)) (y := x6) (a := 20) (by decide) rfl c
      have hl : n < 20 := by omega
      refine Ep_ite (fun c4 => Ep_ite (fun c8 => Ep_ite (fun c12 => Ep_ite (fun c16 => hJ hl _ ?_) (fun c16 => hJ hl _ ?_)) (fun c12 => hJ hl _ ?_)) (fun c8 => hJ hl _ ?_)) (fun c4 => hJ hl _ ?_)
      · have a1 := tq_le (x := (16 : Int32)) (y := x6) (a := 16) (by decide) rfl c16
        unfold pk5; rw [if_neg (by omega), if_neg (by omega), if_neg (by omega), if_neg (by omega)]
      · have a1 := tq_le (x := (12 : Int32)) (y := x6) (a := 12) (by decide) rfl c12
        have a2 := tq_len (x := (16 : Int32)) (y := x6) (a := 16) (by decide) rfl c16
        unfold pk5; rw [if_neg (by omega), if_neg (by omega), if_neg (by omega), if_pos (by omega)]
      · have a1 := tq_le (x := (8 : Int32)) (y := x6) (a := 8) (by decide) rfl c8
        have a2 := tq_len (x := (12 : Int32)) (y := x6) (a := 12) (by decide) rfl c12
        unfold pk5; rw [if_neg (by omega), if_neg (by omega), if_pos (by omega)]
      · have a1 := tq_le (x := (4 : Int32)) (y := x6) (a := 4) (by decide) rfl c4
        have a2 := tq_len (x := (8 : Int32)) (y := x6) (a := 8) (by decide) rfl c8
        unfold pk5; rw [if_neg (by omega), if_pos (by omega)]
      · have a2 := tq_len (x := (4 : Int32)) (y := x6) (a := 4) (by decide) rfl c4
        unfold pk5; rw [if_pos (by omega)]
/-- both tapes tell the same -/
def tR (K T : Tr) : Prop := K 0 0 = T 0 1 ∧ ∀ j : Nat, (j : Int) < (K 0 0).toInt → K 5 j &&& 255 = T 1 j
