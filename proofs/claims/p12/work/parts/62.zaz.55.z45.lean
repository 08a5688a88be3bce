/-! a text that fails keeps all; one that succeeds begins anew -/
def kpc (a j : Nat) : Prop := (a = 23 ∧ j < 3) ∨ ((a = 24 ∨ a = 25) ∧ j < 5) ∨ ((26 ≤ a ∧ a ≤ 29) ∧ j < 6) ∨ ((30 ≤ a ∧ a ≤ 33) ∧ j < 10) ∨ (a = 34 ∧ j < 21) ∨ ((36 ≤ a ∧ a ≤ 38) ∧ j < 3) ∨ ((39 ≤ a ∧ a ≤ 41) ∧ j < 64)
theorem ble_no {n j : Nat} (h : ¬ n ≤ j) : Nat.ble n j = false := by
  rw [← Bool.not_eq_true]; intro q; exact h (Nat.le_of_ble_eq_true q)
theorem Wp_kp {a j : Nat} (h : kpc a j) : Wp a j = false := by
  rcases h with ⟨rfl, h⟩ | ⟨h, h1⟩ | ⟨h, h1⟩ | ⟨h, h1⟩ | ⟨rfl, h⟩ | ⟨h, h1⟩ | ⟨h, h1⟩
  · unfold Wp; rw [ble_no (n := 3) (by omega)]; rfl
  · unfold Wp; rw [ble_no (n := 5) (by omega)]
    rcases h with rfl | rfl <;> rfl
  · unfold Wp; rw [ble_no (n := 6) (by omega)]
    rcases (by omega : a = 26 ∨ a = 27 ∨ a = 28 ∨ a = 29) with rfl | rfl | rfl | rfl <;> rfl
  · unfold Wp; rw [ble_no (n := 10) (by omega)]
    rcases (by omega : a = 30 ∨ a = 31 ∨ a = 32 ∨ a = 33) with rfl | rfl | rfl | rfl <;> rfl
  · unfold Wp; rw [ble_no (n := 21) (by omega)]; rfl
  · unfold Wp; rw [ble_no (n := 3) (by omega)]
    rcases (by omega : a = 36 ∨ a = 37 ∨ a = 38) with rfl | rfl | rfl <;> rfl
  · unfold Wp; rw [ble_no (n := 64) (by omega)]
    rcases (by omega : a = 39 ∨ a = 40 ∨ a = 41) with rfl | rfl | rfl <;> rfl
theorem lwK_h {P S S1 : Tr} {k : Nat} (hk : k < 3) (h : lwK P S k) (e : ∀ a j, kpc a j → S1 a j = S a j) : lwK P S1 k := by
  unfold lwK at h ⊢
  rw [e 36 k (Or.inr (Or.inr (Or.inr (Or.inr (Or.inr (Or.inl ⟨by omega, hk⟩)))))), e 37 k (Or.inr (Or.inr (Or.inr (Or.inr (Or.inr (Or.inl ⟨by omega, hk⟩)))))), e 38 k (Or.inr (Or.inr (Or.inr (Or.inr (Or.inr (Or.inl ⟨by omega, hk⟩))))))]
  rcases h with a | ⟨a1, f, s, b1, b2, b3, b4, b5, b6, b7⟩
  · exact Or.inl a
  · refine Or.inr ⟨a1, f, s, b1, b2, b3, b4, b5, b6, fun i hi => nd_cg (b7 i hi) ?_ ?_ ?_⟩
    · exact e 39 _ (Or.inr (Or.inr (Or.inr (Or.inr (Or.inr (Or.inr ⟨by omega, by omega⟩))))))
    · exact e 40 _ (Or.inr (Or.inr (Or.inr (Or.inr (Or.inr (Or.inr ⟨by omega, by omega⟩))))))
    · exact e 41 _ (Or.inr (Or.inr (Or.inr (Or.inr (Or.inr (Or.inr ⟨by omega, by omega⟩))))))
theorem pK_h {P S S1 : Tr} (hS : iR BM S) (h : pK P S) (e0 : ∀ j, 12 ≤ j → j ≤ 15 → S1 0 j = S 0 j) (e : ∀ a j, kpc a j → S1 a j = S a j) : pK P S1 := by
  have h12 : 0 ≤ (S 0 12).toInt ∧ (S 0 12).toInt ≤ 5 := hS 0 12
  have h13 : 0 ≤ (S 0 13).toInt ∧ (S 0 13).toInt ≤ 6 := hS 0 13
  have h14 : 0 ≤ (S 0 14).toInt ∧ (S 0 14).toInt ≤ 10 := hS 0 14
  obtain ⟨⟨a0, a1, a2, a3, a4, a5, a6, a7⟩, h2, h3, h4, h5, h6⟩ := h
  have f12 := e0 12 (by omega) (by omega)
  have f13 := e0 13 (by omega) (by omega)
  have f14 := e0 14 (by omega) (by omega)
  have k23 : ∀ j, j < 3 → S1 23 j = S 23 j := fun j hj => e 23 j (Or.inl ⟨rfl, hj⟩)
  have k5 : ∀ a j, a = 24 ∨ a = 25 → j < 5 → S1 a j = S a j := fun a j ha hj => e a j (Or.inr (Or.inl ⟨ha, hj⟩))
  have k6 : ∀ a j, 26 ≤ a → a ≤ 29 → j < 6 → S1 a j = S a j := fun a j h1 h2 hj => e a j (Or.inr (Or.inr (Or.inl ⟨⟨h1, h2⟩, hj⟩)))
  have k10 : ∀ a j, 30 ≤ a → a ≤ 33 → j < 10 → S1 a j = S a j := fun a j h1 h2 hj => e a j (Or.inr (Or.inr (Or.inr (Or.inl ⟨⟨h1, h2⟩, hj⟩))))
  refine ⟨⟨a0.trans f12.symm, a1.trans f13.symm, a2.trans f14.symm, a3.trans (e0 15 (by omega) (by omega)).symm, a4.trans (k23 0 (by omega)).symm, a5.trans (k23 1 (by omega)).symm, a6.trans (k23 2 (by omega)).symm, fun i hi => ?_⟩, fun i hi => ?_, fun i hi => ?_, fun i hi => ?_, fun t ht => ?_, fun k hk => lwK_h hk (h6 k hk) e⟩
  · rw [f12] at hi; rw [k5 24 i (by omega) (by omega)]; exact a7 i hi
  · rw [f12] at hi; rw [k5 24 i (by omega) (by omega), k5 25 i (by omega) (by omega)]; exact h2 i hi
  · rw [f13] at hi; rw [k6 26 i (by omega) (by omega) (by omega), k6 27 i (by omega) (by omega) (by omega), k6 28 i (by omega) (by omega) (by omega), k6 29 i (by omega) (by omega) (by omega)]; exact h3 i hi
  · rw [f14] at hi; rw [f12, k10 30 i (by omega) (by omega) (by omega), k10 31 i (by omega) (by omega) (by omega), k10 32 i (by omega) (by omega) (by omega), k10 33 i (by omega) (by omega) (by omega)]; exact h4 i hi
  · rw [e 34 t (Or.inr (Or.inr (Or.inr (Or.inr (Or.inl ⟨rfl, ht⟩)))))]; exact h5 t ht
theorem Nw_h {P T S S1 : Tr} {L L1 : Lo} (h : Nw P T S L) (hI : rI 0 S1) (e0 : ∀ j, 12 ≤ j → j ≤ 15 → S1 0 j = S 0 j) (e : ∀ a j, kpc a j → S1 a j = S a j) (e5 : ∀ a j, 53 ≤ a → a ≤ 62 → S1 a j = S a j) (h65 : S1 0 65 = 0) (h63 : L1 0 63 = L 0 63) : Nw P T S1 L1 := by
  obtain ⟨hS, hK, hd, hv, n9, n13, nr, nl, na⟩ := h
  have h13 : 0 ≤ (S 0 13).toInt ∧ (S 0 13).toInt ≤ 6 := hS.1 0 13
  have h14 : 0 ≤ (S 0 14).toInt ∧ (S 0 14).toInt ≤ 10 := hS.1 0 14
  have k30 : ∀ i, i < 10 → S1 30 i = S 30 i := fun i hi => e 30 i (Or.inr (Or.inr (Or.inr (Or.inl ⟨⟨by omega, by omega⟩, hi⟩))))
  have k33 : ∀ i, i < 10 → S1 33 i = S 33 i := fun i hi => e 33 i (Or.inr (Or.inr (Or.inr (Or.inl ⟨⟨by omega, by omega⟩, hi⟩))))
  have k23 : ∀ j, j < 3 → S1 23 j = S 23 j := fun j hj => e 23 j (Or.inl ⟨rfl, hj⟩)
  refine ⟨hI, pK_h hS.1 hK e0 e, dyn_e hd hS.1 (fun _ _ _ => rfl) (fun a j q => ?_), ⟨fun i hi => ?_, fun p hp => ?_⟩, fun p hp => ?_, fun i hi => ?_, ?_, ⟨by rw [h63]; exact nl.1, nl.2.1, h65⟩, fun p hp hq => ?_⟩
  · rcases q with ⟨rfl, q1, q2⟩ | ⟨q1, q2⟩
    · exact e0 j q1 q2
    · exact e5 a j q1 q2
  · rw [e0 14 (by omega) (by omega)] at hi
    rw [k30 i (by omega), e5 53 _ (by omega) (by omega), e5 54 _ (by omega) (by omega), e5 59 _ (by omega) (by omega), e0 12 (by omega) (by omega)]; exact hv.1 i hi
  · rw [e0 13 (by omega) (by omega)] at hp
    rw [e5 59 _ (by omega) (by omega), e5 57 _ (by omega) (by omega)]; exact hv.2 p hp
  · rw [e0 13 (by omega) (by omega)] at hp
    rw [e5 57 _ (by omega) (by omega), e5 58 _ (by omega) (by omega)]; exact n9 p hp
  · rw [e0 14 (by omega) (by omega)] at hi
    rw [k33 i (by omega)]; exact n13 i hi
  · rw [k23 0 (by omega), k23 1 (by omega)]; exact nr
  · rw [e0 13 (by omega) (by omega)] at hp
    rw [e5 62 _ (by omega) (by omega), e5 57 _ (by omega) (by omega)] at hq
    rw [e5 59 _ (by omega) (by omega)]; exact na p hp hq
theorem kFT_at {S S1 : Tr} (a : kFT S S1) : (∀ j, 12 ≤ j → j ≤ 15 → S1 0 j = S 0 j) ∧ (∀ c j, kpc c j → S1 c j = S c j) ∧ (∀ c j, 53 ≤ c → c ≤ 62 → S1 c j = S c j) ∧ (∀ c j, 84 ≤ c → c ≤ 88 → S1 c j = S c j) ∧ ∀ j, j = 65 ∨ j = 82 ∨ j = 84 ∨ j = 88 ∨ j = 89 → S1 0 j = S 0 j := by
  have hi : ∀ c j, 53 ≤ c → c ≤ 88 → S1 c j = S c j := fun c j h1 h2 => a c j (by
    have e : ∀ k, k ≤ 43 → Nat.beq c k = false := fun k hk => by
      rw [← Bool.not_eq_true]; intro q; have := Nat.eq_of_beq_eq_true q; omega
    unfold Wp
    rw [e 0 (by omega), e 22 (by omega), e 35 (by omega), e 42 (by omega), e 43 (by omega), e 23 (by omega), e 36 (by omega), e 37 (by omega), e 38 (by omega), e 24 (by omega), e 25 (by omega), e 26 (by omega), e 27 (by omega), e 28 (by omega), e 29 (by omega), e 30 (by omega), e 31 (by omega), e 32 (by omega), e 33 (by omega), e 34 (by omega), e 39 (by omega), e 40 (by omega), e 41 (by omega)]
    rfl) (by omega)
  refine ⟨fun j h1 h2 => a 0 j ?_ (by omega), fun c j q => a c j (Wp_kp q) (fun g => by unfold kpc at q; omega), fun c j h1 h2 => hi c j h1 (by omega), fun c j h1 h2 => hi c j (by omega) h2, fun j q => a 0 j ?_ (by omega)⟩
  · rcases (by omega : j = 12 ∨ j = 13 ∨ j = 14 ∨ j = 15) with rfl | rfl | rfl | rfl <;> rfl
  · rcases q with rfl | rfl | rfl | rfl | rfl <;> rfl
theorem tx_fail {P T C X Ti S S1 : Tr} {L : Lo} (h : Nw P T S L) (hu : uR P C S) (hi : imR P X Ti S L) (a : kFT S S1) (hj : jR S1) : Nw P T S1 L ∧ uR P C S1 ∧ imR P X Ti S1 L := by
  have h13 : 0 ≤ (S 0 13).toInt ∧ (S 0 13).toInt ≤ 6 := h.1.1 0 13
  have h14 : 0 ≤ (S 0 14).toInt ∧ (S 0 14).toInt ≤ 10 := h.1.1 0 14
  obtain ⟨k0, k1, k2, k3, k4⟩ := kFT_at a
  refine ⟨Nw_h h ⟨hj.1, hj.2.1, hj.2.2.1⟩ k0 k1 k2 ((k4 65 (by omega)).trans h.2.2.2.2.2.2.2.1.2.2) rfl, uR_o hu (k4 82 (by omega)) (fun j h1 h2 => k0 j h1 (by omega)) (fun j => k3 84 j (by omega) (by omega)), imR_o hi h13.2 h14.2 (fun j q => ?_) (fun c j q => ?_) rfl⟩
  · rcases q with q | rfl | rfl
    · exact k0 j q.1 (by omega)
    · exact k4 88 (by omega)
    · exact k4 89 (by omega)
  · rcases q with q | ⟨q, q2⟩ | ⟨rfl, _⟩ | q
    · exact k1 c j (Or.inl q)
    · exact k1 c j (Or.inr (Or.inr (Or.inr (Or.inl ⟨by omega, q2⟩))))
    · exact k2 57 j (by omega) (by omega)
    · exact k3 c j (by omega) q.2
theorem tx_ok {R P P2 T9 Tn A C X1 Ti S S1 : Tr} {L L1 : Lo} {pa : Nat → Nat} {q0 q1 : Nat} (h : Nw P Tn S L) (hu : uR P C S) (ud : RD R P2 T9) (uk : f_X8_keepText T9 L = some (S1, L1)) (hj : jR S1) (rk : rgK S1) (ub : f_X6_begin pa Tn P2 q0 = some (A, q1)) (hX : X1 0 4 = 0) : Nw P2 A S1 L1 ∧ uR P2 (st C 0 0 0) S1 ∧ imR P2 X1 Ti S1 L1 := by
  have kt := k_keepText T9 L _ uk
  have kb := k_kpB T9 L _ uk
  obtain ⟨a1, a2⟩ := e_bgn2 pa Tn P2 q0 _ ub
  have a6 : A 0 6 = Tn 0 6 := a2 6 (by omega)
  have a7 : A 0 7 = Tn 0 7 := a2 7 (by omega)
  obtain ⟨_, m, n, m20, _, hm, _, _⟩ := hu
  have z82 : S1 0 82 = 0 := kb.2.2.2.2.1.2.1
  refine ⟨Nw_bg (pK_KT ud kt rk) hj rk kb a1 (by rw [a6]; exact h.2.2.2.2.2.2.1.2.2.2.2.1) (by rw [a7]; exact h.2.2.2.2.2.2.1.2.2.2.2.2), ?_, fun n => absurd hX n⟩
  exact ⟨by rw [st_same, z82], m, 0, m20, by omega, by rw [st_ne (by decide)]; exact hm, by rw [z82]; decide, fun r hr => absurd hr (by omega)⟩
/-- the first train of all -/
theorem Nw_0 {P T1 A S S1 C X Ti : Tr} {L L0 : Lo} {pa : Nat → Nat} {B : Tr} {q9 : Nat} (hP : f_X2_clear T1 = some P) (h1 : f_X8_plain B = some S1) (h2 : f_X8_keepText S1 L0 = some (S, L)) (hb : ∃ T2, f_X6_begin pa T1 P 0 = some (T2, q9) ∧ A = st (st (st T2 0 5 0) 0 6 1) 0 7 1) (hT0 : ∀ a j, T1 a j = 0) (hj : jR S) (hC : ∀ a j, C a j = 0) (hX : X 0 4 = 0) : Nw P A S L ∧ uR P C S ∧ imR P X Ti S L := by
  obtain ⟨p1, p2, p3⟩ := e_clr _ _ hP
  obtain ⟨q1, q2, q3, _⟩ := e_plain _ _ h1
  obtain ⟨T2, b1, b2⟩ := hb
  have ud : RD T1 P S1 := RD_0 p1 p2 p3 (hT0 0 5) (hT0 0 6) q1 q2 q3
  have kt := k_keepText S1 L0 _ h2
  have kb := k_kpB S1 L0 _ h2
  have rg1 : rg S1 := by
    have l0 : (0 : Int32).toInt = 0 := by decide
    unfold rg
    rw [q3 16 (by omega), q3 17 (by omega), q3 18 (by omega), show S1 23 3 = 0 from (q2 0 (by omega)).2.1, show S1 23 5 = 0 from (q2 2 (by omega)).2.1, l0]
    exact ⟨⟨by omega, by omega, by omega⟩, fun p hp => absurd hp (by omega), fun p hp => absurd hp (by omega), fun i hi => absurd hi (by omega), by omega, by omega, by omega⟩
  have rk := rgK_of rg1 kt
  obtain ⟨⟨c1, c2, c3, c4, c5⟩, c6, c7, c8⟩ := (e_bgn2 pa T1 P 0 _ b1).1
  have z : ∀ a j, ¬ (a = 0 ∧ 5 ≤ j) → A a j = T2 a j := fun a j n => by rw [b2, st_no (by omega), st_no (by omega), st_no (by omega)]
  have bA : bgQ P A := by
    refine ⟨⟨?_, ?_, ?_, ?_, ?_⟩, fun p hp => ?_, fun i hi => ?_, fun p hp => ?_⟩
    · rw [z 0 0 (by omega)]; exact c1
    · rw [z 0 1 (by omega)]; exact c2
    · rw [z 0 2 (by omega)]; exact c3
    · rw [z 0 3 (by omega)]; exact c4
    · rw [z 0 4 (by omega)]; exact c5
    · rw [z 9 p (by omega), z 10 p (by omega), z 11 p (by omega), z 12 p (by omega)]; exact c6 p hp
    · rw [z 13 i (by omega), z 14 i (by omega), z 15 i (by omega)]; exact c7 i hi
    · rw [z 17 p (by omega), z 18 p (by omega)]; exact c8 p hp
  have z82 : S 0 82 = 0 := kb.2.2.2.2.1.2.1
  refine ⟨Nw_bg (pK_KT ud kt rk) hj rk kb bA (by rw [b2, st_ne (by decide), st_same]; decide) (by rw [b2, st_same]; decide), ?_, fun n => absurd hX n⟩
  exact ⟨by rw [hC, z82], 0, 0, by omega, by omega, by rw [hC]; decide, by rw [z82]; decide, fun r hr => absurd hr (by omega)⟩
