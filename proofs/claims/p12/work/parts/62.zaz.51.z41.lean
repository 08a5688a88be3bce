/-! an image side by side -/
def rowT (T : Tr) : Nat → Int32 := fun k => if k < 50 then T 16 k else if k < 55 then T 17 (k - 50) else if k < 60 then T 18 (k - 55) else if k < 70 then T 15 (k - 60) else T 10 (k - 70)
theorem rowT_16 {T : Tr} {j : Nat} (h : j < 50) : rowT T j = T 16 j := by unfold rowT; rw [if_pos h]
theorem rowT_17 {T : Tr} {j : Nat} (h : j < 5) : rowT T (50 + j) = T 17 j := by unfold rowT; rw [if_neg (by omega), if_pos (by omega), Nat.add_sub_cancel_left]
theorem rowT_18 {T : Tr} {j : Nat} (h : j < 5) : rowT T (55 + j) = T 18 j := by unfold rowT; rw [if_neg (by omega), if_neg (by omega), if_pos (by omega), Nat.add_sub_cancel_left]
theorem rowT_15 {T : Tr} {j : Nat} (h : j < 10) : rowT T (60 + j) = T 15 j := by unfold rowT; rw [if_neg (by omega), if_neg (by omega), if_neg (by omega), if_pos (by omega), Nat.add_sub_cancel_left]
theorem rowT_10 {T : Tr} {j : Nat} (h : j < 6) : rowT T (70 + j) = T 10 j := by unfold rowT; rw [if_neg (by omega), if_neg (by omega), if_neg (by omega), if_neg (by omega), Nat.add_sub_cancel_left]
def imG (P Ti S : Tr) (L : Lo) : Prop := rwR P (S 0 12) (S 0 13) (S 0 14) (rowT Ti) (fun k => S 86 k) ∧ (Ti 0 0 = S 0 89 ∧ Ti 0 1 = S 0 88) ∧ (∀ p : Nat, (p : Int) < (S 0 13).toInt → (Ti 11 p = S 88 p ∧ Ti 12 p = S 88 (6 + p) ∧ Ti 9 p = S 57 p) ∧ (S 88 p = 0 ∨ S 88 p = 1 ∨ S 88 p = 2) ∧ ((S 0 89).toInt ≤ (S 57 p).toInt → S 88 p = 0)) ∧ (∀ i : Nat, (i : Int) < (S 0 14).toInt → (Ti 14 i = S 87 i ∧ Ti 13 i = S 33 i) ∧ (S 87 i = 1 → S 88 (S 30 i).toNatClampNeg = 1) ∧ (S 88 (S 30 i).toNatClampNeg = 0 → S 87 i = 0)) ∧ (Ti 0 3 = S 23 0 ∧ Ti 0 4 = S 23 1) ∧ L 0 90 = (Ti 0 2).toInt64 ∧ 0 ≤ (Ti 0 2).toInt
def imR (P X Ti S : Tr) (L : Lo) : Prop := ¬ X 0 4 = 0 → imG P Ti S L
theorem imG_o {P Ti S S1 : Tr} {L L1 : Lo} (h : imG P Ti S L) (h13 : (S 0 13).toInt ≤ 6) (h14 : (S 0 14).toInt ≤ 10) (e0 : ∀ j, (12 ≤ j ∧ j ≤ 14) ∨ j = 88 ∨ j = 89 → S1 0 j = S 0 j) (e : ∀ a j, (a = 23 ∧ j < 3) ∨ ((a = 30 ∨ a = 33) ∧ j < 10) ∨ (a = 57 ∧ j < 6) ∨ (86 ≤ a ∧ a ≤ 88) → S1 a j = S a j) (eL : L1 0 90 = L 0 90) : imG P Ti S1 L1 := by
  obtain ⟨h1, h2, h3, h4, h5, h6⟩ := h
  refine ⟨?_, ?_, fun p hp => ?_, fun i hi => ?_, ?_, by rw [eL]; exact h6⟩
  · rw [e0 12 (by omega), e0 13 (by omega), e0 14 (by omega), show (fun k => S1 86 k) = (fun k => S 86 k) from funext fun k => e 86 k (by omega)]
    exact h1
  · rw [e0 88 (by omega), e0 89 (by omega)]; exact h2
  · rw [e0 13 (by omega)] at hp
    rw [e 88 p (by omega), e 88 (6 + p) (by omega), e 57 p (by omega), e0 89 (by omega)]; exact h3 p hp
  · rw [e0 14 (by omega)] at hi
    rw [e 87 i (by omega), e 33 i (by omega), e 30 i (by omega), e 88 _ (by omega)]; exact h4 i hi
  · rw [e 23 0 (by omega), e 23 1 (by omega)]; exact h5
theorem imR_o {P X Ti S S1 : Tr} {L L1 : Lo} (h : imR P X Ti S L) (h13 : (S 0 13).toInt ≤ 6) (h14 : (S 0 14).toInt ≤ 10) (e0 : ∀ j, (12 ≤ j ∧ j ≤ 14) ∨ j = 88 ∨ j = 89 → S1 0 j = S 0 j) (e : ∀ a j, (a = 23 ∧ j < 3) ∨ ((a = 30 ∨ a = 33) ∧ j < 10) ∨ (a = 57 ∧ j < 6) ∨ (86 ≤ a ∧ a ≤ 88) → S1 a j = S a j) (eL : L1 0 90 = L 0 90) : imR P X Ti S1 L1 := fun n => imG_o (h n) h13 h14 e0 e eL
def keQ (P Tn C : Tr) (q : Int32 × Tr × Tr × Nat) (q' : Int32 × Tr × Lo) : Prop := q.1 = q'.1 ∧ Nw P Tn q'.2.1 q'.2.2 ∧ uR P C q'.2.1 ∧ imR P q.2.1 q.2.2.1 q'.2.1 q'.2.2
theorem e_X7keep {P X Tn Ti C S : Tr} {L : Lo} {pa qa : Nat → Nat} {q0 q1 : Nat} (h : Nw P Tn S L) (hu : uR P C S) (hj : jR S) : E2 (f_X7_keep pa qa X Tn Ti q0 q1) (f_X8_keep S L) (keQ P Tn C) := by
  obtain ⟨hS, hK, hd, hv, n9, n13, nr, nl, na⟩ := id h
  have h13 : 0 ≤ (S 0 13).toInt ∧ (S 0 13).toInt ≤ 6 := hS.1 0 13
  have h14 : 0 ≤ (S 0 14).toInt ∧ (S 0 14).toInt ≤ 10 := hS.1 0 14
  unfold f_X7_keep
  intro u v eu ev
  have kp := k_kp S L v ev
  have jv := (D_to (R_keep S L hj) v ev).1
  obtain ⟨q, hq, eu⟩ := tx_bd eu
  have cp := e_cpA Ti Tn q1 q0 q hq
  have eu : (Tn 0 0, st X 0 4 1, q.1, q.2) = u := tx_1 eu
  rw [← eu]
  obtain ⟨k1, k2, k3, k4, k5, ⟨k6, k7, k8⟩, ⟨k9, k10⟩, k11, k12⟩ := kp
  obtain ⟨c1, c2, c3, c4, c5, c6⟩ := cp
  have f : ∀ a j, ¬ (86 ≤ a ∧ a ≤ 88) → ¬ (a = 0 ∧ (j = 2 ∨ j = 84 ∨ j = 88 ∨ j = 89)) → v.2.1 a j = S a j := k12
  have N2 : Nw P Tn v.2.1 v.2.2 := Nw_of h ⟨jv.1, jv.2.1, jv.2.2.1⟩ (fun a j hc => by unfold h0c at hc; exact f a j (by omega) (by omega)) ((f 0 65 (by omega) (by omega)).trans nl.2.2) k10
  refine ⟨by show Tn 0 0 = v.1; rw [k11]; exact hd.1, N2, uR_o hu (f 0 82 (by omega) (by omega)) (fun j _ _ => f 0 j (by omega) (by omega)) (fun j => f 84 j (by omega) (by omega)), fun _ => ?_⟩
  show imG P q.1 v.2.1 v.2.2
  refine ⟨?_, ⟨?_, ?_⟩, fun p hp => ?_, fun i hi => ?_, ⟨?_, ?_⟩, ?_, ?_⟩
  · rw [f 0 12 (by omega) (by omega), f 0 13 (by omega) (by omega), f 0 14 (by omega) (by omega)]
    exact rw_now h (fun j hj => (rowT_16 hj).trans (c4 j hj)) (fun j hj => (rowT_17 hj).trans (c5 j hj).1) (fun j hj => (rowT_18 hj).trans (c5 j hj).2) (fun j hj => (rowT_15 hj).trans (c3 j hj).2.2) (fun j hj => (rowT_10 hj).trans (c2 j hj).2.1) k1 k2 k3
  · rw [k7, c1 0 (by omega)]; exact hd.1
  · rw [k6, c1 1 (by omega)]; exact hd.2.1
  · rw [f 0 13 (by omega) (by omega)] at hp
    have x := hd.2.2.1 p hp
    have y := (hv.2 p hp).1
    rw [show 6 * 0 + p = p by omega] at x y
    rw [(k5 p (by omega)).1, (k5 p (by omega)).2, f 57 p (by omega) (by omega), k7, (c2 p (by omega)).1, (c2 p (by omega)).2.2.1, (c2 p (by omega)).2.2.2]
    exact ⟨⟨x.1, x.2, (n9 p hp).1⟩, y, na p hp⟩
  · rw [f 0 14 (by omega) (by omega)] at hi
    have x := (hd.2.2.2.1 i hi).1
    have y := hv.1 i hi
    have ow := own_lt hS i hi
    rw [show 10 * 0 + i = i by omega] at x y
    rw [show 6 * 0 + (S 30 i).toNatClampNeg = (S 30 i).toNatClampNeg by omega] at y
    rw [k4 i (by omega), f 33 i (by omega) (by omega), f 30 i (by omega) (by omega), (k5 _ (by omega)).1, (c3 i (by omega)).1, (c3 i (by omega)).2.1]
    exact ⟨⟨x, n13 i hi⟩, y.1, y.2.1⟩
  · rw [f 23 0 (by omega) (by omega), c1 3 (by omega)]; exact nr.1
  · rw [f 23 1 (by omega) (by omega), c1 4 (by omega)]; exact nr.2.1
  · rw [k9, c1 2 (by omega)]; exact nl.1
  · rw [c1 2 (by omega)]; exact nl.2.1
def bckQ (P X Ti : Tr) (q : Int32 × Tr × Tr × Nat) (q' : Int32 × Tr × Lo) : Prop := q.1 = q'.1 ∧ Nw P q.2.1 q'.2.1 q'.2.2 ∧ uR P q.2.2.1 q'.2.1 ∧ imR P X Ti q'.2.1 q'.2.2
theorem e_X7back {P X Tn Ti C S : Tr} {L : Lo} {pa qa : Nat → Nat} {q0 q1 : Nat} (h : Nw P Tn S L) (hu : uR P C S) (hj : jR S) (hi : imR P X Ti S L) (hX : X 0 4 = 0 ↔ S 0 84 = 0) : E2 (f_X7_back pa qa X Tn Ti C q0 q1) (f_X8_back S L) (bckQ P X Ti) := by
  obtain ⟨hS, hK, hd, hv, n9, n13, nr, nl, na⟩ := id h
  have h12 : 0 ≤ (S 0 12).toInt ∧ (S 0 12).toInt ≤ 5 := hS.1 0 12
  have h13 : 0 ≤ (S 0 13).toInt ∧ (S 0 13).toInt ≤ 6 := hS.1 0 13
  have h14 : 0 ≤ (S 0 14).toInt ∧ (S 0 14).toInt ≤ 10 := hS.1 0 14
  intro u v eu ev
  have jv := (D_to (R_back S L hj) v ev).1
  unfold f_X7_back at eu
  by_cases c : X 0 4 = 0
  · rw [if_pos c] at eu
    have eu := tx_1 eu
    unfold f_X8_back at ev
    obtain ⟨S1, e1, ev⟩ := tx_lt ev
    rw [if_pos (by rw [← e1, st_ne (by decide)]; exact hX.mp c)] at ev
    have ev := tx_1 ev
    rw [← eu, ← ev, ← e1]
    exact ⟨rfl, Nw_2 h, uR_2 hu, fun n => absurd c n⟩
  · rw [if_neg c] at eu
    obtain ⟨q, hq, eu⟩ := tx_bd eu
    have cp := e_cpA Tn Ti q0 q1 q hq
    have eu : (q.1 0 0, q.1, st C 0 0 0, q.2) = u := tx_1 eu
    obtain ⟨⟨k1, k2, k3, k4, k5, ⟨k6, k7, k8⟩, ⟨k9, k10⟩, k11, k12⟩, k13⟩ := k_bk hj (fun g => c (hX.mpr g)) v ev
    obtain ⟨c1, c2, c3, c4, c5, c6⟩ := cp
    obtain ⟨g1, g2, g3, g4, g5, g6⟩ := hi c
    rw [← eu]
    have f : ∀ a j, ¬ (53 ≤ a ∧ a ≤ 62) → ¬ (a = 0 ∧ (j = 2 ∨ j = 82)) → v.2.1 a j = S a j := k12
    have f57 : ∀ j, v.2.1 57 j = S 57 j := fun j => k13 57 j rfl
    have f12 := f 0 12 (by omega) (by omega)
    have f13 := f 0 13 (by omega) (by omega)
    have f14 := f 0 14 (by omega) (by omega)
    obtain ⟨w1, w2, w3⟩ := rw_back (T1 := q.1) (q := v.2.1) g1 jv.1 jv.2.2.1.1 f14 h12.1 h13.2 h14.2 (fun j hj => (c4 j hj).trans (rowT_16 hj).symm) (fun j hj => (c5 j hj).1.trans (rowT_17 hj).symm) (fun j hj => (c5 j hj).2.trans (rowT_18 hj).symm) (fun j hj => (c3 j hj).2.2.trans (rowT_15 hj).symm) (fun j hj => (c2 j hj).2.1.trans (rowT_10 hj).symm) k1 k2 k3
    have NN : Nw P q.1 v.2.1 v.2.2 := by
      refine ⟨⟨jv.1, jv.2.1, jv.2.2.1⟩, pK_o hK (fun j a b => f 0 j (by omega) (by omega)) (fun a j a1 a2 => f a j (by omega) (by omega)), ⟨?_, ?_, fun p hp => ?_, fun i hi => ?_, w1⟩, ⟨fun i hi => ?_, fun p hp => ?_⟩, fun p hp => ?_, fun i hi => ?_, ⟨?_, ?_, ?_, ?_, ?_, ?_⟩, ⟨?_, ?_, ?_⟩, fun p hp hq => ?_⟩
      · rw [k7, c1 0 (by omega)]; exact g2.1
      · rw [k6, c1 1 (by omega)]; exact g2.2
      · rw [f13] at hp
        rw [show 6 * 0 + p = p by omega, (k5 p (by omega)).1, (k5 p (by omega)).2, (c2 p (by omega)).2.2.1, (c2 p (by omega)).2.2.2]
        exact ⟨(g3 p hp).1.1, (g3 p hp).1.2.1⟩
      · rw [f14] at hi
        rw [show 10 * 0 + i = i by omega, k4 i (by omega), (c3 i (by omega)).2.1]
        exact ⟨(g4 i hi).1.1, (w2 i hi).1⟩
      · rw [f14] at hi
        have ow := own_lt hS i hi
        rw [show 10 * 0 + i = i by omega, f 30 i (by omega) (by omega), show 6 * 0 + (S 30 i).toNatClampNeg = (S 30 i).toNatClampNeg by omega, k4 i (by omega), (k5 _ (by omega)).1, f12]
        exact ⟨(g4 i hi).2.1, (g4 i hi).2.2, (w2 i hi).2⟩
      · rw [f13] at hp
        have y := (hv.2 p hp).2
        rw [show 6 * 0 + p = p by omega] at y
        rw [show 6 * 0 + p = p by omega, (k5 p (by omega)).1, f57]
        exact ⟨(g3 p hp).2.1, y⟩
      · rw [f13] at hp
        rw [f57, (c2 p (by omega)).1]
        exact ⟨(g3 p hp).1.2.2, w3 p hp⟩
      · rw [f14] at hi
        rw [f 33 i (by omega) (by omega), (c3 i (by omega)).1]; exact (g4 i hi).1.2
      · rw [f 23 0 (by omega) (by omega), c1 3 (by omega)]; exact g5.1
      · rw [f 23 1 (by omega) (by omega), c1 4 (by omega)]; exact g5.2
      · rw [f 23 0 (by omega) (by omega)]; exact nr.2.2.1
      · rw [f 23 0 (by omega) (by omega)]; exact nr.2.2.2.1
      · rw [c6 6 (by omega)]; exact nr.2.2.2.2.1
      · rw [c6 7 (by omega)]; exact nr.2.2.2.2.2
      · rw [k9, c1 2 (by omega)]; exact g6.1
      · rw [c1 2 (by omega)]; exact g6.2
      · rw [f 0 65 (by omega) (by omega)]; exact nl.2.2
      · rw [f13] at hp
        rw [k7, f57] at hq
        rw [(k5 p (by omega)).1]; exact (g3 p hp).2.2 hq
    obtain ⟨_, m, n, m20, n20, hm, hn, hr⟩ := id hu
    refine ⟨by show q.1 0 0 = v.1; rw [k11, c1 0 (by omega)]; exact g2.1, NN, ?_, imR_o hi h13.2 h14.2 (fun j hj2 => f 0 j (by omega) (by omega)) (fun a j hj2 => ?_) k10⟩
    · show uR P (st C 0 0 0) v.2.1
      refine ⟨by rw [st_same, k8], m, 0, m20, by omega, by rw [st_ne (by decide)]; exact hm, by rw [k8]; decide, fun r hr2 => absurd hr2 (by omega)⟩
    · rcases (by omega : a = 57 ∨ ¬ (53 ≤ a ∧ a ≤ 62)) with g | g
      · subst g; exact f57 j
      · exact f a j g (by omega)
