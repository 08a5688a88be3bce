/-! answers about what is now -/
theorem e_X7piece {P Tn S : Tr} {L : Lo} {pa qa : Nat → Nat} {q0 q4 : Nat} {x1 x2 : Int32} (h : Nw P Tn S L) : E2 (f_X7_piece pa qa P Tn q0 q4 x1 x2) (f_X8_piece S x1 x2) (fun r q => r = q.1) := by
  unfold f_X7_piece f_X8_piece
  refine E2_ltr (fun S1 e1 => ?_)
  have hN : Nw P Tn S1 L := by rw [e1]; exact Nw_2 h
  obtain ⟨⟨hS, hpI, hg⟩, hK, hd, hv, _⟩ := id hN
  have h14 : 0 ≤ (S1 0 14).toInt ∧ (S1 0 14).toInt ≤ 10 := hS 0 14
  refine E2_bd (e_isPc hK.1.2.2.1) (fun r r' hr => ?_)
  obtain ⟨rfl, hr⟩ := hr
  refine E2_it Iff.rfl (fun _ _ => E2_some rfl) (fun n _ => ?_)
  obtain ⟨_, x0, x14⟩ := hr.resolve_left n
  obtain ⟨i, hi⟩ : ∃ i : Nat, x1.toInt = i := ⟨x1.toInt.toNat, by omega⟩
  have hii : (i : Int) < (S1 0 14).toInt := by omega
  obtain ⟨k1, k2, k3, _⟩ := hK.2.2.2.1 i hii
  have d := hd.2.2.2.1 i hii
  rw [show 10 * 0 + i = i by omega] at d
  rw [i_cn hi]
  refine E2_it Iff.rfl (fun _ _ => E2_ckl (fun _ => E2_ckl (fun _ => E2_ckr (fun _ => E2_some k1)))) (fun _ _ => ?_)
  refine E2_it Iff.rfl (fun _ _ => E2_ckl (fun _ => E2_ckl (fun _ => E2_ckr (fun _ => E2_some k2)))) (fun _ _ => ?_)
  refine E2_it Iff.rfl (fun _ _ => E2_ckl (fun _ => E2_ckl (fun _ => E2_ckr (fun _ => E2_some k3)))) (fun _ _ => ?_)
  refine E2_it Iff.rfl (fun _ _ => E2_ckl (fun _ => E2_ckr (fun _ => E2_some d.1))) (fun _ _ => ?_)
  refine E2_it Iff.rfl (fun _ _ => E2_ckl (fun _ => E2_ckr (fun _ => E2_some d.2))) (fun _ _ => ?_)
  refine E2_it Iff.rfl (fun _ _ => E2_ckl (fun _ => ?_)) (fun _ _ => E2_some rfl)
  by_cases c : 0 ≤ (S1 54 i).toInt
  · obtain ⟨p, pos, ha⟩ := at2_of (b := 0) (P := P) (T := Tn) hS hg.1 hd.2.2.2.1 hd.2.2.2.2 hii (by rw [show 10 * 0 + i = i by omega]; exact c)
    obtain ⟨a1, a2⟩ := e_abv (b := 0) (xb := 0) ha (by decide) (by decide) hS hg.1 hi (by omega)
    refine E2_bl a1 (fun u hu => E2_br a2 (fun v hv => E2_some ?_))
    exact Int32.toInt_inj.mp (hu.trans hv.symm)
  · refine E2_bl (e_ab0 hi (by rw [d.2]; omega)) (fun u hu => E2_br (e_ab1 (b := 0) (xb := 0) (S := S1) (by decide) (by decide) hi (by omega) (by rw [show 10 * 0 + i = i by omega]; omega)) (fun v hv => E2_some ?_))
    exact hu.trans hv.symm
theorem e_X7place {P Tn S : Tr} {L : Lo} {pa qa : Nat → Nat} {q0 q4 : Nat} {x1 x2 : Int32} (h : Nw P Tn S L) : E2 (f_X7_place pa qa P Tn q0 q4 x1 x2) (f_X8_place S x1 x2) (fun r q => r = q.1) := by
  unfold f_X7_place f_X8_place
  refine E2_ltr (fun S1 e1 => ?_)
  have hN : Nw P Tn S1 L := by rw [e1]; exact Nw_2 h
  obtain ⟨⟨hS, hpI, hg⟩, hK, hd, hv, _⟩ := id hN
  have h12 : 0 ≤ (S1 0 12).toInt ∧ (S1 0 12).toInt ≤ 5 := hS 0 12
  refine E2_bd (e_isPl hK.1.1) (fun r r' hr => ?_)
  obtain ⟨rfl, hr⟩ := hr
  refine E2_it Iff.rfl (fun _ _ => E2_some rfl) (fun n _ => ?_)
  obtain ⟨_, x0, x12⟩ := hr.resolve_left n
  obtain ⟨p, hp⟩ : ∃ p : Nat, x1.toInt = p := ⟨x1.toInt.toNat, by omega⟩
  have hpp : (p : Int) < (S1 0 12).toInt := by omega
  obtain ⟨k1, k2⟩ := hK.2.1 p hpp
  have s1 := hd.2.2.2.2 p (by omega)
  have s17 := s1.1
  rw [show 5 * 0 + p = p by omega] at s17
  rw [i_cn hp]
  refine E2_it Iff.rfl (fun _ _ => E2_ckl (fun _ => E2_ckl (fun _ => E2_ckr (fun _ => E2_some k1)))) (fun _ _ => ?_)
  refine E2_it Iff.rfl (fun _ _ => E2_ckl (fun _ => E2_ckl (fun _ => E2_ckr (fun _ => E2_some k2)))) (fun _ _ => ?_)
  refine E2_it Iff.rfl (fun _ _ => E2_ckl (fun _ => E2_br (e_wgt (b := 0) (xb := 0) (by decide) (by decide) hp (by omega) hS hg.1 hK.2.2.2.1 s1) (fun v hv => E2_some hv.symm))) (fun _ _ => ?_)
  refine E2_it Iff.rfl (fun _ _ => E2_ckl (fun _ => E2_ckr (fun _ => E2_some s17))) (fun _ _ => ?_)
  refine E2_it Iff.rfl (fun _ _ => E2_ckl (fun _ => E2_ckr (fun _ => E2_bl (e_tpN (b := 0) (P := P) hS hd.2.2.2.2 hp (by omega)) (fun u hu => ?_)))) (fun _ _ => E2_some rfl)
  rw [show 5 * 0 + p = p by omega] at hu
  have b56 := BM56 hS p
  rcases hu with ⟨c, u1⟩ | ⟨c, u1⟩
  · rw [if_pos c]; exact E2_some u1
  · rw [if_neg c]
    obtain ⟨m, hm⟩ : ∃ m : Nat, (S1 56 p).toInt = m := ⟨(S1 56 p).toInt.toNat, by omega⟩
    have m0 : m ≠ 0 := fun g => c (Int32.toInt_inj.mp (by rw [hm, g]; decide))
    have e : (S1 56 p - 1).toInt = ((m - 1 : Nat) : Int) := by rw [i_subK hm (y := 1) (by decide) (by omega) (by omega)]; omega
    refine E2_br (e_sat (b := 0) (xb := 0) (S := S1) (by decide) (by decide) hp (by omega) e (by omega)) (fun v hv => E2_some ?_)
    show u = v
    rw [u1, hv, hm, show ((m : Nat) : Int).toNat - 1 = m - 1 by omega]
theorem E2_lb' {α β : Type} {R Q : α → β → Prop} {x : Option α} {y : Option β} (h1 : E2 x y R) (h : ∀ a b, R a b → Q a b) : E2 (bd x fun r => some r) y Q := fun a b ea eb => by
  cases x with
  | none => cases ea
  | some v => exact h a b (h1 a b ea eb)
theorem e_mh {P Tn S : Tr} {L : Lo} {x : Int32} (h : Nw P Tn S L) : E2 (f_X6_piecesThatAre Tn P x) (f_X8_manyHow S x) (fun r r' => r = r') := by
  obtain ⟨⟨hS, hpI, hg⟩, hK, hd, hv, _⟩ := id h
  have h14 : 0 ≤ (S 0 14).toInt ∧ (S 0 14).toInt ≤ 10 := hS 0 14
  have p14 : P 0 2 = S 0 14 := hK.1.2.2.1
  have lp : ∀ (N M n : Nat) (x2 x3 : Int32), x3.toInt = n → n ≤ 10 → E2 (lpF (fun _ _ => none) (fB_X6_piecesThatAre_L4 Tn P x) N x2 x3) (lpF (fun _ _ => none) (fB_X8_manyHow_L4 S x) M x2 x3) (fun r r' => r = r') := by
    intro N
    induction N with
    | zero => intro M n x2 x3 _ _; exact E2_nl
    | succ N ih =>
      intro M n x2 x3 hx hn
      cases M with
      | zero => exact E2_nr
      | succ M =>
        show E2 (fB_X6_piecesThatAre_L4 Tn P x (lpF (fun _ _ => none) (fB_X6_piecesThatAre_L4 Tn P x) N) x2 x3) (fB_X8_manyHow_L4 S x (lpF (fun _ _ => none) (fB_X8_manyHow_L4 S x) M) x2 x3) _
        have ih := ih M
        generalize lpF (fun _ _ => none) (fB_X6_piecesThatAre_L4 Tn P x) N = k at ih ⊢
        generalize lpF (fun _ _ => none) (fB_X8_manyHow_L4 S x) M = k' at ih ⊢
        unfold fB_X6_piecesThatAre_L4 fB_X8_manyHow_L4
        rw [p14]
        refine E2_it Iff.rfl (fun _ _ => E2_some rfl) (fun c _ => E2_ckl (fun _ => E2_ckr (fun _ => ?_)))
        have lt := tq_len rfl hx c
        have d := (hd.2.2.2.1 n lt).1
        rw [show 10 * 0 + n = n by omega] at d
        have e1 := i_p1 hx (by omega)
        rw [i_cn hx, d]
        refine E2_it Iff.rfl (fun _ _ => E2_ltl (fun y a1 => E2_ltl (fun z a2 => E2_ltr (fun y' a3 => E2_ltr (fun z' a4 => ?_))))) (fun _ _ => E2_ltl (fun z a2 => E2_ltr (fun y' a3 => E2_ltr (fun z' a4 => ?_))))
        · rw [a1, a2, a3, a4]; exact ih (n + 1) (x2 + 1) (x3 + 1) e1 (by omega)
        · rw [a2, a3, a4, Int32.add_zero]; exact ih (n + 1) x2 (x3 + 1) e1 (by omega)
  unfold f_X6_piecesThatAre fL_X6_piecesThatAre_L4 f_X8_manyHow fL_X8_manyHow_L4
  exact lp 2000 2000 0 0 0 (by decide) (by omega)
theorem e_pab {P Tn S : Tr} {L : Lo} (h : Nw P Tn S L) : E2 (f_X6_personsAboard Tn P) (fL_X8_count_L154 S 0 0) (fun r q => r = q.1) := by
  obtain ⟨⟨hS, hpI, hg⟩, hK, hd, hv, _⟩ := id h
  have h13 : 0 ≤ (S 0 13).toInt ∧ (S 0 13).toInt ≤ 6 := hS 0 13
  have p13 : P 0 1 = S 0 13 := hK.1.2.1
  have lp : ∀ (N M n : Nat) (x2 x3 : Int32), x3.toInt = n → n ≤ 6 → E2 (lpF (fun _ _ => none) (fB_X6_personsAboard_L4 Tn P) N x2 x3) (lpF (fun _ _ => none) (fB_X8_count_L154 S) M x2 x3) (fun r q => r = q.1) := by
    intro N
    induction N with
    | zero => intro M n x2 x3 _ _; exact E2_nl
    | succ N ih =>
      intro M n x2 x3 hx hn
      cases M with
      | zero => exact E2_nr
      | succ M =>
        show E2 (fB_X6_personsAboard_L4 Tn P (lpF (fun _ _ => none) (fB_X6_personsAboard_L4 Tn P) N) x2 x3) (fB_X8_count_L154 S (lpF (fun _ _ => none) (fB_X8_count_L154 S) M) x2 x3) _
        have ih := ih M
        generalize lpF (fun _ _ => none) (fB_X6_personsAboard_L4 Tn P) N = k at ih ⊢
        generalize lpF (fun _ _ => none) (fB_X8_count_L154 S) M = k' at ih ⊢
        unfold fB_X6_personsAboard_L4 fB_X8_count_L154
        rw [p13]
        refine E2_it Iff.rfl (fun _ _ => E2_some rfl) (fun c _ => E2_ckl (fun _ => E2_ckr (fun _ => ?_)))
        have lt := tq_len rfl hx c
        have d := (hd.2.2.1 n lt).1
        rw [show 6 * 0 + n = n by omega] at d
        have e1 := i_p1 hx (by omega)
        rw [i_cn hx, d]
        refine E2_it Iff.rfl (fun _ _ => E2_ltl (fun y a1 => E2_ltl (fun z a2 => E2_ltr (fun y' a3 => E2_ltr (fun z' a4 => ?_))))) (fun _ _ => E2_ltl (fun z a2 => E2_ltr (fun y' a3 => E2_ltr (fun z' a4 => ?_))))
        · rw [a1, a2, a3, a4]; exact ih (n + 1) (x2 + 1) (x3 + 1) e1 (by omega)
        · rw [a2, a3, a4, Int32.add_zero]; exact ih (n + 1) x2 (x3 + 1) e1 (by omega)
  unfold f_X6_personsAboard fL_X6_personsAboard_L4 fL_X8_count_L154
  exact lp 2000 2000 0 0 0 (by decide) (by omega)
theorem e_X7count {P Tn C Z S : Tr} {L : Lo} {pa qa : Nat → Nat} {q0 q4 : Nat} {x1 : Int32} (h : Nw P Tn S L) (hu : uR P C S) (hz : zR Z S) : E2 (f_X7_count pa qa P Tn C Z q0 q4 x1) (f_X8_count S x1) (fun r q => r = q.1) := by
  unfold f_X7_count f_X8_count
  refine E2_ltr (fun S1 e1 => ?_)
  have hN : Nw P Tn S1 L := by rw [e1]; exact Nw_2 h
  have z : ∀ a j, ¬ (a = 0 ∧ j = 2) → S1 a j = S a j := fun a j n => by rw [e1, st_no n]
  obtain ⟨⟨hS, hpI, hg⟩, hK, hd, hv, _⟩ := id hN
  obtain ⟨k1, k2, k3, k4, k5, _⟩ := hK.1
  have many : ∀ v : Int32, (x1 - 6) + 1 = v → E2 (ck (decide (q0 = pa 0)) (bd (f_X6_piecesThatAre Tn P ((x1 - 6) + 1)) fun r13 => some r13)) (bd (f_X8_manyHow S1 v) fun r9 => some (r9, S1)) (fun r q => r = q.1) := fun v e => by
    rw [e]
    exact E2_ckl (fun _ => E2_bd (e_mh hN) (fun u v hu => E2_some hu))
  refine E2_it Iff.rfl (fun _ _ => E2_ckl (fun _ => E2_some k1)) (fun _ _ => ?_)
  refine E2_it Iff.rfl (fun _ _ => E2_ckl (fun _ => E2_some k2)) (fun _ _ => ?_)
  refine E2_it Iff.rfl (fun _ _ => E2_ckl (fun _ => E2_some k3)) (fun _ _ => ?_)
  refine E2_it Iff.rfl (fun _ _ => E2_ckl (fun _ => E2_some k4)) (fun _ _ => ?_)
  refine E2_it Iff.rfl (fun _ _ => E2_some hd.1) (fun _ _ => ?_)
  refine E2_it Iff.rfl (fun _ _ => E2_some hd.2.1) (fun _ _ => ?_)
  refine E2_it Iff.rfl (fun c _ => many 1 (by rw [c]; decide)) (fun _ _ => ?_)
  refine E2_it Iff.rfl (fun c _ => many 2 (by rw [c]; decide)) (fun _ _ => ?_)
  refine E2_it Iff.rfl (fun c _ => many 3 (by rw [c]; decide)) (fun _ _ => ?_)
  refine E2_it Iff.rfl (fun c _ => many 4 (by rw [c]; decide)) (fun _ _ => ?_)
  refine E2_it Iff.rfl (fun c _ => many 5 (by rw [c]; decide)) (fun _ _ => ?_)
  refine E2_it Iff.rfl (fun _ _ => E2_ckl (fun _ => E2_lb' (e_pab hN) (fun u v hu => hu))) (fun _ _ => ?_)
  refine E2_it Iff.rfl (fun _ _ => E2_ckl (fun _ => E2_some k5)) (fun _ _ => ?_)
  refine E2_it Iff.rfl (fun _ _ => E2_some (hz.1.trans (z 0 78 (by omega)).symm)) (fun _ _ => ?_)
  refine E2_it Iff.rfl (fun _ _ => ?_) (fun _ _ => ?_)
  · unfold f_X4_regarded_x f_X8_knownBy
    rw [z 0 79 (by omega), z 0 78 (by omega), hz.1, hz.2.1]
    by_cases g : 0 ≤ S 0 79
    · rw [if_pos g]; exact E2_sl (E2_sr (E2_some rfl))
    · rw [if_neg g]; exact E2_sl (E2_sr (E2_some rfl))
  · exact E2_it Iff.rfl (fun _ _ => E2_some (hu.1.trans (z 0 82 (by omega)).symm)) (fun _ _ => E2_some rfl)
