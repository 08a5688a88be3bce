/-! person: what the helper hands on is the reference's -/
theorem e_per {P Tn S S' : Tr} {L : Lo} {pa qa : Nat → Nat} {q4 : Nat} {x1 x2 r1 r2 r3 : Int32} (h : Nw P Tn S L) (hc : f_X7_person pa qa P Tn q4 x1 x2 = some r1) (hcm : f_X8_person S x1 x2 = some (r3, S')) (ht : thP pa qa P q4 x1 x2 r2) : S' 0 2 = r2 ∧ (r2 = 0 → r3 = r1) := by
  have hN : Nw P Tn (st S 0 2 0) L := Nw_2 h
  obtain ⟨rp, hrp, alt⟩ := ht
  unfold f_X8_person at hcm
  obtain ⟨r', hr', hcm⟩ := tx_bd hcm
  unfold f_X7_person at hc
  obtain ⟨rq, hrq, hc⟩ := tx_bd hc
  have eq : rq = rp := Option.some.inj (hrq.symm.trans hrp)
  rw [eq] at hc
  obtain ⟨er, hr⟩ := e_isPs hN.2.1.1.2.1 rp r' hrp hr'
  rw [← er] at hcm hr
  unfold f_X8_fails at hcm
  rcases alt with ⟨rfl, e0⟩ | ⟨rfl, n0, alt⟩ | ⟨rfl, n0, n1, n2, n3, n4, n5⟩
  · rw [if_pos e0] at hcm
    have e := Option.some.inj hcm
    have e2 : st (st S 0 2 0) 0 2 1 = S' := (Prod.ext_iff.mp e).2
    exact ⟨by rw [← e2, st_same], fun q => absurd q (by decide)⟩
  · rw [if_neg n0] at hc hcm
    obtain ⟨_, z0, z13⟩ := hr.resolve_left n0
    obtain ⟨p, hp⟩ : ∃ p : Nat, x1.toInt = p := ⟨x1.toInt.toNat, by omega⟩
    have p13 : (p : Int) < (st S 0 2 0 0 13).toInt := by omega
    obtain ⟨_, k2, k3, _, _⟩ := hN.2.1.2.2.1 p p13
    have n9 := (hN.2.2.2.2.1 p p13)
    have d3 := hN.2.2.1.2.2.1 p p13
    rw [show 6 * 0 + p = p by omega] at d3
    have fin : ∀ v w : Int32, some (w, st S 0 2 0) = some (r3, S') → some v = some r1 → v = w → S' 0 2 = 0 ∧ ((0 : Int32) = 0 → r3 = r1) := fun v w a b e => by
      have a := Option.some.inj a
      have a1 : w = r3 := (Prod.ext_iff.mp a).1
      have a2 : st S 0 2 0 = S' := (Prod.ext_iff.mp a).2
      exact ⟨by rw [← a2, st_same], fun _ => by rw [← a1, ← e]; exact Option.some.inj b⟩
    rw [i_cn hp] at hc hcm
    rcases alt with c | c | c | c | c
    · rw [c] at hc hcm
      rw [if_pos rfl] at hc hcm
      exact fin _ _ (tx_ck hcm).2 (tx_ck (tx_ck hc).2).2 k2
    · rw [c] at hc hcm
      rw [if_neg (by decide), if_pos rfl] at hc hcm
      exact fin _ _ (tx_ck hcm).2 (tx_ck (tx_ck hc).2).2 k3
    · rw [c] at hc hcm
      rw [if_neg (by decide), if_neg (by decide), if_pos rfl] at hc hcm
      exact fin _ _ (tx_ck hcm).2 (tx_ck hc).2 n9.2
    · rw [c] at hc hcm
      rw [if_neg (by decide), if_neg (by decide), if_neg (by decide), if_pos rfl] at hc hcm
      exact fin _ _ (tx_ck hcm).2 (tx_ck hc).2 d3.1
    · rw [c] at hc hcm
      rw [if_neg (by decide), if_neg (by decide), if_neg (by decide), if_neg (by decide), if_pos rfl] at hc hcm
      exact fin _ _ (tx_ck hcm).2 (tx_ck hc).2 d3.2
  · rw [if_neg n0, if_neg n1, if_neg n2, if_neg n3, if_neg n4, if_neg n5] at hcm
    have e := Option.some.inj hcm
    have e2 : st (st S 0 2 0) 0 2 2 = S' := (Prod.ext_iff.mp e).2
    exact ⟨by rw [← e2, st_same], fun q => absurd q (by decide)⟩
