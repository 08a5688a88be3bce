/-! a stop passed: nobody gets in at the last, nothing is lost where nothing lies -/
theorem in_20 {b : Nat} {P T S : Tr} {xb : Int32} (hb : xb.toNatClampNeg = b) (hxb : 0 ≤ xb.toInt ∧ xb.toInt ≤ 1) (hR : Rl b P T S) (hn : ∀ p : Nat, (p : Int) < (S 0 13).toInt → ¬ S 57 (6 * b + p) = S 62 b) : Ep (f_X8_ins S xb) (fun q => ∀ a j, ¬ (a = 63 ∧ j = b) → q a j = S a j) := by
  have h13 : 0 ≤ (S 0 13).toInt ∧ (S 0 13).toInt ≤ 6 := hR.1.1 0 13
  have h12 : 0 ≤ (S 0 12).toInt ∧ (S 0 12).toInt ≤ 5 := hR.1.1 0 12
  obtain ⟨w, hw⟩ : ∃ w : Nat, (S 0 12).toInt = w := ⟨(S 0 12).toInt.toNat, by omega⟩
  have lp : ∀ (N n : Nat) (x : Int32), x.toInt = n → n ≤ 6 → Ep (lpF (fun _ _ => none) (fB_X8_ins_L2 xb) N x S) (fun q => ∀ a j, ¬ (a = 63 ∧ j = b) → q a j = S a j) := by
    intro N
    induction N with
    | zero => intro n x _ _; exact Ep_none
    | succ N ih =>
      intro n x hx hn6
      show Ep (fB_X8_ins_L2 xb (lpF (fun _ _ => none) (fB_X8_ins_L2 xb) N) x S) _
      generalize lpF (fun _ _ => none) (fB_X8_ins_L2 xb) N = k at ih ⊢
      unfold fB_X8_ins_L2
      refine Ep_ite (fun _ => Ep_mono (e_146 hb hxb hR (m := w) hw) (fun q h => h.1)) (fun c => ?_)
      have lt := tq_len rfl hx c
      have j6 : (((6 : Int32) * xb) + x).toNatClampNeg = 6 * b + n := by rw [jx 6 (by decide) (by omega) hxb hx (by omega), hb]
      have e1 := i_p1 hx (by omega)
      rw [j6, hb]
      exact Ep_ck (Ep_ck (Ep_ite (fun g => absurd g (hn n lt)) (fun _ => Ep_lt (fun y ey => ih (n + 1) y (by rw [ey]; exact e1) (by omega)))))
  unfold f_X8_ins fL_X8_ins_L2
  exact lp 2000 0 0 (by decide) (by omega)
/-- nothing lies: nothing falls, nothing is stolen (the class, at the last stop) -/
theorem fa_0 {b : Nat} {P T S : Tr} {Lc : Lo} (hR : Rl b P T S) (h0 : ∀ i : Nat, (i : Int) < (S 0 14).toInt → ¬ S 53 (10 * b + i) = 1) : Ep (f_X6_fallOff T P Lc) (fun q => q.2.1 = T) := by
  have h12 : 0 ≤ (S 0 12).toInt ∧ (S 0 12).toInt ≤ 5 := hR.1.1 0 12
  have p00 : P 0 0 = S 0 12 := hR.2.1.1.1
  have z := h_0 hR.1 h0
  have lp : ∀ (N n : Nat) (m x : Int32) (Lc : Lo), x.toInt = n → n ≤ 5 → Ep (lpF (fun _ _ _ _ => none) (fB_X6_fallOff_L4 P) N m x T Lc) (fun q => q.2.1 = T) := by
    intro N
    induction N with
    | zero => intro n m x Lc _ _; exact Ep_none
    | succ N ih =>
      intro n m x Lc hx hn
      show Ep (fB_X6_fallOff_L4 P (lpF (fun _ _ _ _ => none) (fB_X6_fallOff_L4 P) N) m x T Lc) _
      generalize lpF (fun _ _ _ _ => none) (fB_X6_fallOff_L4 P) N = k at ih ⊢
      unfold fB_X6_fallOff_L4
      rw [p00]
      refine Ep_ite (fun _ => Ep_some rfl) (fun c => Ep_ite (fun _ => Ep_some rfl) (fun _ => ?_))
      have lt := tq_len rfl hx c
      refine Ep_bd (e_top hR hx (by omega)) (fun r hr => ?_)
      rcases hr with ⟨_, rfl⟩ | ⟨g, _⟩
      · rw [if_pos (by decide : (-1 : Int32) < 0)]
        exact Ep_lt (fun y ey => ih (n + 1) m y Lc (by rw [ey]; exact i_p1 hx (by omega)) (by omega))
      · exact absurd (z n (by omega)) g
  unfold f_X6_fallOff fL_X6_fallOff_L4
  exact lp 2000 0 0 0 Lc (by decide) (by omega)
theorem sa_0 {b : Nat} {P T S : Tr} {Lc : Lo} (hR : Rl b P T S) (h0 : ∀ i : Nat, (i : Int) < (S 0 14).toInt → ¬ S 53 (10 * b + i) = 1) : Ep (f_X6_stealAway T P Lc) (fun q => q.1 = T) := by
  have h14 : 0 ≤ (S 0 14).toInt ∧ (S 0 14).toInt ≤ 10 := hR.1.1 0 14
  have p14 : P 0 2 = S 0 14 := hR.2.1.1.2.2.1
  have lp : ∀ (N n : Nat) (x : Int32) (Lc : Lo), x.toInt = n → n ≤ 10 → Ep (lpF (fun _ _ _ => none) (fB_X6_stealAway_L2 P) N x T Lc) (fun q => q.1 = T) := by
    intro N
    induction N with
    | zero => intro n x Lc _ _; exact Ep_none
    | succ N ih =>
      intro n x Lc hx hn
      show Ep (fB_X6_stealAway_L2 P (lpF (fun _ _ _ => none) (fB_X6_stealAway_L2 P) N) x T Lc) _
      generalize lpF (fun _ _ _ => none) (fB_X6_stealAway_L2 P) N = k at ih ⊢
      unfold fB_X6_stealAway_L2
      rw [p14]
      refine Ep_ite (fun _ => Ep_some rfl) (fun c => Ep_ite (fun _ => Ep_some rfl) (fun _ => Ep_ck (Ep_lt (fun y4 e4 => ?_))))
      have lt : (n : Int) < (S 0 14).toInt := tq_len rfl hx c
      rw [i_cn hx, (hR.2.2.2.1.2.2.2.1 n lt).2] at e4
      have hly : ¬ 0 ≤ (S 54 (10 * b + n)).toInt := fun q => h0 n lt ((hR.1.2.2.2.1 n (by omega)).mpr q)
      have y4n : y4 < 0 := Decidable.byContradiction (fun q => by
        have := tq_ltn (x := y4) (y := (0 : Int32)) rfl (b := 0) (by decide) q
        rw [e4] at this
        omega)
      rw [if_pos y4n]
      exact Ep_lt (fun y ey => ih (n + 1) y Lc (by rw [ey]; exact i_p1 hx (by omega)) (by omega))
  unfold f_X6_stealAway fL_X6_stealAway_L2
  exact lp 2000 0 0 Lc (by decide) (by omega)
