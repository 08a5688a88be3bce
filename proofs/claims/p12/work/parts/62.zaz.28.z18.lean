/-! on the way: what is stolen -/
theorem E2_b2 {α β γ δ ε : Type} {Q : α → β → Prop} {x : Option γ} {y : Option δ} {f' : δ → Option ε} {k : γ → Option α} {k' : ε → Option β} {R : γ → ε → Prop} (h1 : E2 x (bd y f') R) (h : ∀ a b, R a b → E2 (k a) (k' b) Q) : E2 (bd x k) (bd y fun d => bd (f' d) k') Q := by
  rw [← bd_bd]; exact E2_bd h1 h
def saQ (b : Nat) (P T0 S0 : Tr) (L0 : Lo) (q q' : Tr × Lo) : Prop := Rl b P q.1 q'.1 ∧ drw q.1 q'.2 ∧ wFr b 4 T0 S0 L0 q.1 q'.1 q'.2
theorem e_sa {b : Nat} {P T0 S0 : Tr} {L0 : Lo} {xb : Int32} (hb : xb.toNatClampNeg = b) (hxb : 0 ≤ xb.toInt ∧ xb.toInt ≤ 1) (N : Nat) : ∀ (n : Nat) (x : Int32) (T S : Tr) (L Lc : Lo), x.toInt = n → n ≤ 10 → Rl b P T S → drw T L → wFr b 4 T0 S0 L0 T S L → E2 (lpF (fun _ _ _ => none) (fB_X6_stealAway_L2 P) N x T Lc) (lpF (fun _ _ _ => none) (fB_X8_onTheWay_L90 xb) N x S L) (saQ b P T0 S0 L0) := by
  induction N with
  | zero => intro n x T S L Lc _ _ _ _ _; exact E2_nl
  | succ N ih =>
    intro n x T S L Lc hx hn hR hd hw
    show E2 (fB_X6_stealAway_L2 P (lpF (fun _ _ _ => none) (fB_X6_stealAway_L2 P) N) x T Lc) (fB_X8_onTheWay_L90 xb (lpF (fun _ _ _ => none) (fB_X8_onTheWay_L90 xb) N) x S L) _
    generalize lpF (fun _ _ _ => none) (fB_X6_stealAway_L2 P) N = k at ih ⊢
    generalize lpF (fun _ _ _ => none) (fB_X8_onTheWay_L90 xb) N = k' at ih ⊢
    have b14 : 0 ≤ (S 0 14).toInt ∧ (S 0 14).toInt ≤ 10 := hR.1.1 0 14
    have p14 : P 0 2 = S 0 14 := hR.2.1.1.2.2.1
    have e1 := i_p1 hx (by omega)
    unfold fB_X6_stealAway_L2 fB_X8_onTheWay_L90
    rw [p14]
    refine E2_it Iff.rfl (fun _ _ => E2_some ⟨hR, hd, hw⟩) (fun c _ => ?_)
    have hii : (n : Int) < (S 0 14).toInt := tq_len rfl hx c
    have s7 : T 0 7 = 0 ↔ ¬ S 0 67 = 0 := hR.2.2.1.2.2.2.2.2.2.1
    by_cases d : S 0 67 = 0
    rotate_left
    · rw [if_pos (s7.mpr d), if_neg d]; exact E2_some ⟨hR, hd, hw⟩
    rw [if_neg (fun g => s7.mp g d), if_pos d]
    have nx : ∀ (y y' : Int32) (T S : Tr) (L Lc : Lo), y = x + 1 → y' = x + 1 → Rl b P T S → drw T L → wFr b 4 T0 S0 L0 T S L → E2 (k y T Lc) (k' y' S L) (saQ b P T0 S0 L0) := fun y y' T S L Lc ey ey' h1 h2 h3 => by
      subst ey ey'
      exact ih (n + 1) (x + 1) T S L Lc e1 (by omega) h1 h2 h3
    have j10 : (((10 : Int32) * xb) + x).toNatClampNeg = 10 * b + n := by rw [jx 10 (by decide) (by omega) hxb hx (by omega), hb]
    have t15 : T 15 n = S 54 (10 * b + n) := (hR.2.2.2.1.2.2.2.1 n hii).2
    rw [i_cn hx, j10]
    refine E2_ckl (fun _ => E2_ltl (fun y4 e4 => E2_ckr (fun _ => ?_)))
    by_cases g : S 53 (10 * b + n) = 1
    · have hly : 0 ≤ (S 54 (10 * b + n)).toInt := (hR.1.2.2.2.1 n (by omega)).mp g
      obtain ⟨p, pos, ha⟩ := at2_of hR.1.1 hR.1.2.2.1 hR.2.2.2.1.2.2.2.1 hR.2.2.2.1.2.2.2.2 hii hly
      have y4p : y4.toInt = p := by rw [e4]; exact ha.1
      have s4p : (S 54 (10 * b + n)).toInt = p := by rw [← t15]; exact ha.1
      have yn : ¬ y4 < 0 := fun q => by
        have := tq_lt (x := y4) (y := (0 : Int32)) y4p (b := 0) (by decide) q
        omega
      have p12 : (p : Int) < (S 0 12).toInt := by rw [← s4p]; exact (hR.2.2.2.2.1 n hii).2.2
      have p8 : P 8 p = S 24 p := (hR.2.1.2.1 p p12).1
      rw [if_pos g, if_neg yn, i_cn y4p, i_cn s4p, p8]
      refine E2_ckl (fun _ => E2_ckr (fun _ => E2_it Iff.rfl (fun _ _ => E2_ckr (fun _ => ?_)) (fun _ _ => E2_ltl (fun y ey => E2_ltr (fun y' ey' => nx y y' T S L Lc ey ey' hR hd hw)))))
      refine E2_b2 (e_stl hb hxb hR hx hii ha) (fun q q' hq => ?_)
      obtain ⟨q1, q2, q3, q4⟩ := hq
      refine E2_ltl (fun r10 e10 => E2_ltl (fun T11 e11 => E2_ltl (fun L12 _ => E2_ltr (fun r13 e13 => E2_ltr (fun S14 e14 => E2_ltr (fun L15 e15 => ?_))))))
      have f19 : o19 T T11 := by rw [e11]; exact q2
      have g3 : o51 S S14 := by rw [e14]; exact q3
      have g4 : oL L L15 := by rw [e15]; exact q4
      have d2 : drw T11 L15 := drw_e hd (f19 0 5 (by omega)) (f19 0 2 (by omega)) (g4 0 63 (by omega) (by omega))
      have h5 : T11 0 5 = S14 0 65 := by rw [f19 0 5 (by omega), g3.1 0 65 (by omega)]; exact hR.2.2.1.2.2.2.2.1
      refine E2_bd (e_hap (S := S14) d2 h5 (by rw [e10, e13]; exact q1)) (fun u u' hu => ?_)
      obtain ⟨u1, u2, u3, u4, u5⟩ := hu
      refine E2_ltl (fun r15 e16 => E2_ltl (fun T16 e17 => E2_ltr (fun r18 e18 => E2_ltr (fun L19 e19 => ?_))))
      have u4 : ∀ c j, ¬ (c = 0 ∧ j = 2) → T16 c j = T11 c j := by rw [e17]; exact u4
      have hR2 : Rl b P T16 S14 := Rl_d (Rl_e hR f19 g3) u4
      have hw2 : wFr b 4 T0 S0 L0 T16 S14 L19 := wFr_d hw f19 g3 g4 u4 (by rw [e19]; exact u5)
      have d3 : drw T16 L19 := by rw [e17, e19]; exact u3
      have er : r15 = r18 := e16.trans (u1.trans e18.symm)
      rw [er]
      refine E2_it Iff.rfl (fun _ _ => E2_ltl (fun y ey => E2_ltr (fun y' ey' => nx y y' T16 S14 L19 L12 ey ey' hR2 d3 hw2))) (fun _ _ => ?_)
      have hii2 : (n : Int) < (S14 0 14).toInt := by rw [g3.1 0 14 (by omega)]; exact hii
      have h532 : S14 53 (10 * b + n) = 1 := by rw [g3.1 53 _ (by omega)]; exact g
      refine E2_bd (e_take (c := 4) hb hxb hR2 hx hii2 h532 (by decide) (by decide)) (fun T21 S24 h9 => E2_ltl (fun y ey => E2_ltr (fun y' ey' => ?_)))
      obtain ⟨hR4, aG4, p4, pos4, h4, _, _, hc4, hz4⟩ := h9
      exact nx y y' T21 S24 L19 L12 ey ey' hR4 (drw_e d3 (hc4.2.2.2.2.2 0 5 (by omega)) (hc4.2.2.2.2.2 0 2 (by omega)) rfl) (wFr_k hw2 hc4 hz4 aG4 h532)
    · have hly : ¬ 0 ≤ (S 54 (10 * b + n)).toInt := fun q => g ((hR.1.2.2.2.1 n (by omega)).mpr q)
      have y4n : y4 < 0 := Decidable.byContradiction (fun q => by
        have := tq_ltn (x := y4) (y := (0 : Int32)) rfl (b := 0) (by decide) q
        rw [e4, t15] at this
        omega)
      rw [if_pos y4n, if_neg g]
      exact E2_ltl (fun y ey => E2_ltr (fun y' ey' => nx y y' T S L Lc ey ey' hR hd hw))
/-- the next stop -/
theorem Rl_stop {b : Nat} {P T S : Tr} {v : Int32} (hR : Rl b P T S) (h0 : 0 ≤ v.toInt) (h1 : v.toInt ≤ 21) : Rl b P (st T 0 0 v) (st S 62 b v) := by
  obtain ⟨d1, d2, d3, d4, d5⟩ := hR.2.2.2.1
  refine Rl_w hR (cM_s cM_r (by simp [Mc])) (aM_s aM_r Mb_62) (iR_set (a := 62) hR.1.1 (by show (0 : Int) ≤ _; omega) (by show _ ≤ (21 : Int); omega)) (fun a j h1 h2 => by rw [st_oth (by omega)]) ⟨?_, ?_, fun p hp => ?_, fun i hi => ?_, ?_⟩ (inv_e hR.2.2.2.2 (fun a j q => by rw [st_oth (by omega)]))
  · rw [st_same, st_same]
  · rw [st_ne (by omega), st_oth (by omega)]; exact d2
  · rw [st_oth (by omega)] at hp
    rw [st_oth (by omega), st_oth (by omega), st_oth (by omega), st_oth (by omega)]; exact d3 p hp
  · rw [st_oth (by omega)] at hi
    rw [st_oth (by omega), st_oth (by omega), st_oth (by omega), st_oth (by omega)]; exact d4 i hi
  · exact stk_e d5 (fun j => by rw [st_oth (by omega)]) (fun j => by rw [st_oth (by omega)]) (fun j => by rw [st_oth (by omega)]) (fun j => by rw [st_oth (by omega)]) (fun j => by rw [st_oth (by omega)]) hR.1.1
