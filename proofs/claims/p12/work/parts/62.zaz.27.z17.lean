/-! on the way: what falls -/
theorem Int32_or_rc {a b c : Int32} : (a ||| b) ||| c = (a ||| c) ||| b := by rw [Int32.or_assoc, Int32.or_comm b c, ← Int32.or_assoc]
def bitI (i : Nat) : Int32 := (1 : Int32) <<< (Int32.ofNat i &&& 31)
def mkf (f : Nat → Bool) : Nat → Int32
  | 0 => 0
  | n + 1 => mkf f n ||| (bif f n then bitI n else 0)
theorem mkf_cg {f g : Nat → Bool} : ∀ {n : Nat}, (∀ k, k < n → f k = g k) → mkf f n = mkf g n
  | 0, _ => rfl
  | n + 1, h => by
    show mkf f n ||| (bif f n then bitI n else 0) = mkf g n ||| (bif g n then bitI n else 0)
    rw [mkf_cg (fun k hk => h k (by omega)), h n (by omega)]
theorem mkf_0 {f : Nat → Bool} : ∀ {n : Nat}, (∀ k, k < n → f k = false) → mkf f n = 0
  | 0, _ => rfl
  | n + 1, h => by
    show mkf f n ||| (bif f n then bitI n else 0) = 0
    rw [mkf_0 (fun k hk => h k (by omega)), h n (by omega)]; show (0 : Int32) ||| 0 = 0; decide
theorem mkf_set {f : Nat → Bool} {i : Nat} : ∀ {n : Nat}, i < n → mkf (fun k => if k = i then true else f k) n = mkf f n ||| bitI i
  | 0, h => absurd h (by omega)
  | n + 1, h => by
    show mkf (fun k => if k = i then true else f k) n ||| (bif (if n = i then true else f n) then bitI n else 0) = (mkf f n ||| (bif f n then bitI n else 0)) ||| bitI i
    by_cases g : n = i
    · subst g
      rw [if_pos rfl, mkf_cg (g := f) (fun k hk => by show (if k = n then true else f k) = f k; rw [if_neg (by omega)])]
      cases f n with
      | true => show mkf f n ||| bitI n = (mkf f n ||| bitI n) ||| bitI n; rw [Int32.or_assoc, Int32.or_self]
      | false => show mkf f n ||| bitI n = (mkf f n ||| 0) ||| bitI n; rw [Int32.or_zero]
    · rw [if_neg g, mkf_set (by omega : i < n), Int32_or_rc]
/-- what has fallen -/
def fln (b : Nat) (S S1 : Tr) (i : Nat) : Bool := decide (S1 53 (10 * b + i) = 3 ∧ ¬ S 53 (10 * b + i) = 3)
def wHw (b : Nat) (c : Int32) (S S1 : Tr) : Prop := ∀ i : Nat, (i : Int) < (S 0 14).toInt → S1 53 (10 * b + i) = S 53 (10 * b + i) ∨ (S 53 (10 * b + i) = 1 ∧ S1 53 (10 * b + i) = c)
def fD (T T1 : Tr) : Prop := ∀ a j, ¬ (a = 0 ∧ j = 2) → ¬ (14 ≤ a ∧ a ≤ 19) → T1 a j = T a j
def fPz (S S1 : Tr) : Prop := ∀ a j, ¬ (a = 0 ∧ j = 51) → ¬ (53 ≤ a ∧ a ≤ 56) → S1 a j = S a j
/-- frames on the way; c: how a piece is lost -/
def wFr (b : Nat) (c : Int32) (T0 S0 : Tr) (L0 : Lo) (T S : Tr) (L : Lo) : Prop := fD T0 T ∧ fPz S0 S ∧ aM b S0 S ∧ oD L0 L ∧ wHw b c S0 S
theorem wFr_r {b : Nat} {c : Int32} {T S : Tr} {L : Lo} : wFr b c T S L T S L := ⟨fun _ _ _ _ => rfl, fun _ _ _ _ => rfl, aM_r, oD_r, fun _ _ => Or.inl rfl⟩
/-- a percent and a draw: nothing else changes -/
theorem wFr_d {b : Nat} {c : Int32} {T0 S0 T S T1 S1 T2 : Tr} {L0 L L1 L2 : Lo} (h : wFr b c T0 S0 L0 T S L) (f : o19 T T1) (g : o51 S S1) (hL : oL L L1) (f2 : ∀ c j, ¬ (c = 0 ∧ j = 2) → T2 c j = T1 c j) (hL2 : oD L1 L2) : wFr b c T0 S0 L0 T2 S1 L2 := by
  obtain ⟨h1, h2, h3, h4, h5⟩ := h
  refine ⟨fun a j n1 n2 => ?_, fun a j n1 n2 => (g.1 a j n1).trans (h2 a j n1 n2), aM_t h3 (aM_51 g), oD_t h4 (oD_t (oD_L hL) hL2), fun i hi => ?_⟩
  · rw [f2 a j n1, f a j (by omega)]; exact h1 a j n1 n2
  · rw [g.1 53 _ (by omega)]; exact h5 i hi
/-- a piece is lost -/
theorem wFr_k {b i p pos h : Nat} {c : Int32} {T0 S0 T S T1 S1 : Tr} {L0 L : Lo} {P : Tr} (w : wFr b c T0 S0 L0 T S L) (hc : tkC P T T1 i p pos h c) (hz : tkZ b S S1 i p pos h c) (hA : aG b S S1) (h1 : S 53 (10 * b + i) = 1) : wFr b c T0 S0 L0 T1 S1 L := by
  obtain ⟨w1, w2, w3, w4, w5⟩ := w
  refine ⟨fun a j n1 n2 => ?_, fun a j n1 n2 => ?_, aM_t w3 (aM_fx hA (fx_z hz)), w4, fun q hq => ?_⟩
  · rw [hc.2.2.2.2.2 a j (by omega)]; exact w1 a j n1 n2
  · rw [hz.2.2.2.2 a j n2]; exact w2 a j n1 n2
  · rw [hz.2.2.2.1]
    by_cases g : q = i
    · subst g
      rw [if_pos rfl]
      rcases w5 q hq with e | ⟨e1, e2⟩
      · exact Or.inr ⟨e.symm.trans h1, rfl⟩
      · exact Or.inr ⟨e1, rfl⟩
    · rw [if_neg (by omega)]; exact w5 q hq
def faQ (b : Nat) (P T0 S0 : Tr) (L0 : Lo) (m : Int32) (T S : Tr) (L : Lo) : Prop := Rl b P T S ∧ drw T L ∧ wFr b 3 T0 S0 L0 T S L ∧ m = mkf (fln b S0 S) (S0 0 14).toNatClampNeg
theorem Rl_d {b : Nat} {P T T1 S : Tr} (hR : Rl b P T S) (f : ∀ c j, ¬ (c = 0 ∧ j = 2) → T1 c j = T c j) : Rl b P T1 S := by
  obtain ⟨h1, h2, h3, h4, h5⟩ := hR
  exact ⟨h1, h2, sta_M h3 (fun a j hm => f a j (fun q => by obtain ⟨rfl, rfl⟩ := q; simp [Mc] at hm)) aM_r, dyn_e h4 h1.1 (fun a j q => f a j (by omega)) (fun _ _ _ => rfl), h5⟩
/-- the top of a stack -/
theorem e_top {b n : Nat} {P T S : Tr} {xn : Int32} (hR : Rl b P T S) (hx : xn.toInt = n) (hn : n < 5) : Ep (f_X6_top T xn) (fun r => (S 56 (5 * b + n) = 0 ∧ r = -1) ∨ (¬ S 56 (5 * b + n) = 0 ∧ r = S 55 (50 * b + 10 * n + ((S 56 (5 * b + n)).toInt.toNat - 1)))) := by
  obtain ⟨g1, g2, g3⟩ := hR.2.2.2.1.2.2.2.2 n hn
  have b56 := BM56 hR.1.1 (5 * b + n)
  unfold f_X6_top
  rw [i_cn hx, g1]
  refine Ep_ck (Ep_ite (fun c => Ep_some (Or.inl ⟨c, rfl⟩)) (fun c => Ep_ck (Ep_some (Or.inr ⟨c, ?_⟩))))
  have c1 : ¬ (S 56 (5 * b + n)).toInt = 0 := fun g => c (Int32.toInt_inj.mp (g.trans (by decide)))
  obtain ⟨h, hh⟩ : ∃ h : Nat, (S 56 (5 * b + n)).toInt = h := ⟨(S 56 (5 * b + n)).toInt.toNat, by omega⟩
  have e1 : ((xn * 10) + S 56 (5 * b + n)).toInt = 10 * n + h := (jy hx (by omega) hh (by omega)).2
  have e2 : (((xn * 10) + S 56 (5 * b + n)) - 1).toNatClampNeg = 10 * n + (h - 1) := i_cn (by rw [i_subK e1 (y := 1) (by decide) (by omega) (by omega)]; omega)
  rw [e2, hh, show ((h : Nat) : Int).toNat = h by omega, show 50 * b + 10 * n + (h - 1) = 50 * b + 10 * n + (h - 1) from rfl]
  exact g2 (h - 1) (by rw [hh]; omega)
theorem e_rck {P : Tr} {xn : Int32} {n : Nat} (hx : xn.toInt = n) (h0 : 0 ≤ (P 8 n).toInt) : Ep (f_X6_isRack P xn) (fun r => (r = 0 ∧ (1 : Int32) < P 8 n) ∨ (r = 1 ∧ ¬ (1 : Int32) < P 8 n)) := by
  unfold f_X6_isRack
  rw [i_cn hx]
  refine Ep_ck (Ep_ite (fun c => Ep_some (Or.inr ⟨rfl, by rw [c]; decide⟩)) (fun c => Ep_ite (fun d => Ep_some (Or.inr ⟨rfl, by rw [d]; decide⟩)) (fun d => Ep_some (Or.inl ⟨rfl, ?_⟩))))
  refine Int32.not_le.mp (fun g => ?_)
  have g1 := tq_le (x := P 8 n) (y := (1 : Int32)) rfl (b := 1) (by decide) g
  rcases (by omega : (P 8 n).toInt = 0 ∨ (P 8 n).toInt = 1) with k | k
  · exact c (Int32.toInt_inj.mp (k.trans (by decide)))
  · exact d (Int32.toInt_inj.mp (k.trans (by decide)))
theorem e_fa {α : Type} {b : Nat} {P T0 S0 : Tr} {L0 : Lo} {K : Int32 × Tr × Lo → Option α} {Q : α → Tr × Lo → Prop} {xb : Int32} (hb : xb.toNatClampNeg = b) (hxb : 0 ≤ xb.toInt ∧ xb.toInt ≤ 1) (hk : ∀ (m : Int32) (T1 : Tr) (Lc1 : Lo) (S1 : Tr) (L1 : Lo), faQ b P T0 S0 L0 m T1 S1 L1 → E2 (K (m, T1, Lc1)) (fL_X8_onTheWay_L90 xb 0 S1 L1) Q) (N : Nat) : ∀ (n : Nat) (m x : Int32) (T S : Tr) (L Lc : Lo), x.toInt = n → n ≤ 5 → faQ b P T0 S0 L0 m T S L → E2 (bd (lpF (fun _ _ _ _ => none) (fB_X6_fallOff_L4 P) N m x T Lc) K) (lpF (fun _ _ _ => none) (fB_X8_onTheWay_L2 xb) N x S L) Q := by
  induction N with
  | zero => intro n m x T S L Lc _ _ _; exact E2_nl
  | succ N ih =>
    intro n m x T S L Lc hx hn hF
    show E2 (bd (fB_X6_fallOff_L4 P (lpF (fun _ _ _ _ => none) (fB_X6_fallOff_L4 P) N) m x T Lc) K) (fB_X8_onTheWay_L2 xb (lpF (fun _ _ _ => none) (fB_X8_onTheWay_L2 xb) N) x S L) Q
    generalize lpF (fun _ _ _ _ => none) (fB_X6_fallOff_L4 P) N = k at ih ⊢
    generalize lpF (fun _ _ _ => none) (fB_X8_onTheWay_L2 xb) N = k' at ih ⊢
    have hF' := hF
    obtain ⟨hR, hd, hw, hm⟩ := hF'
    have b12 : 0 ≤ (S 0 12).toInt ∧ (S 0 12).toInt ≤ 5 := hR.1.1 0 12
    have p00 : P 0 0 = S 0 12 := hR.2.1.1.1
    have e1 := i_p1 hx (by omega)
    unfold fB_X6_fallOff_L4 fB_X8_onTheWay_L2
    rw [p00]
    by_cases c : S 0 12 ≤ x
    · rw [if_pos c, if_pos c]; exact hk m T Lc S L hF
    rw [if_neg c, if_neg c]
    have hlt : (n : Int) < (S 0 12).toInt := tq_len rfl hx c
    have s6 : T 0 6 = 0 ↔ ¬ S 0 66 = 0 := hR.2.2.1.2.2.2.2.2.1
    by_cases d : S 0 66 = 0
    rotate_left
    · rw [if_pos (s6.mpr d), if_neg d]; exact hk m T Lc S L hF
    rw [if_neg (fun g => s6.mp g d), if_pos d]
    have nx : ∀ (y y' m : Int32) (T S : Tr) (L Lc : Lo), y = x + 1 → y' = x + 1 → faQ b P T0 S0 L0 m T S L → E2 (bd (k m y T Lc) K) (k' y' S L) Q := fun y y' m T S L Lc ey ey' h => by
      subst ey ey'
      exact ih (n + 1) m (x + 1) T S L Lc e1 (by omega) h
    have j5 : (((5 : Int32) * xb) + x).toNatClampNeg = 5 * b + n := by rw [jx 5 (by decide) (by omega) hxb hx (by omega), hb]
    have p8 : P 8 n = S 24 n := (hR.2.1.2.1 n hlt).1
    have k0 : 0 ≤ (S 24 n).toInt := hR.2.1.1.2.2.2.2.2.2.2 n hlt
    have b56 := BM56 hR.1.1 (5 * b + n)
    rw [bd_bd, i_cn hx, j5]
    refine E2_ckr (fun _ => E2_bl (e_top hR hx (by omega)) (fun r hr => ?_))
    rcases hr with ⟨h0, rfl⟩ | ⟨h0, hr⟩
    · rw [if_pos (by decide : (-1 : Int32) < 0)]
      have g : E2 (bd (k m (x + 1) T Lc) K) (k' (x + 1) S L) Q := nx _ _ m T S L Lc rfl rfl hF
      refine E2_itr (fun _ => g) (fun _ => E2_ckr (fun _ => ?_))
      rw [if_pos h0]; exact g
    · have c1 : ¬ (S 56 (5 * b + n)).toInt = 0 := fun g => h0 (Int32.toInt_inj.mp (g.trans (by decide)))
      obtain ⟨h, hh⟩ : ∃ h : Nat, (S 56 (5 * b + n)).toInt = h := ⟨(S 56 (5 * b + n)).toInt.toNat, by omega⟩
      rw [hh, show ((h : Nat) : Int).toNat = h by omega] at hr
      obtain ⟨i, i10, hi, hii, hly⟩ := sk_at (p := n) (k := h - 1) hR.1.1 hR.1.2.2.1 (by omega) (by rw [hh]; omega)
      have ri : r.toInt = i := by rw [hr]; exact hi
      have h53 : S 53 (10 * b + i) = 1 := (hR.1.2.2.2.1 i i10).mpr (by show 0 ≤ (S 54 (10 * b + i)).toInt; omega)
      have rn : ¬ r < 0 := fun g => by
        have := tq_lt (x := r) (y := (0 : Int32)) ri (b := 0) (by decide) g
        omega
      rw [if_neg rn, bd_bd]
      refine E2_bl (e_rck hx (by rw [p8]; exact k0)) (fun r8 hr8 => ?_)
      rw [p8] at hr8
      rcases hr8 with ⟨rfl, g8⟩ | ⟨rfl, g8⟩
      · rw [if_pos rfl, if_pos g8]
        exact nx _ _ m T S L Lc rfl rfl hF
      · rw [if_neg (by decide), if_neg g8, if_neg h0, bd_bd]
        refine E2_ckr (fun _ => E2_br (R := fun q => q = r) ?_ (fun r35 e35 => ?_))
        · unfold f_X8_stackAt
          have f1 : ((S 56 (5 * b + n)) - 1).toInt = ((h - 1 : Nat) : Int) := by rw [i_subK hh (y := 1) (by decide) (by omega) (by omega)]; omega
          rw [jx3 hxb hx (by omega) f1 (by omega), hb]
          exact Ep_ck (Ep_some hr.symm)
        have e35 : r35 = r := e35
        rw [e35]
        obtain ⟨p, pos, ha⟩ := at2_of hR.1.1 hR.1.2.2.1 hR.2.2.2.1.2.2.2.1 hR.2.2.2.1.2.2.2.2 hii (by omega)
        refine E2_bd (e_fal hb hxb hR ri hii ha) (fun q q' hq => ?_)
        obtain ⟨q1, q2, q3, q4⟩ := hq
        refine E2_ltr (fun r38 e38 => E2_ltr (fun S39 e39 => E2_ltr (fun L40 e40 => ?_)))
        show E2 (bd (bd (f_X6_happens q.2.1 q.1) (fun q_1 => lt q_1.1 fun r18 => lt q_1.2 fun T_19 => if r18 = 0 then (lt (x + 1) fun y23 => k m y23 T_19 q.2.2) else (bd (f_X6_takeAway T_19 P r (3 : Int32)) fun T_24 => lt (m ||| ((1 : Int32) <<< (r &&& 31))) fun y27 => lt (x + 1) fun y28 => k y27 y28 T_24 q.2.2))) K) _ Q
        rw [bd_bd]
        have g3 : o51 S S39 := by rw [e39]; exact q3
        have g4 : oL L L40 := by rw [e40]; exact q4
        have d2 : drw q.2.1 L40 := drw_e hd (q2 0 5 (by omega)) (q2 0 2 (by omega)) (g4 0 63 (by omega) (by omega))
        have h5 : q.2.1 0 5 = S39 0 65 := by rw [q2 0 5 (by omega), g3.1 0 65 (by omega)]; exact hR.2.2.1.2.2.2.2.1
        refine E2_bd (e_hap (S := S39) d2 h5 (by rw [e38]; exact q1)) (fun u u' hu => ?_)
        obtain ⟨u1, u2, u3, u4, u5⟩ := hu
        refine E2_ltr (fun r43 e43 => E2_ltr (fun L44 e44 => ?_))
        have hR2 : Rl b P u.2 S39 := Rl_d (Rl_e hR q2 g3) u4
        have hw2 : wFr b 3 T0 S0 L0 u.2 S39 L44 := wFr_d hw q2 g3 g4 u4 (by rw [e44]; exact u5)
        have d3 : drw u.2 L44 := by rw [e44]; exact u3
        have m2 : m = mkf (fln b S0 S39) (S0 0 14).toNatClampNeg := hm.trans (mkf_cg (fun j _ => by unfold fln; rw [g3.1 53 _ (by omega)]))
        have ur : u.1 = r43 := u1.trans e43.symm
        show E2 (bd (if u.1 = 0 then (lt (x + 1) fun y23 => k m y23 u.2 q.2.2) else (bd (f_X6_takeAway u.2 P r (3 : Int32)) fun T_24 => lt (m ||| ((1 : Int32) <<< (r &&& 31))) fun y27 => lt (x + 1) fun y28 => k y27 y28 T_24 q.2.2)) K) _ Q
        rw [ur]
        by_cases z : r43 = 0
        · rw [if_pos z, if_pos z]
          exact nx _ _ m u.2 S39 L44 q.2.2 rfl rfl ⟨hR2, d3, hw2, m2⟩
        · rw [if_neg z, if_neg z, bd_bd]
          have hii2 : (i : Int) < (S39 0 14).toInt := by rw [g3.1 0 14 (by omega)]; exact hii
          have h532 : S39 53 (10 * b + i) = 1 := by rw [g3.1 53 _ (by omega)]; exact h53
          refine E2_bd (e_take (c := 3) hb hxb hR2 ri hii2 h532 (by decide) (by decide)) (fun T24 S49 h9 => ?_)
          obtain ⟨hR4, aG4, p4, pos4, h4, _, _, hc4, hz4⟩ := h9
          refine nx _ _ (m ||| ((1 : Int32) <<< (r &&& 31))) T24 S49 L44 q.2.2 rfl rfl ⟨hR4, drw_e d3 (hc4.2.2.2.2.2 0 5 (by omega)) (hc4.2.2.2.2.2 0 2 (by omega)) rfl, wFr_k hw2 hc4 hz4 aG4 h532, ?_⟩
          have s14 : S39 0 14 = S0 0 14 := hw2.2.1 0 14 (by omega) (by omega)
          have i0 : (i : Int) < (S0 0 14).toInt := by rw [← s14]; exact hii2
          have z0 : ¬ S0 53 (10 * b + i) = 3 := fun g => by
            rcases hw2.2.2.2.2 i i0 with w | ⟨w1, w2⟩
            · rw [w, g] at h532; exact absurd h532 (by decide)
            · rw [g] at w1; exact absurd w1 (by decide)
          have eb : (1 : Int32) <<< (r &&& 31) = bitI i := by
            unfold bitI
            rw [of_t ri (by omega)]
          rw [eb, m2, ← mkf_set (by rw [i_cl]; omega : i < (S0 0 14).toNatClampNeg)]
          refine mkf_cg (fun j hj => ?_)
          show (if j = i then true else fln b S0 S39 j) = fln b S0 S49 j
          unfold fln
          rw [hz4.2.2.2.1]
          by_cases g : j = i
          · subst g
            rw [if_pos rfl, if_pos rfl]
            exact (decide_eq_true ⟨rfl, z0⟩).symm
          · rw [if_neg g, if_neg (by omega)]
