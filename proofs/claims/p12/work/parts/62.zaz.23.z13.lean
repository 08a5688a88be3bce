/-! getting out: the two go side by side -/
def vS (b o : Nat) (S V : Tr) : Prop := (∀ i : Nat, (i : Int) < (S 0 14).toInt → (V 53 (10 * b + i) = S 53 (10 * b + i) ∧ V 54 (10 * b + i) = S 54 (10 * b + i)) ∨ (S 53 (10 * b + i) = 1 ∧ V 53 (10 * b + i) = 5 ∧ V 54 (10 * b + i) = -1)) ∧ (∀ p : Nat, (p : Int) < (S 0 13).toInt → V 59 (6 * b + p) = S 59 (6 * b + p) ∨ (S 59 (6 * b + p) = 1 ∧ V 59 (6 * b + p) = 2)) ∧ (∀ p : Nat, p < o → (p : Int) < (S 0 13).toInt → ¬ V 59 (6 * b + p) = 1) ∧ (∀ p : Nat, o ≤ p → (p : Int) < (S 0 13).toInt → V 59 (6 * b + p) = S 59 (6 * b + p)) ∧ ∀ a j, ¬ (a = 0 ∧ j = 51) → ¬ (53 ≤ a ∧ a ≤ 56) → ¬ a = 59 → V a j = S a j
theorem vS_r {b o : Nat} {S : Tr} (h : ∀ p : Nat, p < o → (p : Int) < (S 0 13).toInt → ¬ S 59 (6 * b + p) = 1) : vS b o S S := ⟨fun _ _ => Or.inl ⟨rfl, rfl⟩, fun _ _ => Or.inl rfl, h, fun _ _ _ => rfl, fun _ _ _ _ _ => rfl⟩
theorem vS_51 {b o : Nat} {S S1 V : Tr} (h : vS b o S V) (f : o51 S S1) : vS b o S1 V := by
  obtain ⟨p1, p2, p3, p4, p5⟩ := h
  refine ⟨fun i hi => ?_, fun p hp => ?_, fun p hp hq => ?_, fun p hp hq => ?_, fun a j n1 n2 n3 => ?_⟩
  · rw [f.1 0 14 (by omega)] at hi
    rw [f.1 53 _ (by omega), f.1 54 _ (by omega)]; exact p1 i hi
  · rw [f.1 0 13 (by omega)] at hp
    rw [f.1 59 _ (by omega)]; exact p2 p hp
  · rw [f.1 0 13 (by omega)] at hq; exact p3 p hp hq
  · rw [f.1 0 13 (by omega)] at hq
    rw [f.1 59 _ (by omega)]; exact p4 p hp hq
  · rw [f.1 a j n1]; exact p5 a j n1 n2 n3
theorem vS_next {b o : Nat} {S V V1 S3 : Tr} (h : vS b o S V) (hf : vF b V V1) (hab : S 59 (6 * b + o) = 1) (h3 : S3 = st S 59 (6 * b + o) 2 ∨ S3 = S) : vS b (o + 1) S3 (st V1 59 (6 * b + o) 2) := by
  obtain ⟨p1, p2, p3, p4, p5⟩ := h
  have o3 : ∀ a j, ¬ (a = 59 ∧ j = 6 * b + o) → S3 a j = S a j := fun a j n => by
    rcases h3 with e | e
    · rw [e]; exact st_no n
    · rw [e]
  have o59 : S3 59 (6 * b + o) = 2 ∨ S3 59 (6 * b + o) = 1 := by
    rcases h3 with e | e
    · rw [e, st_same]; exact Or.inl rfl
    · rw [e]; exact Or.inr hab
  refine ⟨fun i hi => ?_, fun p hp => ?_, fun p hp hq => ?_, fun p hp hq => ?_, fun a j n1 n2 n3 => ?_⟩
  · rw [o3 0 14 (by omega)] at hi
    rw [st_oth (by omega), st_oth (by omega), o3 53 _ (by omega), o3 54 _ (by omega)]
    have g := hf.1 i (by rw [p5 0 14 (by omega) (by omega) (by omega)]; exact hi)
    rcases p1 i hi with ⟨a1, a2⟩ | ⟨a1, a2, a3⟩
    · rcases g with ⟨b1, b2⟩ | ⟨b1, b2, b3⟩
      · exact Or.inl ⟨b1.trans a1, b2.trans a2⟩
      · exact Or.inr ⟨a1.symm.trans b1, b2, b3⟩
    · rcases g with ⟨b1, b2⟩ | ⟨b1, b2, b3⟩
      · exact Or.inr ⟨a1, b1.trans a2, b2.trans a3⟩
      · rw [a2] at b1; exact absurd b1 (by decide)
  · rw [o3 0 13 (by omega)] at hp
    by_cases g : p = o
    · subst g
      rw [st_same]
      rcases o59 with e | e
      · rw [e]; exact Or.inl rfl
      · rw [e]; exact Or.inr ⟨rfl, rfl⟩
    · rw [st_ne (by omega), hf.2 59 _ (by omega), o3 59 _ (by omega)]; exact p2 p hp
  · rw [o3 0 13 (by omega)] at hq
    by_cases g : p = o
    · subst g; rw [st_same]; decide
    · rw [st_ne (by omega), hf.2 59 _ (by omega)]; exact p3 p (by omega) hq
  · rw [o3 0 13 (by omega)] at hq
    rw [st_ne (by omega), hf.2 59 _ (by omega), o3 59 _ (by omega)]; exact p4 p (by omega) hq
  · rw [st_oth n3, hf.2 a j n2, o3 a j (by omega)]; exact p5 a j n1 n2 n3
/-- what stays while persons get out -/
def fCt (T T1 : Tr) : Prop := ∀ a j, ¬ (a = 0 ∧ j = 1) → ¬ (a = 11 ∨ a = 12) → ¬ (14 ≤ a ∧ a ≤ 19) → T1 a j = T a j
def fO (S S1 : Tr) : Prop := ∀ a j, ¬ (a = 0 ∧ (j = 51 ∨ j = 72)) → ¬ (53 ≤ a ∧ a ≤ 56) → ¬ (59 ≤ a ∧ a ≤ 61) → S1 a j = S a j
def oHw (b : Nat) (S S1 : Tr) : Prop := ∀ i : Nat, (i : Int) < (S 0 14).toInt → S1 53 (10 * b + i) = S 53 (10 * b + i) ∨ (S 53 (10 * b + i) = 1 ∧ S1 53 (10 * b + i) = 2)
def oFr (b : Nat) (T0 S0 : Tr) (L0 : Lo) (T S : Tr) (L : Lo) : Prop := fCt T0 T ∧ fO S0 S ∧ aM b S0 S ∧ oL L0 L ∧ oHw b S0 S
theorem oFr_T {b : Nat} {T0 S0 T S T1 : Tr} {L0 L : Lo} (h : oFr b T0 S0 L0 T S L) (f : fCt T T1) : oFr b T0 S0 L0 T1 S L := ⟨fun a j n1 n2 n3 => (f a j n1 n2 n3).trans (h.1 a j n1 n2 n3), h.2⟩
theorem oFr_S {b : Nat} {T0 S0 T S S1 : Tr} {L0 L L1 : Lo} (h : oFr b T0 S0 L0 T S L) (f : fO S S1) (g : aM b S S1) (hL : oL L L1) (w : ∀ j, S1 53 j = S 53 j) : oFr b T0 S0 L0 T S1 L1 := ⟨h.1, fun a j n1 n2 n3 => (f a j n1 n2 n3).trans (h.2.1 a j n1 n2 n3), aM_t h.2.2.1 g, oL_t h.2.2.2.1 hL, fun i hi => by rw [w]; exact h.2.2.2.2 i hi⟩
theorem fO_51 {S S1 : Tr} (f : o51 S S1) : fO S S1 := fun a j n1 _ _ => f.1 a j (fun q => n1 ⟨q.1, Or.inl q.2⟩)
theorem oFr_e {b : Nat} {T0 S0 T S T1 S1 : Tr} {L0 L L1 : Lo} (h : oFr b T0 S0 L0 T S L) (f : o19 T T1) (g : o51 S S1) (hL : oL L L1) : oFr b T0 S0 L0 T1 S1 L1 := oFr_S (oFr_T h (fun a j _ _ n => f a j (by omega))) (fO_51 g) (aM_51 g) hL (fun j => g.1 53 j (by omega))
theorem oFr_59 {b o : Nat} {T0 S0 T S : Tr} {L0 L : Lo} (h : oFr b T0 S0 L0 T S L) (ho : o < 6) : oFr b T0 S0 L0 T (st S 59 (6 * b + o) 2) L := oFr_S h (fun a j _ _ n => by rw [st_oth (by omega)]) (aM_s aM_r (Mb_59 (inB_of (by omega) (by omega)))) oL_r (fun j => by rw [st_oth (by omega)])
/-- how the two stand before person o -/
def OU (b : Nat) (P T0 S0 : Tr) (L0 : Lo) (o : Nat) (x2 x3 : Int32) (T S : Tr) (L : Lo) : Prop := (∃ V, Rl b P T V ∧ rI b S ∧ inv b S ∧ (S0 62 b = 20 → vS b o S V) ∧ (¬ S0 62 b = 20 → V = S) ∧ (x3 = 1 → V = S)) ∧ S 0 72 = x2 ∧ (x3 = 0 ∨ x3 = 1) ∧ (0 ≤ x2.toInt ∧ x2.toInt ≤ 10000 * (o : Int)) ∧ oFr b T0 S0 L0 T S L
theorem od_j {b o : Nat} {P T0 S0 : Tr} {L0 : Lo} {k7 : Int32 → Int32 → Int32 → Tr → Lo → Option (Int32 × Tr × Lo)} {k9 : Int32 → Int32 → Tr → Lo → Option (Tr × Lo)} {Q : Int32 × Tr × Lo → Tr × Lo → Prop} {xb xo x1 x2 x3 : Int32} {T S V : Tr} {L Lc : Lo} (hb : xb.toNatClampNeg = b) (hxb : 0 ≤ xb.toInt ∧ xb.toInt ≤ 1) (ho : xo.toInt = o) (ho6 : o < 6) (hV : Rl b P T V) (hS : rI b S) (hv : inv b S) (v20 : S0 62 b = 20 → vS b o S V) (vn : ¬ S0 62 b = 20 → V = S) (v1 : x3 = 1 → V = S ∧ non1 b S xo) (hab : S 59 (6 * b + o) = 1) (h72 : S 0 72 = x2) (hx3 : x3 = 0 ∨ x3 = 1) (hu : 0 ≤ x2.toInt ∧ x2.toInt ≤ 10000 * (o : Int) + 10000) (fr : oFr b T0 S0 L0 T S L) (hk : ∀ (y : Int32) (T1 S1 : Tr) (Lc1 : Lo), y.toInt = ((o + 1 : Nat) : Int) → OU b P T0 S0 L0 (o + 1) x2 x3 T1 S1 L → E2 (k7 x2 x3 y T1 Lc1) (k9 x3 y S1 L) Q) : E2 (fJ_X6_takeDown_J176 k7 P x1 x2 x3 xo T Lc) (fJ_X8_outs_J182 k9 xb x3 xo S L) Q := by
  have s62 : S 62 b = S0 62 b := fr.2.1 62 b (by omega) (by omega) (by omega)
  have e62 : V 62 b = S0 62 b := by
    by_cases c : S0 62 b = 20
    · rw [(v20 c).2.2.2.2 62 b (by omega) (by omega) (by omega)]; exact s62
    · rw [vn c]; exact s62
  have t00 : T 0 0 = S0 62 b := hV.2.2.2.1.1.trans e62
  have jo : (((6 : Int32) * xb) + xo).toNatClampNeg = 6 * b + o := by rw [jx 6 (by decide) (by omega) hxb ho (by omega), hb]
  have e1 := i_p1 ho (by omega)
  have hu' : 0 ≤ x2.toInt ∧ x2.toInt ≤ 10000 * ((o + 1 : Nat) : Int) := ⟨hu.1, by omega⟩
  unfold fJ_X6_takeDown_J176 fJ_X6_takeDown_J192 fJ_X8_outs_J182
  rw [t00, jo, i_cn ho]
  by_cases c20 : S0 62 b = 20
  · refine E2_pl c20 (E2_bl (e_free hb hxb hV) (fun T1 hT1 => ?_))
    obtain ⟨V1, hR1, hvF, hn1, hc1, he1⟩ := hT1
    have hvs := v20 c20
    refine E2_bl (an_T hR1) (fun r hr => ?_)
    rcases hr with ⟨rfl, _⟩ | ⟨_, hr⟩
    rotate_left
    · exact absurd hn1 hr
    refine E2_pl rfl (E2_ckl (fun _ => E2_ltl (fun T2 t2 => E2_ltl (fun y ey => ?_))))
    have hR2 := Rl_out hR1 ho ho6 hn1
    rw [← t2] at hR2
    have fr2 : oFr b T0 S0 L0 T2 S L := oFr_T fr (fun a j n1 n2 n3 => by rw [t2, st_oth (by omega)]; exact hc1 a j (by omega))
    refine E2_br (an_S hb hxb hS.1) (fun r hr => ?_)
    rcases hr with ⟨rfl, hnS⟩ | ⟨rfl, hnS⟩
    · refine E2_pr rfl (E2_ckr (fun _ => E2_ltr (fun S3 e3 => E2_ltr (fun y' ey' => ?_))))
      subst ey ey'
      refine hk (xo + 1) T2 S3 Lc e1 ⟨⟨st V1 59 (6 * b + o) 2, hR2, by rw [e3]; exact rI_out hS, by rw [e3]; exact inv_out hv hS.1 hS.2.1 ho hnS, fun _ => vS_next hvs hvF hab (Or.inl e3), fun q => absurd c20 q, fun q => ?_⟩, by rw [e3, st_oth (by decide)]; exact h72, hx3, hu', by rw [e3]; exact oFr_59 fr2 ho6⟩
      obtain ⟨a1, a2⟩ := v1 q
      rw [e3, he1 (by rw [a1]; exact a2), a1]
    · refine E2_qr (by decide) (E2_ltr (fun y' ey' => ?_))
      subst ey ey'
      exact hk (xo + 1) T2 S Lc e1 ⟨⟨st V1 59 (6 * b + o) 2, hR2, hS, hv, fun _ => vS_next hvs hvF hab (Or.inr rfl), fun q => absurd c20 q, fun q => absurd (v1 q).2 hnS⟩, h72, hx3, hu', fr2⟩
  · refine E2_ql c20 ?_
    obtain rfl := vn c20
    refine E2_bl (an_T hV) (fun r hr => E2_br (an_S hb hxb hS.1) (fun r' hr' => ?_))
    rcases hr with ⟨rfl, hn⟩ | ⟨rfl, hn⟩
    · rcases hr' with ⟨rfl, _⟩ | ⟨rfl, hn'⟩
      · refine E2_pl rfl (E2_ckl (fun _ => E2_ltl (fun T2 t2 => E2_ltl (fun y ey => E2_pr rfl (E2_ckr (fun _ => E2_ltr (fun S3 e3 => E2_ltr (fun y' ey' => ?_))))))))
        subst ey ey'
        have hR2 := Rl_out hV ho ho6 hn
        rw [← t2, ← e3] at hR2
        refine hk (xo + 1) T2 S3 Lc e1 ⟨⟨S3, hR2, hR2.1, hR2.2.2.2.2, fun q => absurd q c20, fun _ => rfl, fun _ => rfl⟩, by rw [e3, st_oth (by decide)]; exact h72, hx3, hu', ?_⟩
        have f2 := oFr_59 (oFr_T fr (T1 := T2) (fun a j n1 n2 n3 => by rw [t2, st_oth (by omega)])) ho6
        rw [← e3] at f2; exact f2
      · exact absurd hn hn'
    · rcases hr' with ⟨rfl, hn'⟩ | ⟨rfl, _⟩
      · exact absurd hn' hn
      · refine E2_ql (by decide) (E2_ltl (fun y ey => E2_qr (by decide) (E2_ltr (fun y' ey' => ?_))))
        subst ey ey'
        exact hk (xo + 1) T _ Lc e1 ⟨⟨_, hV, hS, hv, fun q => absurd q c20, fun _ => rfl, fun _ => rfl⟩, h72, hx3, hu', fr⟩
/-- no more time: the reference goes on over the pieces, nothing is taken down -/
theorem ou_z {α : Type} {x : Option α} {k9 : Int32 → Int32 → Tr → Lo → Option (Tr × Lo)} {Q : α → Tr × Lo → Prop} {xb xo : Int32} {S0 : Tr} {L0 : Lo} (h : ∀ S1 L1, o51 S0 S1 → oL L0 L1 → E2 x (fJ_X8_outs_J182 k9 xb 0 xo S1 L1) Q) (N : Nat) : ∀ (x4 : Int32) (S : Tr) (L : Lo), o51 S0 S → oL L0 L → E2 x (lpF (fun _ _ _ _ => none) (fB_X8_outs_L32 k9 xb xo) N 0 x4 S L) Q := by
  induction N with
  | zero => intro x4 S L _ _; exact E2_nr
  | succ N ih =>
    intro x4 S L hS hL
    show E2 x (fB_X8_outs_L32 k9 xb xo (lpF (fun _ _ _ _ => none) (fB_X8_outs_L32 k9 xb xo) N) 0 x4 S L) Q
    generalize lpF (fun _ _ _ _ => none) (fB_X8_outs_L32 k9 xb xo) N = k at ih ⊢
    unfold fB_X8_outs_L32
    refine E2_itr (fun _ => h S L hS hL) (fun _ => E2_ckr (fun _ => E2_itr (fun _ => E2_ckr (fun _ => E2_itr (fun _ => ?_) (fun _ => E2_ltr (fun y _ => ih y S L hS hL)))) (fun _ => E2_ltr (fun y _ => ih y S L hS hL))))
    refine E2_br (Ep_and (q5_X8_secondsOf S L xb x4 hS) (qL_X8_secondsOf S L xb x4 hL)) (fun q hq => E2_ltr (fun r37 _ => E2_ltr (fun S38 e38 => E2_ltr (fun L39 e39 => E2_pr rfl ?_))))
    unfold fJ_X8_outs_J116 fJ_X8_outs_J117
    exact E2_pr rfl (E2_ltr (fun y _ => ih y S38 L39 (by rw [e38]; exact hq.1) (by rw [e39]; exact hq.2)))
