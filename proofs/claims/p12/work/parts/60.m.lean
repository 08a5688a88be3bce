def bcp (S T : Tr) : Prop := (∀ w, w < 3 → T 36 w = vp_nar .boolean (S 36 (3 + w))) ∧ (∀ c j, ¬ (c = 36 ∧ j < 3) → T c j = S c j)
theorem bcf {c : Nat} {S T : Tr} (h : bcp S T) (hc : ¬ c = 36) : T c = S c := funext (fun j => h.2 c j (fun q => hc q.1))
theorem iR_b {S T : Tr} (h : bcp S T) (hS : iR BM S) : iR BM T := fun c j => by
  by_cases q : c = 36 ∧ j < 3
  · obtain ⟨rfl, hj⟩ := q
    have r := i_rng (T 36 j)
    refine ⟨?_, ?_⟩
    · show (-2147483648 : Int) ≤ _; omega
    · show _ ≤ (2147483647 : Int); omega
  · rw [h.2 c j q]; exact hS c j
theorem kt_139 (L : Lo) (S : Tr) {Q : Tr × Lo → Prop} (hE : ∀ T, bcp S T → D (fJ_X8_keepText_J164 T L) Q) (N : Nat) : ∀ (x1 : Int32) (T : Tr), 0 ≤ x1.toInt → x1.toInt ≤ 3 → 10 - x1.toInt < (N : Int) → (∀ w : Nat, (w : Int) < x1.toInt → T 36 w = vp_nar .boolean (S 36 (3 + w))) → (∀ (c j : Nat), ¬ (c = 36 ∧ (j : Int) < x1.toInt) → T c j = S c j) → D (lpF (fun _ _ => none) (fB_X8_keepText_L139 L) N x1 T) Q := by
  induction N with
  | zero => intro x1 T h1 h2 h3; omega
  | succ N ih =>
    intro x1 T h1 h2 h3 h4 h5
    show D (fB_X8_keepText_L139 L (lpF (fun _ _ => none) (fB_X8_keepText_L139 L) N) x1 T) _
    generalize lpF (fun _ _ => none) (fB_X8_keepText_L139 L) N = k at ih ⊢
    unfold fB_X8_keepText_L139
    refine D_ite (fun c => ?_) (fun c => ?_)
    · have k1 := tq_le (x := (3 : Int32)) (y := x1) (a := 3) (by decide) rfl c
      exact hE T ⟨fun w hw => h4 w (by omega), fun c j q => h5 c j (fun g => q ⟨g.1, by omega⟩)⟩
    · have k1 := tq_len (x := (3 : Int32)) (y := x1) (a := 3) (by decide) rfl c
      have e1 : ((3 : Int32) + x1).toInt = 3 + x1.toInt := i_addK (by decide) rfl (by omega) (by omega)
      have c1 : ((3 : Int32) + x1).toNatClampNeg = 3 + x1.toInt.toNat := by simp only [i_cl]; omega
      have c2 : x1.toNatClampNeg = x1.toInt.toNat := rfl
      refine D_ck (okI_of (by omega) (by omega)) (D_ck (okI_of (by omega) (by omega)) (D_lt (fun T1 e => D_lt (fun y ey => ?_))))
      rw [c1, c2] at e
      have e2 : y.toInt = x1.toInt + 1 := by rw [ey]; exact i_addK rfl (by decide) (by omega) (by omega)
      refine ih y T1 (by omega) (by omega) (by omega) (fun j hj => ?_) (fun c j q => ?_)
      · rw [e]
        by_cases hz : j = x1.toInt.toNat
        · subst hz; rw [st_same, h5 36 (3 + x1.toInt.toNat) (fun g => by omega)]
        · rw [st_ne hz]; exact h4 j (by omega)
      · rw [e]
        rcases st_or (S := T) (a := 36) (i := x1.toInt.toNat) (b := c) (j := j) (v := vp_nar .boolean (T 36 (3 + x1.toInt.toNat))) with g | ⟨g1, g2⟩
        · rw [g]; exact h5 c j (fun g => q ⟨g.1, by omega⟩)
        · exact absurd ⟨g1, by omega⟩ q
/-! a journey begins -/
theorem r_begin (S : Tr) (L : Lo) (hS : iR BM S) (hp : pI S) (hz : zI S) : D (f_X8_begin S L) (fun q => jR q.1 ∧ (∀ j, q.1 4 j = S 4 j) ∧ q.1 0 1 = S 0 1) := by
  unfold f_X8_begin
  have c0 : (0 : Int32).toNatClampNeg = 0 := rfl
  refine D_bd (t_X8_atFirst S 0 hS (by decide) hp) (fun S1 _ h1 => ?_)
  rw [c0] at h1
  obtain ⟨i1, a1, g1, p1, _⟩ := h1
  refine D_lt (fun L4 _ => ?_)
  refine D_bd (t_X8_plainTried S1 i1) (fun S5 _ h5 => ?_)
  obtain ⟨i5, a5⟩ := h5
  have p5 : pI S5 := pI_aG (b := 0) p1 (aT_G a5)
  have g5 : gI 0 S5 := gI0_G1 i1 g1 (aT_G a5)
  refine D_lt (fun S8 e8 => D_lt (fun S9 e9 => D_lt (fun S10 e10 => D_lt (fun S11 e11 => ?_))))
  have i8 : iR BM S8 := by rw [e8]; exact iR_set (a := 0) (i := 78) i5 (by decide) (by decide)
  have i9 : iR BM S9 := by rw [e9]; exact iR_set (a := 0) (i := 79) i8 (by decide) (by decide)
  have i10 : iR BM S10 := by rw [e10]; exact iR_set (a := 0) (i := 82) i9 (by decide) (by decide)
  have i11 : iR BM S11 := by rw [e11]; exact iR_setU i10 rfl
  have o : ∀ a, ¬ a = 0 → S11 a = S5 a := fun a ha => by rw [e11, st_oth ha, e10, st_oth ha, e9, st_oth ha, e8, st_oth ha]
  have oz : ∀ j, ¬ j = 78 → ¬ j = 79 → ¬ j = 82 → ¬ j = 84 → S11 0 j = S5 0 j := fun j n1 n2 n3 n4 => by rw [e11, st_ne n4, e10, st_ne n3, e9, st_ne n2, e8, st_ne n1]
  have e13 := oz 13 (by decide) (by decide) (by decide) (by decide)
  have e14 := oz 14 (by decide) (by decide) (by decide) (by decide)
  have e82 : S11 0 82 = 0 := by rw [e11, st_ne (by decide), e10, st_same]
  have e84 : S11 0 84 = 0 := by rw [e11, st_same]
  have j11 : jR S11 := by
    refine ⟨i11, pI_fr p5 (fun j => by rw [o 39 (by decide)]) (fun j => by rw [o 40 (by decide)]) (fun j => by rw [o 41 (by decide)]) (fun j => by rw [o 36 (by decide)]) (fun j => by rw [o 38 (by decide)]) (fun j => by rw [o 30 (by decide)]) (fun j => by rw [o 29 (by decide)]) e13 e14, gI_fr g5 (fun j => by rw [o 53 (by decide)]) (fun j => by rw [o 54 (by decide)]) (fun j => by rw [o 55 (by decide)]) (fun j => by rw [o 56 (by decide)]) (fun j => by rw [o 58 (by decide)]) e13 e14, fun r hr => ?_, fun hz => absurd e84 hz, zI_fr hz (fun j => ?_)⟩
    · rw [e82] at hr
      have l0 : (0 : Int32).toInt = 0 := by decide
      omega
    · rw [o 81 (by decide), a5 81 j rfl, a1 81 j rfl]
  refine D_some ⟨j11, fun j => ?_, ?_⟩
  · show S11 4 j = S 4 j
    rw [o 4 (by decide), a5 4 j rfl, a1 4 j rfl]
  · show S11 0 1 = S 0 1
    rw [oz 1 (by decide) (by decide) (by decide) (by decide), a5 0 1 rfl, a1 0 1 rfl]
theorem r_keepText {z S : Tr} (L : Lo) (hz9 : zI z) (h : rP 3 z S) : D (f_X8_keepText S L) (fun q => jR q.1 ∧ (∀ j, q.1 4 j = S 4 j) ∧ q.1 0 1 = S 0 1) := by
  unfold f_X8_keepText
  have b16 : 0 ≤ (S 0 16).toInt ∧ (S 0 16).toInt ≤ 5 := h.1 0 16
  have b17 : 0 ≤ (S 0 17).toInt ∧ (S 0 17).toInt ≤ 6 := h.1 0 17
  have b18 : 0 ≤ (S 0 18).toInt ∧ (S 0 18).toInt ≤ 10 := h.1 0 18
  have b19 : 0 ≤ (S 0 19).toInt ∧ (S 0 19).toInt ≤ 64 := h.1 0 19
  have hp := h.2.2.2.2.1
  refine D_lt (fun S1 e1 => D_lt (fun S2 e2 => D_lt (fun S3 e3 => D_lt (fun S4 e4 => ?_))))
  have q17 : S1 0 17 = S 0 17 := by rw [e1, st_ne (by decide)]
  have q18 : S2 0 18 = S 0 18 := by rw [e2, st_ne (by decide), e1, st_ne (by decide)]
  have q19 : S3 0 19 = S 0 19 := by rw [e3, st_ne (by decide), e2, st_ne (by decide), e1, st_ne (by decide)]
  rw [q17] at e2
  rw [q18] at e3
  rw [q19] at e4
  have i1 : iR BM S1 := by rw [e1]; exact iR_set (a := 0) (i := 12) h.1 b16.1 b16.2
  have i2 : iR BM S2 := by rw [e2]; exact iR_set (a := 0) (i := 13) i1 b17.1 b17.2
  have i3 : iR BM S3 := by rw [e3]; exact iR_set (a := 0) (i := 14) i2 b18.1 b18.2
  have i4 : iR BM S4 := by rw [e4]; exact iR_set (a := 0) (i := 15) i3 b19.1 b19.2
  have o4 : ∀ a, ¬ a = 0 → S4 a = S a := fun a ha => by rw [e4, st_oth ha, e3, st_oth ha, e2, st_oth ha, e1, st_oth ha]
  have z13 : S4 0 13 = S 0 17 := by rw [e4, st_ne (by decide), e3, st_ne (by decide), e2, st_same]
  have z14 : S4 0 14 = S 0 18 := by rw [e4, st_ne (by decide), e3, st_same]
  have z1 : S4 0 1 = S 0 1 := by rw [e4, st_ne (by decide), e3, st_ne (by decide), e2, st_ne (by decide), e1, st_ne (by decide)]
  refine D_bd (r_cp_23 S4) (fun T23 _ h23 => ?_)
  have i23 : iR BM T23 := iR_cp h23 (fun _ _ => rfl) i4
  refine D_bd (r_cp_24 T23) (fun T24 _ h24 => ?_)
  have i24 : iR BM T24 := iR_cp h24 (fun _ _ => rfl) i23
  refine D_bd (r_cp_25 T24) (fun T25 _ h25 => ?_)
  have i25 : iR BM T25 := iR_cp h25 (fun _ _ => rfl) i24
  refine D_bd (r_cp_26 T25) (fun T26 _ h26 => ?_)
  have i26 : iR BM T26 := iR_cp h26 (fun _ _ => rfl) i25
  refine D_bd (r_cp_27 T26) (fun T27 _ h27 => ?_)
  have i27 : iR BM T27 := iR_cp h27 (fun _ _ => rfl) i26
  refine D_bd (r_cp_28 T27) (fun T28 _ h28 => ?_)
  have i28 : iR BM T28 := iR_cp h28 (fun _ _ => rfl) i27
  refine D_bd (r_cp_29 T28) (fun T29 _ h29 => ?_)
  have i29 : iR BM T29 := iR_cp h29 (fun _ _ => rfl) i28
  refine D_bd (r_cp_30 T29) (fun T30 _ h30 => ?_)
  have i30 : iR BM T30 := iR_cp h30 (fun _ _ => rfl) i29
  refine D_bd (r_cp_31 T30) (fun T31 _ h31 => ?_)
  have i31 : iR BM T31 := iR_cp h31 (fun _ _ => rfl) i30
  refine D_bd (r_cp_32 T31) (fun T32 _ h32 => ?_)
  have i32 : iR BM T32 := iR_cp h32 (fun _ _ => rfl) i31
  refine D_bd (r_cp_33 T32) (fun T33 _ h33 => ?_)
  have i33 : iR BM T33 := iR_cp h33 (fun _ _ => rfl) i32
  refine D_bd (r_cp_34 T33) (fun T34 _ h34 => ?_)
  have i34 : iR BM T34 := iR_cp h34 (fun _ _ => rfl) i33
  refine kt_139 L T34 (fun T36 h36 => ?_) 2000 0 T34 (by decide) (by decide) (by decide) (fun j hj => absurd hj (by rw [show (0 : Int32).toInt = 0 by decide]; omega)) (fun _ _ _ => rfl)
  have i36 : iR BM T36 := iR_b h36 i34
  unfold fJ_X8_keepText_J164
  refine D_bd (r_cp_37 T36) (fun T37 _ h37 => ?_)
  have i37 : iR BM T37 := iR_cp h37 (fun _ _ => rfl) i36
  refine D_bd (r_cp_38 T37) (fun T38 _ h38 => ?_)
  have i38 : iR BM T38 := iR_cp h38 (fun _ _ => rfl) i37
  refine D_bd (r_cp_39 T38) (fun T39 _ h39 => ?_)
  have i39 : iR BM T39 := iR_cp h39 (fun _ _ => rfl) i38
  refine D_bd (r_cp_40 T39) (fun T40 _ h40 => ?_)
  have i40 : iR BM T40 := iR_cp h40 (fun _ _ => rfl) i39
  refine D_bd (r_cp_41 T40) (fun T41 _ h41 => ?_)
  have i41 : iR BM T41 := iR_cp h41 (fun _ _ => rfl) i40
  have u39 : T38 39 = S 39 := by rw [cpf h38 (by decide), cpf h37 (by decide), bcf h36 (by decide), cpf h34 (by decide), cpf h33 (by decide), cpf h32 (by decide), cpf h31 (by decide), cpf h30 (by decide), cpf h29 (by decide), cpf h28 (by decide), cpf h27 (by decide), cpf h26 (by decide), cpf h25 (by decide), cpf h24 (by decide), cpf h23 (by decide), o4 39 (by decide)]
  have u40 : T39 40 = S 40 := by rw [cpf h39 (by decide), cpf h38 (by decide), cpf h37 (by decide), bcf h36 (by decide), cpf h34 (by decide), cpf h33 (by decide), cpf h32 (by decide), cpf h31 (by decide), cpf h30 (by decide), cpf h29 (by decide), cpf h28 (by decide), cpf h27 (by decide), cpf h26 (by decide), cpf h25 (by decide), cpf h24 (by decide), cpf h23 (by decide), o4 40 (by decide)]
  have u41 : T40 41 = S 41 := by rw [cpf h40 (by decide), cpf h39 (by decide), cpf h38 (by decide), cpf h37 (by decide), bcf h36 (by decide), cpf h34 (by decide), cpf h33 (by decide), cpf h32 (by decide), cpf h31 (by decide), cpf h30 (by decide), cpf h29 (by decide), cpf h28 (by decide), cpf h27 (by decide), cpf h26 (by decide), cpf h25 (by decide), cpf h24 (by decide), cpf h23 (by decide), o4 41 (by decide)]
  have u38 : T37 38 = S 38 := by rw [cpf h37 (by decide), bcf h36 (by decide), cpf h34 (by decide), cpf h33 (by decide), cpf h32 (by decide), cpf h31 (by decide), cpf h30 (by decide), cpf h29 (by decide), cpf h28 (by decide), cpf h27 (by decide), cpf h26 (by decide), cpf h25 (by decide), cpf h24 (by decide), cpf h23 (by decide), o4 38 (by decide)]
  have u36 : T34 36 = S 36 := by rw [cpf h34 (by decide), cpf h33 (by decide), cpf h32 (by decide), cpf h31 (by decide), cpf h30 (by decide), cpf h29 (by decide), cpf h28 (by decide), cpf h27 (by decide), cpf h26 (by decide), cpf h25 (by decide), cpf h24 (by decide), cpf h23 (by decide), o4 36 (by decide)]
  have u30 : T29 30 = S 30 := by rw [cpf h29 (by decide), cpf h28 (by decide), cpf h27 (by decide), cpf h26 (by decide), cpf h25 (by decide), cpf h24 (by decide), cpf h23 (by decide), o4 30 (by decide)]
  have u29 : T28 29 = S 29 := by rw [cpf h28 (by decide), cpf h27 (by decide), cpf h26 (by decide), cpf h25 (by decide), cpf h24 (by decide), cpf h23 (by decide), o4 29 (by decide)]
  have u81 : T41 81 = S 81 := by rw [cpf h41 (by decide), cpf h40 (by decide), cpf h39 (by decide), cpf h38 (by decide), cpf h37 (by decide), bcf h36 (by decide), cpf h34 (by decide), cpf h33 (by decide), cpf h32 (by decide), cpf h31 (by decide), cpf h30 (by decide), cpf h29 (by decide), cpf h28 (by decide), cpf h27 (by decide), cpf h26 (by decide), cpf h25 (by decide), cpf h24 (by decide), cpf h23 (by decide), o4 81 (by decide)]
  have w4 : T41 4 = S 4 := by rw [cpf h41 (by decide), cpf h40 (by decide), cpf h39 (by decide), cpf h38 (by decide), cpf h37 (by decide), bcf h36 (by decide), cpf h34 (by decide), cpf h33 (by decide), cpf h32 (by decide), cpf h31 (by decide), cpf h30 (by decide), cpf h29 (by decide), cpf h28 (by decide), cpf h27 (by decide), cpf h26 (by decide), cpf h25 (by decide), cpf h24 (by decide), cpf h23 (by decide), o4 4 (by decide)]
  have v39 : T41 39 = T39 39 := by rw [cpf h41 (by decide), cpf h40 (by decide)]
  have v40 : T41 40 = T40 40 := by rw [cpf h41 (by decide)]
  have v38 : T41 38 = T38 38 := by rw [cpf h41 (by decide), cpf h40 (by decide), cpf h39 (by decide)]
  have v36 : T41 36 = T36 36 := by rw [cpf h41 (by decide), cpf h40 (by decide), cpf h39 (by decide), cpf h38 (by decide), cpf h37 (by decide)]
  have v30 : T41 30 = T30 30 := by rw [cpf h41 (by decide), cpf h40 (by decide), cpf h39 (by decide), cpf h38 (by decide), cpf h37 (by decide), bcf h36 (by decide), cpf h34 (by decide), cpf h33 (by decide), cpf h32 (by decide), cpf h31 (by decide)]
  have v29 : T41 29 = T29 29 := by rw [cpf h41 (by decide), cpf h40 (by decide), cpf h39 (by decide), cpf h38 (by decide), cpf h37 (by decide), bcf h36 (by decide), cpf h34 (by decide), cpf h33 (by decide), cpf h32 (by decide), cpf h31 (by decide), cpf h30 (by decide)]
  have z0 : T41 0 = S4 0 := by rw [cpf h41 (by decide), cpf h40 (by decide), cpf h39 (by decide), cpf h38 (by decide), cpf h37 (by decide), bcf h36 (by decide), cpf h34 (by decide), cpf h33 (by decide), cpf h32 (by decide), cpf h31 (by decide), cpf h30 (by decide), cpf h29 (by decide), cpf h28 (by decide), cpf h27 (by decide), cpf h26 (by decide), cpf h25 (by decide), cpf h24 (by decide), cpf h23 (by decide)]
  have pT : pI T41 := by
    refine ⟨fun k => ?_, fun w hw hl => ?_, fun i hi hl => ?_, fun p hp1 hl => ?_⟩
    · rcases (by omega : k < 64 ∨ 64 ≤ k) with hk | hk
      · have g := hp.2.2.1 (64 + k)
        unfold nodeOK at g ⊢
        rw [v39, v40, h39.1 k hk, h40.1 k hk, h41.1 k hk, u39, u40, u41]; exact g
      · have n39 := h39.2 39 k (fun q => by omega)
        have n40 := h40.2 40 k (fun q => by omega)
        have n41 := h41.2 41 k (fun q => by omega)
        refine nodeOK_eq (hp.2.2.1 k) ?_ ?_ ?_
        · rw [v39, n39, u39]
        · rw [v40, n40, u40]
        · rw [n41, u41]
    · rw [v38, h38.1 w hw, u38]
      refine hp.2.2.2.1 w hw (by omega) (fun q => hl ?_)
      rw [v36, h36.1 w hw, u36, q]; rfl
    · rw [z0, z14] at hl
      rw [v30, h30.1 i hi, u30, z0, z13]; exact hp.1 i hi hl
    · rw [z0, z13] at hl
      rw [v29, h29.1 p hp1, u29]; exact hp.2.1 p hp1 hl
  have zT : zI T41 := zI_fr hz9 (fun j => by rw [u81]; exact h.2.1 81 j rfl)
  refine D_bd (r_begin T41 L i41 pT zT) (fun q _ hq => D_some ⟨hq.1, fun j => ?_, ?_⟩)
  · show q.1 4 j = S 4 j
    rw [hq.2.1 j, w4]
  · show q.1 0 1 = S 0 1
    rw [hq.2.2, z0, z1]
