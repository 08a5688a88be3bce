/-- a compared sign is one of six -/
def s5 (q : Tr) : Prop := (q 0 8).toInt = 5 → 0 ≤ (q 0 9).toInt ∧ (q 0 9).toInt ≤ 5
theorem s5_192 {s0 : Int32} (hs : 0 ≤ s0.toInt ∧ s0.toInt ≤ 5) (T : Tr) : D (fJ_X8_signToken_J192 s0 T) s5 := by
  unfold fJ_X8_signToken_J192
  exact D_lt (fun y ey => D_some (fun _ => by rw [ey, st_same]; exact hs))
theorem s5_135 (x2 x3 : Int32) (T : Tr) : D (fJ_X8_signToken_J135 x2 x3 T) s5 := by
  unfold fJ_X8_signToken_J135
  exact D_lt (fun y _ => D_ite (fun _ => s5_192 (by decide) y) (fun _ => D_ite (fun _ => D_ite (fun _ => D_ite (fun _ => s5_192 (by decide) y) (fun _ => s5_192 (by decide) y)) (fun _ => s5_192 (by decide) y)) (fun _ => D_ite (fun _ => s5_192 (by decide) y) (fun _ => s5_192 (by decide) y))))
theorem s5_125 (x2 x3 : Int32) (T : Tr) : D (fJ_X8_signToken_J125 x2 x3 T) s5 := by
  unfold fJ_X8_signToken_J125
  exact D_lt (fun y _ => s5_135 x2 x3 y)
theorem s5_116 (x2 s0 : Int32) (T : Tr) : D (fJ_X8_signToken_J116 x2 s0 T) s5 := by
  unfold fJ_X8_signToken_J116
  exact D_ite (fun _ => D_ite (fun _ => s5_135 _ _ T) (fun _ => s5_125 _ _ T)) (fun _ => s5_125 _ _ T)
theorem s5_115 (x2 : Int32) (T : Tr) : D (fJ_X8_signToken_J115 x2 T) s5 := by
  unfold fJ_X8_signToken_J115
  exact s5_116 _ _ T
theorem s5_95 (x1 s0 : Int32) (T : Tr) : D (fJ_X8_signToken_J95 x1 s0 T) s5 := by
  unfold fJ_X8_signToken_J95
  exact D_ite (fun _ => D_ite (fun _ => s5_116 _ _ T) (fun _ => s5_115 _ T)) (fun _ => s5_115 _ T)
theorem s5_94 (x1 : Int32) (T : Tr) : D (fJ_X8_signToken_J94 x1 T) s5 := by
  unfold fJ_X8_signToken_J94
  exact s5_95 _ _ T
theorem s5_74 (s0 : Int32) (T : Tr) : D (fJ_X8_signToken_J74 s0 T) s5 := by
  unfold fJ_X8_signToken_J74
  exact D_ite (fun _ => s5_94 _ T) (fun _ => D_ite (fun _ => s5_95 _ _ T) (fun _ => s5_94 _ T))
theorem s5_50 (T : Tr) (h6 : (T 0 6).toInt ≤ 700) (h7 : 0 ≤ (T 0 7).toInt) : D (fJ_X8_signToken_J50 T) s5 := by
  unfold fJ_X8_signToken_J50
  refine D_ite (fun _ => s5_74 _ T) (fun c => ?_)
  have k := tq_len (x := T 0 6) (y := T 0 7) rfl rfl c
  exact D_ck (okI_of (by omega) (by omega)) (s5_74 _ T)
theorem s5_287 {s0 : Int32} (hs : ¬ s0.toInt = 5) (T : Tr) : D (fJ_X8_signToken_J287 s0 T) s5 := by
  unfold fJ_X8_signToken_J287
  exact D_lt (fun y ey => D_some (fun hz => by rw [ey, st_same] at hz; exact absurd hz hs))
theorem s5_275 (s0 : Int32) (T : Tr) : D (fJ_X8_signToken_J275 s0 T) s5 := by
  unfold fJ_X8_signToken_J275
  exact D_ite (fun _ => s5_287 (by decide) T) (fun _ => s5_287 (by decide) T)
theorem s5_270 (T : Tr) : D (fJ_X8_signToken_J270 T) s5 := by
  unfold fJ_X8_signToken_J270
  exact s5_275 _ T
theorem t2_signToken (S : Tr) (hS : iR BM S) (h7 : (S 0 7).toInt < (S 0 6).toInt) : D (f_X8_signToken S) s5 := by
  have b6 : 0 ≤ (S 0 6).toInt ∧ (S 0 6).toInt ≤ 700 := hS 0 6
  have b7 : 0 ≤ (S 0 7).toInt ∧ (S 0 7).toInt ≤ 700 := hS 0 7
  unfold f_X8_signToken
  refine D_ck (okI_of (by omega) (by omega)) (D_lt (fun S2 e2 => D_lt (fun S3 e3 => ?_)))
  have e6 : S3 0 6 = S 0 6 := by rw [e3, st_ne (by decide), e2, st_ne (by decide)]
  have e7 : (S3 0 7).toInt = (S 0 7).toInt + 1 := by
    rw [e3, st_same, e2, st_ne (by decide)]; exact i_addK rfl (show (1 : Int32).toInt = 1 by decide) (by omega) (by omega)
  have h50 := s5_50 S3 (by rw [e6]; omega) (by omega)
  have h270 := s5_270 S3
  have h275 := s5_275 0 S3
  exact D_ite (fun _ => h50) (fun _ => D_ite (fun _ => h50) (fun _ => D_ite (fun _ => h50) (fun _ => D_ite (fun _ => h270) (fun _ => D_ite (fun _ => h270) (fun _ => D_ite (fun _ => h270) (fun _ => D_ite (fun _ => h270) (fun _ => D_ite (fun _ => h270) (fun _ => D_ite (fun _ => h270) (fun _ => D_ite (fun _ => h270) (fun _ => D_ite (fun _ => h270) (fun _ => h275)))))))))))
theorem cw_K {z T : Tr} (h : aK z T) : ∀ n, cw T n = cw z n := by
  intro n
  induction n with
  | zero => rfl
  | succ n ih => show cw T n + (if T 4 n = 32 then 1 else 0) = cw z n + (if z 4 n = 32 then 1 else 0); rw [ih, h 4 n rfl]
theorem wK_K {z T : Tr} (h : aK z T) (hw : wK z) : wK T := ⟨by rw [cw_K h]; exact hw.1, by rw [h 4 152 rfl]; exact hw.2⟩
theorem t2_isDigit (S : Tr) (x1 : Int32) (hS : iR BM S) (hx1 : 0 ≤ x1.toInt ∧ x1.toInt ≤ 700) : D (f_X8_isDigit S x1) (fun q => q = 0 ∨ (q = 1 ∧ x1.toInt < (S 0 6).toInt ∧ 48 ≤ (S 1 x1.toNatClampNeg).toInt ∧ (S 1 x1.toNatClampNeg).toInt ≤ 57)) := by
  unfold f_X8_isDigit
  have n1 : 0 ≤ (S 0 6).toInt ∧ (S 0 6).toInt ≤ 700 := hS 0 6
  refine D_ite (fun c2 => D_some (Or.inl rfl)) (fun c2 => ?_)
  have k2 := tq_len (x := (S 0 6)) (y := x1) rfl rfl c2
  refine D_ck (okI_of (by omega) (by omega)) (D_ite (fun c3 => D_some (Or.inl rfl)) (fun c3 => D_ite (fun c4 => D_some (Or.inl rfl)) (fun c4 => ?_)))
  have k3 := tq_ltn (x := (S 1 x1.toNatClampNeg)) (y := (48 : Int32)) rfl (b := 48) (by decide) c3
  have k4 := tq_ltn (x := (57 : Int32)) (y := (S 1 x1.toNatClampNeg)) (a := 57) (by decide) rfl c4
  exact D_some (Or.inr ⟨rfl, k2, k3, k4⟩)
/-- next stands within the text -/
def bK (z T : Tr) : Prop := iR BM T ∧ aK z T ∧ (T 0 7).toInt ≤ (T 0 6).toInt
/-- what a token says of itself -/
def kP (T : Tr) : Prop := (T 0 7).toInt ≤ (T 0 6).toInt ∧ ((T 0 8).toInt = 1 → 0 ≤ (T 0 9).toInt ∧ (T 0 9).toInt ≤ 28) ∧ ((T 0 8).toInt = 3 → 0 ≤ (T 0 9).toInt) ∧ ((T 0 8).toInt = 5 → 0 ≤ (T 0 9).toInt ∧ (T 0 9).toInt ≤ 5)
def tP (z T : Tr) : Prop := iR BM T ∧ aK z T ∧ kP T
theorem b_67 {T : Tr} (h : iR BM T) : (0 ≤ (T 0 6).toInt ∧ (T 0 6).toInt ≤ 700) ∧ (0 ≤ (T 0 7).toInt ∧ (T 0 7).toInt ≤ 700) := ⟨h 0 6, h 0 7⟩
theorem bK_inc {z T : Tr} (h : bK z T) (h7 : (T 0 7).toInt < (T 0 6).toInt) : bK z (st T 0 7 (T 0 7 + 1)) ∧ (st T 0 7 (T 0 7 + 1) 0 7).toInt = (T 0 7).toInt + 1 := by
  have b := b_67 h.1
  have e3 : (T 0 7 + 1).toInt = (T 0 7).toInt + 1 := i_addK rfl (show (1 : Int32).toInt = 1 by decide) (by omega) (by omega)
  refine ⟨⟨iR_set (a := 0) (i := 7) h.1 ?_ ?_, aK_set h.2.1 rfl, ?_⟩, ?_⟩
  · show (0 : Int) ≤ _; omega
  · show _ ≤ (700 : Int); omega
  · rw [st_same, st_ne (by decide)]; omega
  · rw [st_same]; exact e3
theorem bK_9 {z T : Tr} (h : bK z T) (v : Int32) : bK z (st T 0 9 v) := by
  have r := i_rng v
  refine ⟨iR_set (a := 0) (i := 9) h.1 ?_ ?_, aK_set h.2.1 rfl, ?_⟩
  · show (-2147483648 : Int) ≤ _; omega
  · show _ ≤ (2147483647 : Int); omega
  · rw [st_ne (by decide), st_ne (by decide)]; exact h.2.2
theorem bK_10 {z T : Tr} (h : bK z T) (v : Int32) : bK z (st T 0 10 v) := by
  have r := i_rng v
  refine ⟨iR_set (a := 0) (i := 10) h.1 ?_ ?_, aK_set h.2.1 rfl, ?_⟩
  · show (-2147483648 : Int) ≤ _; omega
  · show _ ≤ (2147483647 : Int); omega
  · rw [st_ne (by decide), st_ne (by decide)]; exact h.2.2
theorem bK_8 {z T : Tr} (h : bK z T) {v : Int32} (h0 : 0 ≤ v.toInt) (h6 : v.toInt ≤ 6) : bK z (st T 0 8 v) := by
  refine ⟨iR_set (a := 0) (i := 8) h.1 h0 h6, aK_set h.2.1 rfl, ?_⟩
  rw [st_ne (by decide), st_ne (by decide)]; exact h.2.2
theorem tk213 {z : Tr} (N : Nat) : ∀ T : Tr, bK z T → T 0 8 = 3 → 0 ≤ (T 0 9).toInt ∧ (T 0 9).toInt ≤ 1000000 → 800 - (T 0 7).toInt < (N : Int) → D (lpF (fun _ => none) fB_X8_token_L213 N T) (tP z) := by
  induction N with
  | zero => intro T h _ _ hn; have := b_67 h.1; omega
  | succ N ih =>
    intro T h h8 h9 hn
    show D (fB_X8_token_L213 (lpF (fun _ => none) fB_X8_token_L213 N) T) _
    generalize lpF (fun _ => none) fB_X8_token_L213 N = k at ih ⊢
    unfold fB_X8_token_L213
    have b := b_67 h.1
    have hJ : ∀ s0 : Int32, 0 ≤ s0.toInt ∧ s0.toInt ≤ 1000000 → (T 0 7).toInt < (T 0 6).toInt → D (fJ_X8_token_J261 k s0 T) (tP z) := by
      intro s0 hs h7
      have h1 := bK_9 h s0
      have h2 := bK_inc h1 (by rw [st_ne (by decide), st_ne (by decide)]; exact h7)
      refine ih _ h2.1 ?_ ?_ ?_
      · rw [st_ne (by decide), st_ne (by decide)]; exact h8
      · rw [st_ne (by decide), st_same]; exact hs
      · rw [h2.2, st_ne (by decide)]; omega
    refine D_bd (t2_isDigit T (T 0 7) h.1 b.2) (fun r _ hr => D_ite (fun c => ?_) (fun c => ?_))
    · exact D_some ⟨h.1, h.2.1, h.2.2, fun hz => by rw [h8] at hz; exact absurd hz (by decide), fun _ => h9.1, fun hz => by rw [h8] at hz; exact absurd hz (by decide)⟩
    · rcases hr with hr | ⟨_, h7, hc1, hc2⟩
      · exact absurd hr c
      · refine D_ite (fun c9 => ?_) (fun c9 => hJ _ h9 h7)
        have k9 := tq_le (x := T 0 9) (y := (99999 : Int32)) rfl (b := 99999) (by decide) c9
        refine D_ck (okI_of (by omega) (by omega)) (hJ _ ?_ h7)
        have e1 : ((10 : Int32) * T 0 9).toInt = 10 * (T 0 9).toInt := by
          rw [Int32.toInt_mul, show (10 : Int32).toInt = 10 by decide]; exact i_bm (by omega) (by omega)
        have e2 : ((10 : Int32) * T 0 9 + T 1 (T 0 7).toNatClampNeg).toInt = 10 * (T 0 9).toInt + (T 1 (T 0 7).toNatClampNeg).toInt := i_addK e1 rfl (by omega) (by omega)
        have e3 : ((10 : Int32) * T 0 9 + T 1 (T 0 7).toNatClampNeg - 48).toInt = 10 * (T 0 9).toInt + (T 1 (T 0 7).toNatClampNeg).toInt - 48 := i_subK e2 (show (48 : Int32).toInt = 48 by decide) (by omega) (by omega)
        omega
