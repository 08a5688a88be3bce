/-! a stack that is turned -/
theorem gF_perm {mn mn' : Nat → Int} {sk sk' : Nat → Nat → Int} {ly ly' : Nat → Int} {pc : Int} {p : Nat} (h : gF mn sk ly pc) (hm10 : ∀ q, mn q ≤ 10) (hl5 : ∀ x, ly x < 5) (hm : ∀ q, mn' q = mn q) (hl : ∀ x, ly' x = ly x) (hs3 : ∀ q k, q < 5 → q ≠ p → k < 10 → sk' q k = sk q k)
    (h1 : ∀ m : Nat, (m : Int) < mn p → ∃ k : Nat, (k : Int) < mn p ∧ sk' p m = sk p k) (h2 : ∀ k : Nat, (k : Int) < mn p → ∃ m : Nat, (m : Int) < mn p ∧ sk' p m = sk p k) (h3 : ∀ m l : Nat, (m : Int) < mn p → (l : Int) < mn p → sk' p m = sk' p l → m = l) : gF mn' sk' ly' pc := by
  obtain ⟨a1, a2, a3⟩ := h
  refine ⟨fun q k hq hk => ?_, fun x q hx hlx => ?_, fun q k l hq hk hl' e => ?_⟩
  · rw [hm] at hk
    rw [hl]
    by_cases e : q = p
    · subst e
      obtain ⟨k2, b1, b2⟩ := h1 k hk
      rw [b2]
      exact a1 q k2 hq b1
    · rw [hs3 q k hq e (by have := hm10 q; omega)]
      exact a1 q k hq hk
  · rw [hl] at hlx
    obtain ⟨k, c1, c2⟩ := a2 x q hx hlx
    have hq5 : q < 5 := by have := hl5 x; omega
    by_cases e : q = p
    · subst e
      obtain ⟨m, b1, b2⟩ := h2 k c1
      exact ⟨m, by rw [hm]; exact b1, by rw [b2]; exact c2⟩
    · exact ⟨k, by rw [hm]; exact c1, by rw [hs3 q k hq5 e (by have := hm10 q; omega)]; exact c2⟩
  · rw [hm] at hk hl'
    by_cases e1 : q = p
    · subst e1; exact h3 k l hk hl' e
    · have := hm10 q
      rw [hs3 q k hq e1 (by omega), hs3 q l hq e1 (by omega)] at e
      exact a3 q k l hq hk hl' e
def keyM (S : Tr) (v : Int32) : Int := (S 28 (S 30 v.toNatClampNeg).toNatClampNeg).toInt * 16 + v.toInt
theorem t_X8_isBelow2 (S : Tr) (x1 x2 : Int32) (hS : iR BM S) (hx1 : 0 ≤ x1.toInt ∧ x1.toInt ≤ 9) (hx2 : 0 ≤ x2.toInt ∧ x2.toInt ≤ 9) : D (f_X8_isBelow S x1 x2) (fun q => (q = 0 ∧ ¬ keyM S x2 < keyM S x1) ∨ (q = 1 ∧ keyM S x2 < keyM S x1)) := by
  have b1 : (0 : Int) ≤ (S 30 x1.toNatClampNeg).toInt ∧ (S 30 x1.toNatClampNeg).toInt ≤ 5 := hS 30 _
  have b2 : (0 : Int) ≤ (S 30 x2.toNatClampNeg).toInt ∧ (S 30 x2.toNatClampNeg).toInt ≤ 5 := hS 30 _
  unfold f_X8_isBelow keyM
  refine D_ck (okI_of (by omega) (by omega)) ?_
  refine D_ck (okI_of (by omega) (by omega)) ?_
  refine D_lte rfl ?_
  refine D_ck (okI_of (by omega) (by omega)) ?_
  refine D_ck (okI_of (by omega) (by omega)) ?_
  refine D_lte rfl ?_
  refine D_ite (fun c => ?_) (fun c => ?_)
  · have k := tq_lt rfl rfl c
    exact D_some (Or.inr ⟨rfl, by omega⟩)
  · have k := tq_ltn rfl rfl c
    refine D_ite (fun c2 => ?_) (fun c2 => ?_)
    · have k2 := tq_eq rfl rfl c2
      refine D_ite (fun c3 => ?_) (fun c3 => ?_)
      · have k3 := tq_le rfl rfl c3
        exact D_some (Or.inl ⟨rfl, by omega⟩)
      · have k3 := tq_len rfl rfl c3
        exact D_some (Or.inr ⟨rfl, by omega⟩)
    · have k2 := tq_eqn rfl rfl c2
      exact D_some (Or.inl ⟨rfl, by omega⟩)
/-- the place p of S1 is that of S by ranks -/
def trn (S S1 : Tr) (B N : Nat) (g : Nat → Int) : Prop := (∀ a j, ¬ (a = 55 ∧ B ≤ j ∧ j < B + N) → a ≠ 74 → S1 a j = S a j) ∧ (∀ k, k < N → S1 55 (B + cG g (g k) N) = S 55 (B + k))
theorem trn_gI {S S1 : Tr} {b p N : Nat} {g : Nat → Int} (hS : iR BM S) (hg : gI b S) (hb : b ≤ 1) (hp : p < 5) (hN : (N : Int) = mnM S b p) (hgi : ∀ k l, k < N → l < N → g k = g l → S 55 (50 * b + 10 * p + k) = S 55 (50 * b + 10 * p + l)) (h : trn S S1 (50 * b + 10 * p) N g) : gI b S1 ∧ aG b S S1 := by
  obtain ⟨h1, h2⟩ := h
  obtain ⟨g1, g2, g3⟩ := hg
  have n10 : N ≤ 10 := by have := (BM56 hS (5 * b + p)).2; unfold mnM at hN; omega
  have inj : ∀ k l, k < N → l < N → S 55 (50 * b + 10 * p + k) = S 55 (50 * b + 10 * p + l) → k = l := fun k l hk hl e => g1.2.2 p k l hp (by omega) (by omega) (by unfold skM; rw [e])
  have ri : ∀ k l, k < N → l < N → cG g (g k) N = cG g (g l) N → k = l := fun k l hk hl e => inj k l hk hl (hgi k l hk hl (cG_inj hk hl e))
  have rl : ∀ k, k < N → cG g (g k) N < N := fun k hk => cG_lt N hk (Int.le_refl _)
  have on := php_on (f := fun k => cG g (g k) N) rl ri
  have o : ∀ a j, a ≠ 55 → a ≠ 74 → S1 a j = S a j := fun a j h5 h7 => h1 a j (fun q => h5 q.1) h7
  have a1 : ∀ q, mnM S1 b q = mnM S b q := fun q => by unfold mnM; rw [o 56 _ (by decide) (by decide)]
  have a3 : ∀ x, lyM S1 b x = lyM S b x := fun x => by unfold lyM; rw [o 54 _ (by decide) (by decide)]
  refine ⟨⟨?_, fun i hi => ?_, fun q hq hq2 => ?_⟩, fun a j hf => ?_⟩
  · show gF _ _ _ _
    rw [o 0 14 (by decide) (by decide)]
    refine gF_perm (p := p) g1 (fun q => (BM56 hS _).2) (fun x => by have := (BM54 hS (10 * b + x)).2; unfold lyM; omega) a1 a3 (fun q k hq hne hk => ?_) (fun m hm => ?_) (fun k hk => ?_) (fun m l hm hl e => ?_)
    · unfold skM
      rw [h1 55 _ (by omega) (by decide)]
    · obtain ⟨k, hk, e⟩ := on m (by omega)
      refine ⟨k, by omega, ?_⟩
      unfold skM
      rw [← e, h2 k hk]
    · refine ⟨cG g (g k) N, by have := rl k (by omega); omega, ?_⟩
      unfold skM
      rw [h2 k (by omega)]
    · obtain ⟨k, hk, ek⟩ := on m (by omega)
      obtain ⟨k', hk', ek'⟩ := on l (by omega)
      unfold skM at e
      rw [← ek, ← ek', h2 k hk, h2 k' hk'] at e
      have := inj k k' hk hk' (Int32.toInt_inj.mp e)
      subst this
      rw [← ek, ← ek']
  · rw [a3, o 53 _ (by decide) (by decide)]
    exact g2 i hi
  · rw [o 0 13 (by decide) (by decide)] at hq2
    rw [o 58 _ (by decide) (by decide)]
    exact g3 q hq hq2
  · obtain ⟨-, -, w5, -⟩ := Wb_f hf
    by_cases h7 : a = 74
    · subst h7
      exact absurd hf (by rw [Wb_t rfl]; decide)
    · exact h1 a j (fun q => by have := w5 q.1; omega) h7
theorem t_X8_turns (S : Tr) (x1 x2 : Int32) (hS : iR BM S) (dgI : gI x1.toNatClampNeg S) (hx1 : 0 ≤ x1.toInt ∧ x1.toInt ≤ 1) (hx2 : 0 ≤ x2.toInt ∧ x2.toInt ≤ 4) : D (f_X8_turns S x1 x2) (fun q => iR BM q.2 ∧ gI x1.toNatClampNeg q.2 ∧ aG x1.toNatClampNeg S q.2 ∧ q.2 62 x1.toNatClampNeg = S 62 x1.toNatClampNeg ∧ (∀ a j, a ≠ 55 → a ≠ 74 → q.2 a j = S a j)) := by
  obtain ⟨e1, e2⟩ := ix1 (c := 5) (x := x1) (y := x2) 5 (by decide) (by decide) hx1 ⟨by omega, by omega⟩
  have hm := BM56 hS (5 * x1.toNatClampNeg + x2.toNatClampNeg)
  unfold f_X8_turns
  refine D_ck (okI_of (by omega) (by omega)) ?_
  rw [e2]
  refine D_lt (fun n en => ?_)
  rw [← en] at hm
  have c1 : x1.toNatClampNeg = x1.toInt.toNat := rfl
  have c2 : x2.toNatClampNeg = x2.toInt.toNat := rfl
  have cn : n.toNatClampNeg = n.toInt.toNat := rfl
  obtain ⟨B, hB⟩ : ∃ B, B = 50 * x1.toNatClampNeg + 10 * x2.toNatClampNeg := ⟨_, rfl⟩
  obtain ⟨N, hN⟩ : ∃ N, N = n.toNatClampNeg := ⟨_, rfl⟩
  obtain ⟨g, hg⟩ : ∃ g : Nat → Int, g = fun k => keyM S (S 55 (B + k)) := ⟨_, rfl⟩
  have hmn : (N : Int) = mnM S x1.toNatClampNeg x2.toNatClampNeg := by unfold mnM; rw [← en]; omega
  have hgi : ∀ k l, k < N → l < N → g k = g l → S 55 (B + k) = S 55 (B + l) := fun k l hk hl e => by
    have e : keyM S (S 55 (B + k)) = keyM S (S 55 (B + l)) := by rw [hg] at e; exact e
    unfold keyM at e
    have b1 := BM55 hS (B + k)
    have b2 := BM55 hS (B + l)
    exact Int32.toInt_inj.mp (by omega)
  have sinj : ∀ k l, k < N → l < N → S 55 (B + k) = S 55 (B + l) → k = l := fun k l hk hl e => dgI.1.2.2 x2.toNatClampNeg k l (by omega) (by omega) (by omega) (by unfold skM; rw [← hB, e])
  have ri : ∀ k l, k < N → l < N → cG g (g k) N = cG g (g l) N → k = l := fun k l hk hl e => sinj k l hk hl (hgi k l hk hl (cG_inj hk hl e))
  have rl : ∀ k, k < N → cG g (g k) N < N := fun k hk => cG_lt N hk (Int.le_refl _)
  have on := php_on (f := fun k => cG g (g k) N) rl ri
  -- the end: the turned row goes back
  have fin : ∀ (w : Nat) (x4 x5 : Int32) (T : Tr), 0 ≤ x5.toInt → x5.toInt ≤ n.toInt → iR BM T → (∀ a j, ¬ (a = 55 ∧ B ≤ j ∧ j < B + x5.toNatClampNeg) → a ≠ 74 → T a j = S a j) → (∀ k, k < N → T 74 (cG g (g k) N) = S 55 (B + k)) → (∀ j, j < x5.toNatClampNeg → T 55 (B + j) = T 74 j) → 100 - x5.toInt < (w : Int) → D (lpF (fun _ _ => none) (fB_X8_turns_L113 x1 x2 n x4) w x5 T) (fun q => iR BM q.2 ∧ gI x1.toNatClampNeg q.2 ∧ aG x1.toNatClampNeg S q.2 ∧ q.2 62 x1.toNatClampNeg = S 62 x1.toNatClampNeg ∧ (∀ a j, a ≠ 55 → a ≠ 74 → q.2 a j = S a j)) := by
    intro w
    induction w with
    | zero => intro x4 x5 T a1 a2 a3 a4 a5 a6 a7; exfalso; omega
    | succ w ih =>
      intro x4 x5 T a1 a2 a3 a4 a5 a6 a7
      show D (fB_X8_turns_L113 x1 x2 n x4 (lpF (fun _ _ => none) (fB_X8_turns_L113 x1 x2 n x4) w) x5 T) _
      have ih := ih x4
      generalize lpF (fun _ _ => none) (fB_X8_turns_L113 x1 x2 n x4) w = kk at ih ⊢
      unfold fB_X8_turns_L113
      have c5 : x5.toNatClampNeg = x5.toInt.toNat := rfl
      refine D_ite (fun c => ?_) (fun c => ?_)
      · have k := tq_le rfl rfl c
        have ex : x5.toNatClampNeg = N := by omega
        rw [ex] at a4 a6
        have tr : trn S T B N g := ⟨a4, fun k hk => by rw [a6 _ (rl k hk), a5 k hk]⟩
        rw [hB] at tr hgi
        obtain ⟨r1, r2⟩ := trn_gI hS dgI (by omega) (by omega) hmn hgi tr
        exact D_some ⟨a3, r1, r2, a4 62 _ (by omega) (by decide), fun a j z5 z7 => a4 a j (fun z => z5 z.1) z7⟩
      · have k := tq_len rfl rfl c
        obtain ⟨f1, f2⟩ := ix2 (x := x1) (y := x2) (z := x5) hx1 hx2 ⟨by omega, by omega⟩
        refine D_ck (okI_of (by omega) (by omega)) ?_
        refine D_ck (okI_of (by omega) (by omega)) ?_
        rw [f2, ← hB]
        refine D_lt (fun T1 eT => ?_)
        refine D_lt (fun y ey => ?_)
        have h1 : (x5 + 1).toInt = x5.toInt + 1 := i_addK rfl (by decide) (by omega) (by omega)
        have hy : y.toNatClampNeg = x5.toNatClampNeg + 1 := by rw [ey, i_cl]; omega
        have b7 : (0 : Int) ≤ (T 74 x5.toNatClampNeg).toInt ∧ (T 74 x5.toNatClampNeg).toInt ≤ 9 := a3 74 _
        refine ih y T1 (by rw [ey]; omega) (by rw [ey]; omega) (by rw [eT]; exact iR_set a3 b7.1 b7.2) (fun a j q1 q2 => ?_) (fun k hk => ?_) (fun j hj => ?_) (by rw [ey]; omega)
        · rw [eT]
          rcases st_or (S := T) (a := 55) (i := B + x5.toNatClampNeg) (b := a) (j := j) (v := T 74 x5.toNatClampNeg) with e | ⟨z1, z2⟩
          · rw [e]; exact a4 a j (by omega) q2
          · omega
        · rw [eT, st_oth (by decide)]; exact a5 k hk
        · rw [eT, st_oth (a := 55) (b := 74) (by decide)]
          by_cases q : j = x5.toNatClampNeg
          · rw [q, st_same]
          · rw [st_ne (by omega)]; exact a6 j (by omega)
  -- the row is filled
  have fill : ∀ (w : Nat) (x4 x5 : Int32) (T : Tr), 0 ≤ x5.toInt → x5.toInt ≤ n.toInt → iR BM T → (∀ a j, a ≠ 74 → T a j = S a j) → (∀ k, k < x5.toNatClampNeg → T 74 (cG g (g k) N) = S 55 (B + k)) → 100 - x5.toInt < (w : Int) → D (lpF (fun _ _ _ => none) (fB_X8_turns_L17 x1 x2 n) w x4 x5 T) (fun q => iR BM q.2 ∧ gI x1.toNatClampNeg q.2 ∧ aG x1.toNatClampNeg S q.2 ∧ q.2 62 x1.toNatClampNeg = S 62 x1.toNatClampNeg ∧ (∀ a j, a ≠ 55 → a ≠ 74 → q.2 a j = S a j)) := by
    intro w
    induction w with
    | zero => intro x4 x5 T a1 a2 a3 a4 a5 a7; exfalso; omega
    | succ w ih =>
      intro x4 x5 T a1 a2 a3 a4 a5 a7
      show D (fB_X8_turns_L17 x1 x2 n (lpF (fun _ _ _ => none) (fB_X8_turns_L17 x1 x2 n) w) x4 x5 T) _
      generalize lpF (fun _ _ _ => none) (fB_X8_turns_L17 x1 x2 n) w = kk at ih ⊢
      unfold fB_X8_turns_L17
      have c5 : x5.toNatClampNeg = x5.toInt.toNat := rfl
      refine D_ite (fun c => ?_) (fun c => ?_)
      · have k := tq_le rfl rfl c
        have ex : x5.toNatClampNeg = N := by omega
        rw [ex] at a5
        exact fin 2000 x4 0 T (by decide) (by show (0 : Int) ≤ _; omega) a3 (fun a j _ q => a4 a j q) a5 (fun j hj => absurd hj (Nat.not_lt_zero _)) (by decide)
      · have k := tq_len rfl rfl c
        have hxN : x5.toNatClampNeg < N := by omega
        have e55 : ∀ j, T 55 j = S 55 j := fun j => a4 55 j (by decide)
        refine D_bd (t_X8_stackAt T x1 x2 x5 hx1 hx2 ⟨a1, by omega⟩) (fun r er hr => ?_)
        rw [← hB, e55] at hr
        have br := BM55 hS (B + x5.toNatClampNeg)
        rw [← hr] at br
        have hgr : g x5.toNatClampNeg = keyM S r := by rw [hg, hr]
        have kT : ∀ v, keyM T v = keyM S v := fun v => by unfold keyM; rw [a4 30 _ (by decide), a4 28 _ (by decide)]
        unfold fL_X8_turns_L39
        have cnt : ∀ (u : Nat) (x7 x8 : Int32), 0 ≤ x8.toInt → x8.toInt ≤ n.toInt → x7.toInt = cG g (g x5.toNatClampNeg) x8.toNatClampNeg → 100 - x8.toInt < (u : Int) → D (lpF (fun _ _ => none) (fB_X8_turns_L39 kk T x1 x2 n x4 x5 r) u x7 x8) (fun q => iR BM q.2 ∧ gI x1.toNatClampNeg q.2 ∧ aG x1.toNatClampNeg S q.2 ∧ q.2 62 x1.toNatClampNeg = S 62 x1.toNatClampNeg ∧ (∀ a j, a ≠ 55 → a ≠ 74 → q.2 a j = S a j)) := by
          intro u
          induction u with
          | zero => intro x7 x8 d1 d2 d3 d4; exfalso; omega
          | succ u ihu =>
            intro x7 x8 d1 d2 d3 d4
            show D (fB_X8_turns_L39 kk T x1 x2 n x4 x5 r (lpF (fun _ _ => none) (fB_X8_turns_L39 kk T x1 x2 n x4 x5 r) u) x7 x8) _
            generalize lpF (fun _ _ => none) (fB_X8_turns_L39 kk T x1 x2 n x4 x5 r) u = kv at ihu ⊢
            unfold fB_X8_turns_L39
            have c8 : x8.toNatClampNeg = x8.toInt.toNat := rfl
            have le8 := cG_le (g := g) (v := g x5.toNatClampNeg) x8.toNatClampNeg
            refine D_ite (fun c => ?_) (fun c => ?_)
            · have k := tq_le rfl rfl c
              have ex : x8.toNatClampNeg = N := by omega
              rw [ex] at d3
              have lt7 := rl _ hxN
              have c7 : x7.toNatClampNeg = x7.toInt.toNat := rfl
              have e7 : x7.toNatClampNeg = cG g (g x5.toNatClampNeg) N := by omega
              unfold fJ_X8_turns_J78
              refine D_ck (okI_of (by omega) (by omega)) ?_
              refine D_lt (fun T1 eT => ?_)
              have h1 : (x5 + 1).toInt = x5.toInt + 1 := i_addK rfl (by decide) (by omega) (by omega)
              have hy : (x5 + 1).toNatClampNeg = x5.toNatClampNeg + 1 := by rw [i_cl]; omega
              have go : ∀ z : Int32, D (kk z (x5 + 1) T1) (fun q => iR BM q.2 ∧ gI x1.toNatClampNeg q.2 ∧ aG x1.toNatClampNeg S q.2 ∧ q.2 62 x1.toNatClampNeg = S 62 x1.toNatClampNeg ∧ (∀ a j, a ≠ 55 → a ≠ 74 → q.2 a j = S a j)) := fun z => by
                refine ih z (x5 + 1) T1 (by omega) (by omega) (by rw [eT]; exact iR_set a3 br.1 br.2) (fun a j q => ?_) (fun k hk => ?_) (by omega)
                · rw [eT, st_oth q]; exact a4 a j q
                · rw [eT, e7]
                  by_cases q : k = x5.toNatClampNeg
                  · rw [q, st_same]; exact hr
                  · rw [st_ne (fun e => q (ri k _ (by omega) hxN e))]
                    exact a5 k (by omega)
              refine D_ite (fun c => ?_) (fun c => ?_)
              · refine D_lte rfl ?_
                refine D_lte rfl ?_
                exact go _
              · refine D_lte rfl ?_
                refine D_lte rfl ?_
                exact go _
            · have k := tq_len rfl rfl c
              refine D_bd (t_X8_stackAt T x1 x2 x8 hx1 hx2 ⟨d1, by omega⟩) (fun r2 er2 hr2 => ?_)
              rw [← hB, e55] at hr2
              have br2 := BM55 hS (B + x8.toNatClampNeg)
              rw [← hr2] at br2
              have hg2 : g x8.toNatClampNeg = keyM S r2 := by rw [hg, hr2]
              refine D_bd (t_X8_isBelow2 T r2 r a3 br2 br) (fun s2 es2 hs2 => ?_)
              rw [kT, kT, ← hgr, ← hg2] at hs2
              have h8 : (x8 + 1).toInt = x8.toInt + 1 := i_addK rfl (by decide) (by omega) (by omega)
              have hy8 : (x8 + 1).toNatClampNeg = x8.toNatClampNeg + 1 := by rw [i_cl]; omega
              have stp : cG g (g x5.toNatClampNeg) (x8.toNatClampNeg + 1) = cG g (g x5.toNatClampNeg) x8.toNatClampNeg + (if g x5.toNatClampNeg < g x8.toNatClampNeg then 1 else 0) := rfl
              refine D_ite (fun c => ?_) (fun c => ?_)
              · have hn : ¬ g x5.toNatClampNeg < g x8.toNatClampNeg := by
                  rcases hs2 with q | q
                  · exact q.2
                  · exact absurd (c.symm.trans q.1) (by decide)
                refine D_lte rfl ?_
                refine D_lte rfl ?_
                have h0 : (x7 + 0).toInt = x7.toInt + 0 := i_addK rfl (by decide) (by omega) (by omega)
                refine ihu _ _ (by omega) (by omega) ?_ (by omega)
                rw [hy8, stp, if_neg hn]
                omega
              · have hn : g x5.toNatClampNeg < g x8.toNatClampNeg := by
                  rcases hs2 with q | q
                  · exact absurd q.1 c
                  · exact q.2
                refine D_lte rfl ?_
                refine D_lte rfl ?_
                have h0 : (x7 + 1).toInt = x7.toInt + 1 := i_addK rfl (by decide) (by omega) (by omega)
                refine ihu _ _ (by omega) (by omega) ?_ (by omega)
                rw [hy8, stp, if_pos hn]
                omega
        exact cnt 2000 0 0 (by decide) (by show (0 : Int) ≤ _; omega) rfl (by decide)
  exact fill 2000 0 0 S (by decide) (by show (0 : Int) ≤ _; omega) hS (fun a j _ => rfl) (fun k hk => absurd hk (Nat.not_lt_zero _)) (by decide)
