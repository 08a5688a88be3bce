theorem b_58 {x : Nat} {z T : Tr} (hx : x < 3) {n : Nat} {x1 y s0 : Int32} {k : Tr → Option Tr} {Q : Tr → Prop} (hT : rP x z T) (h43 : (T 0 43).toInt = n) (hW : ∀ i, i < n → T 42 i = 0 ∨ 2 ≤ (T 42 i).toInt) (h44 : (T 0 44).toInt = cwB T n + 1) (h45 : (T 0 45).toInt = cwO T n) (h19 : (T 0 19).toInt + n + 1 - cwO T n = (T 0 46).toInt) (hn : ∀ r : Int32, 0 ≤ r.toInt → r.toInt ≤ 63 → nvOK y r s0) (hk : ∀ T1, rP x z T1 → sI n 1 T1 → (∀ j, 45 ≤ j → j ≤ 48 → T1 0 j = T 0 j) → D (k T1) Q) : D (fJ_X8_bind_J58 k x1 y s0 T) Q := by
  have cb := cw_b T n
  have b46 : 0 ≤ (T 0 46).toInt ∧ (T 0 46).toInt ≤ 64 := hT.1 0 46
  have b44 : 0 ≤ (T 0 44).toInt ∧ (T 0 44).toInt ≤ 96 := hT.1 0 44
  have b19 : 0 ≤ (T 0 19).toInt ∧ (T 0 19).toInt ≤ 64 := hT.1 0 19
  unfold fJ_X8_bind_J58
  refine D_bd (r_dropHeld hT (by omega)) (fun q _ hq => ?_)
  have hs := hq.2.2.2.2
  have e19 : q.2 0 19 = T 0 19 := hs 0 19 (by decide)
  refine D_bd (r_grown hq.2.2.1 hx (hn q.1 hq.1 hq.2.1) (by rw [e19]; omega) (by rw [hq.2.2.2.1]; omega)) (fun T1 _ hg => ?_)
  have e42 : ∀ j, T1 42 j = T 42 j := fun j => (hg.2.2.2.2 j).trans (hs 42 j (by omega))
  have ez : ∀ j, ¬ j = 44 → ¬ j = 19 → T1 0 j = T 0 j := fun j h1 h2 => (hg.2.2.2.1 j h1 h2).trans (hs 0 j (fun hz => h1 hz.2))
  refine hk T1 hg.1 ?_ (fun j h1 h2 => ez j (by omega) (by omega))
  unfold sI
  rw [cwB_eq n (fun i _ => e42 i), cwO_eq n (fun i _ => e42 i), ez 43 (by decide) (by decide), ez 45 (by decide) (by decide), ez 46 (by decide) (by decide), hg.2.1, hg.2.2.1, hq.2.2.2.1, e19]
  exact ⟨h43, fun i hi => by rw [e42]; exact hW i hi, by omega, h45, by omega, fun _ => by omega⟩
/-- what has waited is bound, down to a bracket or a lesser sign -/
theorem r_bind {x : Nat} {z : Tr} (hx : x < 3) {x1 : Int32} (h1 : 1 ≤ x1.toInt) (N : Nat) : ∀ (T : Tr) (n : Nat), rP x z T → sI n 1 T → (n : Int) < (N : Int) → D (lpF (fun _ => none) (fB_X8_bind_L0 x1) N T) (fun q => rP x z q ∧ (∀ j, 45 ≤ j → j ≤ 48 → q 0 j = T 0 j) ∧ ∃ m, sI m 1 q ∧ (m = 0 ∨ ∃ m', m = m' + 1 ∧ (x1 = 1 → q 42 m' = 0))) := by
  induction N with
  | zero => intro T n _ _ hn; omega
  | succ N ih =>
    intro T n h hs hn
    show D (fB_X8_bind_L0 x1 (lpF (fun _ => none) (fB_X8_bind_L0 x1) N) T) _
    generalize lpF (fun _ => none) (fB_X8_bind_L0 x1) N = k at ih ⊢
    unfold fB_X8_bind_L0
    have b43 : 0 ≤ (T 0 43).toInt ∧ (T 0 43).toInt ≤ 96 := h.1 0 43
    obtain ⟨s43, sW, s44, s45, s19, s1⟩ := hs
    refine D_ite (fun c => ?_) (fun c => ?_)
    · have k0 := tq_le (x := T 0 43) (y := (0 : Int32)) rfl (b := 0) (by decide) c
      exact D_some ⟨h, fun _ _ _ => rfl, n, ⟨s43, sW, s44, s45, s19, s1⟩, Or.inl (by omega)⟩
    · have k0 := tq_len (x := T 0 43) (y := (0 : Int32)) rfl (b := 0) (by decide) c
      obtain ⟨n', rfl⟩ : ∃ n', n = n' + 1 := ⟨n - 1, by omega⟩
      have e1 : (T 0 43 - 1).toInt = n' := by
        have : (T 0 43 - 1).toInt = (T 0 43).toInt - 1 := i_subK rfl (show (1 : Int32).toInt = 1 by decide) (by omega) (by omega)
        omega
      have c1 : (T 0 43 - 1).toNatClampNeg = n' := by simp only [i_cl]; omega
      refine D_ck (okI_of (by omega) (by omega)) ?_
      rw [c1]
      refine D_bd (t2_rank (T 42 n')) (fun r _ hr => D_ite (fun cr => ?_) (fun cr => ?_))
      · have kr := tq_lt (x := r) (y := x1) rfl rfl cr
        refine D_some ⟨h, fun _ _ _ => rfl, n' + 1, ⟨s43, sW, s44, s45, s19, s1⟩, Or.inr ⟨n', rfl, fun hz => ?_⟩⟩
        rcases sW n' (by omega) with hw | hw
        · exact hw
        · have := hr.2.2 hw
          have : x1.toInt = 1 := by rw [hz]; decide
          omega
      · have kr := tq_ltn (x := r) (y := x1) rfl rfl cr
        have hw0 : ¬ T 42 n' = 0 := fun hz => by have := hr.2.1 hz; omega
        have hw : 2 ≤ (T 42 n').toInt := (sW n' (by omega)).resolve_left hw0
        refine D_lt (fun S7 e7 => ?_)
        have h7 : rP x z S7 := by
          rw [e7]; refine rP_set (a := 0) h ?_ ?_ rfl rfl (fun _ => Or.inr (by decide))
          · show (0 : Int) ≤ _; omega
          · show _ ≤ (96 : Int); omega
        have z7 : ∀ j, ¬ j = 43 → S7 0 j = T 0 j := fun j hj => by rw [e7, st_ne hj]
        have a7 : ∀ j, S7 42 j = T 42 j := fun j => by rw [e7, st_oth (by decide)]
        have s7 : (S7 0 43).toInt = n' := by rw [e7, st_same]; exact e1
        have c7 : (S7 0 43).toNatClampNeg = n' := by simp only [i_cl]; omega
        refine D_ck (okI_of (by omega) (by omega)) ?_
        rw [c7, a7]
        have W7 : ∀ i, i < n' → S7 42 i = 0 ∨ 2 ≤ (S7 42 i).toInt := fun i hi => by rw [a7]; exact sW i (by omega)
        have B7 := cwB_eq (T := T) (T1 := S7) n' (fun i _ => a7 i)
        have O7 := cwO_eq (T := T) (T1 := S7) n' (fun i _ => a7 i)
        refine D_lt (fun y ey => D_ite (fun cy => ?_) (fun cy => ?_))
        · have hc := cw_2 (T := T) (n := n') (by rw [← ey]; exact cy)
          refine b_58 (x1 := x1) hx h7 s7 W7 ?_ ?_ ?_ (fun r h0 h6 => Or.inr (Or.inr (Or.inl ⟨cy, h0, h6⟩))) (fun T1 hT1 hs1 hj => ?_)
          · rw [z7 44 (by decide), B7]; omega
          · rw [z7 45 (by decide), O7]; omega
          · rw [z7 19 (by decide), z7 46 (by decide), O7]; omega
          · refine D_mono (ih T1 n' hT1 hs1 (by omega)) (fun q hq => ⟨hq.1, fun j g1 g2 => ?_, hq.2.2⟩)
            rw [hq.2.1 j g1 g2, hj j g1 g2, z7 j (by omega)]
        · have hc := cw_3 (T := T) (n := n') hw0 (by rw [← ey]; exact cy)
          have cb := cw_b T n'
          refine D_bd (r_dropHeld h7 (by rw [z7 44 (by decide)]; omega)) (fun q _ hq => ?_)
          have g := hq.2.2.2.2
          have B8 := cwB_eq (T := T) (T1 := q.2) n' (fun i _ => (g 42 i (by omega)).trans (a7 i))
          have O8 := cwO_eq (T := T) (T1 := q.2) n' (fun i _ => (g 42 i (by omega)).trans (a7 i))
          refine b_58 (x1 := x1) hx hq.2.2.1 (by rw [g 0 43 (by decide)]; exact s7) (fun i hi => by rw [g 42 i (by omega)]; exact W7 i hi) ?_ ?_ ?_ (fun r h0 h6 => Or.inr (Or.inr (Or.inr ⟨fun hz => ?_, h0, h6, hq.1, hq.2.1⟩))) (fun T1 hT1 hs1 hj => ?_)
          · rw [hq.2.2.2.1, z7 44 (by decide), B8]; omega
          · rw [g 0 45 (by decide), z7 45 (by decide), O8]; omega
          · rw [g 0 19 (by decide), g 0 46 (by decide), z7 19 (by decide), z7 46 (by decide), O8]; omega
          · rw [← ey, hz] at hw; exact absurd hw (by decide)
          · refine D_mono (ih T1 n' hT1 hs1 (by omega)) (fun p hp => ⟨hp.1, fun j g1 g2 => ?_, hp.2.2⟩)
            rw [hp.2.1 j g1 g2, hj j g1 g2, g 0 j (by omega), z7 j (by omega)]
theorem r_bindS {x : Nat} {z S : Tr} (hx : x < 3) {x1 : Int32} (h1 : 1 ≤ x1.toInt) {n : Nat} (h : rP x z S) (hs : sI n 1 S) : D (f_X8_bind S x1) (fun q => rP x z q ∧ (∀ j, 45 ≤ j → j ≤ 48 → q 0 j = S 0 j) ∧ ∃ m, sI m 1 q ∧ (m = 0 ∨ ∃ m', m = m' + 1 ∧ (x1 = 1 → q 42 m' = 0))) := by
  have b43 : 0 ≤ (S 0 43).toInt ∧ (S 0 43).toInt ≤ 96 := h.1 0 43
  have := hs.1
  exact r_bind hx h1 2000 S n h hs (by omega)
theorem r_isCounted {x : Nat} {z S : Tr} (hx : x < 3) (h : rP x z S) : D (f_X8_isCounted S) (fun q => rP x z q.2 ∧ (q.1 = 0 ∨ (q.1 = 1 ∧ (S 0 46).toInt < 64 ∧ (q.2 0 46).toInt = (S 0 46).toInt + 1 ∧ (∀ a j, ¬ (a = 0 ∧ j = 46) → q.2 a j = S a j)))) := by
  have b : 0 ≤ (S 0 46).toInt ∧ (S 0 46).toInt ≤ 64 := h.1 0 46
  unfold f_X8_isCounted
  refine D_ite (fun _ => D_mono (r_wrong h 2) (fun q hq => ⟨hq.2, Or.inl hq.1⟩)) (fun c => ?_)
  have c46 : ¬ (S 0 46).toInt = 64 := fun hz => c (Int32.toInt_inj.mp (hz.trans (by decide)))
  refine D_lt (fun T eT => ?_)
  have e1 : (S 0 46 + 1).toInt = (S 0 46).toInt + 1 := i_addK rfl (show (1 : Int32).toInt = 1 by decide) (by omega) (by omega)
  have eo : ∀ c, ¬ c = 0 → ∀ j, T c j = S c j := fun c hc j => by rw [eT, st_oth hc]
  have ez : ∀ j, ¬ j = 46 → T 0 j = S 0 j := fun j hj => by rw [eT, st_ne hj]
  have hp := h.2.2.2.2.1
  have hT : rP x z T := by
    refine ⟨?_, ?_, wK_S (eo 4 (by decide)) h.2.2.1, kP_of h.2.2.2.1 (ez 6 (by decide)) (ez 7 (by decide)) (ez 8 (by decide)) (ez 9 (by decide)), ⟨fun i hi hl => ?_, fun p hp1 hl => ?_, fun k => nodeOK_eq (hp.2.2.1 k) (eo 39 (by decide) k) (eo 40 (by decide) k) (eo 41 (by decide) k), fun u hu hx1 hl => ?_, fun hz => absurd hz (by omega)⟩, ?_⟩
    · rw [eT]; refine iR_set (a := 0) (i := 46) h.1 ?_ ?_
      · show (0 : Int) ≤ _; omega
      · show _ ≤ (64 : Int); omega
    · rw [eT]; exact aP_set h.2.1 rfl
    · rw [eo 30 (by decide), ez 17 (by decide)]; rw [ez 18 (by decide)] at hl; exact hp.1 i hi hl
    · rw [eo 29 (by decide)]; rw [ez 17 (by decide)] at hl; exact hp.2.1 p hp1 hl
    · rw [eo 38 (by decide)]; rw [eo 36 (by decide)] at hl; exact hp.2.2.2.1 u hu hx1 hl
    · rw [mu_eq (T := S) (T1 := T) (ez 16 (by decide)) (ez 17 (by decide)) (ez 18 (by decide)) (ez 20 (by decide)) (eo 22 (by decide)) (eo 36 (by decide))]; exact h.2.2.2.2.2
  refine D_some ⟨hT, Or.inr ⟨rfl, by omega, ?_, fun a j hn => ?_⟩⟩
  · show (T 0 46).toInt = _
    rw [eT, st_same]; exact e1
  · show T a j = S a j
    rw [eT]
    rcases st_or (S := S) (a := 0) (i := 46) (b := a) (j := j) (v := S 0 46 + 1) with e | e
    · exact e
    · exact absurd e hn
theorem r_waitsFor {x : Nat} {z S : Tr} (h : rP x z S) {n : Nat} (h43 : (S 0 43).toInt = n) (hn : n < 90) {v : Int32} (hv : 0 ≤ v.toInt ∧ v.toInt ≤ 14) : D (f_X8_waitsFor S v) (fun q => rP x z q ∧ (q 0 43).toInt = (n + 1 : Nat) ∧ q 42 n = v ∧ (∀ j, ¬ j = n → q 42 j = S 42 j) ∧ (∀ j, ¬ j = 43 → q 0 j = S 0 j)) := by
  unfold f_X8_waitsFor
  have c1 : (S 0 43).toNatClampNeg = n := by simp only [i_cl]; omega
  refine D_ck (okI_of (by omega) (by omega)) ?_
  rw [c1]
  refine D_lt (fun S2 e2 => D_lt (fun S3 e3 => ?_))
  have h2 : rP x z S2 := by rw [e2]; exact rP_set (a := 42) h hv.1 hv.2 rfl rfl (fun hz => absurd hz (by decide))
  have z2 : S2 0 = S 0 := by rw [e2, st_oth (by decide)]
  rw [z2] at e3
  have e1 : (S 0 43 + 1).toInt = (S 0 43).toInt + 1 := i_addK rfl (show (1 : Int32).toInt = 1 by decide) (by omega) (by omega)
  refine D_some ⟨?_, ?_, ?_, fun j hj => ?_, fun j hj => ?_⟩
  · rw [e3]; refine rP_set (a := 0) h2 ?_ ?_ rfl rfl (fun _ => Or.inr (by decide))
    · show (0 : Int) ≤ _; omega
    · show _ ≤ (96 : Int); omega
  · rw [e3, st_same]; omega
  · rw [e3, st_oth (by decide), e2, st_same]
  · rw [e3, st_oth (by decide), e2, st_ne hj]
  · rw [e3, st_ne hj, z2]
