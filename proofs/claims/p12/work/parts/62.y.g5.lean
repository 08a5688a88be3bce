/-! a bracket closes; the whole formula -/
theorem rk_0 {c k : Int} (h : sg2 c k) (h1 : rkI k < 1) : k = 0 := by
  unfold sg2 at h
  rcases h with ⟨_, h⟩ | ⟨_, h⟩ | ⟨_, h⟩ | ⟨_, h⟩ | ⟨h2, h3, h⟩
  · exact h
  · rw [h] at h1; exact absurd h1 (by decide)
  · rw [h] at h1; exact absurd h1 (by decide)
  · rw [h] at h1; exact absurd h1 (by decide)
  · have := (rk_v (v := k) (by omega) (by omega)).1; omega
theorem frS_cl {j : Nat} {x2 : Int32} {R0 : Tr} (N : Nat) : ∀ (R P : Tr), (∀ a i, ¬ (a = 0 ∧ i = 8) → R a i = R0 a i) → Ep (lpF (fun _ _ => none) (fB_X3_closeSigns_L0 j x2) N R P) (fun q => ∀ a i, ¬ (a = 0 ∧ i = 8) → q.1 a i = R0 a i) := by
  induction N with
  | zero => intro R P _; exact Ep_none
  | succ N ih =>
    intro R P h
    show Ep (fB_X3_closeSigns_L0 j x2 (lpF (fun _ _ => none) (fB_X3_closeSigns_L0 j x2) N) R P) _
    generalize lpF (fun _ _ => none) (fB_X3_closeSigns_L0 j x2) N = k1 at ih ⊢
    unfold fB_X3_closeSigns_L0
    exact Ep_ite (fun _ => Ep_some h) (fun _ => Ep_any (fun r => Ep_ite (fun _ => Ep_some h) (fun _ => Ep_lt (fun R1 e1 => Ep_ck (Ep_any (fun P1 => ih R1 P1 (fun a i hn => by rw [e1, st_no hn, h a i hn])))))))
theorem frS_close {j : Nat} {x2 : Int32} {R P : Tr} : Ep (f_X3_closeSigns j R P x2) (fun q => ∀ a i, ¬ (a = 0 ∧ i = 8) → q.1 a i = R a i) := frS_cl 2000 R P (fun _ _ _ => rfl)
theorem e_brk {j f : Nat} {K R P T : Tr} (hj : j < 3) (F : fmS j f 0 K R P T) (hc : (K 0 1).toInt = 40) (hb : ¬ (R 0 9).toInt ≤ 0) : E2 (bd (f_X3_closeBracket j R P) fun q => some ((1 : Int32), q.1, q.2)) (f_X8_signs T) (opQ j f 0 K R P T) := by
  obtain ⟨kt, ⟨e, n, s, he, G, M⟩, w47, r01⟩ := F
  have he0 : e = 1 := by
    rcases he with ⟨_, g⟩ | ⟨g, _⟩
    · exact g
    · exact absurd g (by decide)
  subst he0
  have kk := kt.2.2.2.2.1
  have s5 := G.1.2.1
  have k40 : (T 0 8).toInt = 4 ∧ (T 0 9).toInt = 41 := by unfold kI at kk; omega
  unfold f_X3_closeBracket f_X8_signs
  rw [is_sg.1 ⟨k40.1, by rw [k40.2]; decide⟩]
  rw [s5] at hb
  refine E2_sr (E2_qr (by decide) (E2_qr (fun q => hb (by have := tq_le (b := 0) rfl (by decide) q; exact this)) ?_))
  rw [bd_bd]
  refine E2_bd (e_closeF (x2 := 1) hj (by decide) G) (fun q T1 hq => ?_)
  obtain ⟨R1, P1⟩ := q
  have hq : clQ j f 1 0 n s 1 R P T R1 P1 T1 := hq
  have k1 := cl_tk hq kt
  have F1 := cl_F hq
  obtain ⟨n1, s1, v1, v2, v3, v4, v5, v6, v7, v8⟩ := hq
  obtain ⟨⟨⟨a1, a2, a3, a4⟩, a5, a6, a7⟩, ⟨b1, b3, b4⟩, ⟨h1, h2⟩, l1, c1, c2, c3⟩ := v1
  refine E2_ltr (fun T2 f2 => E2_ltr (fun T3 f3 => ?_))
  have t45 : T1 0 45 = T 0 45 := v8 0 45 (by omega)
  have hm : ∃ m, n1 = m + 1 ∧ (T1 42 m).toInt = 0 := by
    rcases v4 with g | ⟨m, g1, g2⟩
    · rw [g] at a6
      have : zc (T1 42) 0 = 0 := rfl
      rw [this, t45] at a6
      omega
    · refine ⟨m, g1, rk_0 (a4 m (by omega)) ?_⟩
      rw [v8 42 m (by omega)]; exact g2
  obtain ⟨m, em, hz⟩ := hm
  subst em
  have z1 := zc_z hz
  have y1 := b2_s (u := T1 42) (n := m) (by omega)
  show E2 (some ((1 : Int32), st (st R1 0 8 (R1 0 8 - 1)) 0 9 ((st R1 0 8 (R1 0 8 - 1)) 0 9 - 1), P1)) _ _
  obtain ⟨R3, g3⟩ : ∃ R3, R3 = st (st R1 0 8 (R1 0 8 - 1)) 0 9 ((st R1 0 8 (R1 0 8 - 1)) 0 9 - 1) := ⟨_, rfl⟩
  rw [← g3]
  have R3f : ∀ a i, ¬ (a = 0 ∧ (i = 8 ∨ i = 9)) → R3 a i = R1 a i := fun a i hn => by rw [g3, st_no (by omega), st_no (by omega)]
  have T3f : ∀ a i, ¬ (a = 0 ∧ (i = 43 ∨ i = 45)) → T3 a i = T1 a i := fun a i hn => by rw [f3, st_no (by omega), f2, st_no (by omega)]
  have r8 : (R3 0 8).toInt = m := by rw [g3, st_no (by omega), st_same, i_subK a1 (y := 1) (by decide) (by omega) (by omega)]; omega
  have r9 : R3 0 9 = R1 0 9 - 1 := by rw [g3, st_same, st_no (by omega)]
  have t43 : (T3 0 43).toInt = m := by rw [f3, st_no (by omega), f2, st_same, i_subK a2 (y := 1) (by decide) (by omega) (by omega)]; omega
  have t45' : T3 0 45 = T1 0 45 - 1 := by rw [f3, st_same, f2, st_no (by omega)]
  have t45i : (T3 0 45).toInt = (T1 0 45).toInt - 1 := by rw [t45']; exact i_subK rfl (by decide) (by omega) (by omega)
  have x39 : T3 39 = T1 39 := funext fun i => T3f _ _ (by omega)
  have x40 : T3 40 = T1 40 := funext fun i => T3f _ _ (by omega)
  have x41 : T3 41 = T1 41 := funext fun i => T3f _ _ (by omega)
  have x42 : T3 42 = T1 42 := funext fun i => T3f _ _ (by omega)
  have x43 : T3 43 = T1 43 := funext fun i => T3f _ _ (by omega)
  refine op_good (by omega) ⟨tkS_T k1 (fun i h1 h2 => T3f 0 i (by omega)) (funext fun i => T3f 1 i (by omega)) (funext fun i => T3f 4 i (by omega)), ⟨1, m, s1, Or.inl ⟨rfl, rfl⟩, ⟨⟨⟨r8, t43, by omega, fun i hi => ?_⟩, ?_, ?_, ?_⟩, ⟨b1, ?_, fun i hi => ?_⟩, ⟨?_, ?_⟩, ?_, ?_, ?_, ?_⟩, fun g => absurd g (by decide)⟩, ?_, ?_⟩ (qF_t F1 ⟨fun a i g => R3f a i (by omega), fun _ _ _ => rfl, fun a i g => T3f a i (by omega)⟩)
  · rw [R3f 8 i (by omega), x42]; exact a4 i (by omega)
  · rw [r9, t45', a5]
  · rw [t45i, a6, x42, z1]; omega
  · rw [x42]; omega
  · rw [T3f 0 19 (by omega)]; exact b3
  · rw [x39, x40, x41]; exact b4 i hi
  · rw [T3f 0 44 (by omega)]; exact h1
  · rw [x43]; exact h2
  · rw [x42, l1, y1]
  · rw [T3f 0 46 (by omega)]; exact c1
  · rw [T3f 0 46 (by omega)]; exact c2
  · rw [T3f 0 46 (by omega), t45i]; omega
  · rw [T3f 0 47 (by omega), v8 0 47 (by omega)]; exact w47
  · rw [R3f 0 1 (by omega), v6 0 1 (by omega)]; exact r01
/-- how a formula comes back -/
def fmQ (j f : Nat) (K R P T : Tr) (q : Int32 × Tr × Tr × Tr) (q' : Int32 × Tr) : Prop := (q.1 = 0 ∧ q'.1 = 0 ∧ flt q.2.2.1 q'.2 ∧ frK K q.2.1) ∨ (q.1 = 1 ∧ ¬ q.2.1 0 1 = 41 ∧ q'.1 = 0 ∧ q'.2 0 4 = 1 ∧ q'.2 0 5 = q.2.1 0 2 ∧ frK K q.2.1 ∧ q.2.2.1 0 1 = 0) ∨ (q.1 = 1 ∧ q.2.1 0 1 = 41 ∧ q'.1 = 1 ∧ tkS q.2.1 q'.2 ∧ (∃ s, qC j f 1 0 0 s q.2.2.1 q.2.2.2 q'.2) ∧ q.2.2.1 0 1 = 0 ∧ frK K q.2.1 ∧ qF j f R P T q.2.2.1 q.2.2.2 q'.2 ∧ (T 0 10).toInt ≤ (q'.2 0 10).toInt)
theorem fm_mono {j f : Nat} {K R P T K0 R0 P0 T0 : Tr} {q : Int32 × Tr × Tr × Tr} {q' : Int32 × Tr} (hK : frK K0 K) (hF : qF j f R0 P0 T0 R P T) (hp : (T0 0 10).toInt ≤ (T 0 10).toInt) (h : fmQ j f K R P T q q') : fmQ j f K0 R0 P0 T0 q q' := by
  rcases h with ⟨a, b, c, d⟩ | ⟨a, b, c, d, e, g, i⟩ | ⟨a, b, c, d, e, g, i, k, l⟩
  · exact Or.inl ⟨a, b, c, frK_t hK d⟩
  · exact Or.inr (Or.inl ⟨a, b, c, d, e, frK_t hK g, i⟩)
  · exact Or.inr (Or.inr ⟨a, b, c, d, e, g, frK_t hK i, qF_t hF k, by omega⟩)
theorem fm_stop {j f : Nat} {K R P T K0 R0 P0 T0 : Tr} {x2 x4 : Int32} (hf : flt R T) (hK : frK K0 K) (N : Nat) : E2 (lpF (fun _ _ _ _ _ _ => none) (fB_X3_readFormula_L17 j) N x2 0 x4 K R P) (some ((0 : Int32), T)) (fmQ j f K0 R0 P0 T0) := by
  cases N with
  | zero => exact E2_nl
  | succ N =>
    show E2 (fB_X3_readFormula_L17 j (lpF (fun _ _ _ _ _ _ => none) (fB_X3_readFormula_L17 j) N) x2 0 x4 K R P) _ _
    generalize lpF (fun _ _ _ _ _ _ => none) (fB_X3_readFormula_L17 j) N = k
    have h147 : E2 (fJ_X3_readFormula_J147 j K R P) (some ((0 : Int32), T)) (fmQ j f K0 R0 P0 T0) := by
      unfold fJ_X3_readFormula_J147
      refine E2_bl frS_close (fun q hq => ?_)
      obtain ⟨R1, P1⟩ := q
      have hq : ∀ a i, ¬ (a = 0 ∧ i = 8) → R1 a i = R a i := hq
      refine E2_v2l (E2_ql (fun g => hf.2.2 (by rw [← hq 0 1 (by omega)]; exact g)) (E2_some (Or.inl ⟨rfl, rfl, ⟨?_, ?_, ?_⟩, hK⟩)))
      · show R1 0 1 = T 0 4
        rw [hq 0 1 (by omega)]; exact hf.1
      · show R1 0 2 = T 0 5
        rw [hq 0 2 (by omega)]; exact hf.2.1
      · show ¬ R1 0 1 = 0
        rw [hq 0 1 (by omega)]; exact hf.2.2
    unfold fB_X3_readFormula_L17
    exact E2_itl (fun _ => h147) (fun _ => E2_pl rfl h147)
