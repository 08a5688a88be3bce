/-! what a function answers, if it answers -/
def Ep {ρ : Type} (x : Option ρ) (Q : ρ → Prop) : Prop := ∀ r, x = some r → Q r
section
variable {ρ α : Type} {Q : ρ → Prop}
theorem Ep_some {r : ρ} (h : Q r) : Ep (some r) Q := fun _ e => by cases e; exact h
theorem Ep_none : Ep (none : Option ρ) Q := fun _ e => by cases e
theorem Ep_ite {c : Prop} {d : Decidable c} {a b : Option ρ} (h1 : c → Ep a Q) (h2 : ¬ c → Ep b Q) : Ep (@ite (Option ρ) c d a b) Q := by
  by_cases hc : c
  · rw [if_pos hc]; exact h1 hc
  · rw [if_neg hc]; exact h2 hc
theorem Ep_ck {g : Bool} {k : Option ρ} (h : Ep k Q) : Ep (ck g k) Q := fun r e => h r (tx_ck e).2
theorem Ep_lt {v : α} {k : α → Option ρ} (h : ∀ y, y = v → Ep (k y) Q) : Ep (lt v k) Q := h v rfl
theorem Ep_bd {x : Option α} {k : α → Option ρ} {Q1 : α → Prop} (h1 : Ep x Q1) (h : ∀ a, Q1 a → Ep (k a) Q) : Ep (bd x k) Q := fun r e => by
  obtain ⟨a, ha, hk⟩ := tx_bd e
  exact h a (h1 a ha) r hk
theorem Ep_any {x : Option α} {k : α → Option ρ} (h : ∀ a, Ep (k a) Q) : Ep (bd x k) Q := fun r e => by
  obtain ⟨a, _, hk⟩ := tx_bd e
  exact h a r hk
theorem D_Ep {x : Option ρ} {Q1 : ρ → Prop} (h : D x Q) (h1 : Ep x Q1) : D x (fun r => Q r ∧ Q1 r) := by
  obtain ⟨r, e, hq⟩ := h
  exact ⟨r, e, hq, h1 r e⟩
end
/-! which row of the whole object stays -/
theorem e_listComing (pa qa : Nat → Nat) (X P Tn : Tr) (q4 : Nat) : Ep (f_X7_listComing pa qa X P Tn q4) (fun q => q.2 0 = X 0) := by
  have main : ∀ (N : Nat) (x1 x2 : Int32) (Y : Tr), Y 0 = X 0 → Ep (lpF (fun _ _ _ => none) (fB_X7_listComing_L4 pa qa P Tn q4) N x1 x2 Y) (fun q => q.2 0 = X 0) := by
    intro N
    induction N with
    | zero => intro x1 x2 Y _; exact Ep_none
    | succ N ih =>
      intro x1 x2 Y hY
      show Ep (fB_X7_listComing_L4 pa qa P Tn q4 (lpF (fun _ _ _ => none) (fB_X7_listComing_L4 pa qa P Tn q4) N) x1 x2 Y) _
      generalize lpF (fun _ _ _ => none) (fB_X7_listComing_L4 pa qa P Tn q4) N = k at ih ⊢
      unfold fB_X7_listComing_L4
      refine Ep_ck (Ep_ite (fun _ => Ep_some hY) (fun _ => Ep_any (fun r => Ep_ite (fun _ => Ep_lt (fun y _ => ih _ _ _ hY)) (fun _ => Ep_ck (Ep_lt (fun Y1 e => Ep_lt (fun y1 _ => Ep_lt (fun y2 _ => ih _ _ _ ?_))))))))
      rw [e, st_oth (by decide)]; exact hY
  exact main 2000 0 0 X rfl
theorem e_work (pa qa : Nat → Nat) (X P : Tr) (L : Lo) (Tn Tu : Tr) (q0 q2 q4 : Nat) (x1 x2 : Int32) : Ep (f_X7_workOutCosts pa qa X P L Tn Tu q0 q2 q4 x1 x2) (fun q => q.1 0 = X 0) := by
  have inner : ∀ (k2 : Int32 → Tr → Lo → Tr → Nat → Option (Tr × Lo × Tr × Nat)), (∀ (y : Int32) (Y : Tr) (L : Lo) (T : Tr) (q : Nat), Y 0 = X 0 → Ep (k2 y Y L T q) (fun q => q.1 0 = X 0)) → ∀ (q4 : Nat) (x3 : Int32) (N : Nat) (x4 : Int32) (Y : Tr) (L : Lo) (T : Tr) (q2 : Nat), Y 0 = X 0 → Ep (lpF (fun _ _ _ _ _ => none) (fB_X7_workOutCosts_L16 k2 pa qa P Tn q0 q4 x1 x2 x3) N x4 Y L T q2) (fun q => q.1 0 = X 0) := by
    intro k2 hk2 q4 x3 N
    induction N with
    | zero => intro x4 Y L T q2 _; exact Ep_none
    | succ N ih =>
      intro x4 Y L T q2 hY
      show Ep (fB_X7_workOutCosts_L16 k2 pa qa P Tn q0 q4 x1 x2 x3 (lpF (fun _ _ _ _ _ => none) (fB_X7_workOutCosts_L16 k2 pa qa P Tn q0 q4 x1 x2 x3) N) x4 Y L T q2) _
      generalize lpF (fun _ _ _ _ _ => none) (fB_X7_workOutCosts_L16 k2 pa qa P Tn q0 q4 x1 x2 x3) N = k at ih ⊢
      unfold fB_X7_workOutCosts_L16
      refine Ep_ck (Ep_ite (fun _ => Ep_lt (fun y _ => hk2 _ _ _ _ _ hY)) (fun _ => Ep_any (fun r => Ep_lt (fun _ _ => Ep_lt (fun _ _ => Ep_ck (Ep_lt (fun _ _ => Ep_ck (Ep_lt (fun _ _ => Ep_ck (Ep_any (fun r => Ep_lt (fun _ _ => Ep_lt (fun _ _ => Ep_any (fun r => Ep_ck (Ep_lt (fun Y1 e1 => Ep_any (fun r => Ep_lt (fun Y2 e2 => Ep_lt (fun y _ => ih _ _ _ _ _ ?_)))))))))))))))))))
      rw [e2, st_oth (by decide), e1, st_oth (by decide)]; exact hY
  have outer : ∀ (N : Nat) (x3 : Int32) (Y : Tr) (L : Lo) (T : Tr) (q2 : Nat), Y 0 = X 0 → Ep (lpF (fun _ _ _ _ _ => none) (fB_X7_workOutCosts_L2 pa qa P Tn q0 q4 x1 x2) N x3 Y L T q2) (fun q => q.1 0 = X 0) := by
    intro N
    induction N with
    | zero => intro x3 Y L T q2 _; exact Ep_none
    | succ N ih =>
      intro x3 Y L T q2 hY
      show Ep (fB_X7_workOutCosts_L2 pa qa P Tn q0 q4 x1 x2 (lpF (fun _ _ _ _ _ => none) (fB_X7_workOutCosts_L2 pa qa P Tn q0 q4 x1 x2) N) x3 Y L T q2) _
      generalize lpF (fun _ _ _ _ _ => none) (fB_X7_workOutCosts_L2 pa qa P Tn q0 q4 x1 x2) N = k at ih ⊢
      unfold fB_X7_workOutCosts_L2
      exact Ep_ck (Ep_ite (fun _ => Ep_some hY) (fun _ => inner k ih _ _ 2000 _ _ _ _ _ hY))
  exact outer 2000 0 X L Tu q2 rfl
theorem e_rest (pa qa : Nat → Nat) (X P : Tr) (L : Lo) (Tn Tu : Tr) (q0 q2 q4 : Nat) (x1 x2 x3 : Int32) : Ep (f_X7_rest pa qa X P L Tn Tu q0 q2 q4 x1 x2 x3) (fun q => q.2.1 0 = X 0) := by
  have main : ∀ (Y : Tr) (L : Lo) (T : Tr) (q2 : Nat), Y 0 = X 0 → ∀ (N : Nat) (x4 x5 : Int32), Ep (lpF (fun _ _ => none) (fB_X7_rest_L27 pa qa Y P L Tn T q0 q2 q4 x3) N x4 x5) (fun q => q.2.1 0 = X 0) := by
    intro Y L T q2 hY N
    induction N with
    | zero => intro x4 x5; exact Ep_none
    | succ N ih =>
      intro x4 x5
      show Ep (fB_X7_rest_L27 pa qa Y P L Tn T q0 q2 q4 x3 (lpF (fun _ _ => none) (fB_X7_rest_L27 pa qa Y P L Tn T q0 q2 q4 x3) N) x4 x5) _
      generalize lpF (fun _ _ => none) (fB_X7_rest_L27 pa qa Y P L Tn T q0 q2 q4 x3) N = k at ih ⊢
      unfold fB_X7_rest_L27
      exact Ep_ite (fun _ => Ep_some hY) (fun _ => Ep_any (fun r => Ep_ite (fun _ => Ep_lt (fun _ _ => ih _ _)) (fun _ => Ep_ite (fun _ => Ep_some hY) (fun _ => Ep_lt (fun _ _ => Ep_lt (fun _ _ => ih _ _))))))
  unfold f_X7_rest
  refine Ep_ite (fun _ => Ep_some rfl) (fun _ => Ep_any (fun r => Ep_ite (fun _ => Ep_some rfl) (fun _ => Ep_bd (e_work pa qa X P L Tn Tu q0 q2 q4 x1 x2) (fun q hq => ?_))))
  exact main q.1 _ _ _ hq 2000 0 0
theorem e_rests (pa qa : Nat → Nat) (X P : Tr) (L : Lo) (Tn Tu : Tr) (q0 q2 q4 : Nat) (x1 x2 : Int32) : Ep (f_X7_rests pa qa X P L Tn Tu q0 q2 q4 x1 x2) (fun q => q.2.1 0 = X 0) := by
  have main : ∀ (Y : Tr) (L : Lo) (T : Tr) (q2 : Nat), Y 0 = X 0 → ∀ (N : Nat) (x4 x5 : Int32), Ep (lpF (fun _ _ => none) (fB_X7_rests_L22 pa qa Y P L Tn T q0 q2 q4) N x4 x5) (fun q => q.2.1 0 = X 0) := by
    intro Y L T q2 hY N
    induction N with
    | zero => intro x4 x5; exact Ep_none
    | succ N ih =>
      intro x4 x5
      show Ep (fB_X7_rests_L22 pa qa Y P L Tn T q0 q2 q4 (lpF (fun _ _ => none) (fB_X7_rests_L22 pa qa Y P L Tn T q0 q2 q4) N) x4 x5) _
      generalize lpF (fun _ _ => none) (fB_X7_rests_L22 pa qa Y P L Tn T q0 q2 q4) N = k at ih ⊢
      unfold fB_X7_rests_L22
      exact Ep_ite (fun _ => Ep_some hY) (fun _ => Ep_any (fun r => Ep_ite (fun _ => Ep_lt (fun _ _ => ih _ _)) (fun _ => Ep_lt (fun _ _ => Ep_lt (fun _ _ => ih _ _)))))
  unfold f_X7_rests
  refine Ep_any (fun r => Ep_ite (fun _ => Ep_some rfl) (fun _ => Ep_bd (e_work pa qa X P L Tn Tu q0 q2 q4 x1 x2) (fun q hq => ?_)))
  exact main q.1 _ _ _ hq 2000 0 0
theorem e_least (pa qa : Nat → Nat) (X P : Tr) (L : Lo) (Tn Tu Tv : Tr) (q0 q2 q3 q4 : Nat) (x1 : Int32) : Ep (f_X7_least pa qa X P L Tn Tu Tv q0 q2 q3 q4 x1) (fun q => q.2.1 0 = X 0) := by
  unfold f_X7_least
  refine Ep_ite (fun _ => Ep_some rfl) (fun _ => Ep_ite (fun _ => Ep_some rfl) (fun _ => Ep_ite (fun _ => ?_) (fun _ => Ep_some rfl)))
  refine Ep_bd (e_listComing pa qa X P Tn q4) (fun q hq => ?_)
  refine Ep_ite (fun _ => Ep_any (fun p => ?_)) (fun _ => Ep_some hq)
  exact Ep_ite (fun _ => Ep_ite (fun _ => Ep_some hq) (fun _ => Ep_ite (fun _ => Ep_any (fun _ => Ep_some hq)) (fun _ => Ep_some hq))) (fun _ => Ep_some hq)
/-! the class's tape grows alike -/
theorem e_append (pa qa : Nat → Nat) (x1 : Int32) (K : Tr) (h : 0 ≤ (K 0 0).toInt ∧ (K 0 0).toInt + 4 ≤ 700) : Ep (f_X5_append_x pa qa K x1) (fun q => (q 0 0).toInt = (K 0 0).toInt + 4) := by
  have main : ∀ (N n : Nat) (x2 : Int32) (T : Tr), n ≤ 4 → x2.toInt = 8 * (n : Int) - 8 → 0 ≤ (T 0 0).toInt → (T 0 0).toInt + n ≤ 700 → Ep (lpF (fun _ _ => none) (fB_X5_append_x_L3 pa qa x1) N x2 T) (fun q => (q 0 0).toInt = (T 0 0).toInt + n) := by
    intro N
    induction N with
    | zero => intro n x2 T _ _ _ _; exact Ep_none
    | succ N ih =>
      intro n x2 T h1 h2 h3 h4
      show Ep (fB_X5_append_x_L3 pa qa x1 (lpF (fun _ _ => none) (fB_X5_append_x_L3 pa qa x1) N) x2 T) _
      generalize lpF (fun _ _ => none) (fB_X5_append_x_L3 pa qa x1) N = k at ih ⊢
      unfold fB_X5_append_x_L3
      refine Ep_ite (fun c => ?_) (fun c => ?_)
      · have k1 := tq_lt (x := x2) (y := (0 : Int32)) rfl (b := 0) (by decide) c
        refine Ep_some ?_
        omega
      · have k1 := tq_ltn (x := x2) (y := (0 : Int32)) rfl (b := 0) (by decide) c
        refine Ep_ite (fun c2 => ?_) (fun _ => ?_)
        · have k2 := tq_le (x := (700 : Int32)) (y := T 0 0) (a := 700) (by decide) rfl c2
          omega
        refine Ep_ck (Ep_lt (fun T1 e1 => Ep_lt (fun T2 e2 => Ep_lt (fun y ey => ?_))))
        have t1 : T1 0 0 = T 0 0 := by rw [e1, st_oth (by decide)]
        have t2 : (T2 0 0).toInt = (T 0 0).toInt + 1 := by
          rw [e2, st_same, t1]; exact i_addK rfl (by decide) (by omega) (by omega)
        have ty : y.toInt = x2.toInt - 8 := by rw [ey]; exact (i_addK rfl (show (-8 : Int32).toInt = -8 by decide) (by omega) (by omega)).trans (by omega)
        obtain ⟨n', rfl⟩ : ∃ n', n = n' + 1 := ⟨n - 1, by omega⟩
        intro r hr
        have := ih n' y T2 (by omega) (by omega) (by omega) (by omega) r hr
        omega
  exact main 2000 4 24 K (by omega) (by decide) h.1 (by omega)
theorem e_feed (pa qa : Nat → Nat) (K : Tr) (x1 x2 x3 x4 x5 : Int32) (h : 0 ≤ (K 0 0).toInt ∧ (K 0 0).toInt ≤ 700) : Ep (f_X7_feed pa qa K x1 x2 x3 x4 x5) (fun q => ((K 0 0).toInt + 20 ≤ 700 → q.1 = q.2 0 0 ∧ (q.2 0 0).toInt = (K 0 0).toInt + 20) ∧ (¬ (K 0 0).toInt + 20 ≤ 700 → q.1 = -1 ∧ q.2 0 0 = K 0 0)) := by
  unfold f_X7_feed
  have f20 : (K 0 0 + 20).toInt = (K 0 0).toInt + 20 := i_addK rfl (by decide) (by omega) (by omega)
  refine Ep_ite (fun c => ?_) (fun c => ?_)
  · have k := tq_le (x := K 0 0 + 20) (y := (700 : Int32)) f20 (b := 700) (by decide) c
    refine Ep_bd (e_append pa qa x1 K ⟨h.1, by omega⟩) (fun K1 h1 => ?_)
    refine Ep_bd (e_append pa qa x2 K1 ⟨by omega, by omega⟩) (fun K2 h2 => ?_)
    refine Ep_bd (e_append pa qa x3 K2 ⟨by omega, by omega⟩) (fun K3 h3 => ?_)
    refine Ep_bd (e_append pa qa x4 K3 ⟨by omega, by omega⟩) (fun K4 h4 => ?_)
    refine Ep_bd (e_append pa qa x5 K4 ⟨by omega, by omega⟩) (fun K5 h5 => Ep_some ⟨fun _ => ⟨rfl, ?_⟩, fun hz => absurd k hz⟩)
    show (K5 0 0).toInt = _
    omega
  · have k := tq_len (x := K 0 0 + 20) (y := (700 : Int32)) f20 (b := 700) (by decide) c
    exact Ep_some ⟨fun hz => by omega, fun _ => ⟨rfl, rfl⟩⟩
