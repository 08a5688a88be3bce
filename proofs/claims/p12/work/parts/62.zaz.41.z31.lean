/-! remembered: the reference's rows, exactly -/
def newR (S q : Tr) (u : Nat) : Prop := (∀ j, j < 50 → q 84 (61 * u + j) = S 55 j) ∧ (∀ j, j < 5 → q 84 (61 * u + 50 + j) = S 56 j) ∧ ∀ j, j < 6 → q 84 (61 * u + 55 + j) = S 58 j
theorem k_r49 {S : Tr} {u : Nat} (hu : (S 0 82).toInt = u) (h19 : u ≤ 19) : Ep (fJ_X8_remember_J49 S) (fun q => newR S q u ∧ (q 0 82).toInt = (u : Int) + 1 ∧ (∀ j, j < 61 * u → q 84 j = S 84 j) ∧ ∀ a j, a ≠ 84 → ¬ (a = 0 ∧ j = 82) → q a j = S a j) := by
  have e1 := i_mulL (a := (61 : Int32)) (b := S 0 82) 61 (by decide) (by omega) (by omega)
  have eo : ((61 : Int32) * (S 0 82)).toNatClampNeg = 61 * u := by rw [i_cl]; omega
  unfold fJ_X8_remember_J49
  refine Ep_bd (D_to (t_X8_put_84 S ((61 : Int32) * (S 0 82)) ⟨by omega, by omega⟩)) (fun S2 h2 => Ep_lt (fun S5 e5 => Ep_some ?_))
  rw [eo] at h2
  have f84 : ∀ j, S5 84 j = S2 84 j := fun j => by rw [e5, st_oth (by decide)]
  have h82 : S2 0 82 = S 0 82 := by rw [h2, put_o (by omega)]
  refine ⟨⟨fun j hj => ?_, fun j hj => ?_, fun j hj => ?_⟩, ?_, fun j hj => ?_, fun a j n1 n2 => ?_⟩
  · rw [f84, h2, put_s hj]
  · rw [f84, h2, put_m (by decide) hj]
  · rw [f84, h2, put_a (by decide) hj]
  · rw [e5, st_same, h82]
    exact i_addK hu (y := 1) (by decide) (by omega) (by omega)
  · rw [f84, h2, put_o (by omega)]
  · rw [e5, st_no n2, h2, put_o (by omega)]
def remQ (S q : Tr) (u : Nat) : Prop := (u < 20 → newR S q u ∧ (q 0 82).toInt = (u : Int) + 1 ∧ ∀ j, j < 61 * u → q 84 j = S 84 j) ∧ (u = 20 → newR S q 19 ∧ (q 0 82).toInt = 20 ∧ ∀ j, j < 1159 → q 84 j = S 84 (j + 61)) ∧ ∀ a j, a ≠ 84 → ¬ (a = 0 ∧ j = 82) → q a j = S a j
theorem k_rem {S : Tr} {u : Nat} (hu : (S 0 82).toInt = u) (h20 : u ≤ 20) : Ep (f_X8_remember S) (fun q => remQ S q u) := by
  unfold f_X8_remember
  refine Ep_ite (fun c => ?_) (fun c => ?_)
  · have u20 : u = 20 := by
      rw [c, show (20 : Int32).toInt = 20 by decide] at hu
      omega
    have last : Ep (fJ_X8_remember_J39 (dwn S 1159)) (fun q => remQ S q u) := by
      unfold fJ_X8_remember_J39
      refine Ep_lt (fun w ew => ?_)
      rw [dwn_o (by omega)] at ew
      have f1 : (S 0 82 - 1).toInt = 19 := by rw [c]; decide
      have fr : ∀ a j, ¬ (a = 84 ∧ j < 1159) → ¬ (a = 0 ∧ j = 82) → w a j = S a j := fun a j q1 q2 => by rw [ew, st_no q2, dwn_o q1]
      have f84 : ∀ j, j < 1159 → w 84 j = S 84 (j + 61) := fun j hj => by rw [ew, st_oth (by decide), dwn_i hj]
      have n82 : (w 0 82).toInt = ((19 : Nat) : Int) := by rw [ew, st_same]; exact f1
      refine Ep_mono (k_r49 n82 (by omega)) (fun q hq => ?_)
      obtain ⟨⟨r1, r2, r3⟩, r4, r5, r6⟩ := hq
      refine ⟨fun g => absurd g (by omega), fun _ => ⟨⟨fun j hj => (r1 j hj).trans (fr 55 j (by omega) (by omega)), fun j hj => (r2 j hj).trans (fr 56 j (by omega) (by omega)), fun j hj => (r3 j hj).trans (fr 58 j (by omega) (by omega))⟩, r4, fun j hj => (r5 j (by omega)).trans (f84 j hj)⟩, fun a j q1 q2 => (r6 a j q1 q2).trans (fr a j (by omega) q2)⟩
    have go : ∀ (N n : Nat) (x : Int32) (T : Tr), x.toInt = n → n ≤ 1159 → T = dwn S n → Ep (lpF (fun _ _ => none) fB_X8_remember_L11 N x T) (fun q => remQ S q u) := by
      intro N
      induction N with
      | zero => intro n x T _ _ _; exact Ep_none
      | succ N ih =>
        intro n x T hx hn hT
        show Ep (fB_X8_remember_L11 (lpF (fun _ _ => none) fB_X8_remember_L11 N) x T) _
        generalize lpF (fun _ _ => none) fB_X8_remember_L11 N = kk at ih ⊢
        unfold fB_X8_remember_L11
        refine Ep_ite (fun c => ?_) (fun c => ?_)
        · have k := tq_le (a := 1159) (by decide) hx c
          rw [hT, show n = 1159 by omega]
          exact last
        · have k := tq_len (b := n) (a := 1159) (by decide) hx c
          have f : (x + 61).toInt = x.toInt + 61 := i_addK rfl (by decide) (by omega) (by omega)
          refine Ep_ck (Ep_ck (Ep_lt (fun S1 e1 => Ep_lt (fun y ey => ih (n + 1) y S1 (by rw [ey]; exact i_p1 hx (by omega)) (by omega) (dwn_b hT e1 (i_cn hx) (by rw [i_cl]; omega) rfl)))))
    unfold fL_X8_remember_L11
    exact go 2000 0 0 S (by decide) (by omega) dwn_0.symm
  · have u19 : u ≤ 19 := by
      by_cases g : u = 20
      · exact absurd (Int32.toInt_inj.mp (by rw [hu, g]; decide)) c
      · omega
    refine Ep_mono (k_r49 hu u19) (fun q hq => ?_)
    obtain ⟨r1, r2, r3, r4⟩ := hq
    exact ⟨fun _ => ⟨r1, r2, r3⟩, fun g => absurd g (by omega), r4⟩
