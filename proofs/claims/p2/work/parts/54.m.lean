theorem rP_17 {z T : Tr} (h : rP z T) (h6 : (T 0 17).toInt < 6) (ha : 1 ≤ (T 29 (6 + (T 0 17).toInt.toNat)).toInt) : rP z (st T 0 17 (T 0 17 + 1)) := by
  have b17 : 0 ≤ (T 0 17).toInt ∧ (T 0 17).toInt ≤ 6 := h.1 0 17
  have e1 : (T 0 17 + 1).toInt = (T 0 17).toInt + 1 := i_addK rfl (show (1 : Int32).toInt = 1 by decide) (by omega) (by omega)
  have eo : ∀ c j, ¬ c = 0 → st T 0 17 (T 0 17 + 1) c j = T c j := fun c j hc => by rw [st_oth hc]
  refine ⟨iR_set (a := 0) (i := 17) h.1 ?_ ?_, aP_set h.2.1 rfl, wK_S (fun j => eo 4 j (by decide)) h.2.2.1, kP_of h.2.2.2.1 (st_ne (by decide)) (st_ne (by decide)) (st_ne (by decide)) (st_ne (by decide)), ?_⟩
  · show (0 : Int) ≤ _; omega
  · show _ ≤ (6 : Int); omega
  · have hp := h.2.2.2.2
    refine ⟨fun k hk hl => ?_, fun p hp1 hl => ?_, fun k => ?_, fun w hw hl => ?_⟩
    · rw [st_ne (by decide)] at hl
      rw [eo 30 _ (by decide), st_same, e1]; have := hp.1 k hk hl; omega
    · rw [st_same, e1] at hl
      rw [eo 29 _ (by decide)]
      rcases (by omega : (p : Int) < (T 0 17).toInt ∨ (T 0 17).toInt ≤ (p : Int)) with hz | hz
      · exact hp.2.1 p hp1 hz
      · have : p = (T 0 17).toInt.toNat := by omega
        rw [this]; exact ha
    · have := hp.2.2.1 k
      unfold nodeOK at this ⊢
      rw [eo 39 _ (by decide), eo 40 _ (by decide), eo 41 _ (by decide)]; exact this
    · rw [eo 38 _ (by decide)]; rw [eo 36 _ (by decide)] at hl; exact hp.2.2.2 w hw hl
