theorem rP_29 {z T : Tr} (h : rP z T) {i : Nat} (v : Int32) (hi : (T 0 17).toInt + 6 ≤ (i : Int)) : rP z (st T 29 i v) := by
  have b17 : 0 ≤ (T 0 17).toInt ∧ (T 0 17).toInt ≤ 6 := h.1 0 17
  have r := i_rng v
  have eo : ∀ c j, ¬ c = 29 → st T 29 i v c j = T c j := fun c j hc => by rw [st_oth hc]
  refine ⟨iR_set (a := 29) (i := i) h.1 ?_ ?_, aP_set h.2.1 (Wp_29 (by omega)), wK_S (fun j => eo 4 j (by decide)) h.2.2.1, kP_of h.2.2.2.1 (eo 0 6 (by decide)) (eo 0 7 (by decide)) (eo 0 8 (by decide)) (eo 0 9 (by decide)), ?_⟩
  · show (-2147483648 : Int) ≤ _; omega
  · show _ ≤ (2147483647 : Int); omega
  · have hp := h.2.2.2.2
    refine ⟨fun k hk hl => ?_, fun p hp1 hl => ?_, fun k => ?_, fun w hw hl => ?_⟩
    · rw [eo 30 _ (by decide), eo 0 17 (by decide)]; rw [eo 0 18 (by decide)] at hl; exact hp.1 k hk hl
    · rw [eo 0 17 (by decide)] at hl
      rw [st_ne (by omega)]; exact hp.2.1 p hp1 hl
    · have := hp.2.2.1 k
      unfold nodeOK at this ⊢
      rw [eo 39 _ (by decide), eo 40 _ (by decide), eo 41 _ (by decide)]; exact this
    · rw [eo 38 _ (by decide)]; rw [eo 36 _ (by decide)] at hl; exact hp.2.2.2 w hw hl
