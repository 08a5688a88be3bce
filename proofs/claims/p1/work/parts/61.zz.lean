/-! the callee's cell is the last one: without places -/
section TQL
variable {G : va_G} {cA : Nat → ClassId} {A : Nat → Prop} {wr w1 : va_W} {x : Nat × va_E} {H H0 H1 : Heap} {locs : List Loc} {s : State}
theorem tq_one {k : Nat} {q : Nat × va_E} (h : ([x] : va_W)[k]? = some q) : k = 0 ∧ q = x := by
  have hk : k < 1 := by simpa using (List.getElem?_eq_some_iff.mp h).1
  obtain rfl : k = 0 := by omega
  exact ⟨rfl, (Option.some.inj h).symm⟩
theorem tq_lastL : (wr ++ [x])[wr.length]? = some x := by simp
theorem tq_cutL (hP : va_P G vwCl (wr ++ [x]) H) : va_P G vwCl [x] H ∧ va_D (fun _ => True) [x] := by
  refine ⟨fun k q h => ?_, fun i j p q hi hj _ => ?_, fun _ _ _ => trivial⟩
  · obtain ⟨-, rfl⟩ := tq_one h
    exact hP wr.length _ tq_lastL
  · rw [(tq_one hi).1, (tq_one hj).1]
theorem tq_freeL (hD : va_D A (wr ++ [x])) (hS : va_S A H0 H locs) (hA : ∀ q, H0.size ≤ q → A q) : ∀ q, va_A [x] H.size q → A q := by
  intro q h
  rcases h with ⟨k, e, h⟩ | h
  · have h2 := (tq_one h).2
    have h3 := hD.2 wr.length x tq_lastL
    rw [← h2] at h3
    exact h3
  · exact hA q (Nat.le_trans hS.1 h)
theorem tq_preL {av : List Value} (hP : va_P G vwCl (wr ++ [x]) H) (hK : va_K G vwCl (tyL cA) s) (hN : tqN s) : PreS s H (tqP G cA av [x] H.size) av := by
  obtain ⟨hP1, hD1⟩ := tq_cutL hP
  exact ⟨tqP.blind, fun U hU hW => ⟨rfl, by rw [hU], by rw [hU]; exact hP1, va_K.moved hW.alike hK, hD1, hN.warm hW⟩⟩
theorem tq_joinL (hP : va_P G vwCl (wr ++ [x]) H) (hD : va_D A (wr ++ [x])) (hk : ∀ q : Nat, q < H.size → ¬ va_A [x] H.size q → H1[q]? = H[q]?) (hF : ∀ q, va_A [x] H.size q → A q) (hP1 : va_P G vwCl w1 H1) (hD1 : va_D (va_A [x] H.size) w1) : va_P G vwCl (wr ++ w1) H1 ∧ va_D A (wr ++ w1) := by
  have old : ∀ {k : Nat} {q : Nat × va_E}, wr[k]? = some q → (wr ++ [x])[k]? = some q := fun {k q} h => by
    rw [List.getElem?_append_left (List.getElem?_eq_some_iff.mp h).1]; exact h
  have apart : ∀ {k : Nat} {q : Nat × va_E}, wr[k]? = some q → ¬ va_A [x] H.size q.1 := fun {k q} h hz => by
    have hlt : k < wr.length := (List.getElem?_eq_some_iff.mp h).1
    rcases hz with ⟨j, e, hz⟩ | hz
    · have h2 : x.1 = q.1 := by rw [← (tq_one hz).2]
      have h3 := hD.1 k wr.length q x (old h) tq_lastL h2.symm
      omega
    · have h4 := (hP k q (old h)).lt
      omega
  refine ⟨fun k q hq => ?_, fun i j p q hi hj e => ?_, fun k q hq => ?_⟩
  · by_cases hl : k < wr.length
    · rw [List.getElem?_append_left hl] at hq
      exact (hP k q (old hq)).kept (hk _ (hP k q (old hq)).lt (apart hq))
    · rw [List.getElem?_append_right (by omega)] at hq
      exact hP1 _ q hq
  · by_cases h1 : i < wr.length <;> by_cases h2 : j < wr.length
    · rw [List.getElem?_append_left h1] at hi
      rw [List.getElem?_append_left h2] at hj
      exact hD.1 i j p q (old hi) (old hj) e
    · rw [List.getElem?_append_left h1] at hi
      rw [List.getElem?_append_right (by omega)] at hj
      exact absurd (e ▸ hD1.2 _ q hj) (apart hi)
    · rw [List.getElem?_append_right (by omega)] at hi
      rw [List.getElem?_append_left h2] at hj
      exact absurd (e ▸ hD1.2 _ p hi) (apart hj)
    · rw [List.getElem?_append_right (by omega)] at hi hj
      have h3 := hD1.1 _ _ p q hi hj e
      omega
  · by_cases hl : k < wr.length
    · rw [List.getElem?_append_left hl] at hq
      exact hD.2 k q (old hq)
    · rw [List.getElem?_append_right (by omega)] at hq
      exact hF _ (hD1.2 _ q hq)
end TQL
theorem tq_hd {F : Nat → Nat × va_E} {k : Nat} {q d : Nat × va_E} {t : va_W} (h : ∀ i, F (i + k) = List.getD (q :: t) i d) : F k = q := by
  have h0 := h 0
  rw [Nat.zero_add] at h0
  exact h0
theorem tq_tl {F : Nat → Nat × va_E} {k : Nat} (k1 : Nat) {q d : Nat × va_E} {t : va_W} (h : ∀ i, F (i + k) = List.getD (q :: t) i d) (hk : k + 1 = k1) : ∀ i, F (i + k1) = List.getD t i d := by
  intro i
  have h0 := h (i + 1)
  rw [show i + 1 + k = i + k1 by omega] at h0
  exact h0
theorem tq_F {G : va_G} {A : Nat → Prop} {ws : va_W} {H : Heap} (hP : va_P G vwCl ws H) (hD : va_D A ws) (d : Nat × va_E) : ∃ (F : Nat → Nat × va_E) (n : Nat), n = ws.length ∧ va_P G vwCl ((List.range n).map F) H ∧ va_D A ((List.range n).map F) ∧ ∀ i, F (i + 0) = List.getD ws i d :=
  ⟨fun i => ws.getD i d, ws.length, rfl, by rw [tq_tab]; exact hP, by rw [tq_tab]; exact hD, fun _ => rfl⟩
