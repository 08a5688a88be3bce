theorem tq_tab {α : Type} (l : List α) (d : α) : (List.range l.length).map (fun i => l.getD i d) = l := by
  apply List.ext_getElem (by simp)
  intro i h1 h2
  simp [List.getD, h2]
theorem tq_pickP {G : va_G} {H : Heap} {F : Nat → Nat × va_E} {n : Nat} (hn : 160 ≤ n) (is : List Nat) (h : is.all (fun i => decide (i < 160)) = true) (hP : va_P G vwCl ((List.range n).map F) H) : va_P G vwCl (is.map F) H := by
  intro k q hq
  rw [List.getElem?_map] at hq
  obtain ⟨i, hi, rfl⟩ := Option.map_eq_some_iff.mp hq
  have hlt : i < 160 := by simpa using List.all_eq_true.mp h i (List.mem_of_getElem? hi)
  exact hP i (F i) (by simp [Nat.lt_of_lt_of_le hlt hn])
theorem tq_pickD {A : Nat → Prop} {F : Nat → Nat × va_E} {n : Nat} (hn : 160 ≤ n) (is : List Nat) (h : is.all (fun i => decide (i < 160)) = true) (hd : va_nd is = true) (hD : va_D A ((List.range n).map F)) : va_D A (is.map F) := by
  have lt : ∀ {k a : Nat}, is[k]? = some a → a < n := fun {k a} hk => by
    have hlt : a < 160 := by simpa using List.all_eq_true.mp h a (List.mem_of_getElem? hk)
    exact Nat.lt_of_lt_of_le hlt hn
  refine ⟨fun i j p q hi hj e => ?_, fun k q hq => ?_⟩
  · rw [List.getElem?_map] at hi hj
    obtain ⟨a, ha, rfl⟩ := Option.map_eq_some_iff.mp hi
    obtain ⟨b, hb, rfl⟩ := Option.map_eq_some_iff.mp hj
    have hab : a = b := hD.1 a b (F a) (F b) (by simp [lt ha]) (by simp [lt hb]) e
    subst hab
    exact va_nd_inj is hd _ _ _ ha hb
  · rw [List.getElem?_map] at hq
    obtain ⟨a, ha, rfl⟩ := Option.map_eq_some_iff.mp hq
    exact hD.2 a (F a) (by simp [lt ha])
