set_option maxHeartbeats 4000000 in
set_option maxRecDepth 100000 in
theorem c_X8_isIn_l_020 (l : Launch) (G : va_G) (cA : Nat → ClassId) (sz : Nat) (x : Int32) (hq : x.toInt < 0) : Met l yX8_isIn (.code yX8_isIn cX8_isIn 3 (some .boolean) :: T0) ({ frames := 0, cells := 0, slots := 0, locals := 0 }) (tqP G cA [.int x, .int 0, .int 20] [] sz) (tqQi G cA (fun (r : Int32) (u : Unit) => r = 0) (fun (u : Unit) => []) (va_A [] sz)) 0 0 (va_A [] sz) := by
  refine Met.ofW (cc := cX8_isIn) (maxL := 3) (ret := (some .boolean)) (by decide) rfl ?_
  intro p e s m args below meth c s₁ B hml hv
  obtain ⟨rfl, hsz, hP, hK, hD0, hN⟩ := hv
  have hx := B.exec
  have hb := B.bytes
  have hr := B.returns
  have hts := atoms_spec (ws := .code yX8_isIn cX8_isIn 3 (some .boolean) :: T0) B.pre
  have hT : ∀ w ∈ T0, w.before _ s = true := fun w h => hts w (List.mem_cons_of_mem _ h)
  have hown : s.vm.findClass RX8 = some m.cls := findClass_of_methodNamed B.named
  have hlocks := B.notSynchronized
  subst hsz
  have hD := hD0.self (sz := s.heap.size)
  generalize hAe : va_A [] s.heap.size = A at hD ⊢
  have hA : ∀ q : Nat, s.heap.size ≤ q → A q := fun q h => by rw [← hAe]; exact Or.inr h
  have hS : va_S A s.heap s.heap [] := va_S.rf
  have hl := lv_entry ([.int x, .int 0, .int 20]) (n := 3) (Nat.le_of_ble_eq_true rfl)
  rw [lg_entry_eq]
  generalize (lg_sl ([.int x, .int 0, .int 20]) ++ List.replicate (3 - (lg_sl ([.int x, .int 0, .int 20])).length) Slot.unset).toArray = ls at hl ⊢
  have hl : lv_has ls 3 [(0, .int x), (1, .int 0), (2, .int 20)] := hl
  obtain ⟨H, hH⟩ : ∃ z, z = s.heap := ⟨_, rfl⟩
  rw [← hH] at hP
  have hS : va_S A s.heap H [] := by rw [hH]; exact hS
  suffices hgo : W p l e _ s m _ below meth c H [] 0 0 _ _ by rw [hH] at hgo; exact hgo
  have hO := hN.2.2.2.2
  refine lv_iload_n hx hb dX8_isIn_0 rfl (lv_at hl 0 rfl) ?_
  refine lv_iload_n hx hb dX8_isIn_1 rfl (lv_at hl 1 rfl) ?_
  refine lv_icmp_lt (tgt := 14) hx hb dX8_isIn_2 (by decide) (fun c101 => ?_) (fun c101 => ?_)
  · have k101 := tq_lt (a := x.toInt) (b := 0) rfl (by decide) c101
    refine lv_iconst (v := 0) hx hb dX8_isIn_14 (by decide) ?_
    exact W.zret (v := 0) (ty := .boolean) hx hb hr rfl (fun t ht hW => ⟨⟨0, (), rfl, rfl, by rw [ht]; exact hP, hD⟩, hS.F ht⟩) hS.2.2 dX8_isIn_15
  · have k101 := tq_ltn (a := x.toInt) (b := 0) rfl (by decide) c101
    exfalso
    omega

set_option maxHeartbeats 4000000 in
set_option maxRecDepth 100000 in
theorem c_X8_isIn_h_020 (l : Launch) (G : va_G) (cA : Nat → ClassId) (sz : Nat) (x : Int32) (hq : 20 < x.toInt) : Met l yX8_isIn (.code yX8_isIn cX8_isIn 3 (some .boolean) :: T0) ({ frames := 0, cells := 0, slots := 0, locals := 0 }) (tqP G cA [.int x, .int 0, .int 20] [] sz) (tqQi G cA (fun (r : Int32) (u : Unit) => r = 0) (fun (u : Unit) => []) (va_A [] sz)) 0 0 (va_A [] sz) := by
  refine Met.ofW (cc := cX8_isIn) (maxL := 3) (ret := (some .boolean)) (by decide) rfl ?_
  intro p e s m args below meth c s₁ B hml hv
  obtain ⟨rfl, hsz, hP, hK, hD0, hN⟩ := hv
  have hx := B.exec
  have hb := B.bytes
  have hr := B.returns
  have hts := atoms_spec (ws := .code yX8_isIn cX8_isIn 3 (some .boolean) :: T0) B.pre
  have hT : ∀ w ∈ T0, w.before _ s = true := fun w h => hts w (List.mem_cons_of_mem _ h)
  have hown : s.vm.findClass RX8 = some m.cls := findClass_of_methodNamed B.named
  have hlocks := B.notSynchronized
  subst hsz
  have hD := hD0.self (sz := s.heap.size)
  generalize hAe : va_A [] s.heap.size = A at hD ⊢
  have hA : ∀ q : Nat, s.heap.size ≤ q → A q := fun q h => by rw [← hAe]; exact Or.inr h
  have hS : va_S A s.heap s.heap [] := va_S.rf
  have hl := lv_entry ([.int x, .int 0, .int 20]) (n := 3) (Nat.le_of_ble_eq_true rfl)
  rw [lg_entry_eq]
  generalize (lg_sl ([.int x, .int 0, .int 20]) ++ List.replicate (3 - (lg_sl ([.int x, .int 0, .int 20])).length) Slot.unset).toArray = ls at hl ⊢
  have hl : lv_has ls 3 [(0, .int x), (1, .int 0), (2, .int 20)] := hl
  obtain ⟨H, hH⟩ : ∃ z, z = s.heap := ⟨_, rfl⟩
  rw [← hH] at hP
  have hS : va_S A s.heap H [] := by rw [hH]; exact hS
  suffices hgo : W p l e _ s m _ below meth c H [] 0 0 _ _ by rw [hH] at hgo; exact hgo
  have hO := hN.2.2.2.2
  refine lv_iload_n hx hb dX8_isIn_0 rfl (lv_at hl 0 rfl) ?_
  refine lv_iload_n hx hb dX8_isIn_1 rfl (lv_at hl 1 rfl) ?_
  refine lv_icmp_lt (tgt := 14) hx hb dX8_isIn_2 (by decide) (fun c101 => ?_) (fun c101 => ?_)
  · have k101 := tq_lt (a := x.toInt) (b := 0) rfl (by decide) c101
    exfalso
    omega
  · have k101 := tq_ltn (a := x.toInt) (b := 0) rfl (by decide) c101
    refine lv_iload_n hx hb dX8_isIn_5 rfl (lv_at hl 0 rfl) ?_
    refine lv_iload_n hx hb dX8_isIn_6 rfl (lv_at hl 2 rfl) ?_
    refine lv_icmp_gt (tgt := 14) hx hb dX8_isIn_7 (by decide) (fun c102 => ?_) (fun c102 => ?_)
    · have k102 := tq_lt (a := 20) (b := x.toInt) (by decide) rfl c102
      refine lv_iconst (v := 0) hx hb dX8_isIn_14 (by decide) ?_
      exact W.zret (v := 0) (ty := .boolean) hx hb hr rfl (fun t ht hW => ⟨⟨0, (), rfl, rfl, by rw [ht]; exact hP, hD⟩, hS.F ht⟩) hS.2.2 dX8_isIn_15
    · have k102 := tq_ltn (a := 20) (b := x.toInt) (by decide) rfl c102
      exfalso
      omega

set_option maxHeartbeats 4000000 in
set_option maxRecDepth 100000 in
theorem c_X8_isIn_i_020 (l : Launch) (G : va_G) (cA : Nat → ClassId) (sz : Nat) (x : Int32) (hq : 0 ≤ x.toInt ∧ x.toInt ≤ 20) : Met l yX8_isIn (.code yX8_isIn cX8_isIn 3 (some .boolean) :: T0) ({ frames := 0, cells := 0, slots := 0, locals := 0 }) (tqP G cA [.int x, .int 0, .int 20] [] sz) (tqQi G cA (fun (r : Int32) (u : Unit) => r = 1) (fun (u : Unit) => []) (va_A [] sz)) 0 0 (va_A [] sz) := by
  refine Met.ofW (cc := cX8_isIn) (maxL := 3) (ret := (some .boolean)) (by decide) rfl ?_
  intro p e s m args below meth c s₁ B hml hv
  obtain ⟨rfl, hsz, hP, hK, hD0, hN⟩ := hv
  have hx := B.exec
  have hb := B.bytes
  have hr := B.returns
  have hts := atoms_spec (ws := .code yX8_isIn cX8_isIn 3 (some .boolean) :: T0) B.pre
  have hT : ∀ w ∈ T0, w.before _ s = true := fun w h => hts w (List.mem_cons_of_mem _ h)
  have hown : s.vm.findClass RX8 = some m.cls := findClass_of_methodNamed B.named
  have hlocks := B.notSynchronized
  subst hsz
  have hD := hD0.self (sz := s.heap.size)
  generalize hAe : va_A [] s.heap.size = A at hD ⊢
  have hA : ∀ q : Nat, s.heap.size ≤ q → A q := fun q h => by rw [← hAe]; exact Or.inr h
  have hS : va_S A s.heap s.heap [] := va_S.rf
  have hl := lv_entry ([.int x, .int 0, .int 20]) (n := 3) (Nat.le_of_ble_eq_true rfl)
  rw [lg_entry_eq]
  generalize (lg_sl ([.int x, .int 0, .int 20]) ++ List.replicate (3 - (lg_sl ([.int x, .int 0, .int 20])).length) Slot.unset).toArray = ls at hl ⊢
  have hl : lv_has ls 3 [(0, .int x), (1, .int 0), (2, .int 20)] := hl
  obtain ⟨H, hH⟩ : ∃ z, z = s.heap := ⟨_, rfl⟩
  rw [← hH] at hP
  have hS : va_S A s.heap H [] := by rw [hH]; exact hS
  suffices hgo : W p l e _ s m _ below meth c H [] 0 0 _ _ by rw [hH] at hgo; exact hgo
  have hO := hN.2.2.2.2
  refine lv_iload_n hx hb dX8_isIn_0 rfl (lv_at hl 0 rfl) ?_
  refine lv_iload_n hx hb dX8_isIn_1 rfl (lv_at hl 1 rfl) ?_
  refine lv_icmp_lt (tgt := 14) hx hb dX8_isIn_2 (by decide) (fun c101 => ?_) (fun c101 => ?_)
  · have k101 := tq_lt (a := x.toInt) (b := 0) rfl (by decide) c101
    exfalso
    omega
  · have k101 := tq_ltn (a := x.toInt) (b := 0) rfl (by decide) c101
    refine lv_iload_n hx hb dX8_isIn_5 rfl (lv_at hl 0 rfl) ?_
    refine lv_iload_n hx hb dX8_isIn_6 rfl (lv_at hl 2 rfl) ?_
    refine lv_icmp_gt (tgt := 14) hx hb dX8_isIn_7 (by decide) (fun c102 => ?_) (fun c102 => ?_)
    · have k102 := tq_lt (a := 20) (b := x.toInt) (by decide) rfl c102
      exfalso
      omega
    · have k102 := tq_ltn (a := 20) (b := x.toInt) (by decide) rfl c102
      refine lv_iconst (v := 1) hx hb dX8_isIn_10 (by decide) ?_
      refine lv_goto (tgt := 15) hx hb dX8_isIn_11 (by decide) ?_
      exact W.zret (v := 1) (ty := .boolean) hx hb hr rfl (fun t ht hW => ⟨⟨1, (), rfl, rfl, by rw [ht]; exact hP, hD⟩, hS.F ht⟩) hS.2.2 dX8_isIn_15

set_option maxHeartbeats 4000000 in
set_option maxRecDepth 100000 in
theorem c_X8_isIn_l_02 (l : Launch) (G : va_G) (cA : Nat → ClassId) (sz : Nat) (x : Int32) (hq : x.toInt < 0) : Met l yX8_isIn (.code yX8_isIn cX8_isIn 3 (some .boolean) :: T0) ({ frames := 0, cells := 0, slots := 0, locals := 0 }) (tqP G cA [.int x, .int 0, .int 2] [] sz) (tqQi G cA (fun (r : Int32) (u : Unit) => r = 0) (fun (u : Unit) => []) (va_A [] sz)) 0 0 (va_A [] sz) := by
  refine Met.ofW (cc := cX8_isIn) (maxL := 3) (ret := (some .boolean)) (by decide) rfl ?_
  intro p e s m args below meth c s₁ B hml hv
  obtain ⟨rfl, hsz, hP, hK, hD0, hN⟩ := hv
  have hx := B.exec
  have hb := B.bytes
  have hr := B.returns
  have hts := atoms_spec (ws := .code yX8_isIn cX8_isIn 3 (some .boolean) :: T0) B.pre
  have hT : ∀ w ∈ T0, w.before _ s = true := fun w h => hts w (List.mem_cons_of_mem _ h)
  have hown : s.vm.findClass RX8 = some m.cls := findClass_of_methodNamed B.named
  have hlocks := B.notSynchronized
  subst hsz
  have hD := hD0.self (sz := s.heap.size)
  generalize hAe : va_A [] s.heap.size = A at hD ⊢
  have hA : ∀ q : Nat, s.heap.size ≤ q → A q := fun q h => by rw [← hAe]; exact Or.inr h
  have hS : va_S A s.heap s.heap [] := va_S.rf
  have hl := lv_entry ([.int x, .int 0, .int 2]) (n := 3) (Nat.le_of_ble_eq_true rfl)
  rw [lg_entry_eq]
  generalize (lg_sl ([.int x, .int 0, .int 2]) ++ List.replicate (3 - (lg_sl ([.int x, .int 0, .int 2])).length) Slot.unset).toArray = ls at hl ⊢
  have hl : lv_has ls 3 [(0, .int x), (1, .int 0), (2, .int 2)] := hl
  obtain ⟨H, hH⟩ : ∃ z, z = s.heap := ⟨_, rfl⟩
  rw [← hH] at hP
  have hS : va_S A s.heap H [] := by rw [hH]; exact hS
  suffices hgo : W p l e _ s m _ below meth c H [] 0 0 _ _ by rw [hH] at hgo; exact hgo
  have hO := hN.2.2.2.2
  refine lv_iload_n hx hb dX8_isIn_0 rfl (lv_at hl 0 rfl) ?_
  refine lv_iload_n hx hb dX8_isIn_1 rfl (lv_at hl 1 rfl) ?_
  refine lv_icmp_lt (tgt := 14) hx hb dX8_isIn_2 (by decide) (fun c101 => ?_) (fun c101 => ?_)
  · have k101 := tq_lt (a := x.toInt) (b := 0) rfl (by decide) c101
    refine lv_iconst (v := 0) hx hb dX8_isIn_14 (by decide) ?_
    exact W.zret (v := 0) (ty := .boolean) hx hb hr rfl (fun t ht hW => ⟨⟨0, (), rfl, rfl, by rw [ht]; exact hP, hD⟩, hS.F ht⟩) hS.2.2 dX8_isIn_15
  · have k101 := tq_ltn (a := x.toInt) (b := 0) rfl (by decide) c101
    exfalso
    omega

set_option maxHeartbeats 4000000 in
set_option maxRecDepth 100000 in
theorem c_X8_isIn_h_02 (l : Launch) (G : va_G) (cA : Nat → ClassId) (sz : Nat) (x : Int32) (hq : 2 < x.toInt) : Met l yX8_isIn (.code yX8_isIn cX8_isIn 3 (some .boolean) :: T0) ({ frames := 0, cells := 0, slots := 0, locals := 0 }) (tqP G cA [.int x, .int 0, .int 2] [] sz) (tqQi G cA (fun (r : Int32) (u : Unit) => r = 0) (fun (u : Unit) => []) (va_A [] sz)) 0 0 (va_A [] sz) := by
  refine Met.ofW (cc := cX8_isIn) (maxL := 3) (ret := (some .boolean)) (by decide) rfl ?_
  intro p e s m args below meth c s₁ B hml hv
  obtain ⟨rfl, hsz, hP, hK, hD0, hN⟩ := hv
  have hx := B.exec
  have hb := B.bytes
  have hr := B.returns
  have hts := atoms_spec (ws := .code yX8_isIn cX8_isIn 3 (some .boolean) :: T0) B.pre
  have hT : ∀ w ∈ T0, w.before _ s = true := fun w h => hts w (List.mem_cons_of_mem _ h)
  have hown : s.vm.findClass RX8 = some m.cls := findClass_of_methodNamed B.named
  have hlocks := B.notSynchronized
  subst hsz
  have hD := hD0.self (sz := s.heap.size)
  generalize hAe : va_A [] s.heap.size = A at hD ⊢
  have hA : ∀ q : Nat, s.heap.size ≤ q → A q := fun q h => by rw [← hAe]; exact Or.inr h
  have hS : va_S A s.heap s.heap [] := va_S.rf
  have hl := lv_entry ([.int x, .int 0, .int 2]) (n := 3) (Nat.le_of_ble_eq_true rfl)
  rw [lg_entry_eq]
  generalize (lg_sl ([.int x, .int 0, .int 2]) ++ List.replicate (3 - (lg_sl ([.int x, .int 0, .int 2])).length) Slot.unset).toArray = ls at hl ⊢
  have hl : lv_has ls 3 [(0, .int x), (1, .int 0), (2, .int 2)] := hl
  obtain ⟨H, hH⟩ : ∃ z, z = s.heap := ⟨_, rfl⟩
  rw [← hH] at hP
  have hS : va_S A s.heap H [] := by rw [hH]; exact hS
  suffices hgo : W p l e _ s m _ below meth c H [] 0 0 _ _ by rw [hH] at hgo; exact hgo
  have hO := hN.2.2.2.2
  refine lv_iload_n hx hb dX8_isIn_0 rfl (lv_at hl 0 rfl) ?_
  refine lv_iload_n hx hb dX8_isIn_1 rfl (lv_at hl 1 rfl) ?_
  refine lv_icmp_lt (tgt := 14) hx hb dX8_isIn_2 (by decide) (fun c101 => ?_) (fun c101 => ?_)
  · have k101 := tq_lt (a := x.toInt) (b := 0) rfl (by decide) c101
    exfalso
    omega
  · have k101 := tq_ltn (a := x.toInt) (b := 0) rfl (by decide) c101
    refine lv_iload_n hx hb dX8_isIn_5 rfl (lv_at hl 0 rfl) ?_
    refine lv_iload_n hx hb dX8_isIn_6 rfl (lv_at hl 2 rfl) ?_
    refine lv_icmp_gt (tgt := 14) hx hb dX8_isIn_7 (by decide) (fun c102 => ?_) (fun c102 => ?_)
    · have k102 := tq_lt (a := 2) (b := x.toInt) (by decide) rfl c102
      refine lv_iconst (v := 0) hx hb dX8_isIn_14 (by decide) ?_
      exact W.zret (v := 0) (ty := .boolean) hx hb hr rfl (fun t ht hW => ⟨⟨0, (), rfl, rfl, by rw [ht]; exact hP, hD⟩, hS.F ht⟩) hS.2.2 dX8_isIn_15
    · have k102 := tq_ltn (a := 2) (b := x.toInt) (by decide) rfl c102
      exfalso
      omega

set_option maxHeartbeats 4000000 in
set_option maxRecDepth 100000 in
theorem c_X8_isIn_i_02 (l : Launch) (G : va_G) (cA : Nat → ClassId) (sz : Nat) (x : Int32) (hq : 0 ≤ x.toInt ∧ x.toInt ≤ 2) : Met l yX8_isIn (.code yX8_isIn cX8_isIn 3 (some .boolean) :: T0) ({ frames := 0, cells := 0, slots := 0, locals := 0 }) (tqP G cA [.int x, .int 0, .int 2] [] sz) (tqQi G cA (fun (r : Int32) (u : Unit) => r = 1) (fun (u : Unit) => []) (va_A [] sz)) 0 0 (va_A [] sz) := by
  refine Met.ofW (cc := cX8_isIn) (maxL := 3) (ret := (some .boolean)) (by decide) rfl ?_
  intro p e s m args below meth c s₁ B hml hv
  obtain ⟨rfl, hsz, hP, hK, hD0, hN⟩ := hv
  have hx := B.exec
  have hb := B.bytes
  have hr := B.returns
  have hts := atoms_spec (ws := .code yX8_isIn cX8_isIn 3 (some .boolean) :: T0) B.pre
  have hT : ∀ w ∈ T0, w.before _ s = true := fun w h => hts w (List.mem_cons_of_mem _ h)
  have hown : s.vm.findClass RX8 = some m.cls := findClass_of_methodNamed B.named
  have hlocks := B.notSynchronized
  subst hsz
  have hD := hD0.self (sz := s.heap.size)
  generalize hAe : va_A [] s.heap.size = A at hD ⊢
  have hA : ∀ q : Nat, s.heap.size ≤ q → A q := fun q h => by rw [← hAe]; exact Or.inr h
  have hS : va_S A s.heap s.heap [] := va_S.rf
  have hl := lv_entry ([.int x, .int 0, .int 2]) (n := 3) (Nat.le_of_ble_eq_true rfl)
  rw [lg_entry_eq]
  generalize (lg_sl ([.int x, .int 0, .int 2]) ++ List.replicate (3 - (lg_sl ([.int x, .int 0, .int 2])).length) Slot.unset).toArray = ls at hl ⊢
  have hl : lv_has ls 3 [(0, .int x), (1, .int 0), (2, .int 2)] := hl
  obtain ⟨H, hH⟩ : ∃ z, z = s.heap := ⟨_, rfl⟩
  rw [← hH] at hP
  have hS : va_S A s.heap H [] := by rw [hH]; exact hS
  suffices hgo : W p l e _ s m _ below meth c H [] 0 0 _ _ by rw [hH] at hgo; exact hgo
  have hO := hN.2.2.2.2
  refine lv_iload_n hx hb dX8_isIn_0 rfl (lv_at hl 0 rfl) ?_
  refine lv_iload_n hx hb dX8_isIn_1 rfl (lv_at hl 1 rfl) ?_
  refine lv_icmp_lt (tgt := 14) hx hb dX8_isIn_2 (by decide) (fun c101 => ?_) (fun c101 => ?_)
  · have k101 := tq_lt (a := x.toInt) (b := 0) rfl (by decide) c101
    exfalso
    omega
  · have k101 := tq_ltn (a := x.toInt) (b := 0) rfl (by decide) c101
    refine lv_iload_n hx hb dX8_isIn_5 rfl (lv_at hl 0 rfl) ?_
    refine lv_iload_n hx hb dX8_isIn_6 rfl (lv_at hl 2 rfl) ?_
    refine lv_icmp_gt (tgt := 14) hx hb dX8_isIn_7 (by decide) (fun c102 => ?_) (fun c102 => ?_)
    · have k102 := tq_lt (a := 2) (b := x.toInt) (by decide) rfl c102
      exfalso
      omega
    · have k102 := tq_ltn (a := 2) (b := x.toInt) (by decide) rfl c102
      refine lv_iconst (v := 1) hx hb dX8_isIn_10 (by decide) ?_
      refine lv_goto (tgt := 15) hx hb dX8_isIn_11 (by decide) ?_
      exact W.zret (v := 1) (ty := .boolean) hx hb hr rfl (fun t ht hW => ⟨⟨1, (), rfl, rfl, by rw [ht]; exact hP, hD⟩, hS.F ht⟩) hS.2.2 dX8_isIn_15

set_option maxHeartbeats 4000000 in
set_option maxRecDepth 100000 in
theorem c_X8_isIn_l_03 (l : Launch) (G : va_G) (cA : Nat → ClassId) (sz : Nat) (x : Int32) (hq : x.toInt < 0) : Met l yX8_isIn (.code yX8_isIn cX8_isIn 3 (some .boolean) :: T0) ({ frames := 0, cells := 0, slots := 0, locals := 0 }) (tqP G cA [.int x, .int 0, .int 3] [] sz) (tqQi G cA (fun (r : Int32) (u : Unit) => r = 0) (fun (u : Unit) => []) (va_A [] sz)) 0 0 (va_A [] sz) := by
  refine Met.ofW (cc := cX8_isIn) (maxL := 3) (ret := (some .boolean)) (by decide) rfl ?_
  intro p e s m args below meth c s₁ B hml hv
  obtain ⟨rfl, hsz, hP, hK, hD0, hN⟩ := hv
  have hx := B.exec
  have hb := B.bytes
  have hr := B.returns
  have hts := atoms_spec (ws := .code yX8_isIn cX8_isIn 3 (some .boolean) :: T0) B.pre
  have hT : ∀ w ∈ T0, w.before _ s = true := fun w h => hts w (List.mem_cons_of_mem _ h)
  have hown : s.vm.findClass RX8 = some m.cls := findClass_of_methodNamed B.named
  have hlocks := B.notSynchronized
  subst hsz
  have hD := hD0.self (sz := s.heap.size)
  generalize hAe : va_A [] s.heap.size = A at hD ⊢
  have hA : ∀ q : Nat, s.heap.size ≤ q → A q := fun q h => by rw [← hAe]; exact Or.inr h
  have hS : va_S A s.heap s.heap [] := va_S.rf
  have hl := lv_entry ([.int x, .int 0, .int 3]) (n := 3) (Nat.le_of_ble_eq_true rfl)
  rw [lg_entry_eq]
  generalize (lg_sl ([.int x, .int 0, .int 3]) ++ List.replicate (3 - (lg_sl ([.int x, .int 0, .int 3])).length) Slot.unset).toArray = ls at hl ⊢
  have hl : lv_has ls 3 [(0, .int x), (1, .int 0), (2, .int 3)] := hl
  obtain ⟨H, hH⟩ : ∃ z, z = s.heap := ⟨_, rfl⟩
  rw [← hH] at hP
  have hS : va_S A s.heap H [] := by rw [hH]; exact hS
  suffices hgo : W p l e _ s m _ below meth c H [] 0 0 _ _ by rw [hH] at hgo; exact hgo
  have hO := hN.2.2.2.2
  refine lv_iload_n hx hb dX8_isIn_0 rfl (lv_at hl 0 rfl) ?_
  refine lv_iload_n hx hb dX8_isIn_1 rfl (lv_at hl 1 rfl) ?_
  refine lv_icmp_lt (tgt := 14) hx hb dX8_isIn_2 (by decide) (fun c101 => ?_) (fun c101 => ?_)
  · have k101 := tq_lt (a := x.toInt) (b := 0) rfl (by decide) c101
    refine lv_iconst (v := 0) hx hb dX8_isIn_14 (by decide) ?_
    exact W.zret (v := 0) (ty := .boolean) hx hb hr rfl (fun t ht hW => ⟨⟨0, (), rfl, rfl, by rw [ht]; exact hP, hD⟩, hS.F ht⟩) hS.2.2 dX8_isIn_15
  · have k101 := tq_ltn (a := x.toInt) (b := 0) rfl (by decide) c101
    exfalso
    omega

set_option maxHeartbeats 4000000 in
set_option maxRecDepth 100000 in
theorem c_X8_isIn_h_03 (l : Launch) (G : va_G) (cA : Nat → ClassId) (sz : Nat) (x : Int32) (hq : 3 < x.toInt) : Met l yX8_isIn (.code yX8_isIn cX8_isIn 3 (some .boolean) :: T0) ({ frames := 0, cells := 0, slots := 0, locals := 0 }) (tqP G cA [.int x, .int 0, .int 3] [] sz) (tqQi G cA (fun (r : Int32) (u : Unit) => r = 0) (fun (u : Unit) => []) (va_A [] sz)) 0 0 (va_A [] sz) := by
  refine Met.ofW (cc := cX8_isIn) (maxL := 3) (ret := (some .boolean)) (by decide) rfl ?_
  intro p e s m args below meth c s₁ B hml hv
  obtain ⟨rfl, hsz, hP, hK, hD0, hN⟩ := hv
  have hx := B.exec
  have hb := B.bytes
  have hr := B.returns
  have hts := atoms_spec (ws := .code yX8_isIn cX8_isIn 3 (some .boolean) :: T0) B.pre
  have hT : ∀ w ∈ T0, w.before _ s = true := fun w h => hts w (List.mem_cons_of_mem _ h)
  have hown : s.vm.findClass RX8 = some m.cls := findClass_of_methodNamed B.named
  have hlocks := B.notSynchronized
  subst hsz
  have hD := hD0.self (sz := s.heap.size)
  generalize hAe : va_A [] s.heap.size = A at hD ⊢
  have hA : ∀ q : Nat, s.heap.size ≤ q → A q := fun q h => by rw [← hAe]; exact Or.inr h
  have hS : va_S A s.heap s.heap [] := va_S.rf
  have hl := lv_entry ([.int x, .int 0, .int 3]) (n := 3) (Nat.le_of_ble_eq_true rfl)
  rw [lg_entry_eq]
  generalize (lg_sl ([.int x, .int 0, .int 3]) ++ List.replicate (3 - (lg_sl ([.int x, .int 0, .int 3])).length) Slot.unset).toArray = ls at hl ⊢
  have hl : lv_has ls 3 [(0, .int x), (1, .int 0), (2, .int 3)] := hl
  obtain ⟨H, hH⟩ : ∃ z, z = s.heap := ⟨_, rfl⟩
  rw [← hH] at hP
  have hS : va_S A s.heap H [] := by rw [hH]; exact hS
  suffices hgo : W p l e _ s m _ below meth c H [] 0 0 _ _ by rw [hH] at hgo; exact hgo
  have hO := hN.2.2.2.2
  refine lv_iload_n hx hb dX8_isIn_0 rfl (lv_at hl 0 rfl) ?_
  refine lv_iload_n hx hb dX8_isIn_1 rfl (lv_at hl 1 rfl) ?_
  refine lv_icmp_lt (tgt := 14) hx hb dX8_isIn_2 (by decide) (fun c101 => ?_) (fun c101 => ?_)
  · have k101 := tq_lt (a := x.toInt) (b := 0) rfl (by decide) c101
    exfalso
    omega
  · have k101 := tq_ltn (a := x.toInt) (b := 0) rfl (by decide) c101
    refine lv_iload_n hx hb dX8_isIn_5 rfl (lv_at hl 0 rfl) ?_
    refine lv_iload_n hx hb dX8_isIn_6 rfl (lv_at hl 2 rfl) ?_
    refine lv_icmp_gt (tgt := 14) hx hb dX8_isIn_7 (by decide) (fun c102 => ?_) (fun c102 => ?_)
    · have k102 := tq_lt (a := 3) (b := x.toInt) (by decide) rfl c102
      refine lv_iconst (v := 0) hx hb dX8_isIn_14 (by decide) ?_
      exact W.zret (v := 0) (ty := .boolean) hx hb hr rfl (fun t ht hW => ⟨⟨0, (), rfl, rfl, by rw [ht]; exact hP, hD⟩, hS.F ht⟩) hS.2.2 dX8_isIn_15
    · have k102 := tq_ltn (a := 3) (b := x.toInt) (by decide) rfl c102
      exfalso
      omega

set_option maxHeartbeats 4000000 in
set_option maxRecDepth 100000 in
theorem c_X8_isIn_i_03 (l : Launch) (G : va_G) (cA : Nat → ClassId) (sz : Nat) (x : Int32) (hq : 0 ≤ x.toInt ∧ x.toInt ≤ 3) : Met l yX8_isIn (.code yX8_isIn cX8_isIn 3 (some .boolean) :: T0) ({ frames := 0, cells := 0, slots := 0, locals := 0 }) (tqP G cA [.int x, .int 0, .int 3] [] sz) (tqQi G cA (fun (r : Int32) (u : Unit) => r = 1) (fun (u : Unit) => []) (va_A [] sz)) 0 0 (va_A [] sz) := by
  refine Met.ofW (cc := cX8_isIn) (maxL := 3) (ret := (some .boolean)) (by decide) rfl ?_
  intro p e s m args below meth c s₁ B hml hv
  obtain ⟨rfl, hsz, hP, hK, hD0, hN⟩ := hv
  have hx := B.exec
  have hb := B.bytes
  have hr := B.returns
  have hts := atoms_spec (ws := .code yX8_isIn cX8_isIn 3 (some .boolean) :: T0) B.pre
  have hT : ∀ w ∈ T0, w.before _ s = true := fun w h => hts w (List.mem_cons_of_mem _ h)
  have hown : s.vm.findClass RX8 = some m.cls := findClass_of_methodNamed B.named
  have hlocks := B.notSynchronized
  subst hsz
  have hD := hD0.self (sz := s.heap.size)
  generalize hAe : va_A [] s.heap.size = A at hD ⊢
  have hA : ∀ q : Nat, s.heap.size ≤ q → A q := fun q h => by rw [← hAe]; exact Or.inr h
  have hS : va_S A s.heap s.heap [] := va_S.rf
  have hl := lv_entry ([.int x, .int 0, .int 3]) (n := 3) (Nat.le_of_ble_eq_true rfl)
  rw [lg_entry_eq]
  generalize (lg_sl ([.int x, .int 0, .int 3]) ++ List.replicate (3 - (lg_sl ([.int x, .int 0, .int 3])).length) Slot.unset).toArray = ls at hl ⊢
  have hl : lv_has ls 3 [(0, .int x), (1, .int 0), (2, .int 3)] := hl
  obtain ⟨H, hH⟩ : ∃ z, z = s.heap := ⟨_, rfl⟩
  rw [← hH] at hP
  have hS : va_S A s.heap H [] := by rw [hH]; exact hS
  suffices hgo : W p l e _ s m _ below meth c H [] 0 0 _ _ by rw [hH] at hgo; exact hgo
  have hO := hN.2.2.2.2
  refine lv_iload_n hx hb dX8_isIn_0 rfl (lv_at hl 0 rfl) ?_
  refine lv_iload_n hx hb dX8_isIn_1 rfl (lv_at hl 1 rfl) ?_
  refine lv_icmp_lt (tgt := 14) hx hb dX8_isIn_2 (by decide) (fun c101 => ?_) (fun c101 => ?_)
  · have k101 := tq_lt (a := x.toInt) (b := 0) rfl (by decide) c101
    exfalso
    omega
  · have k101 := tq_ltn (a := x.toInt) (b := 0) rfl (by decide) c101
    refine lv_iload_n hx hb dX8_isIn_5 rfl (lv_at hl 0 rfl) ?_
    refine lv_iload_n hx hb dX8_isIn_6 rfl (lv_at hl 2 rfl) ?_
    refine lv_icmp_gt (tgt := 14) hx hb dX8_isIn_7 (by decide) (fun c102 => ?_) (fun c102 => ?_)
    · have k102 := tq_lt (a := 3) (b := x.toInt) (by decide) rfl c102
      exfalso
      omega
    · have k102 := tq_ltn (a := 3) (b := x.toInt) (by decide) rfl c102
      refine lv_iconst (v := 1) hx hb dX8_isIn_10 (by decide) ?_
      refine lv_goto (tgt := 15) hx hb dX8_isIn_11 (by decide) ?_
      exact W.zret (v := 1) (ty := .boolean) hx hb hr rfl (fun t ht hW => ⟨⟨1, (), rfl, rfl, by rw [ht]; exact hP, hD⟩, hS.F ht⟩) hS.2.2 dX8_isIn_15

set_option maxHeartbeats 4000000 in
set_option maxRecDepth 100000 in
theorem c_X8_isIn_l_04 (l : Launch) (G : va_G) (cA : Nat → ClassId) (sz : Nat) (x : Int32) (hq : x.toInt < 0) : Met l yX8_isIn (.code yX8_isIn cX8_isIn 3 (some .boolean) :: T0) ({ frames := 0, cells := 0, slots := 0, locals := 0 }) (tqP G cA [.int x, .int 0, .int 4] [] sz) (tqQi G cA (fun (r : Int32) (u : Unit) => r = 0) (fun (u : Unit) => []) (va_A [] sz)) 0 0 (va_A [] sz) := by
  refine Met.ofW (cc := cX8_isIn) (maxL := 3) (ret := (some .boolean)) (by decide) rfl ?_
  intro p e s m args below meth c s₁ B hml hv
  obtain ⟨rfl, hsz, hP, hK, hD0, hN⟩ := hv
  have hx := B.exec
  have hb := B.bytes
  have hr := B.returns
  have hts := atoms_spec (ws := .code yX8_isIn cX8_isIn 3 (some .boolean) :: T0) B.pre
  have hT : ∀ w ∈ T0, w.before _ s = true := fun w h => hts w (List.mem_cons_of_mem _ h)
  have hown : s.vm.findClass RX8 = some m.cls := findClass_of_methodNamed B.named
  have hlocks := B.notSynchronized
  subst hsz
  have hD := hD0.self (sz := s.heap.size)
  generalize hAe : va_A [] s.heap.size = A at hD ⊢
  have hA : ∀ q : Nat, s.heap.size ≤ q → A q := fun q h => by rw [← hAe]; exact Or.inr h
  have hS : va_S A s.heap s.heap [] := va_S.rf
  have hl := lv_entry ([.int x, .int 0, .int 4]) (n := 3) (Nat.le_of_ble_eq_true rfl)
  rw [lg_entry_eq]
  generalize (lg_sl ([.int x, .int 0, .int 4]) ++ List.replicate (3 - (lg_sl ([.int x, .int 0, .int 4])).length) Slot.unset).toArray = ls at hl ⊢
  have hl : lv_has ls 3 [(0, .int x), (1, .int 0), (2, .int 4)] := hl
  obtain ⟨H, hH⟩ : ∃ z, z = s.heap := ⟨_, rfl⟩
  rw [← hH] at hP
  have hS : va_S A s.heap H [] := by rw [hH]; exact hS
  suffices hgo : W p l e _ s m _ below meth c H [] 0 0 _ _ by rw [hH] at hgo; exact hgo
  have hO := hN.2.2.2.2
  refine lv_iload_n hx hb dX8_isIn_0 rfl (lv_at hl 0 rfl) ?_
  refine lv_iload_n hx hb dX8_isIn_1 rfl (lv_at hl 1 rfl) ?_
  refine lv_icmp_lt (tgt := 14) hx hb dX8_isIn_2 (by decide) (fun c101 => ?_) (fun c101 => ?_)
  · have k101 := tq_lt (a := x.toInt) (b := 0) rfl (by decide) c101
    refine lv_iconst (v := 0) hx hb dX8_isIn_14 (by decide) ?_
    exact W.zret (v := 0) (ty := .boolean) hx hb hr rfl (fun t ht hW => ⟨⟨0, (), rfl, rfl, by rw [ht]; exact hP, hD⟩, hS.F ht⟩) hS.2.2 dX8_isIn_15
  · have k101 := tq_ltn (a := x.toInt) (b := 0) rfl (by decide) c101
    exfalso
    omega

set_option maxHeartbeats 4000000 in
set_option maxRecDepth 100000 in
theorem c_X8_isIn_h_04 (l : Launch) (G : va_G) (cA : Nat → ClassId) (sz : Nat) (x : Int32) (hq : 4 < x.toInt) : Met l yX8_isIn (.code yX8_isIn cX8_isIn 3 (some .boolean) :: T0) ({ frames := 0, cells := 0, slots := 0, locals := 0 }) (tqP G cA [.int x, .int 0, .int 4] [] sz) (tqQi G cA (fun (r : Int32) (u : Unit) => r = 0) (fun (u : Unit) => []) (va_A [] sz)) 0 0 (va_A [] sz) := by
  refine Met.ofW (cc := cX8_isIn) (maxL := 3) (ret := (some .boolean)) (by decide) rfl ?_
  intro p e s m args below meth c s₁ B hml hv
  obtain ⟨rfl, hsz, hP, hK, hD0, hN⟩ := hv
  have hx := B.exec
  have hb := B.bytes
  have hr := B.returns
  have hts := atoms_spec (ws := .code yX8_isIn cX8_isIn 3 (some .boolean) :: T0) B.pre
  have hT : ∀ w ∈ T0, w.before _ s = true := fun w h => hts w (List.mem_cons_of_mem _ h)
  have hown : s.vm.findClass RX8 = some m.cls := findClass_of_methodNamed B.named
  have hlocks := B.notSynchronized
  subst hsz
  have hD := hD0.self (sz := s.heap.size)
  generalize hAe : va_A [] s.heap.size = A at hD ⊢
  have hA : ∀ q : Nat, s.heap.size ≤ q → A q := fun q h => by rw [← hAe]; exact Or.inr h
  have hS : va_S A s.heap s.heap [] := va_S.rf
  have hl := lv_entry ([.int x, .int 0, .int 4]) (n := 3) (Nat.le_of_ble_eq_true rfl)
  rw [lg_entry_eq]
  generalize (lg_sl ([.int x, .int 0, .int 4]) ++ List.replicate (3 - (lg_sl ([.int x, .int 0, .int 4])).length) Slot.unset).toArray = ls at hl ⊢
  have hl : lv_has ls 3 [(0, .int x), (1, .int 0), (2, .int 4)] := hl
  obtain ⟨H, hH⟩ : ∃ z, z = s.heap := ⟨_, rfl⟩
  rw [← hH] at hP
  have hS : va_S A s.heap H [] := by rw [hH]; exact hS
  suffices hgo : W p l e _ s m _ below meth c H [] 0 0 _ _ by rw [hH] at hgo; exact hgo
  have hO := hN.2.2.2.2
  refine lv_iload_n hx hb dX8_isIn_0 rfl (lv_at hl 0 rfl) ?_
  refine lv_iload_n hx hb dX8_isIn_1 rfl (lv_at hl 1 rfl) ?_
  refine lv_icmp_lt (tgt := 14) hx hb dX8_isIn_2 (by decide) (fun c101 => ?_) (fun c101 => ?_)
  · have k101 := tq_lt (a := x.toInt) (b := 0) rfl (by decide) c101
    exfalso
    omega
  · have k101 := tq_ltn (a := x.toInt) (b := 0) rfl (by decide) c101
    refine lv_iload_n hx hb dX8_isIn_5 rfl (lv_at hl 0 rfl) ?_
    refine lv_iload_n hx hb dX8_isIn_6 rfl (lv_at hl 2 rfl) ?_
    refine lv_icmp_gt (tgt := 14) hx hb dX8_isIn_7 (by decide) (fun c102 => ?_) (fun c102 => ?_)
    · have k102 := tq_lt (a := 4) (b := x.toInt) (by decide) rfl c102
      refine lv_iconst (v := 0) hx hb dX8_isIn_14 (by decide) ?_
      exact W.zret (v := 0) (ty := .boolean) hx hb hr rfl (fun t ht hW => ⟨⟨0, (), rfl, rfl, by rw [ht]; exact hP, hD⟩, hS.F ht⟩) hS.2.2 dX8_isIn_15
    · have k102 := tq_ltn (a := 4) (b := x.toInt) (by decide) rfl c102
      exfalso
      omega

set_option maxHeartbeats 4000000 in
set_option maxRecDepth 100000 in
theorem c_X8_isIn_i_04 (l : Launch) (G : va_G) (cA : Nat → ClassId) (sz : Nat) (x : Int32) (hq : 0 ≤ x.toInt ∧ x.toInt ≤ 4) : Met l yX8_isIn (.code yX8_isIn cX8_isIn 3 (some .boolean) :: T0) ({ frames := 0, cells := 0, slots := 0, locals := 0 }) (tqP G cA [.int x, .int 0, .int 4] [] sz) (tqQi G cA (fun (r : Int32) (u : Unit) => r = 1) (fun (u : Unit) => []) (va_A [] sz)) 0 0 (va_A [] sz) := by
  refine Met.ofW (cc := cX8_isIn) (maxL := 3) (ret := (some .boolean)) (by decide) rfl ?_
  intro p e s m args below meth c s₁ B hml hv
  obtain ⟨rfl, hsz, hP, hK, hD0, hN⟩ := hv
  have hx := B.exec
  have hb := B.bytes
  have hr := B.returns
  have hts := atoms_spec (ws := .code yX8_isIn cX8_isIn 3 (some .boolean) :: T0) B.pre
  have hT : ∀ w ∈ T0, w.before _ s = true := fun w h => hts w (List.mem_cons_of_mem _ h)
  have hown : s.vm.findClass RX8 = some m.cls := findClass_of_methodNamed B.named
  have hlocks := B.notSynchronized
  subst hsz
  have hD := hD0.self (sz := s.heap.size)
  generalize hAe : va_A [] s.heap.size = A at hD ⊢
  have hA : ∀ q : Nat, s.heap.size ≤ q → A q := fun q h => by rw [← hAe]; exact Or.inr h
  have hS : va_S A s.heap s.heap [] := va_S.rf
  have hl := lv_entry ([.int x, .int 0, .int 4]) (n := 3) (Nat.le_of_ble_eq_true rfl)
  rw [lg_entry_eq]
  generalize (lg_sl ([.int x, .int 0, .int 4]) ++ List.replicate (3 - (lg_sl ([.int x, .int 0, .int 4])).length) Slot.unset).toArray = ls at hl ⊢
  have hl : lv_has ls 3 [(0, .int x), (1, .int 0), (2, .int 4)] := hl
  obtain ⟨H, hH⟩ : ∃ z, z = s.heap := ⟨_, rfl⟩
  rw [← hH] at hP
  have hS : va_S A s.heap H [] := by rw [hH]; exact hS
  suffices hgo : W p l e _ s m _ below meth c H [] 0 0 _ _ by rw [hH] at hgo; exact hgo
  have hO := hN.2.2.2.2
  refine lv_iload_n hx hb dX8_isIn_0 rfl (lv_at hl 0 rfl) ?_
  refine lv_iload_n hx hb dX8_isIn_1 rfl (lv_at hl 1 rfl) ?_
  refine lv_icmp_lt (tgt := 14) hx hb dX8_isIn_2 (by decide) (fun c101 => ?_) (fun c101 => ?_)
  · have k101 := tq_lt (a := x.toInt) (b := 0) rfl (by decide) c101
    exfalso
    omega
  · have k101 := tq_ltn (a := x.toInt) (b := 0) rfl (by decide) c101
    refine lv_iload_n hx hb dX8_isIn_5 rfl (lv_at hl 0 rfl) ?_
    refine lv_iload_n hx hb dX8_isIn_6 rfl (lv_at hl 2 rfl) ?_
    refine lv_icmp_gt (tgt := 14) hx hb dX8_isIn_7 (by decide) (fun c102 => ?_) (fun c102 => ?_)
    · have k102 := tq_lt (a := 4) (b := x.toInt) (by decide) rfl c102
      exfalso
      omega
    · have k102 := tq_ltn (a := 4) (b := x.toInt) (by decide) rfl c102
      refine lv_iconst (v := 1) hx hb dX8_isIn_10 (by decide) ?_
      refine lv_goto (tgt := 15) hx hb dX8_isIn_11 (by decide) ?_
      exact W.zret (v := 1) (ty := .boolean) hx hb hr rfl (fun t ht hW => ⟨⟨1, (), rfl, rfl, by rw [ht]; exact hP, hD⟩, hS.F ht⟩) hS.2.2 dX8_isIn_15

set_option maxHeartbeats 4000000 in
set_option maxRecDepth 100000 in
theorem c_X8_isIn_l_01 (l : Launch) (G : va_G) (cA : Nat → ClassId) (sz : Nat) (x : Int32) (hq : x.toInt < 0) : Met l yX8_isIn (.code yX8_isIn cX8_isIn 3 (some .boolean) :: T0) ({ frames := 0, cells := 0, slots := 0, locals := 0 }) (tqP G cA [.int x, .int 0, .int 1] [] sz) (tqQi G cA (fun (r : Int32) (u : Unit) => r = 0) (fun (u : Unit) => []) (va_A [] sz)) 0 0 (va_A [] sz) := by
  refine Met.ofW (cc := cX8_isIn) (maxL := 3) (ret := (some .boolean)) (by decide) rfl ?_
  intro p e s m args below meth c s₁ B hml hv
  obtain ⟨rfl, hsz, hP, hK, hD0, hN⟩ := hv
  have hx := B.exec
  have hb := B.bytes
  have hr := B.returns
  have hts := atoms_spec (ws := .code yX8_isIn cX8_isIn 3 (some .boolean) :: T0) B.pre
  have hT : ∀ w ∈ T0, w.before _ s = true := fun w h => hts w (List.mem_cons_of_mem _ h)
  have hown : s.vm.findClass RX8 = some m.cls := findClass_of_methodNamed B.named
  have hlocks := B.notSynchronized
  subst hsz
  have hD := hD0.self (sz := s.heap.size)
  generalize hAe : va_A [] s.heap.size = A at hD ⊢
  have hA : ∀ q : Nat, s.heap.size ≤ q → A q := fun q h => by rw [← hAe]; exact Or.inr h
  have hS : va_S A s.heap s.heap [] := va_S.rf
  have hl := lv_entry ([.int x, .int 0, .int 1]) (n := 3) (Nat.le_of_ble_eq_true rfl)
  rw [lg_entry_eq]
  generalize (lg_sl ([.int x, .int 0, .int 1]) ++ List.replicate (3 - (lg_sl ([.int x, .int 0, .int 1])).length) Slot.unset).toArray = ls at hl ⊢
  have hl : lv_has ls 3 [(0, .int x), (1, .int 0), (2, .int 1)] := hl
  obtain ⟨H, hH⟩ : ∃ z, z = s.heap := ⟨_, rfl⟩
  rw [← hH] at hP
  have hS : va_S A s.heap H [] := by rw [hH]; exact hS
  suffices hgo : W p l e _ s m _ below meth c H [] 0 0 _ _ by rw [hH] at hgo; exact hgo
  have hO := hN.2.2.2.2
  refine lv_iload_n hx hb dX8_isIn_0 rfl (lv_at hl 0 rfl) ?_
  refine lv_iload_n hx hb dX8_isIn_1 rfl (lv_at hl 1 rfl) ?_
  refine lv_icmp_lt (tgt := 14) hx hb dX8_isIn_2 (by decide) (fun c101 => ?_) (fun c101 => ?_)
  · have k101 := tq_lt (a := x.toInt) (b := 0) rfl (by decide) c101
    refine lv_iconst (v := 0) hx hb dX8_isIn_14 (by decide) ?_
    exact W.zret (v := 0) (ty := .boolean) hx hb hr rfl (fun t ht hW => ⟨⟨0, (), rfl, rfl, by rw [ht]; exact hP, hD⟩, hS.F ht⟩) hS.2.2 dX8_isIn_15
  · have k101 := tq_ltn (a := x.toInt) (b := 0) rfl (by decide) c101
    exfalso
    omega

set_option maxHeartbeats 4000000 in
set_option maxRecDepth 100000 in
theorem c_X8_isIn_h_01 (l : Launch) (G : va_G) (cA : Nat → ClassId) (sz : Nat) (x : Int32) (hq : 1 < x.toInt) : Met l yX8_isIn (.code yX8_isIn cX8_isIn 3 (some .boolean) :: T0) ({ frames := 0, cells := 0, slots := 0, locals := 0 }) (tqP G cA [.int x, .int 0, .int 1] [] sz) (tqQi G cA (fun (r : Int32) (u : Unit) => r = 0) (fun (u : Unit) => []) (va_A [] sz)) 0 0 (va_A [] sz) := by
  refine Met.ofW (cc := cX8_isIn) (maxL := 3) (ret := (some .boolean)) (by decide) rfl ?_
  intro p e s m args below meth c s₁ B hml hv
  obtain ⟨rfl, hsz, hP, hK, hD0, hN⟩ := hv
  have hx := B.exec
  have hb := B.bytes
  have hr := B.returns
  have hts := atoms_spec (ws := .code yX8_isIn cX8_isIn 3 (some .boolean) :: T0) B.pre
  have hT : ∀ w ∈ T0, w.before _ s = true := fun w h => hts w (List.mem_cons_of_mem _ h)
  have hown : s.vm.findClass RX8 = some m.cls := findClass_of_methodNamed B.named
  have hlocks := B.notSynchronized
  subst hsz
  have hD := hD0.self (sz := s.heap.size)
  generalize hAe : va_A [] s.heap.size = A at hD ⊢
  have hA : ∀ q : Nat, s.heap.size ≤ q → A q := fun q h => by rw [← hAe]; exact Or.inr h
  have hS : va_S A s.heap s.heap [] := va_S.rf
  have hl := lv_entry ([.int x, .int 0, .int 1]) (n := 3) (Nat.le_of_ble_eq_true rfl)
  rw [lg_entry_eq]
  generalize (lg_sl ([.int x, .int 0, .int 1]) ++ List.replicate (3 - (lg_sl ([.int x, .int 0, .int 1])).length) Slot.unset).toArray = ls at hl ⊢
  have hl : lv_has ls 3 [(0, .int x), (1, .int 0), (2, .int 1)] := hl
  obtain ⟨H, hH⟩ : ∃ z, z = s.heap := ⟨_, rfl⟩
  rw [← hH] at hP
  have hS : va_S A s.heap H [] := by rw [hH]; exact hS
  suffices hgo : W p l e _ s m _ below meth c H [] 0 0 _ _ by rw [hH] at hgo; exact hgo
  have hO := hN.2.2.2.2
  refine lv_iload_n hx hb dX8_isIn_0 rfl (lv_at hl 0 rfl) ?_
  refine lv_iload_n hx hb dX8_isIn_1 rfl (lv_at hl 1 rfl) ?_
  refine lv_icmp_lt (tgt := 14) hx hb dX8_isIn_2 (by decide) (fun c101 => ?_) (fun c101 => ?_)
  · have k101 := tq_lt (a := x.toInt) (b := 0) rfl (by decide) c101
    exfalso
    omega
  · have k101 := tq_ltn (a := x.toInt) (b := 0) rfl (by decide) c101
    refine lv_iload_n hx hb dX8_isIn_5 rfl (lv_at hl 0 rfl) ?_
    refine lv_iload_n hx hb dX8_isIn_6 rfl (lv_at hl 2 rfl) ?_
    refine lv_icmp_gt (tgt := 14) hx hb dX8_isIn_7 (by decide) (fun c102 => ?_) (fun c102 => ?_)
    · have k102 := tq_lt (a := 1) (b := x.toInt) (by decide) rfl c102
      refine lv_iconst (v := 0) hx hb dX8_isIn_14 (by decide) ?_
      exact W.zret (v := 0) (ty := .boolean) hx hb hr rfl (fun t ht hW => ⟨⟨0, (), rfl, rfl, by rw [ht]; exact hP, hD⟩, hS.F ht⟩) hS.2.2 dX8_isIn_15
    · have k102 := tq_ltn (a := 1) (b := x.toInt) (by decide) rfl c102
      exfalso
      omega

set_option maxHeartbeats 4000000 in
set_option maxRecDepth 100000 in
theorem c_X8_isIn_i_01 (l : Launch) (G : va_G) (cA : Nat → ClassId) (sz : Nat) (x : Int32) (hq : 0 ≤ x.toInt ∧ x.toInt ≤ 1) : Met l yX8_isIn (.code yX8_isIn cX8_isIn 3 (some .boolean) :: T0) ({ frames := 0, cells := 0, slots := 0, locals := 0 }) (tqP G cA [.int x, .int 0, .int 1] [] sz) (tqQi G cA (fun (r : Int32) (u : Unit) => r = 1) (fun (u : Unit) => []) (va_A [] sz)) 0 0 (va_A [] sz) := by
  refine Met.ofW (cc := cX8_isIn) (maxL := 3) (ret := (some .boolean)) (by decide) rfl ?_
  intro p e s m args below meth c s₁ B hml hv
  obtain ⟨rfl, hsz, hP, hK, hD0, hN⟩ := hv
  have hx := B.exec
  have hb := B.bytes
  have hr := B.returns
  have hts := atoms_spec (ws := .code yX8_isIn cX8_isIn 3 (some .boolean) :: T0) B.pre
  have hT : ∀ w ∈ T0, w.before _ s = true := fun w h => hts w (List.mem_cons_of_mem _ h)
  have hown : s.vm.findClass RX8 = some m.cls := findClass_of_methodNamed B.named
  have hlocks := B.notSynchronized
  subst hsz
  have hD := hD0.self (sz := s.heap.size)
  generalize hAe : va_A [] s.heap.size = A at hD ⊢
  have hA : ∀ q : Nat, s.heap.size ≤ q → A q := fun q h => by rw [← hAe]; exact Or.inr h
  have hS : va_S A s.heap s.heap [] := va_S.rf
  have hl := lv_entry ([.int x, .int 0, .int 1]) (n := 3) (Nat.le_of_ble_eq_true rfl)
  rw [lg_entry_eq]
  generalize (lg_sl ([.int x, .int 0, .int 1]) ++ List.replicate (3 - (lg_sl ([.int x, .int 0, .int 1])).length) Slot.unset).toArray = ls at hl ⊢
  have hl : lv_has ls 3 [(0, .int x), (1, .int 0), (2, .int 1)] := hl
  obtain ⟨H, hH⟩ : ∃ z, z = s.heap := ⟨_, rfl⟩
  rw [← hH] at hP
  have hS : va_S A s.heap H [] := by rw [hH]; exact hS
  suffices hgo : W p l e _ s m _ below meth c H [] 0 0 _ _ by rw [hH] at hgo; exact hgo
  have hO := hN.2.2.2.2
  refine lv_iload_n hx hb dX8_isIn_0 rfl (lv_at hl 0 rfl) ?_
  refine lv_iload_n hx hb dX8_isIn_1 rfl (lv_at hl 1 rfl) ?_
  refine lv_icmp_lt (tgt := 14) hx hb dX8_isIn_2 (by decide) (fun c101 => ?_) (fun c101 => ?_)
  · have k101 := tq_lt (a := x.toInt) (b := 0) rfl (by decide) c101
    exfalso
    omega
  · have k101 := tq_ltn (a := x.toInt) (b := 0) rfl (by decide) c101
    refine lv_iload_n hx hb dX8_isIn_5 rfl (lv_at hl 0 rfl) ?_
    refine lv_iload_n hx hb dX8_isIn_6 rfl (lv_at hl 2 rfl) ?_
    refine lv_icmp_gt (tgt := 14) hx hb dX8_isIn_7 (by decide) (fun c102 => ?_) (fun c102 => ?_)
    · have k102 := tq_lt (a := 1) (b := x.toInt) (by decide) rfl c102
      exfalso
      omega
    · have k102 := tq_ltn (a := 1) (b := x.toInt) (by decide) rfl c102
      refine lv_iconst (v := 1) hx hb dX8_isIn_10 (by decide) ?_
      refine lv_goto (tgt := 15) hx hb dX8_isIn_11 (by decide) ?_
      exact W.zret (v := 1) (ty := .boolean) hx hb hr rfl (fun t ht hW => ⟨⟨1, (), rfl, rfl, by rw [ht]; exact hP, hD⟩, hS.F ht⟩) hS.2.2 dX8_isIn_15

set_option maxHeartbeats 4000000 in
set_option maxRecDepth 100000 in
theorem c_X8_isIn_l_199 (l : Launch) (G : va_G) (cA : Nat → ClassId) (sz : Nat) (x : Int32) (hq : x.toInt < 1) : Met l yX8_isIn (.code yX8_isIn cX8_isIn 3 (some .boolean) :: T0) ({ frames := 0, cells := 0, slots := 0, locals := 0 }) (tqP G cA [.int x, .int 1, .int 99] [] sz) (tqQi G cA (fun (r : Int32) (u : Unit) => r = 0) (fun (u : Unit) => []) (va_A [] sz)) 0 0 (va_A [] sz) := by
  refine Met.ofW (cc := cX8_isIn) (maxL := 3) (ret := (some .boolean)) (by decide) rfl ?_
  intro p e s m args below meth c s₁ B hml hv
  obtain ⟨rfl, hsz, hP, hK, hD0, hN⟩ := hv
  have hx := B.exec
  have hb := B.bytes
  have hr := B.returns
  have hts := atoms_spec (ws := .code yX8_isIn cX8_isIn 3 (some .boolean) :: T0) B.pre
  have hT : ∀ w ∈ T0, w.before _ s = true := fun w h => hts w (List.mem_cons_of_mem _ h)
  have hown : s.vm.findClass RX8 = some m.cls := findClass_of_methodNamed B.named
  have hlocks := B.notSynchronized
  subst hsz
  have hD := hD0.self (sz := s.heap.size)
  generalize hAe : va_A [] s.heap.size = A at hD ⊢
  have hA : ∀ q : Nat, s.heap.size ≤ q → A q := fun q h => by rw [← hAe]; exact Or.inr h
  have hS : va_S A s.heap s.heap [] := va_S.rf
  have hl := lv_entry ([.int x, .int 1, .int 99]) (n := 3) (Nat.le_of_ble_eq_true rfl)
  rw [lg_entry_eq]
  generalize (lg_sl ([.int x, .int 1, .int 99]) ++ List.replicate (3 - (lg_sl ([.int x, .int 1, .int 99])).length) Slot.unset).toArray = ls at hl ⊢
  have hl : lv_has ls 3 [(0, .int x), (1, .int 1), (2, .int 99)] := hl
  obtain ⟨H, hH⟩ : ∃ z, z = s.heap := ⟨_, rfl⟩
  rw [← hH] at hP
  have hS : va_S A s.heap H [] := by rw [hH]; exact hS
  suffices hgo : W p l e _ s m _ below meth c H [] 0 0 _ _ by rw [hH] at hgo; exact hgo
  have hO := hN.2.2.2.2
  refine lv_iload_n hx hb dX8_isIn_0 rfl (lv_at hl 0 rfl) ?_
  refine lv_iload_n hx hb dX8_isIn_1 rfl (lv_at hl 1 rfl) ?_
  refine lv_icmp_lt (tgt := 14) hx hb dX8_isIn_2 (by decide) (fun c101 => ?_) (fun c101 => ?_)
  · have k101 := tq_lt (a := x.toInt) (b := 1) rfl (by decide) c101
    refine lv_iconst (v := 0) hx hb dX8_isIn_14 (by decide) ?_
    exact W.zret (v := 0) (ty := .boolean) hx hb hr rfl (fun t ht hW => ⟨⟨0, (), rfl, rfl, by rw [ht]; exact hP, hD⟩, hS.F ht⟩) hS.2.2 dX8_isIn_15
  · have k101 := tq_ltn (a := x.toInt) (b := 1) rfl (by decide) c101
    exfalso
    omega

set_option maxHeartbeats 4000000 in
set_option maxRecDepth 100000 in
theorem c_X8_isIn_h_199 (l : Launch) (G : va_G) (cA : Nat → ClassId) (sz : Nat) (x : Int32) (hq : 99 < x.toInt) : Met l yX8_isIn (.code yX8_isIn cX8_isIn 3 (some .boolean) :: T0) ({ frames := 0, cells := 0, slots := 0, locals := 0 }) (tqP G cA [.int x, .int 1, .int 99] [] sz) (tqQi G cA (fun (r : Int32) (u : Unit) => r = 0) (fun (u : Unit) => []) (va_A [] sz)) 0 0 (va_A [] sz) := by
  refine Met.ofW (cc := cX8_isIn) (maxL := 3) (ret := (some .boolean)) (by decide) rfl ?_
  intro p e s m args below meth c s₁ B hml hv
  obtain ⟨rfl, hsz, hP, hK, hD0, hN⟩ := hv
  have hx := B.exec
  have hb := B.bytes
  have hr := B.returns
  have hts := atoms_spec (ws := .code yX8_isIn cX8_isIn 3 (some .boolean) :: T0) B.pre
  have hT : ∀ w ∈ T0, w.before _ s = true := fun w h => hts w (List.mem_cons_of_mem _ h)
  have hown : s.vm.findClass RX8 = some m.cls := findClass_of_methodNamed B.named
  have hlocks := B.notSynchronized
  subst hsz
  have hD := hD0.self (sz := s.heap.size)
  generalize hAe : va_A [] s.heap.size = A at hD ⊢
  have hA : ∀ q : Nat, s.heap.size ≤ q → A q := fun q h => by rw [← hAe]; exact Or.inr h
  have hS : va_S A s.heap s.heap [] := va_S.rf
  have hl := lv_entry ([.int x, .int 1, .int 99]) (n := 3) (Nat.le_of_ble_eq_true rfl)
  rw [lg_entry_eq]
  generalize (lg_sl ([.int x, .int 1, .int 99]) ++ List.replicate (3 - (lg_sl ([.int x, .int 1, .int 99])).length) Slot.unset).toArray = ls at hl ⊢
  have hl : lv_has ls 3 [(0, .int x), (1, .int 1), (2, .int 99)] := hl
  obtain ⟨H, hH⟩ : ∃ z, z = s.heap := ⟨_, rfl⟩
  rw [← hH] at hP
  have hS : va_S A s.heap H [] := by rw [hH]; exact hS
  suffices hgo : W p l e _ s m _ below meth c H [] 0 0 _ _ by rw [hH] at hgo; exact hgo
  have hO := hN.2.2.2.2
  refine lv_iload_n hx hb dX8_isIn_0 rfl (lv_at hl 0 rfl) ?_
  refine lv_iload_n hx hb dX8_isIn_1 rfl (lv_at hl 1 rfl) ?_
  refine lv_icmp_lt (tgt := 14) hx hb dX8_isIn_2 (by decide) (fun c101 => ?_) (fun c101 => ?_)
  · have k101 := tq_lt (a := x.toInt) (b := 1) rfl (by decide) c101
    exfalso
    omega
  · have k101 := tq_ltn (a := x.toInt) (b := 1) rfl (by decide) c101
    refine lv_iload_n hx hb dX8_isIn_5 rfl (lv_at hl 0 rfl) ?_
    refine lv_iload_n hx hb dX8_isIn_6 rfl (lv_at hl 2 rfl) ?_
    refine lv_icmp_gt (tgt := 14) hx hb dX8_isIn_7 (by decide) (fun c102 => ?_) (fun c102 => ?_)
    · have k102 := tq_lt (a := 99) (b := x.toInt) (by decide) rfl c102
      refine lv_iconst (v := 0) hx hb dX8_isIn_14 (by decide) ?_
      exact W.zret (v := 0) (ty := .boolean) hx hb hr rfl (fun t ht hW => ⟨⟨0, (), rfl, rfl, by rw [ht]; exact hP, hD⟩, hS.F ht⟩) hS.2.2 dX8_isIn_15
    · have k102 := tq_ltn (a := 99) (b := x.toInt) (by decide) rfl c102
      exfalso
      omega

set_option maxHeartbeats 4000000 in
set_option maxRecDepth 100000 in
theorem c_X8_isIn_i_199 (l : Launch) (G : va_G) (cA : Nat → ClassId) (sz : Nat) (x : Int32) (hq : 1 ≤ x.toInt ∧ x.toInt ≤ 99) : Met l yX8_isIn (.code yX8_isIn cX8_isIn 3 (some .boolean) :: T0) ({ frames := 0, cells := 0, slots := 0, locals := 0 }) (tqP G cA [.int x, .int 1, .int 99] [] sz) (tqQi G cA (fun (r : Int32) (u : Unit) => r = 1) (fun (u : Unit) => []) (va_A [] sz)) 0 0 (va_A [] sz) := by
  refine Met.ofW (cc := cX8_isIn) (maxL := 3) (ret := (some .boolean)) (by decide) rfl ?_
  intro p e s m args below meth c s₁ B hml hv
  obtain ⟨rfl, hsz, hP, hK, hD0, hN⟩ := hv
  have hx := B.exec
  have hb := B.bytes
  have hr := B.returns
  have hts := atoms_spec (ws := .code yX8_isIn cX8_isIn 3 (some .boolean) :: T0) B.pre
  have hT : ∀ w ∈ T0, w.before _ s = true := fun w h => hts w (List.mem_cons_of_mem _ h)
  have hown : s.vm.findClass RX8 = some m.cls := findClass_of_methodNamed B.named
  have hlocks := B.notSynchronized
  subst hsz
  have hD := hD0.self (sz := s.heap.size)
  generalize hAe : va_A [] s.heap.size = A at hD ⊢
  have hA : ∀ q : Nat, s.heap.size ≤ q → A q := fun q h => by rw [← hAe]; exact Or.inr h
  have hS : va_S A s.heap s.heap [] := va_S.rf
  have hl := lv_entry ([.int x, .int 1, .int 99]) (n := 3) (Nat.le_of_ble_eq_true rfl)
  rw [lg_entry_eq]
  generalize (lg_sl ([.int x, .int 1, .int 99]) ++ List.replicate (3 - (lg_sl ([.int x, .int 1, .int 99])).length) Slot.unset).toArray = ls at hl ⊢
  have hl : lv_has ls 3 [(0, .int x), (1, .int 1), (2, .int 99)] := hl
  obtain ⟨H, hH⟩ : ∃ z, z = s.heap := ⟨_, rfl⟩
  rw [← hH] at hP
  have hS : va_S A s.heap H [] := by rw [hH]; exact hS
  suffices hgo : W p l e _ s m _ below meth c H [] 0 0 _ _ by rw [hH] at hgo; exact hgo
  have hO := hN.2.2.2.2
  refine lv_iload_n hx hb dX8_isIn_0 rfl (lv_at hl 0 rfl) ?_
  refine lv_iload_n hx hb dX8_isIn_1 rfl (lv_at hl 1 rfl) ?_
  refine lv_icmp_lt (tgt := 14) hx hb dX8_isIn_2 (by decide) (fun c101 => ?_) (fun c101 => ?_)
  · have k101 := tq_lt (a := x.toInt) (b := 1) rfl (by decide) c101
    exfalso
    omega
  · have k101 := tq_ltn (a := x.toInt) (b := 1) rfl (by decide) c101
    refine lv_iload_n hx hb dX8_isIn_5 rfl (lv_at hl 0 rfl) ?_
    refine lv_iload_n hx hb dX8_isIn_6 rfl (lv_at hl 2 rfl) ?_
    refine lv_icmp_gt (tgt := 14) hx hb dX8_isIn_7 (by decide) (fun c102 => ?_) (fun c102 => ?_)
    · have k102 := tq_lt (a := 99) (b := x.toInt) (by decide) rfl c102
      exfalso
      omega
    · have k102 := tq_ltn (a := 99) (b := x.toInt) (by decide) rfl c102
      refine lv_iconst (v := 1) hx hb dX8_isIn_10 (by decide) ?_
      refine lv_goto (tgt := 15) hx hb dX8_isIn_11 (by decide) ?_
      exact W.zret (v := 1) (ty := .boolean) hx hb hr rfl (fun t ht hW => ⟨⟨1, (), rfl, rfl, by rw [ht]; exact hP, hD⟩, hS.F ht⟩) hS.2.2 dX8_isIn_15

set_option maxHeartbeats 4000000 in
set_option maxRecDepth 100000 in
theorem c_X8_isIn_l_019 (l : Launch) (G : va_G) (cA : Nat → ClassId) (sz : Nat) (x : Int32) (hq : x.toInt < 0) : Met l yX8_isIn (.code yX8_isIn cX8_isIn 3 (some .boolean) :: T0) ({ frames := 0, cells := 0, slots := 0, locals := 0 }) (tqP G cA [.int x, .int 0, .int 19] [] sz) (tqQi G cA (fun (r : Int32) (u : Unit) => r = 0) (fun (u : Unit) => []) (va_A [] sz)) 0 0 (va_A [] sz) := by
  refine Met.ofW (cc := cX8_isIn) (maxL := 3) (ret := (some .boolean)) (by decide) rfl ?_
  intro p e s m args below meth c s₁ B hml hv
  obtain ⟨rfl, hsz, hP, hK, hD0, hN⟩ := hv
  have hx := B.exec
  have hb := B.bytes
  have hr := B.returns
  have hts := atoms_spec (ws := .code yX8_isIn cX8_isIn 3 (some .boolean) :: T0) B.pre
  have hT : ∀ w ∈ T0, w.before _ s = true := fun w h => hts w (List.mem_cons_of_mem _ h)
  have hown : s.vm.findClass RX8 = some m.cls := findClass_of_methodNamed B.named
  have hlocks := B.notSynchronized
  subst hsz
  have hD := hD0.self (sz := s.heap.size)
  generalize hAe : va_A [] s.heap.size = A at hD ⊢
  have hA : ∀ q : Nat, s.heap.size ≤ q → A q := fun q h => by rw [← hAe]; exact Or.inr h
  have hS : va_S A s.heap s.heap [] := va_S.rf
  have hl := lv_entry ([.int x, .int 0, .int 19]) (n := 3) (Nat.le_of_ble_eq_true rfl)
  rw [lg_entry_eq]
  generalize (lg_sl ([.int x, .int 0, .int 19]) ++ List.replicate (3 - (lg_sl ([.int x, .int 0, .int 19])).length) Slot.unset).toArray = ls at hl ⊢
  have hl : lv_has ls 3 [(0, .int x), (1, .int 0), (2, .int 19)] := hl
  obtain ⟨H, hH⟩ : ∃ z, z = s.heap := ⟨_, rfl⟩
  rw [← hH] at hP
  have hS : va_S A s.heap H [] := by rw [hH]; exact hS
  suffices hgo : W p l e _ s m _ below meth c H [] 0 0 _ _ by rw [hH] at hgo; exact hgo
  have hO := hN.2.2.2.2
  refine lv_iload_n hx hb dX8_isIn_0 rfl (lv_at hl 0 rfl) ?_
  refine lv_iload_n hx hb dX8_isIn_1 rfl (lv_at hl 1 rfl) ?_
  refine lv_icmp_lt (tgt := 14) hx hb dX8_isIn_2 (by decide) (fun c101 => ?_) (fun c101 => ?_)
  · have k101 := tq_lt (a := x.toInt) (b := 0) rfl (by decide) c101
    refine lv_iconst (v := 0) hx hb dX8_isIn_14 (by decide) ?_
    exact W.zret (v := 0) (ty := .boolean) hx hb hr rfl (fun t ht hW => ⟨⟨0, (), rfl, rfl, by rw [ht]; exact hP, hD⟩, hS.F ht⟩) hS.2.2 dX8_isIn_15
  · have k101 := tq_ltn (a := x.toInt) (b := 0) rfl (by decide) c101
    exfalso
    omega

set_option maxHeartbeats 4000000 in
set_option maxRecDepth 100000 in
theorem c_X8_isIn_h_019 (l : Launch) (G : va_G) (cA : Nat → ClassId) (sz : Nat) (x : Int32) (hq : 19 < x.toInt) : Met l yX8_isIn (.code yX8_isIn cX8_isIn 3 (some .boolean) :: T0) ({ frames := 0, cells := 0, slots := 0, locals := 0 }) (tqP G cA [.int x, .int 0, .int 19] [] sz) (tqQi G cA (fun (r : Int32) (u : Unit) => r = 0) (fun (u : Unit) => []) (va_A [] sz)) 0 0 (va_A [] sz) := by
  refine Met.ofW (cc := cX8_isIn) (maxL := 3) (ret := (some .boolean)) (by decide) rfl ?_
  intro p e s m args below meth c s₁ B hml hv
  obtain ⟨rfl, hsz, hP, hK, hD0, hN⟩ := hv
  have hx := B.exec
  have hb := B.bytes
  have hr := B.returns
  have hts := atoms_spec (ws := .code yX8_isIn cX8_isIn 3 (some .boolean) :: T0) B.pre
  have hT : ∀ w ∈ T0, w.before _ s = true := fun w h => hts w (List.mem_cons_of_mem _ h)
  have hown : s.vm.findClass RX8 = some m.cls := findClass_of_methodNamed B.named
  have hlocks := B.notSynchronized
  subst hsz
  have hD := hD0.self (sz := s.heap.size)
  generalize hAe : va_A [] s.heap.size = A at hD ⊢
  have hA : ∀ q : Nat, s.heap.size ≤ q → A q := fun q h => by rw [← hAe]; exact Or.inr h
  have hS : va_S A s.heap s.heap [] := va_S.rf
  have hl := lv_entry ([.int x, .int 0, .int 19]) (n := 3) (Nat.le_of_ble_eq_true rfl)
  rw [lg_entry_eq]
  generalize (lg_sl ([.int x, .int 0, .int 19]) ++ List.replicate (3 - (lg_sl ([.int x, .int 0, .int 19])).length) Slot.unset).toArray = ls at hl ⊢
  have hl : lv_has ls 3 [(0, .int x), (1, .int 0), (2, .int 19)] := hl
  obtain ⟨H, hH⟩ : ∃ z, z = s.heap := ⟨_, rfl⟩
  rw [← hH] at hP
  have hS : va_S A s.heap H [] := by rw [hH]; exact hS
  suffices hgo : W p l e _ s m _ below meth c H [] 0 0 _ _ by rw [hH] at hgo; exact hgo
  have hO := hN.2.2.2.2
  refine lv_iload_n hx hb dX8_isIn_0 rfl (lv_at hl 0 rfl) ?_
  refine lv_iload_n hx hb dX8_isIn_1 rfl (lv_at hl 1 rfl) ?_
  refine lv_icmp_lt (tgt := 14) hx hb dX8_isIn_2 (by decide) (fun c101 => ?_) (fun c101 => ?_)
  · have k101 := tq_lt (a := x.toInt) (b := 0) rfl (by decide) c101
    exfalso
    omega
  · have k101 := tq_ltn (a := x.toInt) (b := 0) rfl (by decide) c101
    refine lv_iload_n hx hb dX8_isIn_5 rfl (lv_at hl 0 rfl) ?_
    refine lv_iload_n hx hb dX8_isIn_6 rfl (lv_at hl 2 rfl) ?_
    refine lv_icmp_gt (tgt := 14) hx hb dX8_isIn_7 (by decide) (fun c102 => ?_) (fun c102 => ?_)
    · have k102 := tq_lt (a := 19) (b := x.toInt) (by decide) rfl c102
      refine lv_iconst (v := 0) hx hb dX8_isIn_14 (by decide) ?_
      exact W.zret (v := 0) (ty := .boolean) hx hb hr rfl (fun t ht hW => ⟨⟨0, (), rfl, rfl, by rw [ht]; exact hP, hD⟩, hS.F ht⟩) hS.2.2 dX8_isIn_15
    · have k102 := tq_ltn (a := 19) (b := x.toInt) (by decide) rfl c102
      exfalso
      omega

set_option maxHeartbeats 4000000 in
set_option maxRecDepth 100000 in
theorem c_X8_isIn_i_019 (l : Launch) (G : va_G) (cA : Nat → ClassId) (sz : Nat) (x : Int32) (hq : 0 ≤ x.toInt ∧ x.toInt ≤ 19) : Met l yX8_isIn (.code yX8_isIn cX8_isIn 3 (some .boolean) :: T0) ({ frames := 0, cells := 0, slots := 0, locals := 0 }) (tqP G cA [.int x, .int 0, .int 19] [] sz) (tqQi G cA (fun (r : Int32) (u : Unit) => r = 1) (fun (u : Unit) => []) (va_A [] sz)) 0 0 (va_A [] sz) := by
  refine Met.ofW (cc := cX8_isIn) (maxL := 3) (ret := (some .boolean)) (by decide) rfl ?_
  intro p e s m args below meth c s₁ B hml hv
  obtain ⟨rfl, hsz, hP, hK, hD0, hN⟩ := hv
  have hx := B.exec
  have hb := B.bytes
  have hr := B.returns
  have hts := atoms_spec (ws := .code yX8_isIn cX8_isIn 3 (some .boolean) :: T0) B.pre
  have hT : ∀ w ∈ T0, w.before _ s = true := fun w h => hts w (List.mem_cons_of_mem _ h)
  have hown : s.vm.findClass RX8 = some m.cls := findClass_of_methodNamed B.named
  have hlocks := B.notSynchronized
  subst hsz
  have hD := hD0.self (sz := s.heap.size)
  generalize hAe : va_A [] s.heap.size = A at hD ⊢
  have hA : ∀ q : Nat, s.heap.size ≤ q → A q := fun q h => by rw [← hAe]; exact Or.inr h
  have hS : va_S A s.heap s.heap [] := va_S.rf
  have hl := lv_entry ([.int x, .int 0, .int 19]) (n := 3) (Nat.le_of_ble_eq_true rfl)
  rw [lg_entry_eq]
  generalize (lg_sl ([.int x, .int 0, .int 19]) ++ List.replicate (3 - (lg_sl ([.int x, .int 0, .int 19])).length) Slot.unset).toArray = ls at hl ⊢
  have hl : lv_has ls 3 [(0, .int x), (1, .int 0), (2, .int 19)] := hl
  obtain ⟨H, hH⟩ : ∃ z, z = s.heap := ⟨_, rfl⟩
  rw [← hH] at hP
  have hS : va_S A s.heap H [] := by rw [hH]; exact hS
  suffices hgo : W p l e _ s m _ below meth c H [] 0 0 _ _ by rw [hH] at hgo; exact hgo
  have hO := hN.2.2.2.2
  refine lv_iload_n hx hb dX8_isIn_0 rfl (lv_at hl 0 rfl) ?_
  refine lv_iload_n hx hb dX8_isIn_1 rfl (lv_at hl 1 rfl) ?_
  refine lv_icmp_lt (tgt := 14) hx hb dX8_isIn_2 (by decide) (fun c101 => ?_) (fun c101 => ?_)
  · have k101 := tq_lt (a := x.toInt) (b := 0) rfl (by decide) c101
    exfalso
    omega
  · have k101 := tq_ltn (a := x.toInt) (b := 0) rfl (by decide) c101
    refine lv_iload_n hx hb dX8_isIn_5 rfl (lv_at hl 0 rfl) ?_
    refine lv_iload_n hx hb dX8_isIn_6 rfl (lv_at hl 2 rfl) ?_
    refine lv_icmp_gt (tgt := 14) hx hb dX8_isIn_7 (by decide) (fun c102 => ?_) (fun c102 => ?_)
    · have k102 := tq_lt (a := 19) (b := x.toInt) (by decide) rfl c102
      exfalso
      omega
    · have k102 := tq_ltn (a := 19) (b := x.toInt) (by decide) rfl c102
      refine lv_iconst (v := 1) hx hb dX8_isIn_10 (by decide) ?_
      refine lv_goto (tgt := 15) hx hb dX8_isIn_11 (by decide) ?_
      exact W.zret (v := 1) (ty := .boolean) hx hb hr rfl (fun t ht hW => ⟨⟨1, (), rfl, rfl, by rw [ht]; exact hP, hD⟩, hS.F ht⟩) hS.2.2 dX8_isIn_15

set_option maxHeartbeats 4000000 in
set_option maxRecDepth 100000 in
theorem c_X8_isIn_l_m10 (l : Launch) (G : va_G) (cA : Nat → ClassId) (sz : Nat) (x : Int32) (hq : x.toInt < (-1)) : Met l yX8_isIn (.code yX8_isIn cX8_isIn 3 (some .boolean) :: T0) ({ frames := 0, cells := 0, slots := 0, locals := 0 }) (tqP G cA [.int x, .int (-1), .int 0] [] sz) (tqQi G cA (fun (r : Int32) (u : Unit) => r = 0) (fun (u : Unit) => []) (va_A [] sz)) 0 0 (va_A [] sz) := by
  refine Met.ofW (cc := cX8_isIn) (maxL := 3) (ret := (some .boolean)) (by decide) rfl ?_
  intro p e s m args below meth c s₁ B hml hv
  obtain ⟨rfl, hsz, hP, hK, hD0, hN⟩ := hv
  have hx := B.exec
  have hb := B.bytes
  have hr := B.returns
  have hts := atoms_spec (ws := .code yX8_isIn cX8_isIn 3 (some .boolean) :: T0) B.pre
  have hT : ∀ w ∈ T0, w.before _ s = true := fun w h => hts w (List.mem_cons_of_mem _ h)
  have hown : s.vm.findClass RX8 = some m.cls := findClass_of_methodNamed B.named
  have hlocks := B.notSynchronized
  subst hsz
  have hD := hD0.self (sz := s.heap.size)
  generalize hAe : va_A [] s.heap.size = A at hD ⊢
  have hA : ∀ q : Nat, s.heap.size ≤ q → A q := fun q h => by rw [← hAe]; exact Or.inr h
  have hS : va_S A s.heap s.heap [] := va_S.rf
  have hl := lv_entry ([.int x, .int (-1), .int 0]) (n := 3) (Nat.le_of_ble_eq_true rfl)
  rw [lg_entry_eq]
  generalize (lg_sl ([.int x, .int (-1), .int 0]) ++ List.replicate (3 - (lg_sl ([.int x, .int (-1), .int 0])).length) Slot.unset).toArray = ls at hl ⊢
  have hl : lv_has ls 3 [(0, .int x), (1, .int (-1)), (2, .int 0)] := hl
  obtain ⟨H, hH⟩ : ∃ z, z = s.heap := ⟨_, rfl⟩
  rw [← hH] at hP
  have hS : va_S A s.heap H [] := by rw [hH]; exact hS
  suffices hgo : W p l e _ s m _ below meth c H [] 0 0 _ _ by rw [hH] at hgo; exact hgo
  have hO := hN.2.2.2.2
  refine lv_iload_n hx hb dX8_isIn_0 rfl (lv_at hl 0 rfl) ?_
  refine lv_iload_n hx hb dX8_isIn_1 rfl (lv_at hl 1 rfl) ?_
  refine lv_icmp_lt (tgt := 14) hx hb dX8_isIn_2 (by decide) (fun c101 => ?_) (fun c101 => ?_)
  · have k101 := tq_lt (a := x.toInt) (b := (-1)) rfl (by decide) c101
    refine lv_iconst (v := 0) hx hb dX8_isIn_14 (by decide) ?_
    exact W.zret (v := 0) (ty := .boolean) hx hb hr rfl (fun t ht hW => ⟨⟨0, (), rfl, rfl, by rw [ht]; exact hP, hD⟩, hS.F ht⟩) hS.2.2 dX8_isIn_15
  · have k101 := tq_ltn (a := x.toInt) (b := (-1)) rfl (by decide) c101
    exfalso
    omega

set_option maxHeartbeats 4000000 in
set_option maxRecDepth 100000 in
theorem c_X8_isIn_h_m10 (l : Launch) (G : va_G) (cA : Nat → ClassId) (sz : Nat) (x : Int32) (hq : 0 < x.toInt) : Met l yX8_isIn (.code yX8_isIn cX8_isIn 3 (some .boolean) :: T0) ({ frames := 0, cells := 0, slots := 0, locals := 0 }) (tqP G cA [.int x, .int (-1), .int 0] [] sz) (tqQi G cA (fun (r : Int32) (u : Unit) => r = 0) (fun (u : Unit) => []) (va_A [] sz)) 0 0 (va_A [] sz) := by
  refine Met.ofW (cc := cX8_isIn) (maxL := 3) (ret := (some .boolean)) (by decide) rfl ?_
  intro p e s m args below meth c s₁ B hml hv
  obtain ⟨rfl, hsz, hP, hK, hD0, hN⟩ := hv
  have hx := B.exec
  have hb := B.bytes
  have hr := B.returns
  have hts := atoms_spec (ws := .code yX8_isIn cX8_isIn 3 (some .boolean) :: T0) B.pre
  have hT : ∀ w ∈ T0, w.before _ s = true := fun w h => hts w (List.mem_cons_of_mem _ h)
  have hown : s.vm.findClass RX8 = some m.cls := findClass_of_methodNamed B.named
  have hlocks := B.notSynchronized
  subst hsz
  have hD := hD0.self (sz := s.heap.size)
  generalize hAe : va_A [] s.heap.size = A at hD ⊢
  have hA : ∀ q : Nat, s.heap.size ≤ q → A q := fun q h => by rw [← hAe]; exact Or.inr h
  have hS : va_S A s.heap s.heap [] := va_S.rf
  have hl := lv_entry ([.int x, .int (-1), .int 0]) (n := 3) (Nat.le_of_ble_eq_true rfl)
  rw [lg_entry_eq]
  generalize (lg_sl ([.int x, .int (-1), .int 0]) ++ List.replicate (3 - (lg_sl ([.int x, .int (-1), .int 0])).length) Slot.unset).toArray = ls at hl ⊢
  have hl : lv_has ls 3 [(0, .int x), (1, .int (-1)), (2, .int 0)] := hl
  obtain ⟨H, hH⟩ : ∃ z, z = s.heap := ⟨_, rfl⟩
  rw [← hH] at hP
  have hS : va_S A s.heap H [] := by rw [hH]; exact hS
  suffices hgo : W p l e _ s m _ below meth c H [] 0 0 _ _ by rw [hH] at hgo; exact hgo
  have hO := hN.2.2.2.2
  refine lv_iload_n hx hb dX8_isIn_0 rfl (lv_at hl 0 rfl) ?_
  refine lv_iload_n hx hb dX8_isIn_1 rfl (lv_at hl 1 rfl) ?_
  refine lv_icmp_lt (tgt := 14) hx hb dX8_isIn_2 (by decide) (fun c101 => ?_) (fun c101 => ?_)
  · have k101 := tq_lt (a := x.toInt) (b := (-1)) rfl (by decide) c101
    exfalso
    omega
  · have k101 := tq_ltn (a := x.toInt) (b := (-1)) rfl (by decide) c101
    refine lv_iload_n hx hb dX8_isIn_5 rfl (lv_at hl 0 rfl) ?_
    refine lv_iload_n hx hb dX8_isIn_6 rfl (lv_at hl 2 rfl) ?_
    refine lv_icmp_gt (tgt := 14) hx hb dX8_isIn_7 (by decide) (fun c102 => ?_) (fun c102 => ?_)
    · have k102 := tq_lt (a := 0) (b := x.toInt) (by decide) rfl c102
      refine lv_iconst (v := 0) hx hb dX8_isIn_14 (by decide) ?_
      exact W.zret (v := 0) (ty := .boolean) hx hb hr rfl (fun t ht hW => ⟨⟨0, (), rfl, rfl, by rw [ht]; exact hP, hD⟩, hS.F ht⟩) hS.2.2 dX8_isIn_15
    · have k102 := tq_ltn (a := 0) (b := x.toInt) (by decide) rfl c102
      exfalso
      omega

set_option maxHeartbeats 4000000 in
set_option maxRecDepth 100000 in
theorem c_X8_isIn_i_m10 (l : Launch) (G : va_G) (cA : Nat → ClassId) (sz : Nat) (x : Int32) (hq : (-1) ≤ x.toInt ∧ x.toInt ≤ 0) : Met l yX8_isIn (.code yX8_isIn cX8_isIn 3 (some .boolean) :: T0) ({ frames := 0, cells := 0, slots := 0, locals := 0 }) (tqP G cA [.int x, .int (-1), .int 0] [] sz) (tqQi G cA (fun (r : Int32) (u : Unit) => r = 1) (fun (u : Unit) => []) (va_A [] sz)) 0 0 (va_A [] sz) := by
  refine Met.ofW (cc := cX8_isIn) (maxL := 3) (ret := (some .boolean)) (by decide) rfl ?_
  intro p e s m args below meth c s₁ B hml hv
  obtain ⟨rfl, hsz, hP, hK, hD0, hN⟩ := hv
  have hx := B.exec
  have hb := B.bytes
  have hr := B.returns
  have hts := atoms_spec (ws := .code yX8_isIn cX8_isIn 3 (some .boolean) :: T0) B.pre
  have hT : ∀ w ∈ T0, w.before _ s = true := fun w h => hts w (List.mem_cons_of_mem _ h)
  have hown : s.vm.findClass RX8 = some m.cls := findClass_of_methodNamed B.named
  have hlocks := B.notSynchronized
  subst hsz
  have hD := hD0.self (sz := s.heap.size)
  generalize hAe : va_A [] s.heap.size = A at hD ⊢
  have hA : ∀ q : Nat, s.heap.size ≤ q → A q := fun q h => by rw [← hAe]; exact Or.inr h
  have hS : va_S A s.heap s.heap [] := va_S.rf
  have hl := lv_entry ([.int x, .int (-1), .int 0]) (n := 3) (Nat.le_of_ble_eq_true rfl)
  rw [lg_entry_eq]
  generalize (lg_sl ([.int x, .int (-1), .int 0]) ++ List.replicate (3 - (lg_sl ([.int x, .int (-1), .int 0])).length) Slot.unset).toArray = ls at hl ⊢
  have hl : lv_has ls 3 [(0, .int x), (1, .int (-1)), (2, .int 0)] := hl
  obtain ⟨H, hH⟩ : ∃ z, z = s.heap := ⟨_, rfl⟩
  rw [← hH] at hP
  have hS : va_S A s.heap H [] := by rw [hH]; exact hS
  suffices hgo : W p l e _ s m _ below meth c H [] 0 0 _ _ by rw [hH] at hgo; exact hgo
  have hO := hN.2.2.2.2
  refine lv_iload_n hx hb dX8_isIn_0 rfl (lv_at hl 0 rfl) ?_
  refine lv_iload_n hx hb dX8_isIn_1 rfl (lv_at hl 1 rfl) ?_
  refine lv_icmp_lt (tgt := 14) hx hb dX8_isIn_2 (by decide) (fun c101 => ?_) (fun c101 => ?_)
  · have k101 := tq_lt (a := x.toInt) (b := (-1)) rfl (by decide) c101
    exfalso
    omega
  · have k101 := tq_ltn (a := x.toInt) (b := (-1)) rfl (by decide) c101
    refine lv_iload_n hx hb dX8_isIn_5 rfl (lv_at hl 0 rfl) ?_
    refine lv_iload_n hx hb dX8_isIn_6 rfl (lv_at hl 2 rfl) ?_
    refine lv_icmp_gt (tgt := 14) hx hb dX8_isIn_7 (by decide) (fun c102 => ?_) (fun c102 => ?_)
    · have k102 := tq_lt (a := 0) (b := x.toInt) (by decide) rfl c102
      exfalso
      omega
    · have k102 := tq_ltn (a := 0) (b := x.toInt) (by decide) rfl c102
      refine lv_iconst (v := 1) hx hb dX8_isIn_10 (by decide) ?_
      refine lv_goto (tgt := 15) hx hb dX8_isIn_11 (by decide) ?_
      exact W.zret (v := 1) (ty := .boolean) hx hb hr rfl (fun t ht hW => ⟨⟨1, (), rfl, rfl, by rw [ht]; exact hP, hD⟩, hS.F ht⟩) hS.2.2 dX8_isIn_15

set_option maxHeartbeats 4000000 in
set_option maxRecDepth 100000 in
theorem c_X8_isIn_l_021 (l : Launch) (G : va_G) (cA : Nat → ClassId) (sz : Nat) (x : Int32) (hq : x.toInt < 0) : Met l yX8_isIn (.code yX8_isIn cX8_isIn 3 (some .boolean) :: T0) ({ frames := 0, cells := 0, slots := 0, locals := 0 }) (tqP G cA [.int x, .int 0, .int 21] [] sz) (tqQi G cA (fun (r : Int32) (u : Unit) => r = 0) (fun (u : Unit) => []) (va_A [] sz)) 0 0 (va_A [] sz) := by
  refine Met.ofW (cc := cX8_isIn) (maxL := 3) (ret := (some .boolean)) (by decide) rfl ?_
  intro p e s m args below meth c s₁ B hml hv
  obtain ⟨rfl, hsz, hP, hK, hD0, hN⟩ := hv
  have hx := B.exec
  have hb := B.bytes
  have hr := B.returns
  have hts := atoms_spec (ws := .code yX8_isIn cX8_isIn 3 (some .boolean) :: T0) B.pre
  have hT : ∀ w ∈ T0, w.before _ s = true := fun w h => hts w (List.mem_cons_of_mem _ h)
  have hown : s.vm.findClass RX8 = some m.cls := findClass_of_methodNamed B.named
  have hlocks := B.notSynchronized
  subst hsz
  have hD := hD0.self (sz := s.heap.size)
  generalize hAe : va_A [] s.heap.size = A at hD ⊢
  have hA : ∀ q : Nat, s.heap.size ≤ q → A q := fun q h => by rw [← hAe]; exact Or.inr h
  have hS : va_S A s.heap s.heap [] := va_S.rf
  have hl := lv_entry ([.int x, .int 0, .int 21]) (n := 3) (Nat.le_of_ble_eq_true rfl)
  rw [lg_entry_eq]
  generalize (lg_sl ([.int x, .int 0, .int 21]) ++ List.replicate (3 - (lg_sl ([.int x, .int 0, .int 21])).length) Slot.unset).toArray = ls at hl ⊢
  have hl : lv_has ls 3 [(0, .int x), (1, .int 0), (2, .int 21)] := hl
  obtain ⟨H, hH⟩ : ∃ z, z = s.heap := ⟨_, rfl⟩
  rw [← hH] at hP
  have hS : va_S A s.heap H [] := by rw [hH]; exact hS
  suffices hgo : W p l e _ s m _ below meth c H [] 0 0 _ _ by rw [hH] at hgo; exact hgo
  have hO := hN.2.2.2.2
  refine lv_iload_n hx hb dX8_isIn_0 rfl (lv_at hl 0 rfl) ?_
  refine lv_iload_n hx hb dX8_isIn_1 rfl (lv_at hl 1 rfl) ?_
  refine lv_icmp_lt (tgt := 14) hx hb dX8_isIn_2 (by decide) (fun c101 => ?_) (fun c101 => ?_)
  · have k101 := tq_lt (a := x.toInt) (b := 0) rfl (by decide) c101
    refine lv_iconst (v := 0) hx hb dX8_isIn_14 (by decide) ?_
    exact W.zret (v := 0) (ty := .boolean) hx hb hr rfl (fun t ht hW => ⟨⟨0, (), rfl, rfl, by rw [ht]; exact hP, hD⟩, hS.F ht⟩) hS.2.2 dX8_isIn_15
  · have k101 := tq_ltn (a := x.toInt) (b := 0) rfl (by decide) c101
    exfalso
    omega

set_option maxHeartbeats 4000000 in
set_option maxRecDepth 100000 in
theorem c_X8_isIn_h_021 (l : Launch) (G : va_G) (cA : Nat → ClassId) (sz : Nat) (x : Int32) (hq : 21 < x.toInt) : Met l yX8_isIn (.code yX8_isIn cX8_isIn 3 (some .boolean) :: T0) ({ frames := 0, cells := 0, slots := 0, locals := 0 }) (tqP G cA [.int x, .int 0, .int 21] [] sz) (tqQi G cA (fun (r : Int32) (u : Unit) => r = 0) (fun (u : Unit) => []) (va_A [] sz)) 0 0 (va_A [] sz) := by
  refine Met.ofW (cc := cX8_isIn) (maxL := 3) (ret := (some .boolean)) (by decide) rfl ?_
  intro p e s m args below meth c s₁ B hml hv
  obtain ⟨rfl, hsz, hP, hK, hD0, hN⟩ := hv
  have hx := B.exec
  have hb := B.bytes
  have hr := B.returns
  have hts := atoms_spec (ws := .code yX8_isIn cX8_isIn 3 (some .boolean) :: T0) B.pre
  have hT : ∀ w ∈ T0, w.before _ s = true := fun w h => hts w (List.mem_cons_of_mem _ h)
  have hown : s.vm.findClass RX8 = some m.cls := findClass_of_methodNamed B.named
  have hlocks := B.notSynchronized
  subst hsz
  have hD := hD0.self (sz := s.heap.size)
  generalize hAe : va_A [] s.heap.size = A at hD ⊢
  have hA : ∀ q : Nat, s.heap.size ≤ q → A q := fun q h => by rw [← hAe]; exact Or.inr h
  have hS : va_S A s.heap s.heap [] := va_S.rf
  have hl := lv_entry ([.int x, .int 0, .int 21]) (n := 3) (Nat.le_of_ble_eq_true rfl)
  rw [lg_entry_eq]
  generalize (lg_sl ([.int x, .int 0, .int 21]) ++ List.replicate (3 - (lg_sl ([.int x, .int 0, .int 21])).length) Slot.unset).toArray = ls at hl ⊢
  have hl : lv_has ls 3 [(0, .int x), (1, .int 0), (2, .int 21)] := hl
  obtain ⟨H, hH⟩ : ∃ z, z = s.heap := ⟨_, rfl⟩
  rw [← hH] at hP
  have hS : va_S A s.heap H [] := by rw [hH]; exact hS
  suffices hgo : W p l e _ s m _ below meth c H [] 0 0 _ _ by rw [hH] at hgo; exact hgo
  have hO := hN.2.2.2.2
  refine lv_iload_n hx hb dX8_isIn_0 rfl (lv_at hl 0 rfl) ?_
  refine lv_iload_n hx hb dX8_isIn_1 rfl (lv_at hl 1 rfl) ?_
  refine lv_icmp_lt (tgt := 14) hx hb dX8_isIn_2 (by decide) (fun c101 => ?_) (fun c101 => ?_)
  · have k101 := tq_lt (a := x.toInt) (b := 0) rfl (by decide) c101
    exfalso
    omega
  · have k101 := tq_ltn (a := x.toInt) (b := 0) rfl (by decide) c101
    refine lv_iload_n hx hb dX8_isIn_5 rfl (lv_at hl 0 rfl) ?_
    refine lv_iload_n hx hb dX8_isIn_6 rfl (lv_at hl 2 rfl) ?_
    refine lv_icmp_gt (tgt := 14) hx hb dX8_isIn_7 (by decide) (fun c102 => ?_) (fun c102 => ?_)
    · have k102 := tq_lt (a := 21) (b := x.toInt) (by decide) rfl c102
      refine lv_iconst (v := 0) hx hb dX8_isIn_14 (by decide) ?_
      exact W.zret (v := 0) (ty := .boolean) hx hb hr rfl (fun t ht hW => ⟨⟨0, (), rfl, rfl, by rw [ht]; exact hP, hD⟩, hS.F ht⟩) hS.2.2 dX8_isIn_15
    · have k102 := tq_ltn (a := 21) (b := x.toInt) (by decide) rfl c102
      exfalso
      omega

set_option maxHeartbeats 4000000 in
set_option maxRecDepth 100000 in
theorem c_X8_isIn_i_021 (l : Launch) (G : va_G) (cA : Nat → ClassId) (sz : Nat) (x : Int32) (hq : 0 ≤ x.toInt ∧ x.toInt ≤ 21) : Met l yX8_isIn (.code yX8_isIn cX8_isIn 3 (some .boolean) :: T0) ({ frames := 0, cells := 0, slots := 0, locals := 0 }) (tqP G cA [.int x, .int 0, .int 21] [] sz) (tqQi G cA (fun (r : Int32) (u : Unit) => r = 1) (fun (u : Unit) => []) (va_A [] sz)) 0 0 (va_A [] sz) := by
  refine Met.ofW (cc := cX8_isIn) (maxL := 3) (ret := (some .boolean)) (by decide) rfl ?_
  intro p e s m args below meth c s₁ B hml hv
  obtain ⟨rfl, hsz, hP, hK, hD0, hN⟩ := hv
  have hx := B.exec
  have hb := B.bytes
  have hr := B.returns
  have hts := atoms_spec (ws := .code yX8_isIn cX8_isIn 3 (some .boolean) :: T0) B.pre
  have hT : ∀ w ∈ T0, w.before _ s = true := fun w h => hts w (List.mem_cons_of_mem _ h)
  have hown : s.vm.findClass RX8 = some m.cls := findClass_of_methodNamed B.named
  have hlocks := B.notSynchronized
  subst hsz
  have hD := hD0.self (sz := s.heap.size)
  generalize hAe : va_A [] s.heap.size = A at hD ⊢
  have hA : ∀ q : Nat, s.heap.size ≤ q → A q := fun q h => by rw [← hAe]; exact Or.inr h
  have hS : va_S A s.heap s.heap [] := va_S.rf
  have hl := lv_entry ([.int x, .int 0, .int 21]) (n := 3) (Nat.le_of_ble_eq_true rfl)
  rw [lg_entry_eq]
  generalize (lg_sl ([.int x, .int 0, .int 21]) ++ List.replicate (3 - (lg_sl ([.int x, .int 0, .int 21])).length) Slot.unset).toArray = ls at hl ⊢
  have hl : lv_has ls 3 [(0, .int x), (1, .int 0), (2, .int 21)] := hl
  obtain ⟨H, hH⟩ : ∃ z, z = s.heap := ⟨_, rfl⟩
  rw [← hH] at hP
  have hS : va_S A s.heap H [] := by rw [hH]; exact hS
  suffices hgo : W p l e _ s m _ below meth c H [] 0 0 _ _ by rw [hH] at hgo; exact hgo
  have hO := hN.2.2.2.2
  refine lv_iload_n hx hb dX8_isIn_0 rfl (lv_at hl 0 rfl) ?_
  refine lv_iload_n hx hb dX8_isIn_1 rfl (lv_at hl 1 rfl) ?_
  refine lv_icmp_lt (tgt := 14) hx hb dX8_isIn_2 (by decide) (fun c101 => ?_) (fun c101 => ?_)
  · have k101 := tq_lt (a := x.toInt) (b := 0) rfl (by decide) c101
    exfalso
    omega
  · have k101 := tq_ltn (a := x.toInt) (b := 0) rfl (by decide) c101
    refine lv_iload_n hx hb dX8_isIn_5 rfl (lv_at hl 0 rfl) ?_
    refine lv_iload_n hx hb dX8_isIn_6 rfl (lv_at hl 2 rfl) ?_
    refine lv_icmp_gt (tgt := 14) hx hb dX8_isIn_7 (by decide) (fun c102 => ?_) (fun c102 => ?_)
    · have k102 := tq_lt (a := 21) (b := x.toInt) (by decide) rfl c102
      exfalso
      omega
    · have k102 := tq_ltn (a := 21) (b := x.toInt) (by decide) rfl c102
      refine lv_iconst (v := 1) hx hb dX8_isIn_10 (by decide) ?_
      refine lv_goto (tgt := 15) hx hb dX8_isIn_11 (by decide) ?_
      exact W.zret (v := 1) (ty := .boolean) hx hb hr rfl (fun t ht hW => ⟨⟨1, (), rfl, rfl, by rw [ht]; exact hP, hD⟩, hS.F ht⟩) hS.2.2 dX8_isIn_15

set_option maxHeartbeats 4000000 in
set_option maxRecDepth 100000 in
theorem c_X8_copies_3 (l : Launch) (G : va_G) (cA : Nat → ClassId) (sz : Nat) (ra : Nat) (fr : Nat → Int32)  : Met l yX8_copies (.code yX8_copies cX8_copies 3 none :: T0) ({ frames := 0, cells := 0, slots := 0, locals := 0 }) (tqP G cA [.ref ra, .int 3] [(ra, .inl (cA 0, 6, .inl fr))] sz) (tqQv G cA (fun (u : (Nat → Int32)) => True) (fun (u : (Nat → Int32)) => [(ra, .inl (cA 0, 6, .inl u))]) (va_A [(ra, .inl (cA 0, 6, .inl fr))] sz)) 0 0 (va_A [(ra, .inl (cA 0, 6, .inl fr))] sz) := by
  refine Met.ofW (cc := cX8_copies) (maxL := 3) (ret := none) (by decide) rfl ?_
  intro p e s m args below meth c s₁ B hml hv
  obtain ⟨rfl, hsz, hP, hK, hD0, hN⟩ := hv
  have hx := B.exec
  have hb := B.bytes
  have hr := B.returns
  have hts := atoms_spec (ws := .code yX8_copies cX8_copies 3 none :: T0) B.pre
  have hT : ∀ w ∈ T0, w.before _ s = true := fun w h => hts w (List.mem_cons_of_mem _ h)
  have hown : s.vm.findClass RX8 = some m.cls := findClass_of_methodNamed B.named
  have hlocks := B.notSynchronized
  subst hsz
  have hD := hD0.self (sz := s.heap.size)
  generalize hAe : va_A [(ra, .inl (cA 0, 6, .inl fr))] s.heap.size = A at hD ⊢
  have hA : ∀ q : Nat, s.heap.size ≤ q → A q := fun q h => by rw [← hAe]; exact Or.inr h
  have hS : va_S A s.heap s.heap [] := va_S.rf
  have hl := lv_entry ([.ref ra, .int 3]) (n := 3) (Nat.le_of_ble_eq_true rfl)
  rw [lg_entry_eq]
  generalize (lg_sl ([.ref ra, .int 3]) ++ List.replicate (3 - (lg_sl ([.ref ra, .int 3])).length) Slot.unset).toArray = ls at hl ⊢
  have hl : lv_has ls 3 [(0, .ref ra), (1, .int 3)] := hl
  obtain ⟨H, hH⟩ : ∃ z, z = s.heap := ⟨_, rfl⟩
  rw [← hH] at hP
  have hS : va_S A s.heap H [] := by rw [hH]; exact hS
  suffices hgo : W p l e _ s m _ below meth c H [] 0 0 _ _ by rw [hH] at hgo; exact hgo
  have hO := hN.2.2.2.2
  refine lv_iconst (v := 0) hx hb dX8_copies_0 (by decide) ?_
  refine lv_istore_n (lv' := [(2, .int 0), (0, .ref ra), (1, .int 3)]) hx hb dX8_copies_1 rfl hl (by decide) rfl (fun ls hl => ?_)
  refine lv_iload_n hx hb dX8_copies_2 rfl (lv_at hl 0 rfl) ?_
  refine lv_iload_n hx hb dX8_copies_3 rfl (lv_at hl 2 rfl) ?_
  refine lv_icmp_ge (tgt := 21) hx hb dX8_copies_4 (by decide) (fun c101 => absurd c101 (by decide)) (fun c101 => ?_)
  refine lv_aload_n hx hb dX8_copies_7 rfl (lv_at hl 1 rfl) ?_
  refine lv_iload_n hx hb dX8_copies_8 rfl (lv_at hl 0 rfl) ?_
  refine lv_aload_n hx hb dX8_copies_9 rfl (lv_at hl 1 rfl) ?_
  refine lv_iload_n hx hb dX8_copies_10 rfl (lv_at hl 2 rfl) ?_
  refine lv_iload_n hx hb dX8_copies_11 rfl (lv_at hl 0 rfl) ?_
  refine lv_iadd hx hb dX8_copies_12 ?_
  refine tq_i (w := 3) (by decide) ?_
  refine va_iald (i := 3) hx hb hK hP 0 0 rfl rfl (tq_in (by decide)) dX8_copies_13 ?_
  refine lv_topi (fun x102 ex102 => ?_)
  refine va_iast (i := 0) hx hb hK hP hD hS 0 0 rfl rfl (tq_in (by decide)) dX8_copies_14 (fun H locs hP hD hS => ?_)
  have hP : va_P G vwCl [(ra, .inl (cA 0, 6, .inl ((upd fr (0 : Int32).toNatClampNeg x102))))] H := hP
  have hD : va_D A [(ra, .inl (cA 0, 6, .inl ((upd fr (0 : Int32).toNatClampNeg x102))))] := hD
  generalize (upd fr (0 : Int32).toNatClampNeg x102) = f103 at hP hD
  refine lv_iinc (v := 1) (lv' := [(2, .int 1), (0, .ref ra), (1, .int 3)]) hx hb dX8_copies_15 hl (k := 0) rfl (by decide) (by decide) rfl (fun ls hl => ?_)
  refine lv_goto (tgt := 2) hx hb dX8_copies_18 (by decide) ?_
  refine lv_iload_n hx hb dX8_copies_2 rfl (lv_at hl 0 rfl) ?_
  refine lv_iload_n hx hb dX8_copies_3 rfl (lv_at hl 2 rfl) ?_
  refine lv_icmp_ge (tgt := 21) hx hb dX8_copies_4 (by decide) (fun c104 => absurd c104 (by decide)) (fun c104 => ?_)
  refine lv_aload_n hx hb dX8_copies_7 rfl (lv_at hl 1 rfl) ?_
  refine lv_iload_n hx hb dX8_copies_8 rfl (lv_at hl 0 rfl) ?_
  refine lv_aload_n hx hb dX8_copies_9 rfl (lv_at hl 1 rfl) ?_
  refine lv_iload_n hx hb dX8_copies_10 rfl (lv_at hl 2 rfl) ?_
  refine lv_iload_n hx hb dX8_copies_11 rfl (lv_at hl 0 rfl) ?_
  refine lv_iadd hx hb dX8_copies_12 ?_
  refine tq_i (w := 4) (by decide) ?_
  refine va_iald (i := 4) hx hb hK hP 0 0 rfl rfl (tq_in (by decide)) dX8_copies_13 ?_
  refine lv_topi (fun x105 ex105 => ?_)
  refine va_iast (i := 1) hx hb hK hP hD hS 0 0 rfl rfl (tq_in (by decide)) dX8_copies_14 (fun H locs hP hD hS => ?_)
  have hP : va_P G vwCl [(ra, .inl (cA 0, 6, .inl ((upd f103 (1 : Int32).toNatClampNeg x105))))] H := hP
  have hD : va_D A [(ra, .inl (cA 0, 6, .inl ((upd f103 (1 : Int32).toNatClampNeg x105))))] := hD
  generalize (upd f103 (1 : Int32).toNatClampNeg x105) = f106 at hP hD
  refine lv_iinc (v := 2) (lv' := [(2, .int 2), (0, .ref ra), (1, .int 3)]) hx hb dX8_copies_15 hl (k := 0) rfl (by decide) (by decide) rfl (fun ls hl => ?_)
  refine lv_goto (tgt := 2) hx hb dX8_copies_18 (by decide) ?_
  refine lv_iload_n hx hb dX8_copies_2 rfl (lv_at hl 0 rfl) ?_
  refine lv_iload_n hx hb dX8_copies_3 rfl (lv_at hl 2 rfl) ?_
  refine lv_icmp_ge (tgt := 21) hx hb dX8_copies_4 (by decide) (fun c107 => absurd c107 (by decide)) (fun c107 => ?_)
  refine lv_aload_n hx hb dX8_copies_7 rfl (lv_at hl 1 rfl) ?_
  refine lv_iload_n hx hb dX8_copies_8 rfl (lv_at hl 0 rfl) ?_
  refine lv_aload_n hx hb dX8_copies_9 rfl (lv_at hl 1 rfl) ?_
  refine lv_iload_n hx hb dX8_copies_10 rfl (lv_at hl 2 rfl) ?_
  refine lv_iload_n hx hb dX8_copies_11 rfl (lv_at hl 0 rfl) ?_
  refine lv_iadd hx hb dX8_copies_12 ?_
  refine tq_i (w := 5) (by decide) ?_
  refine va_iald (i := 5) hx hb hK hP 0 0 rfl rfl (tq_in (by decide)) dX8_copies_13 ?_
  refine lv_topi (fun x108 ex108 => ?_)
  refine va_iast (i := 2) hx hb hK hP hD hS 0 0 rfl rfl (tq_in (by decide)) dX8_copies_14 (fun H locs hP hD hS => ?_)
  have hP : va_P G vwCl [(ra, .inl (cA 0, 6, .inl ((upd f106 (2 : Int32).toNatClampNeg x108))))] H := hP
  have hD : va_D A [(ra, .inl (cA 0, 6, .inl ((upd f106 (2 : Int32).toNatClampNeg x108))))] := hD
  generalize (upd f106 (2 : Int32).toNatClampNeg x108) = f109 at hP hD
  refine lv_iinc (v := 3) (lv' := [(2, .int 3), (0, .ref ra), (1, .int 3)]) hx hb dX8_copies_15 hl (k := 0) rfl (by decide) (by decide) rfl (fun ls hl => ?_)
  refine lv_goto (tgt := 2) hx hb dX8_copies_18 (by decide) ?_
  refine lv_iload_n hx hb dX8_copies_2 rfl (lv_at hl 0 rfl) ?_
  refine lv_iload_n hx hb dX8_copies_3 rfl (lv_at hl 2 rfl) ?_
  refine lv_icmp_ge (tgt := 21) hx hb dX8_copies_4 (by decide) (fun c110 => ?_) (fun c110 => absurd (by decide) c110)
  exact W.vret hx hb hr (fun t ht hW => ⟨⟨f109, rfl, trivial, by rw [ht]; exact hP, hD⟩, hS.F ht⟩) hS.2.2 dX8_copies_21

set_option maxHeartbeats 4000000 in
set_option maxRecDepth 100000 in
theorem c_X8_copies_5 (l : Launch) (G : va_G) (cA : Nat → ClassId) (sz : Nat) (ra : Nat) (fr : Nat → Int32)  : Met l yX8_copies (.code yX8_copies cX8_copies 3 none :: T0) ({ frames := 0, cells := 0, slots := 0, locals := 0 }) (tqP G cA [.ref ra, .int 5] [(ra, .inl (cA 0, 10, .inl fr))] sz) (tqQv G cA (fun (u : (Nat → Int32)) => True) (fun (u : (Nat → Int32)) => [(ra, .inl (cA 0, 10, .inl u))]) (va_A [(ra, .inl (cA 0, 10, .inl fr))] sz)) 0 0 (va_A [(ra, .inl (cA 0, 10, .inl fr))] sz) := by
  refine Met.ofW (cc := cX8_copies) (maxL := 3) (ret := none) (by decide) rfl ?_
  intro p e s m args below meth c s₁ B hml hv
  obtain ⟨rfl, hsz, hP, hK, hD0, hN⟩ := hv
  have hx := B.exec
  have hb := B.bytes
  have hr := B.returns
  have hts := atoms_spec (ws := .code yX8_copies cX8_copies 3 none :: T0) B.pre
  have hT : ∀ w ∈ T0, w.before _ s = true := fun w h => hts w (List.mem_cons_of_mem _ h)
  have hown : s.vm.findClass RX8 = some m.cls := findClass_of_methodNamed B.named
  have hlocks := B.notSynchronized
  subst hsz
  have hD := hD0.self (sz := s.heap.size)
  generalize hAe : va_A [(ra, .inl (cA 0, 10, .inl fr))] s.heap.size = A at hD ⊢
  have hA : ∀ q : Nat, s.heap.size ≤ q → A q := fun q h => by rw [← hAe]; exact Or.inr h
  have hS : va_S A s.heap s.heap [] := va_S.rf
  have hl := lv_entry ([.ref ra, .int 5]) (n := 3) (Nat.le_of_ble_eq_true rfl)
  rw [lg_entry_eq]
  generalize (lg_sl ([.ref ra, .int 5]) ++ List.replicate (3 - (lg_sl ([.ref ra, .int 5])).length) Slot.unset).toArray = ls at hl ⊢
  have hl : lv_has ls 3 [(0, .ref ra), (1, .int 5)] := hl
  obtain ⟨H, hH⟩ : ∃ z, z = s.heap := ⟨_, rfl⟩
  rw [← hH] at hP
  have hS : va_S A s.heap H [] := by rw [hH]; exact hS
  suffices hgo : W p l e _ s m _ below meth c H [] 0 0 _ _ by rw [hH] at hgo; exact hgo
  have hO := hN.2.2.2.2
  refine lv_iconst (v := 0) hx hb dX8_copies_0 (by decide) ?_
  refine lv_istore_n (lv' := [(2, .int 0), (0, .ref ra), (1, .int 5)]) hx hb dX8_copies_1 rfl hl (by decide) rfl (fun ls hl => ?_)
  refine lv_iload_n hx hb dX8_copies_2 rfl (lv_at hl 0 rfl) ?_
  refine lv_iload_n hx hb dX8_copies_3 rfl (lv_at hl 2 rfl) ?_
  refine lv_icmp_ge (tgt := 21) hx hb dX8_copies_4 (by decide) (fun c101 => absurd c101 (by decide)) (fun c101 => ?_)
  refine lv_aload_n hx hb dX8_copies_7 rfl (lv_at hl 1 rfl) ?_
  refine lv_iload_n hx hb dX8_copies_8 rfl (lv_at hl 0 rfl) ?_
  refine lv_aload_n hx hb dX8_copies_9 rfl (lv_at hl 1 rfl) ?_
  refine lv_iload_n hx hb dX8_copies_10 rfl (lv_at hl 2 rfl) ?_
  refine lv_iload_n hx hb dX8_copies_11 rfl (lv_at hl 0 rfl) ?_
  refine lv_iadd hx hb dX8_copies_12 ?_
  refine tq_i (w := 5) (by decide) ?_
  refine va_iald (i := 5) hx hb hK hP 0 0 rfl rfl (tq_in (by decide)) dX8_copies_13 ?_
  refine lv_topi (fun x102 ex102 => ?_)
  refine va_iast (i := 0) hx hb hK hP hD hS 0 0 rfl rfl (tq_in (by decide)) dX8_copies_14 (fun H locs hP hD hS => ?_)
  have hP : va_P G vwCl [(ra, .inl (cA 0, 10, .inl ((upd fr (0 : Int32).toNatClampNeg x102))))] H := hP
  have hD : va_D A [(ra, .inl (cA 0, 10, .inl ((upd fr (0 : Int32).toNatClampNeg x102))))] := hD
  generalize (upd fr (0 : Int32).toNatClampNeg x102) = f103 at hP hD
  refine lv_iinc (v := 1) (lv' := [(2, .int 1), (0, .ref ra), (1, .int 5)]) hx hb dX8_copies_15 hl (k := 0) rfl (by decide) (by decide) rfl (fun ls hl => ?_)
  refine lv_goto (tgt := 2) hx hb dX8_copies_18 (by decide) ?_
  refine lv_iload_n hx hb dX8_copies_2 rfl (lv_at hl 0 rfl) ?_
  refine lv_iload_n hx hb dX8_copies_3 rfl (lv_at hl 2 rfl) ?_
  refine lv_icmp_ge (tgt := 21) hx hb dX8_copies_4 (by decide) (fun c104 => absurd c104 (by decide)) (fun c104 => ?_)
  refine lv_aload_n hx hb dX8_copies_7 rfl (lv_at hl 1 rfl) ?_
  refine lv_iload_n hx hb dX8_copies_8 rfl (lv_at hl 0 rfl) ?_
  refine lv_aload_n hx hb dX8_copies_9 rfl (lv_at hl 1 rfl) ?_
  refine lv_iload_n hx hb dX8_copies_10 rfl (lv_at hl 2 rfl) ?_
  refine lv_iload_n hx hb dX8_copies_11 rfl (lv_at hl 0 rfl) ?_
  refine lv_iadd hx hb dX8_copies_12 ?_
  refine tq_i (w := 6) (by decide) ?_
  refine va_iald (i := 6) hx hb hK hP 0 0 rfl rfl (tq_in (by decide)) dX8_copies_13 ?_
  refine lv_topi (fun x105 ex105 => ?_)
  refine va_iast (i := 1) hx hb hK hP hD hS 0 0 rfl rfl (tq_in (by decide)) dX8_copies_14 (fun H locs hP hD hS => ?_)
  have hP : va_P G vwCl [(ra, .inl (cA 0, 10, .inl ((upd f103 (1 : Int32).toNatClampNeg x105))))] H := hP
  have hD : va_D A [(ra, .inl (cA 0, 10, .inl ((upd f103 (1 : Int32).toNatClampNeg x105))))] := hD
  generalize (upd f103 (1 : Int32).toNatClampNeg x105) = f106 at hP hD
  refine lv_iinc (v := 2) (lv' := [(2, .int 2), (0, .ref ra), (1, .int 5)]) hx hb dX8_copies_15 hl (k := 0) rfl (by decide) (by decide) rfl (fun ls hl => ?_)
  refine lv_goto (tgt := 2) hx hb dX8_copies_18 (by decide) ?_
  refine lv_iload_n hx hb dX8_copies_2 rfl (lv_at hl 0 rfl) ?_
  refine lv_iload_n hx hb dX8_copies_3 rfl (lv_at hl 2 rfl) ?_
  refine lv_icmp_ge (tgt := 21) hx hb dX8_copies_4 (by decide) (fun c107 => absurd c107 (by decide)) (fun c107 => ?_)
  refine lv_aload_n hx hb dX8_copies_7 rfl (lv_at hl 1 rfl) ?_
  refine lv_iload_n hx hb dX8_copies_8 rfl (lv_at hl 0 rfl) ?_
  refine lv_aload_n hx hb dX8_copies_9 rfl (lv_at hl 1 rfl) ?_
  refine lv_iload_n hx hb dX8_copies_10 rfl (lv_at hl 2 rfl) ?_
  refine lv_iload_n hx hb dX8_copies_11 rfl (lv_at hl 0 rfl) ?_
  refine lv_iadd hx hb dX8_copies_12 ?_
  refine tq_i (w := 7) (by decide) ?_
  refine va_iald (i := 7) hx hb hK hP 0 0 rfl rfl (tq_in (by decide)) dX8_copies_13 ?_
  refine lv_topi (fun x108 ex108 => ?_)
  refine va_iast (i := 2) hx hb hK hP hD hS 0 0 rfl rfl (tq_in (by decide)) dX8_copies_14 (fun H locs hP hD hS => ?_)
  have hP : va_P G vwCl [(ra, .inl (cA 0, 10, .inl ((upd f106 (2 : Int32).toNatClampNeg x108))))] H := hP
  have hD : va_D A [(ra, .inl (cA 0, 10, .inl ((upd f106 (2 : Int32).toNatClampNeg x108))))] := hD
  generalize (upd f106 (2 : Int32).toNatClampNeg x108) = f109 at hP hD
  refine lv_iinc (v := 3) (lv' := [(2, .int 3), (0, .ref ra), (1, .int 5)]) hx hb dX8_copies_15 hl (k := 0) rfl (by decide) (by decide) rfl (fun ls hl => ?_)
  refine lv_goto (tgt := 2) hx hb dX8_copies_18 (by decide) ?_
  refine lv_iload_n hx hb dX8_copies_2 rfl (lv_at hl 0 rfl) ?_
  refine lv_iload_n hx hb dX8_copies_3 rfl (lv_at hl 2 rfl) ?_
  refine lv_icmp_ge (tgt := 21) hx hb dX8_copies_4 (by decide) (fun c110 => absurd c110 (by decide)) (fun c110 => ?_)
  refine lv_aload_n hx hb dX8_copies_7 rfl (lv_at hl 1 rfl) ?_
  refine lv_iload_n hx hb dX8_copies_8 rfl (lv_at hl 0 rfl) ?_
  refine lv_aload_n hx hb dX8_copies_9 rfl (lv_at hl 1 rfl) ?_
  refine lv_iload_n hx hb dX8_copies_10 rfl (lv_at hl 2 rfl) ?_
  refine lv_iload_n hx hb dX8_copies_11 rfl (lv_at hl 0 rfl) ?_
  refine lv_iadd hx hb dX8_copies_12 ?_
  refine tq_i (w := 8) (by decide) ?_
  refine va_iald (i := 8) hx hb hK hP 0 0 rfl rfl (tq_in (by decide)) dX8_copies_13 ?_
  refine lv_topi (fun x111 ex111 => ?_)
  refine va_iast (i := 3) hx hb hK hP hD hS 0 0 rfl rfl (tq_in (by decide)) dX8_copies_14 (fun H locs hP hD hS => ?_)
  have hP : va_P G vwCl [(ra, .inl (cA 0, 10, .inl ((upd f109 (3 : Int32).toNatClampNeg x111))))] H := hP
  have hD : va_D A [(ra, .inl (cA 0, 10, .inl ((upd f109 (3 : Int32).toNatClampNeg x111))))] := hD
  generalize (upd f109 (3 : Int32).toNatClampNeg x111) = f112 at hP hD
  refine lv_iinc (v := 4) (lv' := [(2, .int 4), (0, .ref ra), (1, .int 5)]) hx hb dX8_copies_15 hl (k := 0) rfl (by decide) (by decide) rfl (fun ls hl => ?_)
  refine lv_goto (tgt := 2) hx hb dX8_copies_18 (by decide) ?_
  refine lv_iload_n hx hb dX8_copies_2 rfl (lv_at hl 0 rfl) ?_
  refine lv_iload_n hx hb dX8_copies_3 rfl (lv_at hl 2 rfl) ?_
  refine lv_icmp_ge (tgt := 21) hx hb dX8_copies_4 (by decide) (fun c113 => absurd c113 (by decide)) (fun c113 => ?_)
  refine lv_aload_n hx hb dX8_copies_7 rfl (lv_at hl 1 rfl) ?_
  refine lv_iload_n hx hb dX8_copies_8 rfl (lv_at hl 0 rfl) ?_
  refine lv_aload_n hx hb dX8_copies_9 rfl (lv_at hl 1 rfl) ?_
  refine lv_iload_n hx hb dX8_copies_10 rfl (lv_at hl 2 rfl) ?_
  refine lv_iload_n hx hb dX8_copies_11 rfl (lv_at hl 0 rfl) ?_
  refine lv_iadd hx hb dX8_copies_12 ?_
  refine tq_i (w := 9) (by decide) ?_
  refine va_iald (i := 9) hx hb hK hP 0 0 rfl rfl (tq_in (by decide)) dX8_copies_13 ?_
  refine lv_topi (fun x114 ex114 => ?_)
  refine va_iast (i := 4) hx hb hK hP hD hS 0 0 rfl rfl (tq_in (by decide)) dX8_copies_14 (fun H locs hP hD hS => ?_)
  have hP : va_P G vwCl [(ra, .inl (cA 0, 10, .inl ((upd f112 (4 : Int32).toNatClampNeg x114))))] H := hP
  have hD : va_D A [(ra, .inl (cA 0, 10, .inl ((upd f112 (4 : Int32).toNatClampNeg x114))))] := hD
  generalize (upd f112 (4 : Int32).toNatClampNeg x114) = f115 at hP hD
  refine lv_iinc (v := 5) (lv' := [(2, .int 5), (0, .ref ra), (1, .int 5)]) hx hb dX8_copies_15 hl (k := 0) rfl (by decide) (by decide) rfl (fun ls hl => ?_)
  refine lv_goto (tgt := 2) hx hb dX8_copies_18 (by decide) ?_
  refine lv_iload_n hx hb dX8_copies_2 rfl (lv_at hl 0 rfl) ?_
  refine lv_iload_n hx hb dX8_copies_3 rfl (lv_at hl 2 rfl) ?_
  refine lv_icmp_ge (tgt := 21) hx hb dX8_copies_4 (by decide) (fun c116 => ?_) (fun c116 => absurd (by decide) c116)
  exact W.vret hx hb hr (fun t ht hW => ⟨⟨f115, rfl, trivial, by rw [ht]; exact hP, hD⟩, hS.F ht⟩) hS.2.2 dX8_copies_21

set_option maxHeartbeats 4000000 in
set_option maxRecDepth 100000 in
theorem c_X8_copies_6 (l : Launch) (G : va_G) (cA : Nat → ClassId) (sz : Nat) (ra : Nat) (fr : Nat → Int32)  : Met l yX8_copies (.code yX8_copies cX8_copies 3 none :: T0) ({ frames := 0, cells := 0, slots := 0, locals := 0 }) (tqP G cA [.ref ra, .int 6] [(ra, .inl (cA 0, 12, .inl fr))] sz) (tqQv G cA (fun (u : (Nat → Int32)) => True) (fun (u : (Nat → Int32)) => [(ra, .inl (cA 0, 12, .inl u))]) (va_A [(ra, .inl (cA 0, 12, .inl fr))] sz)) 0 0 (va_A [(ra, .inl (cA 0, 12, .inl fr))] sz) := by
  refine Met.ofW (cc := cX8_copies) (maxL := 3) (ret := none) (by decide) rfl ?_
  intro p e s m args below meth c s₁ B hml hv
  obtain ⟨rfl, hsz, hP, hK, hD0, hN⟩ := hv
  have hx := B.exec
  have hb := B.bytes
  have hr := B.returns
  have hts := atoms_spec (ws := .code yX8_copies cX8_copies 3 none :: T0) B.pre
  have hT : ∀ w ∈ T0, w.before _ s = true := fun w h => hts w (List.mem_cons_of_mem _ h)
  have hown : s.vm.findClass RX8 = some m.cls := findClass_of_methodNamed B.named
  have hlocks := B.notSynchronized
  subst hsz
  have hD := hD0.self (sz := s.heap.size)
  generalize hAe : va_A [(ra, .inl (cA 0, 12, .inl fr))] s.heap.size = A at hD ⊢
  have hA : ∀ q : Nat, s.heap.size ≤ q → A q := fun q h => by rw [← hAe]; exact Or.inr h
  have hS : va_S A s.heap s.heap [] := va_S.rf
  have hl := lv_entry ([.ref ra, .int 6]) (n := 3) (Nat.le_of_ble_eq_true rfl)
  rw [lg_entry_eq]
  generalize (lg_sl ([.ref ra, .int 6]) ++ List.replicate (3 - (lg_sl ([.ref ra, .int 6])).length) Slot.unset).toArray = ls at hl ⊢
  have hl : lv_has ls 3 [(0, .ref ra), (1, .int 6)] := hl
  obtain ⟨H, hH⟩ : ∃ z, z = s.heap := ⟨_, rfl⟩
  rw [← hH] at hP
  have hS : va_S A s.heap H [] := by rw [hH]; exact hS
  suffices hgo : W p l e _ s m _ below meth c H [] 0 0 _ _ by rw [hH] at hgo; exact hgo
  have hO := hN.2.2.2.2
  refine lv_iconst (v := 0) hx hb dX8_copies_0 (by decide) ?_
  refine lv_istore_n (lv' := [(2, .int 0), (0, .ref ra), (1, .int 6)]) hx hb dX8_copies_1 rfl hl (by decide) rfl (fun ls hl => ?_)
  refine lv_iload_n hx hb dX8_copies_2 rfl (lv_at hl 0 rfl) ?_
  refine lv_iload_n hx hb dX8_copies_3 rfl (lv_at hl 2 rfl) ?_
  refine lv_icmp_ge (tgt := 21) hx hb dX8_copies_4 (by decide) (fun c101 => absurd c101 (by decide)) (fun c101 => ?_)
  refine lv_aload_n hx hb dX8_copies_7 rfl (lv_at hl 1 rfl) ?_
  refine lv_iload_n hx hb dX8_copies_8 rfl (lv_at hl 0 rfl) ?_
  refine lv_aload_n hx hb dX8_copies_9 rfl (lv_at hl 1 rfl) ?_
  refine lv_iload_n hx hb dX8_copies_10 rfl (lv_at hl 2 rfl) ?_
  refine lv_iload_n hx hb dX8_copies_11 rfl (lv_at hl 0 rfl) ?_
  refine lv_iadd hx hb dX8_copies_12 ?_
  refine tq_i (w := 6) (by decide) ?_
  refine va_iald (i := 6) hx hb hK hP 0 0 rfl rfl (tq_in (by decide)) dX8_copies_13 ?_
  refine lv_topi (fun x102 ex102 => ?_)
  refine va_iast (i := 0) hx hb hK hP hD hS 0 0 rfl rfl (tq_in (by decide)) dX8_copies_14 (fun H locs hP hD hS => ?_)
  have hP : va_P G vwCl [(ra, .inl (cA 0, 12, .inl ((upd fr (0 : Int32).toNatClampNeg x102))))] H := hP
  have hD : va_D A [(ra, .inl (cA 0, 12, .inl ((upd fr (0 : Int32).toNatClampNeg x102))))] := hD
  generalize (upd fr (0 : Int32).toNatClampNeg x102) = f103 at hP hD
  refine lv_iinc (v := 1) (lv' := [(2, .int 1), (0, .ref ra), (1, .int 6)]) hx hb dX8_copies_15 hl (k := 0) rfl (by decide) (by decide) rfl (fun ls hl => ?_)
  refine lv_goto (tgt := 2) hx hb dX8_copies_18 (by decide) ?_
  refine lv_iload_n hx hb dX8_copies_2 rfl (lv_at hl 0 rfl) ?_
  refine lv_iload_n hx hb dX8_copies_3 rfl (lv_at hl 2 rfl) ?_
  refine lv_icmp_ge (tgt := 21) hx hb dX8_copies_4 (by decide) (fun c104 => absurd c104 (by decide)) (fun c104 => ?_)
  refine lv_aload_n hx hb dX8_copies_7 rfl (lv_at hl 1 rfl) ?_
  refine lv_iload_n hx hb dX8_copies_8 rfl (lv_at hl 0 rfl) ?_
  refine lv_aload_n hx hb dX8_copies_9 rfl (lv_at hl 1 rfl) ?_
  refine lv_iload_n hx hb dX8_copies_10 rfl (lv_at hl 2 rfl) ?_
  refine lv_iload_n hx hb dX8_copies_11 rfl (lv_at hl 0 rfl) ?_
  refine lv_iadd hx hb dX8_copies_12 ?_
  refine tq_i (w := 7) (by decide) ?_
  refine va_iald (i := 7) hx hb hK hP 0 0 rfl rfl (tq_in (by decide)) dX8_copies_13 ?_
  refine lv_topi (fun x105 ex105 => ?_)
  refine va_iast (i := 1) hx hb hK hP hD hS 0 0 rfl rfl (tq_in (by decide)) dX8_copies_14 (fun H locs hP hD hS => ?_)
  have hP : va_P G vwCl [(ra, .inl (cA 0, 12, .inl ((upd f103 (1 : Int32).toNatClampNeg x105))))] H := hP
  have hD : va_D A [(ra, .inl (cA 0, 12, .inl ((upd f103 (1 : Int32).toNatClampNeg x105))))] := hD
  generalize (upd f103 (1 : Int32).toNatClampNeg x105) = f106 at hP hD
  refine lv_iinc (v := 2) (lv' := [(2, .int 2), (0, .ref ra), (1, .int 6)]) hx hb dX8_copies_15 hl (k := 0) rfl (by decide) (by decide) rfl (fun ls hl => ?_)
  refine lv_goto (tgt := 2) hx hb dX8_copies_18 (by decide) ?_
  refine lv_iload_n hx hb dX8_copies_2 rfl (lv_at hl 0 rfl) ?_
  refine lv_iload_n hx hb dX8_copies_3 rfl (lv_at hl 2 rfl) ?_
  refine lv_icmp_ge (tgt := 21) hx hb dX8_copies_4 (by decide) (fun c107 => absurd c107 (by decide)) (fun c107 => ?_)
  refine lv_aload_n hx hb dX8_copies_7 rfl (lv_at hl 1 rfl) ?_
  refine lv_iload_n hx hb dX8_copies_8 rfl (lv_at hl 0 rfl) ?_
  refine lv_aload_n hx hb dX8_copies_9 rfl (lv_at hl 1 rfl) ?_
  refine lv_iload_n hx hb dX8_copies_10 rfl (lv_at hl 2 rfl) ?_
  refine lv_iload_n hx hb dX8_copies_11 rfl (lv_at hl 0 rfl) ?_
  refine lv_iadd hx hb dX8_copies_12 ?_
  refine tq_i (w := 8) (by decide) ?_
  refine va_iald (i := 8) hx hb hK hP 0 0 rfl rfl (tq_in (by decide)) dX8_copies_13 ?_
  refine lv_topi (fun x108 ex108 => ?_)
  refine va_iast (i := 2) hx hb hK hP hD hS 0 0 rfl rfl (tq_in (by decide)) dX8_copies_14 (fun H locs hP hD hS => ?_)
  have hP : va_P G vwCl [(ra, .inl (cA 0, 12, .inl ((upd f106 (2 : Int32).toNatClampNeg x108))))] H := hP
  have hD : va_D A [(ra, .inl (cA 0, 12, .inl ((upd f106 (2 : Int32).toNatClampNeg x108))))] := hD
  generalize (upd f106 (2 : Int32).toNatClampNeg x108) = f109 at hP hD
  refine lv_iinc (v := 3) (lv' := [(2, .int 3), (0, .ref ra), (1, .int 6)]) hx hb dX8_copies_15 hl (k := 0) rfl (by decide) (by decide) rfl (fun ls hl => ?_)
  refine lv_goto (tgt := 2) hx hb dX8_copies_18 (by decide) ?_
  refine lv_iload_n hx hb dX8_copies_2 rfl (lv_at hl 0 rfl) ?_
  refine lv_iload_n hx hb dX8_copies_3 rfl (lv_at hl 2 rfl) ?_
  refine lv_icmp_ge (tgt := 21) hx hb dX8_copies_4 (by decide) (fun c110 => absurd c110 (by decide)) (fun c110 => ?_)
  refine lv_aload_n hx hb dX8_copies_7 rfl (lv_at hl 1 rfl) ?_
  refine lv_iload_n hx hb dX8_copies_8 rfl (lv_at hl 0 rfl) ?_
  refine lv_aload_n hx hb dX8_copies_9 rfl (lv_at hl 1 rfl) ?_
  refine lv_iload_n hx hb dX8_copies_10 rfl (lv_at hl 2 rfl) ?_
  refine lv_iload_n hx hb dX8_copies_11 rfl (lv_at hl 0 rfl) ?_
  refine lv_iadd hx hb dX8_copies_12 ?_
  refine tq_i (w := 9) (by decide) ?_
  refine va_iald (i := 9) hx hb hK hP 0 0 rfl rfl (tq_in (by decide)) dX8_copies_13 ?_
  refine lv_topi (fun x111 ex111 => ?_)
  refine va_iast (i := 3) hx hb hK hP hD hS 0 0 rfl rfl (tq_in (by decide)) dX8_copies_14 (fun H locs hP hD hS => ?_)
  have hP : va_P G vwCl [(ra, .inl (cA 0, 12, .inl ((upd f109 (3 : Int32).toNatClampNeg x111))))] H := hP
  have hD : va_D A [(ra, .inl (cA 0, 12, .inl ((upd f109 (3 : Int32).toNatClampNeg x111))))] := hD
  generalize (upd f109 (3 : Int32).toNatClampNeg x111) = f112 at hP hD
  refine lv_iinc (v := 4) (lv' := [(2, .int 4), (0, .ref ra), (1, .int 6)]) hx hb dX8_copies_15 hl (k := 0) rfl (by decide) (by decide) rfl (fun ls hl => ?_)
  refine lv_goto (tgt := 2) hx hb dX8_copies_18 (by decide) ?_
  refine lv_iload_n hx hb dX8_copies_2 rfl (lv_at hl 0 rfl) ?_
  refine lv_iload_n hx hb dX8_copies_3 rfl (lv_at hl 2 rfl) ?_
  refine lv_icmp_ge (tgt := 21) hx hb dX8_copies_4 (by decide) (fun c113 => absurd c113 (by decide)) (fun c113 => ?_)
  refine lv_aload_n hx hb dX8_copies_7 rfl (lv_at hl 1 rfl) ?_
  refine lv_iload_n hx hb dX8_copies_8 rfl (lv_at hl 0 rfl) ?_
  refine lv_aload_n hx hb dX8_copies_9 rfl (lv_at hl 1 rfl) ?_
  refine lv_iload_n hx hb dX8_copies_10 rfl (lv_at hl 2 rfl) ?_
  refine lv_iload_n hx hb dX8_copies_11 rfl (lv_at hl 0 rfl) ?_
  refine lv_iadd hx hb dX8_copies_12 ?_
  refine tq_i (w := 10) (by decide) ?_
  refine va_iald (i := 10) hx hb hK hP 0 0 rfl rfl (tq_in (by decide)) dX8_copies_13 ?_
  refine lv_topi (fun x114 ex114 => ?_)
  refine va_iast (i := 4) hx hb hK hP hD hS 0 0 rfl rfl (tq_in (by decide)) dX8_copies_14 (fun H locs hP hD hS => ?_)
  have hP : va_P G vwCl [(ra, .inl (cA 0, 12, .inl ((upd f112 (4 : Int32).toNatClampNeg x114))))] H := hP
  have hD : va_D A [(ra, .inl (cA 0, 12, .inl ((upd f112 (4 : Int32).toNatClampNeg x114))))] := hD
  generalize (upd f112 (4 : Int32).toNatClampNeg x114) = f115 at hP hD
  refine lv_iinc (v := 5) (lv' := [(2, .int 5), (0, .ref ra), (1, .int 6)]) hx hb dX8_copies_15 hl (k := 0) rfl (by decide) (by decide) rfl (fun ls hl => ?_)
  refine lv_goto (tgt := 2) hx hb dX8_copies_18 (by decide) ?_
  refine lv_iload_n hx hb dX8_copies_2 rfl (lv_at hl 0 rfl) ?_
  refine lv_iload_n hx hb dX8_copies_3 rfl (lv_at hl 2 rfl) ?_
  refine lv_icmp_ge (tgt := 21) hx hb dX8_copies_4 (by decide) (fun c116 => absurd c116 (by decide)) (fun c116 => ?_)
  refine lv_aload_n hx hb dX8_copies_7 rfl (lv_at hl 1 rfl) ?_
  refine lv_iload_n hx hb dX8_copies_8 rfl (lv_at hl 0 rfl) ?_
  refine lv_aload_n hx hb dX8_copies_9 rfl (lv_at hl 1 rfl) ?_
  refine lv_iload_n hx hb dX8_copies_10 rfl (lv_at hl 2 rfl) ?_
  refine lv_iload_n hx hb dX8_copies_11 rfl (lv_at hl 0 rfl) ?_
  refine lv_iadd hx hb dX8_copies_12 ?_
  refine tq_i (w := 11) (by decide) ?_
  refine va_iald (i := 11) hx hb hK hP 0 0 rfl rfl (tq_in (by decide)) dX8_copies_13 ?_
  refine lv_topi (fun x117 ex117 => ?_)
  refine va_iast (i := 5) hx hb hK hP hD hS 0 0 rfl rfl (tq_in (by decide)) dX8_copies_14 (fun H locs hP hD hS => ?_)
  have hP : va_P G vwCl [(ra, .inl (cA 0, 12, .inl ((upd f115 (5 : Int32).toNatClampNeg x117))))] H := hP
  have hD : va_D A [(ra, .inl (cA 0, 12, .inl ((upd f115 (5 : Int32).toNatClampNeg x117))))] := hD
  generalize (upd f115 (5 : Int32).toNatClampNeg x117) = f118 at hP hD
  refine lv_iinc (v := 6) (lv' := [(2, .int 6), (0, .ref ra), (1, .int 6)]) hx hb dX8_copies_15 hl (k := 0) rfl (by decide) (by decide) rfl (fun ls hl => ?_)
  refine lv_goto (tgt := 2) hx hb dX8_copies_18 (by decide) ?_
  refine lv_iload_n hx hb dX8_copies_2 rfl (lv_at hl 0 rfl) ?_
  refine lv_iload_n hx hb dX8_copies_3 rfl (lv_at hl 2 rfl) ?_
  refine lv_icmp_ge (tgt := 21) hx hb dX8_copies_4 (by decide) (fun c119 => ?_) (fun c119 => absurd (by decide) c119)
  exact W.vret hx hb hr (fun t ht hW => ⟨⟨f118, rfl, trivial, by rw [ht]; exact hP, hD⟩, hS.F ht⟩) hS.2.2 dX8_copies_21

set_option maxHeartbeats 4000000 in
set_option maxRecDepth 100000 in
theorem c_X8_copies_10 (l : Launch) (G : va_G) (cA : Nat → ClassId) (sz : Nat) (ra : Nat) (fr : Nat → Int32)  : Met l yX8_copies (.code yX8_copies cX8_copies 3 none :: T0) ({ frames := 0, cells := 0, slots := 0, locals := 0 }) (tqP G cA [.ref ra, .int 10] [(ra, .inl (cA 0, 20, .inl fr))] sz) (tqQv G cA (fun (u : (Nat → Int32)) => True) (fun (u : (Nat → Int32)) => [(ra, .inl (cA 0, 20, .inl u))]) (va_A [(ra, .inl (cA 0, 20, .inl fr))] sz)) 0 0 (va_A [(ra, .inl (cA 0, 20, .inl fr))] sz) := by
  refine Met.ofW (cc := cX8_copies) (maxL := 3) (ret := none) (by decide) rfl ?_
  intro p e s m args below meth c s₁ B hml hv
  obtain ⟨rfl, hsz, hP, hK, hD0, hN⟩ := hv
  have hx := B.exec
  have hb := B.bytes
  have hr := B.returns
  have hts := atoms_spec (ws := .code yX8_copies cX8_copies 3 none :: T0) B.pre
  have hT : ∀ w ∈ T0, w.before _ s = true := fun w h => hts w (List.mem_cons_of_mem _ h)
  have hown : s.vm.findClass RX8 = some m.cls := findClass_of_methodNamed B.named
  have hlocks := B.notSynchronized
  subst hsz
  have hD := hD0.self (sz := s.heap.size)
  generalize hAe : va_A [(ra, .inl (cA 0, 20, .inl fr))] s.heap.size = A at hD ⊢
  have hA : ∀ q : Nat, s.heap.size ≤ q → A q := fun q h => by rw [← hAe]; exact Or.inr h
  have hS : va_S A s.heap s.heap [] := va_S.rf
  have hl := lv_entry ([.ref ra, .int 10]) (n := 3) (Nat.le_of_ble_eq_true rfl)
  rw [lg_entry_eq]
  generalize (lg_sl ([.ref ra, .int 10]) ++ List.replicate (3 - (lg_sl ([.ref ra, .int 10])).length) Slot.unset).toArray = ls at hl ⊢
  have hl : lv_has ls 3 [(0, .ref ra), (1, .int 10)] := hl
  obtain ⟨H, hH⟩ : ∃ z, z = s.heap := ⟨_, rfl⟩
  rw [← hH] at hP
  have hS : va_S A s.heap H [] := by rw [hH]; exact hS
  suffices hgo : W p l e _ s m _ below meth c H [] 0 0 _ _ by rw [hH] at hgo; exact hgo
  have hO := hN.2.2.2.2
  refine lv_iconst (v := 0) hx hb dX8_copies_0 (by decide) ?_
  refine lv_istore_n (lv' := [(2, .int 0), (0, .ref ra), (1, .int 10)]) hx hb dX8_copies_1 rfl hl (by decide) rfl (fun ls hl => ?_)
  refine lv_iload_n hx hb dX8_copies_2 rfl (lv_at hl 0 rfl) ?_
  refine lv_iload_n hx hb dX8_copies_3 rfl (lv_at hl 2 rfl) ?_
  refine lv_icmp_ge (tgt := 21) hx hb dX8_copies_4 (by decide) (fun c101 => absurd c101 (by decide)) (fun c101 => ?_)
  refine lv_aload_n hx hb dX8_copies_7 rfl (lv_at hl 1 rfl) ?_
  refine lv_iload_n hx hb dX8_copies_8 rfl (lv_at hl 0 rfl) ?_
  refine lv_aload_n hx hb dX8_copies_9 rfl (lv_at hl 1 rfl) ?_
  refine lv_iload_n hx hb dX8_copies_10 rfl (lv_at hl 2 rfl) ?_
  refine lv_iload_n hx hb dX8_copies_11 rfl (lv_at hl 0 rfl) ?_
  refine lv_iadd hx hb dX8_copies_12 ?_
  refine tq_i (w := 10) (by decide) ?_
  refine va_iald (i := 10) hx hb hK hP 0 0 rfl rfl (tq_in (by decide)) dX8_copies_13 ?_
  refine lv_topi (fun x102 ex102 => ?_)
  refine va_iast (i := 0) hx hb hK hP hD hS 0 0 rfl rfl (tq_in (by decide)) dX8_copies_14 (fun H locs hP hD hS => ?_)
  have hP : va_P G vwCl [(ra, .inl (cA 0, 20, .inl ((upd fr (0 : Int32).toNatClampNeg x102))))] H := hP
  have hD : va_D A [(ra, .inl (cA 0, 20, .inl ((upd fr (0 : Int32).toNatClampNeg x102))))] := hD
  generalize (upd fr (0 : Int32).toNatClampNeg x102) = f103 at hP hD
  refine lv_iinc (v := 1) (lv' := [(2, .int 1), (0, .ref ra), (1, .int 10)]) hx hb dX8_copies_15 hl (k := 0) rfl (by decide) (by decide) rfl (fun ls hl => ?_)
  refine lv_goto (tgt := 2) hx hb dX8_copies_18 (by decide) ?_
  refine lv_iload_n hx hb dX8_copies_2 rfl (lv_at hl 0 rfl) ?_
  refine lv_iload_n hx hb dX8_copies_3 rfl (lv_at hl 2 rfl) ?_
  refine lv_icmp_ge (tgt := 21) hx hb dX8_copies_4 (by decide) (fun c104 => absurd c104 (by decide)) (fun c104 => ?_)
  refine lv_aload_n hx hb dX8_copies_7 rfl (lv_at hl 1 rfl) ?_
  refine lv_iload_n hx hb dX8_copies_8 rfl (lv_at hl 0 rfl) ?_
  refine lv_aload_n hx hb dX8_copies_9 rfl (lv_at hl 1 rfl) ?_
  refine lv_iload_n hx hb dX8_copies_10 rfl (lv_at hl 2 rfl) ?_
  refine lv_iload_n hx hb dX8_copies_11 rfl (lv_at hl 0 rfl) ?_
  refine lv_iadd hx hb dX8_copies_12 ?_
  refine tq_i (w := 11) (by decide) ?_
  refine va_iald (i := 11) hx hb hK hP 0 0 rfl rfl (tq_in (by decide)) dX8_copies_13 ?_
  refine lv_topi (fun x105 ex105 => ?_)
  refine va_iast (i := 1) hx hb hK hP hD hS 0 0 rfl rfl (tq_in (by decide)) dX8_copies_14 (fun H locs hP hD hS => ?_)
  have hP : va_P G vwCl [(ra, .inl (cA 0, 20, .inl ((upd f103 (1 : Int32).toNatClampNeg x105))))] H := hP
  have hD : va_D A [(ra, .inl (cA 0, 20, .inl ((upd f103 (1 : Int32).toNatClampNeg x105))))] := hD
  generalize (upd f103 (1 : Int32).toNatClampNeg x105) = f106 at hP hD
  refine lv_iinc (v := 2) (lv' := [(2, .int 2), (0, .ref ra), (1, .int 10)]) hx hb dX8_copies_15 hl (k := 0) rfl (by decide) (by decide) rfl (fun ls hl => ?_)
  refine lv_goto (tgt := 2) hx hb dX8_copies_18 (by decide) ?_
  refine lv_iload_n hx hb dX8_copies_2 rfl (lv_at hl 0 rfl) ?_
  refine lv_iload_n hx hb dX8_copies_3 rfl (lv_at hl 2 rfl) ?_
  refine lv_icmp_ge (tgt := 21) hx hb dX8_copies_4 (by decide) (fun c107 => absurd c107 (by decide)) (fun c107 => ?_)
  refine lv_aload_n hx hb dX8_copies_7 rfl (lv_at hl 1 rfl) ?_
  refine lv_iload_n hx hb dX8_copies_8 rfl (lv_at hl 0 rfl) ?_
  refine lv_aload_n hx hb dX8_copies_9 rfl (lv_at hl 1 rfl) ?_
  refine lv_iload_n hx hb dX8_copies_10 rfl (lv_at hl 2 rfl) ?_
  refine lv_iload_n hx hb dX8_copies_11 rfl (lv_at hl 0 rfl) ?_
  refine lv_iadd hx hb dX8_copies_12 ?_
  refine tq_i (w := 12) (by decide) ?_
  refine va_iald (i := 12) hx hb hK hP 0 0 rfl rfl (tq_in (by decide)) dX8_copies_13 ?_
  refine lv_topi (fun x108 ex108 => ?_)
  refine va_iast (i := 2) hx hb hK hP hD hS 0 0 rfl rfl (tq_in (by decide)) dX8_copies_14 (fun H locs hP hD hS => ?_)
  have hP : va_P G vwCl [(ra, .inl (cA 0, 20, .inl ((upd f106 (2 : Int32).toNatClampNeg x108))))] H := hP
  have hD : va_D A [(ra, .inl (cA 0, 20, .inl ((upd f106 (2 : Int32).toNatClampNeg x108))))] := hD
  generalize (upd f106 (2 : Int32).toNatClampNeg x108) = f109 at hP hD
  refine lv_iinc (v := 3) (lv' := [(2, .int 3), (0, .ref ra), (1, .int 10)]) hx hb dX8_copies_15 hl (k := 0) rfl (by decide) (by decide) rfl (fun ls hl => ?_)
  refine lv_goto (tgt := 2) hx hb dX8_copies_18 (by decide) ?_
  refine lv_iload_n hx hb dX8_copies_2 rfl (lv_at hl 0 rfl) ?_
  refine lv_iload_n hx hb dX8_copies_3 rfl (lv_at hl 2 rfl) ?_
  refine lv_icmp_ge (tgt := 21) hx hb dX8_copies_4 (by decide) (fun c110 => absurd c110 (by decide)) (fun c110 => ?_)
  refine lv_aload_n hx hb dX8_copies_7 rfl (lv_at hl 1 rfl) ?_
  refine lv_iload_n hx hb dX8_copies_8 rfl (lv_at hl 0 rfl) ?_
  refine lv_aload_n hx hb dX8_copies_9 rfl (lv_at hl 1 rfl) ?_
  refine lv_iload_n hx hb dX8_copies_10 rfl (lv_at hl 2 rfl) ?_
  refine lv_iload_n hx hb dX8_copies_11 rfl (lv_at hl 0 rfl) ?_
  refine lv_iadd hx hb dX8_copies_12 ?_
  refine tq_i (w := 13) (by decide) ?_
  refine va_iald (i := 13) hx hb hK hP 0 0 rfl rfl (tq_in (by decide)) dX8_copies_13 ?_
  refine lv_topi (fun x111 ex111 => ?_)
  refine va_iast (i := 3) hx hb hK hP hD hS 0 0 rfl rfl (tq_in (by decide)) dX8_copies_14 (fun H locs hP hD hS => ?_)
  have hP : va_P G vwCl [(ra, .inl (cA 0, 20, .inl ((upd f109 (3 : Int32).toNatClampNeg x111))))] H := hP
  have hD : va_D A [(ra, .inl (cA 0, 20, .inl ((upd f109 (3 : Int32).toNatClampNeg x111))))] := hD
  generalize (upd f109 (3 : Int32).toNatClampNeg x111) = f112 at hP hD
  refine lv_iinc (v := 4) (lv' := [(2, .int 4), (0, .ref ra), (1, .int 10)]) hx hb dX8_copies_15 hl (k := 0) rfl (by decide) (by decide) rfl (fun ls hl => ?_)
  refine lv_goto (tgt := 2) hx hb dX8_copies_18 (by decide) ?_
  refine lv_iload_n hx hb dX8_copies_2 rfl (lv_at hl 0 rfl) ?_
  refine lv_iload_n hx hb dX8_copies_3 rfl (lv_at hl 2 rfl) ?_
  refine lv_icmp_ge (tgt := 21) hx hb dX8_copies_4 (by decide) (fun c113 => absurd c113 (by decide)) (fun c113 => ?_)
  refine lv_aload_n hx hb dX8_copies_7 rfl (lv_at hl 1 rfl) ?_
  refine lv_iload_n hx hb dX8_copies_8 rfl (lv_at hl 0 rfl) ?_
  refine lv_aload_n hx hb dX8_copies_9 rfl (lv_at hl 1 rfl) ?_
  refine lv_iload_n hx hb dX8_copies_10 rfl (lv_at hl 2 rfl) ?_
  refine lv_iload_n hx hb dX8_copies_11 rfl (lv_at hl 0 rfl) ?_
  refine lv_iadd hx hb dX8_copies_12 ?_
  refine tq_i (w := 14) (by decide) ?_
  refine va_iald (i := 14) hx hb hK hP 0 0 rfl rfl (tq_in (by decide)) dX8_copies_13 ?_
  refine lv_topi (fun x114 ex114 => ?_)
  refine va_iast (i := 4) hx hb hK hP hD hS 0 0 rfl rfl (tq_in (by decide)) dX8_copies_14 (fun H locs hP hD hS => ?_)
  have hP : va_P G vwCl [(ra, .inl (cA 0, 20, .inl ((upd f112 (4 : Int32).toNatClampNeg x114))))] H := hP
  have hD : va_D A [(ra, .inl (cA 0, 20, .inl ((upd f112 (4 : Int32).toNatClampNeg x114))))] := hD
  generalize (upd f112 (4 : Int32).toNatClampNeg x114) = f115 at hP hD
  refine lv_iinc (v := 5) (lv' := [(2, .int 5), (0, .ref ra), (1, .int 10)]) hx hb dX8_copies_15 hl (k := 0) rfl (by decide) (by decide) rfl (fun ls hl => ?_)
  refine lv_goto (tgt := 2) hx hb dX8_copies_18 (by decide) ?_
  refine lv_iload_n hx hb dX8_copies_2 rfl (lv_at hl 0 rfl) ?_
  refine lv_iload_n hx hb dX8_copies_3 rfl (lv_at hl 2 rfl) ?_
  refine lv_icmp_ge (tgt := 21) hx hb dX8_copies_4 (by decide) (fun c116 => absurd c116 (by decide)) (fun c116 => ?_)
  refine lv_aload_n hx hb dX8_copies_7 rfl (lv_at hl 1 rfl) ?_
  refine lv_iload_n hx hb dX8_copies_8 rfl (lv_at hl 0 rfl) ?_
  refine lv_aload_n hx hb dX8_copies_9 rfl (lv_at hl 1 rfl) ?_
  refine lv_iload_n hx hb dX8_copies_10 rfl (lv_at hl 2 rfl) ?_
  refine lv_iload_n hx hb dX8_copies_11 rfl (lv_at hl 0 rfl) ?_
  refine lv_iadd hx hb dX8_copies_12 ?_
  refine tq_i (w := 15) (by decide) ?_
  refine va_iald (i := 15) hx hb hK hP 0 0 rfl rfl (tq_in (by decide)) dX8_copies_13 ?_
  refine lv_topi (fun x117 ex117 => ?_)
  refine va_iast (i := 5) hx hb hK hP hD hS 0 0 rfl rfl (tq_in (by decide)) dX8_copies_14 (fun H locs hP hD hS => ?_)
  have hP : va_P G vwCl [(ra, .inl (cA 0, 20, .inl ((upd f115 (5 : Int32).toNatClampNeg x117))))] H := hP
  have hD : va_D A [(ra, .inl (cA 0, 20, .inl ((upd f115 (5 : Int32).toNatClampNeg x117))))] := hD
  generalize (upd f115 (5 : Int32).toNatClampNeg x117) = f118 at hP hD
  refine lv_iinc (v := 6) (lv' := [(2, .int 6), (0, .ref ra), (1, .int 10)]) hx hb dX8_copies_15 hl (k := 0) rfl (by decide) (by decide) rfl (fun ls hl => ?_)
  refine lv_goto (tgt := 2) hx hb dX8_copies_18 (by decide) ?_
  refine lv_iload_n hx hb dX8_copies_2 rfl (lv_at hl 0 rfl) ?_
  refine lv_iload_n hx hb dX8_copies_3 rfl (lv_at hl 2 rfl) ?_
  refine lv_icmp_ge (tgt := 21) hx hb dX8_copies_4 (by decide) (fun c119 => absurd c119 (by decide)) (fun c119 => ?_)
  refine lv_aload_n hx hb dX8_copies_7 rfl (lv_at hl 1 rfl) ?_
  refine lv_iload_n hx hb dX8_copies_8 rfl (lv_at hl 0 rfl) ?_
  refine lv_aload_n hx hb dX8_copies_9 rfl (lv_at hl 1 rfl) ?_
  refine lv_iload_n hx hb dX8_copies_10 rfl (lv_at hl 2 rfl) ?_
  refine lv_iload_n hx hb dX8_copies_11 rfl (lv_at hl 0 rfl) ?_
  refine lv_iadd hx hb dX8_copies_12 ?_
  refine tq_i (w := 16) (by decide) ?_
  refine va_iald (i := 16) hx hb hK hP 0 0 rfl rfl (tq_in (by decide)) dX8_copies_13 ?_
  refine lv_topi (fun x120 ex120 => ?_)
  refine va_iast (i := 6) hx hb hK hP hD hS 0 0 rfl rfl (tq_in (by decide)) dX8_copies_14 (fun H locs hP hD hS => ?_)
  have hP : va_P G vwCl [(ra, .inl (cA 0, 20, .inl ((upd f118 (6 : Int32).toNatClampNeg x120))))] H := hP
  have hD : va_D A [(ra, .inl (cA 0, 20, .inl ((upd f118 (6 : Int32).toNatClampNeg x120))))] := hD
  generalize (upd f118 (6 : Int32).toNatClampNeg x120) = f121 at hP hD
  refine lv_iinc (v := 7) (lv' := [(2, .int 7), (0, .ref ra), (1, .int 10)]) hx hb dX8_copies_15 hl (k := 0) rfl (by decide) (by decide) rfl (fun ls hl => ?_)
  refine lv_goto (tgt := 2) hx hb dX8_copies_18 (by decide) ?_
  refine lv_iload_n hx hb dX8_copies_2 rfl (lv_at hl 0 rfl) ?_
  refine lv_iload_n hx hb dX8_copies_3 rfl (lv_at hl 2 rfl) ?_
  refine lv_icmp_ge (tgt := 21) hx hb dX8_copies_4 (by decide) (fun c122 => absurd c122 (by decide)) (fun c122 => ?_)
  refine lv_aload_n hx hb dX8_copies_7 rfl (lv_at hl 1 rfl) ?_
  refine lv_iload_n hx hb dX8_copies_8 rfl (lv_at hl 0 rfl) ?_
  refine lv_aload_n hx hb dX8_copies_9 rfl (lv_at hl 1 rfl) ?_
  refine lv_iload_n hx hb dX8_copies_10 rfl (lv_at hl 2 rfl) ?_
  refine lv_iload_n hx hb dX8_copies_11 rfl (lv_at hl 0 rfl) ?_
  refine lv_iadd hx hb dX8_copies_12 ?_
  refine tq_i (w := 17) (by decide) ?_
  refine va_iald (i := 17) hx hb hK hP 0 0 rfl rfl (tq_in (by decide)) dX8_copies_13 ?_
  refine lv_topi (fun x123 ex123 => ?_)
  refine va_iast (i := 7) hx hb hK hP hD hS 0 0 rfl rfl (tq_in (by decide)) dX8_copies_14 (fun H locs hP hD hS => ?_)
  have hP : va_P G vwCl [(ra, .inl (cA 0, 20, .inl ((upd f121 (7 : Int32).toNatClampNeg x123))))] H := hP
  have hD : va_D A [(ra, .inl (cA 0, 20, .inl ((upd f121 (7 : Int32).toNatClampNeg x123))))] := hD
  generalize (upd f121 (7 : Int32).toNatClampNeg x123) = f124 at hP hD
  refine lv_iinc (v := 8) (lv' := [(2, .int 8), (0, .ref ra), (1, .int 10)]) hx hb dX8_copies_15 hl (k := 0) rfl (by decide) (by decide) rfl (fun ls hl => ?_)
  refine lv_goto (tgt := 2) hx hb dX8_copies_18 (by decide) ?_
  refine lv_iload_n hx hb dX8_copies_2 rfl (lv_at hl 0 rfl) ?_
  refine lv_iload_n hx hb dX8_copies_3 rfl (lv_at hl 2 rfl) ?_
  refine lv_icmp_ge (tgt := 21) hx hb dX8_copies_4 (by decide) (fun c125 => absurd c125 (by decide)) (fun c125 => ?_)
  refine lv_aload_n hx hb dX8_copies_7 rfl (lv_at hl 1 rfl) ?_
  refine lv_iload_n hx hb dX8_copies_8 rfl (lv_at hl 0 rfl) ?_
  refine lv_aload_n hx hb dX8_copies_9 rfl (lv_at hl 1 rfl) ?_
  refine lv_iload_n hx hb dX8_copies_10 rfl (lv_at hl 2 rfl) ?_
  refine lv_iload_n hx hb dX8_copies_11 rfl (lv_at hl 0 rfl) ?_
  refine lv_iadd hx hb dX8_copies_12 ?_
  refine tq_i (w := 18) (by decide) ?_
  refine va_iald (i := 18) hx hb hK hP 0 0 rfl rfl (tq_in (by decide)) dX8_copies_13 ?_
  refine lv_topi (fun x126 ex126 => ?_)
  refine va_iast (i := 8) hx hb hK hP hD hS 0 0 rfl rfl (tq_in (by decide)) dX8_copies_14 (fun H locs hP hD hS => ?_)
  have hP : va_P G vwCl [(ra, .inl (cA 0, 20, .inl ((upd f124 (8 : Int32).toNatClampNeg x126))))] H := hP
  have hD : va_D A [(ra, .inl (cA 0, 20, .inl ((upd f124 (8 : Int32).toNatClampNeg x126))))] := hD
  generalize (upd f124 (8 : Int32).toNatClampNeg x126) = f127 at hP hD
  refine lv_iinc (v := 9) (lv' := [(2, .int 9), (0, .ref ra), (1, .int 10)]) hx hb dX8_copies_15 hl (k := 0) rfl (by decide) (by decide) rfl (fun ls hl => ?_)
  refine lv_goto (tgt := 2) hx hb dX8_copies_18 (by decide) ?_
  refine lv_iload_n hx hb dX8_copies_2 rfl (lv_at hl 0 rfl) ?_
  refine lv_iload_n hx hb dX8_copies_3 rfl (lv_at hl 2 rfl) ?_
  refine lv_icmp_ge (tgt := 21) hx hb dX8_copies_4 (by decide) (fun c128 => absurd c128 (by decide)) (fun c128 => ?_)
  refine lv_aload_n hx hb dX8_copies_7 rfl (lv_at hl 1 rfl) ?_
  refine lv_iload_n hx hb dX8_copies_8 rfl (lv_at hl 0 rfl) ?_
  refine lv_aload_n hx hb dX8_copies_9 rfl (lv_at hl 1 rfl) ?_
  refine lv_iload_n hx hb dX8_copies_10 rfl (lv_at hl 2 rfl) ?_
  refine lv_iload_n hx hb dX8_copies_11 rfl (lv_at hl 0 rfl) ?_
  refine lv_iadd hx hb dX8_copies_12 ?_
  refine tq_i (w := 19) (by decide) ?_
  refine va_iald (i := 19) hx hb hK hP 0 0 rfl rfl (tq_in (by decide)) dX8_copies_13 ?_
  refine lv_topi (fun x129 ex129 => ?_)
  refine va_iast (i := 9) hx hb hK hP hD hS 0 0 rfl rfl (tq_in (by decide)) dX8_copies_14 (fun H locs hP hD hS => ?_)
  have hP : va_P G vwCl [(ra, .inl (cA 0, 20, .inl ((upd f127 (9 : Int32).toNatClampNeg x129))))] H := hP
  have hD : va_D A [(ra, .inl (cA 0, 20, .inl ((upd f127 (9 : Int32).toNatClampNeg x129))))] := hD
  generalize (upd f127 (9 : Int32).toNatClampNeg x129) = f130 at hP hD
  refine lv_iinc (v := 10) (lv' := [(2, .int 10), (0, .ref ra), (1, .int 10)]) hx hb dX8_copies_15 hl (k := 0) rfl (by decide) (by decide) rfl (fun ls hl => ?_)
  refine lv_goto (tgt := 2) hx hb dX8_copies_18 (by decide) ?_
  refine lv_iload_n hx hb dX8_copies_2 rfl (lv_at hl 0 rfl) ?_
  refine lv_iload_n hx hb dX8_copies_3 rfl (lv_at hl 2 rfl) ?_
  refine lv_icmp_ge (tgt := 21) hx hb dX8_copies_4 (by decide) (fun c131 => ?_) (fun c131 => absurd (by decide) c131)
  exact W.vret hx hb hr (fun t ht hW => ⟨⟨f130, rfl, trivial, by rw [ht]; exact hP, hD⟩, hS.F ht⟩) hS.2.2 dX8_copies_21

set_option maxHeartbeats 4000000 in
set_option maxRecDepth 100000 in
theorem c_X8_copies_64 (l : Launch) (G : va_G) (cA : Nat → ClassId) (sz : Nat) (ra : Nat) (fr : Nat → Int32)  : Met l yX8_copies (.code yX8_copies cX8_copies 3 none :: T0) ({ frames := 0, cells := 0, slots := 0, locals := 0 }) (tqP G cA [.ref ra, .int 64] [(ra, .inl (cA 0, 128, .inl fr))] sz) (tqQv G cA (fun (u : (Nat → Int32)) => True) (fun (u : (Nat → Int32)) => [(ra, .inl (cA 0, 128, .inl u))]) (va_A [(ra, .inl (cA 0, 128, .inl fr))] sz)) 0 0 (va_A [(ra, .inl (cA 0, 128, .inl fr))] sz) := by
  refine Met.ofW (cc := cX8_copies) (maxL := 3) (ret := none) (by decide) rfl ?_
  intro p e s m args below meth c s₁ B hml hv
  obtain ⟨rfl, hsz, hP, hK, hD0, hN⟩ := hv
  have hx := B.exec
  have hb := B.bytes
  have hr := B.returns
  have hts := atoms_spec (ws := .code yX8_copies cX8_copies 3 none :: T0) B.pre
  have hT : ∀ w ∈ T0, w.before _ s = true := fun w h => hts w (List.mem_cons_of_mem _ h)
  have hown : s.vm.findClass RX8 = some m.cls := findClass_of_methodNamed B.named
  have hlocks := B.notSynchronized
  subst hsz
  have hD := hD0.self (sz := s.heap.size)
  generalize hAe : va_A [(ra, .inl (cA 0, 128, .inl fr))] s.heap.size = A at hD ⊢
  have hA : ∀ q : Nat, s.heap.size ≤ q → A q := fun q h => by rw [← hAe]; exact Or.inr h
  have hS : va_S A s.heap s.heap [] := va_S.rf
  have hl := lv_entry ([.ref ra, .int 64]) (n := 3) (Nat.le_of_ble_eq_true rfl)
  rw [lg_entry_eq]
  generalize (lg_sl ([.ref ra, .int 64]) ++ List.replicate (3 - (lg_sl ([.ref ra, .int 64])).length) Slot.unset).toArray = ls at hl ⊢
  have hl : lv_has ls 3 [(0, .ref ra), (1, .int 64)] := hl
  obtain ⟨H, hH⟩ : ∃ z, z = s.heap := ⟨_, rfl⟩
  rw [← hH] at hP
  have hS : va_S A s.heap H [] := by rw [hH]; exact hS
  suffices hgo : W p l e _ s m _ below meth c H [] 0 0 _ _ by rw [hH] at hgo; exact hgo
  have hO := hN.2.2.2.2
  refine lv_iconst (v := 0) hx hb dX8_copies_0 (by decide) ?_
  refine lv_istore_n (lv' := [(2, .int 0), (0, .ref ra), (1, .int 64)]) hx hb dX8_copies_1 rfl hl (by decide) rfl (fun ls hl => ?_)
  refine lv_iload_n hx hb dX8_copies_2 rfl (lv_at hl 0 rfl) ?_
  refine lv_iload_n hx hb dX8_copies_3 rfl (lv_at hl 2 rfl) ?_
  refine lv_icmp_ge (tgt := 21) hx hb dX8_copies_4 (by decide) (fun c101 => absurd c101 (by decide)) (fun c101 => ?_)
  refine lv_aload_n hx hb dX8_copies_7 rfl (lv_at hl 1 rfl) ?_
  refine lv_iload_n hx hb dX8_copies_8 rfl (lv_at hl 0 rfl) ?_
  refine lv_aload_n hx hb dX8_copies_9 rfl (lv_at hl 1 rfl) ?_
  refine lv_iload_n hx hb dX8_copies_10 rfl (lv_at hl 2 rfl) ?_
  refine lv_iload_n hx hb dX8_copies_11 rfl (lv_at hl 0 rfl) ?_
  refine lv_iadd hx hb dX8_copies_12 ?_
  refine tq_i (w := 64) (by decide) ?_
  refine va_iald (i := 64) hx hb hK hP 0 0 rfl rfl (tq_in (by decide)) dX8_copies_13 ?_
  refine lv_topi (fun x102 ex102 => ?_)
  refine va_iast (i := 0) hx hb hK hP hD hS 0 0 rfl rfl (tq_in (by decide)) dX8_copies_14 (fun H locs hP hD hS => ?_)
  have hP : va_P G vwCl [(ra, .inl (cA 0, 128, .inl ((upd fr (0 : Int32).toNatClampNeg x102))))] H := hP
  have hD : va_D A [(ra, .inl (cA 0, 128, .inl ((upd fr (0 : Int32).toNatClampNeg x102))))] := hD
  generalize (upd fr (0 : Int32).toNatClampNeg x102) = f103 at hP hD
  refine lv_iinc (v := 1) (lv' := [(2, .int 1), (0, .ref ra), (1, .int 64)]) hx hb dX8_copies_15 hl (k := 0) rfl (by decide) (by decide) rfl (fun ls hl => ?_)
  refine lv_goto (tgt := 2) hx hb dX8_copies_18 (by decide) ?_
  refine lv_iload_n hx hb dX8_copies_2 rfl (lv_at hl 0 rfl) ?_
  refine lv_iload_n hx hb dX8_copies_3 rfl (lv_at hl 2 rfl) ?_
  refine lv_icmp_ge (tgt := 21) hx hb dX8_copies_4 (by decide) (fun c104 => absurd c104 (by decide)) (fun c104 => ?_)
  refine lv_aload_n hx hb dX8_copies_7 rfl (lv_at hl 1 rfl) ?_
  refine lv_iload_n hx hb dX8_copies_8 rfl (lv_at hl 0 rfl) ?_
  refine lv_aload_n hx hb dX8_copies_9 rfl (lv_at hl 1 rfl) ?_
  refine lv_iload_n hx hb dX8_copies_10 rfl (lv_at hl 2 rfl) ?_
  refine lv_iload_n hx hb dX8_copies_11 rfl (lv_at hl 0 rfl) ?_
  refine lv_iadd hx hb dX8_copies_12 ?_
  refine tq_i (w := 65) (by decide) ?_
  refine va_iald (i := 65) hx hb hK hP 0 0 rfl rfl (tq_in (by decide)) dX8_copies_13 ?_
  refine lv_topi (fun x105 ex105 => ?_)
  refine va_iast (i := 1) hx hb hK hP hD hS 0 0 rfl rfl (tq_in (by decide)) dX8_copies_14 (fun H locs hP hD hS => ?_)
  have hP : va_P G vwCl [(ra, .inl (cA 0, 128, .inl ((upd f103 (1 : Int32).toNatClampNeg x105))))] H := hP
  have hD : va_D A [(ra, .inl (cA 0, 128, .inl ((upd f103 (1 : Int32).toNatClampNeg x105))))] := hD
  generalize (upd f103 (1 : Int32).toNatClampNeg x105) = f106 at hP hD
  refine lv_iinc (v := 2) (lv' := [(2, .int 2), (0, .ref ra), (1, .int 64)]) hx hb dX8_copies_15 hl (k := 0) rfl (by decide) (by decide) rfl (fun ls hl => ?_)
  refine lv_goto (tgt := 2) hx hb dX8_copies_18 (by decide) ?_
  refine lv_iload_n hx hb dX8_copies_2 rfl (lv_at hl 0 rfl) ?_
  refine lv_iload_n hx hb dX8_copies_3 rfl (lv_at hl 2 rfl) ?_
  refine lv_icmp_ge (tgt := 21) hx hb dX8_copies_4 (by decide) (fun c107 => absurd c107 (by decide)) (fun c107 => ?_)
  refine lv_aload_n hx hb dX8_copies_7 rfl (lv_at hl 1 rfl) ?_
  refine lv_iload_n hx hb dX8_copies_8 rfl (lv_at hl 0 rfl) ?_
  refine lv_aload_n hx hb dX8_copies_9 rfl (lv_at hl 1 rfl) ?_
  refine lv_iload_n hx hb dX8_copies_10 rfl (lv_at hl 2 rfl) ?_
  refine lv_iload_n hx hb dX8_copies_11 rfl (lv_at hl 0 rfl) ?_
  refine lv_iadd hx hb dX8_copies_12 ?_
  refine tq_i (w := 66) (by decide) ?_
  refine va_iald (i := 66) hx hb hK hP 0 0 rfl rfl (tq_in (by decide)) dX8_copies_13 ?_
  refine lv_topi (fun x108 ex108 => ?_)
  refine va_iast (i := 2) hx hb hK hP hD hS 0 0 rfl rfl (tq_in (by decide)) dX8_copies_14 (fun H locs hP hD hS => ?_)
  have hP : va_P G vwCl [(ra, .inl (cA 0, 128, .inl ((upd f106 (2 : Int32).toNatClampNeg x108))))] H := hP
  have hD : va_D A [(ra, .inl (cA 0, 128, .inl ((upd f106 (2 : Int32).toNatClampNeg x108))))] := hD
  generalize (upd f106 (2 : Int32).toNatClampNeg x108) = f109 at hP hD
  refine lv_iinc (v := 3) (lv' := [(2, .int 3), (0, .ref ra), (1, .int 64)]) hx hb dX8_copies_15 hl (k := 0) rfl (by decide) (by decide) rfl (fun ls hl => ?_)
  refine lv_goto (tgt := 2) hx hb dX8_copies_18 (by decide) ?_
  refine lv_iload_n hx hb dX8_copies_2 rfl (lv_at hl 0 rfl) ?_
  refine lv_iload_n hx hb dX8_copies_3 rfl (lv_at hl 2 rfl) ?_
  refine lv_icmp_ge (tgt := 21) hx hb dX8_copies_4 (by decide) (fun c110 => absurd c110 (by decide)) (fun c110 => ?_)
  refine lv_aload_n hx hb dX8_copies_7 rfl (lv_at hl 1 rfl) ?_
  refine lv_iload_n hx hb dX8_copies_8 rfl (lv_at hl 0 rfl) ?_
  refine lv_aload_n hx hb dX8_copies_9 rfl (lv_at hl 1 rfl) ?_
  refine lv_iload_n hx hb dX8_copies_10 rfl (lv_at hl 2 rfl) ?_
  refine lv_iload_n hx hb dX8_copies_11 rfl (lv_at hl 0 rfl) ?_
  refine lv_iadd hx hb dX8_copies_12 ?_
  refine tq_i (w := 67) (by decide) ?_
  refine va_iald (i := 67) hx hb hK hP 0 0 rfl rfl (tq_in (by decide)) dX8_copies_13 ?_
  refine lv_topi (fun x111 ex111 => ?_)
  refine va_iast (i := 3) hx hb hK hP hD hS 0 0 rfl rfl (tq_in (by decide)) dX8_copies_14 (fun H locs hP hD hS => ?_)
  have hP : va_P G vwCl [(ra, .inl (cA 0, 128, .inl ((upd f109 (3 : Int32).toNatClampNeg x111))))] H := hP
  have hD : va_D A [(ra, .inl (cA 0, 128, .inl ((upd f109 (3 : Int32).toNatClampNeg x111))))] := hD
  generalize (upd f109 (3 : Int32).toNatClampNeg x111) = f112 at hP hD
  refine lv_iinc (v := 4) (lv' := [(2, .int 4), (0, .ref ra), (1, .int 64)]) hx hb dX8_copies_15 hl (k := 0) rfl (by decide) (by decide) rfl (fun ls hl => ?_)
  refine lv_goto (tgt := 2) hx hb dX8_copies_18 (by decide) ?_
  refine lv_iload_n hx hb dX8_copies_2 rfl (lv_at hl 0 rfl) ?_
  refine lv_iload_n hx hb dX8_copies_3 rfl (lv_at hl 2 rfl) ?_
  refine lv_icmp_ge (tgt := 21) hx hb dX8_copies_4 (by decide) (fun c113 => absurd c113 (by decide)) (fun c113 => ?_)
  refine lv_aload_n hx hb dX8_copies_7 rfl (lv_at hl 1 rfl) ?_
  refine lv_iload_n hx hb dX8_copies_8 rfl (lv_at hl 0 rfl) ?_
  refine lv_aload_n hx hb dX8_copies_9 rfl (lv_at hl 1 rfl) ?_
  refine lv_iload_n hx hb dX8_copies_10 rfl (lv_at hl 2 rfl) ?_
  refine lv_iload_n hx hb dX8_copies_11 rfl (lv_at hl 0 rfl) ?_
  refine lv_iadd hx hb dX8_copies_12 ?_
  refine tq_i (w := 68) (by decide) ?_
  refine va_iald (i := 68) hx hb hK hP 0 0 rfl rfl (tq_in (by decide)) dX8_copies_13 ?_
  refine lv_topi (fun x114 ex114 => ?_)
  refine va_iast (i := 4) hx hb hK hP hD hS 0 0 rfl rfl (tq_in (by decide)) dX8_copies_14 (fun H locs hP hD hS => ?_)
  have hP : va_P G vwCl [(ra, .inl (cA 0, 128, .inl ((upd f112 (4 : Int32).toNatClampNeg x114))))] H := hP
  have hD : va_D A [(ra, .inl (cA 0, 128, .inl ((upd f112 (4 : Int32).toNatClampNeg x114))))] := hD
  generalize (upd f112 (4 : Int32).toNatClampNeg x114) = f115 at hP hD
  refine lv_iinc (v := 5) (lv' := [(2, .int 5), (0, .ref ra), (1, .int 64)]) hx hb dX8_copies_15 hl (k := 0) rfl (by decide) (by decide) rfl (fun ls hl => ?_)
  refine lv_goto (tgt := 2) hx hb dX8_copies_18 (by decide) ?_
  refine lv_iload_n hx hb dX8_copies_2 rfl (lv_at hl 0 rfl) ?_
  refine lv_iload_n hx hb dX8_copies_3 rfl (lv_at hl 2 rfl) ?_
  refine lv_icmp_ge (tgt := 21) hx hb dX8_copies_4 (by decide) (fun c116 => absurd c116 (by decide)) (fun c116 => ?_)
  refine lv_aload_n hx hb dX8_copies_7 rfl (lv_at hl 1 rfl) ?_
  refine lv_iload_n hx hb dX8_copies_8 rfl (lv_at hl 0 rfl) ?_
  refine lv_aload_n hx hb dX8_copies_9 rfl (lv_at hl 1 rfl) ?_
  refine lv_iload_n hx hb dX8_copies_10 rfl (lv_at hl 2 rfl) ?_
  refine lv_iload_n hx hb dX8_copies_11 rfl (lv_at hl 0 rfl) ?_
  refine lv_iadd hx hb dX8_copies_12 ?_
  refine tq_i (w := 69) (by decide) ?_
  refine va_iald (i := 69) hx hb hK hP 0 0 rfl rfl (tq_in (by decide)) dX8_copies_13 ?_
  refine lv_topi (fun x117 ex117 => ?_)
  refine va_iast (i := 5) hx hb hK hP hD hS 0 0 rfl rfl (tq_in (by decide)) dX8_copies_14 (fun H locs hP hD hS => ?_)
  have hP : va_P G vwCl [(ra, .inl (cA 0, 128, .inl ((upd f115 (5 : Int32).toNatClampNeg x117))))] H := hP
  have hD : va_D A [(ra, .inl (cA 0, 128, .inl ((upd f115 (5 : Int32).toNatClampNeg x117))))] := hD
  generalize (upd f115 (5 : Int32).toNatClampNeg x117) = f118 at hP hD
  refine lv_iinc (v := 6) (lv' := [(2, .int 6), (0, .ref ra), (1, .int 64)]) hx hb dX8_copies_15 hl (k := 0) rfl (by decide) (by decide) rfl (fun ls hl => ?_)
  refine lv_goto (tgt := 2) hx hb dX8_copies_18 (by decide) ?_
  refine lv_iload_n hx hb dX8_copies_2 rfl (lv_at hl 0 rfl) ?_
  refine lv_iload_n hx hb dX8_copies_3 rfl (lv_at hl 2 rfl) ?_
  refine lv_icmp_ge (tgt := 21) hx hb dX8_copies_4 (by decide) (fun c119 => absurd c119 (by decide)) (fun c119 => ?_)
  refine lv_aload_n hx hb dX8_copies_7 rfl (lv_at hl 1 rfl) ?_
  refine lv_iload_n hx hb dX8_copies_8 rfl (lv_at hl 0 rfl) ?_
  refine lv_aload_n hx hb dX8_copies_9 rfl (lv_at hl 1 rfl) ?_
  refine lv_iload_n hx hb dX8_copies_10 rfl (lv_at hl 2 rfl) ?_
  refine lv_iload_n hx hb dX8_copies_11 rfl (lv_at hl 0 rfl) ?_
  refine lv_iadd hx hb dX8_copies_12 ?_
  refine tq_i (w := 70) (by decide) ?_
  refine va_iald (i := 70) hx hb hK hP 0 0 rfl rfl (tq_in (by decide)) dX8_copies_13 ?_
  refine lv_topi (fun x120 ex120 => ?_)
  refine va_iast (i := 6) hx hb hK hP hD hS 0 0 rfl rfl (tq_in (by decide)) dX8_copies_14 (fun H locs hP hD hS => ?_)
  have hP : va_P G vwCl [(ra, .inl (cA 0, 128, .inl ((upd f118 (6 : Int32).toNatClampNeg x120))))] H := hP
  have hD : va_D A [(ra, .inl (cA 0, 128, .inl ((upd f118 (6 : Int32).toNatClampNeg x120))))] := hD
  generalize (upd f118 (6 : Int32).toNatClampNeg x120) = f121 at hP hD
  refine lv_iinc (v := 7) (lv' := [(2, .int 7), (0, .ref ra), (1, .int 64)]) hx hb dX8_copies_15 hl (k := 0) rfl (by decide) (by decide) rfl (fun ls hl => ?_)
  refine lv_goto (tgt := 2) hx hb dX8_copies_18 (by decide) ?_
  refine lv_iload_n hx hb dX8_copies_2 rfl (lv_at hl 0 rfl) ?_
  refine lv_iload_n hx hb dX8_copies_3 rfl (lv_at hl 2 rfl) ?_
  refine lv_icmp_ge (tgt := 21) hx hb dX8_copies_4 (by decide) (fun c122 => absurd c122 (by decide)) (fun c122 => ?_)
  refine lv_aload_n hx hb dX8_copies_7 rfl (lv_at hl 1 rfl) ?_
  refine lv_iload_n hx hb dX8_copies_8 rfl (lv_at hl 0 rfl) ?_
  refine lv_aload_n hx hb dX8_copies_9 rfl (lv_at hl 1 rfl) ?_
  refine lv_iload_n hx hb dX8_copies_10 rfl (lv_at hl 2 rfl) ?_
  refine lv_iload_n hx hb dX8_copies_11 rfl (lv_at hl 0 rfl) ?_
  refine lv_iadd hx hb dX8_copies_12 ?_
  refine tq_i (w := 71) (by decide) ?_
  refine va_iald (i := 71) hx hb hK hP 0 0 rfl rfl (tq_in (by decide)) dX8_copies_13 ?_
  refine lv_topi (fun x123 ex123 => ?_)
  refine va_iast (i := 7) hx hb hK hP hD hS 0 0 rfl rfl (tq_in (by decide)) dX8_copies_14 (fun H locs hP hD hS => ?_)
  have hP : va_P G vwCl [(ra, .inl (cA 0, 128, .inl ((upd f121 (7 : Int32).toNatClampNeg x123))))] H := hP
  have hD : va_D A [(ra, .inl (cA 0, 128, .inl ((upd f121 (7 : Int32).toNatClampNeg x123))))] := hD
  generalize (upd f121 (7 : Int32).toNatClampNeg x123) = f124 at hP hD
  refine lv_iinc (v := 8) (lv' := [(2, .int 8), (0, .ref ra), (1, .int 64)]) hx hb dX8_copies_15 hl (k := 0) rfl (by decide) (by decide) rfl (fun ls hl => ?_)
  refine lv_goto (tgt := 2) hx hb dX8_copies_18 (by decide) ?_
  refine lv_iload_n hx hb dX8_copies_2 rfl (lv_at hl 0 rfl) ?_
  refine lv_iload_n hx hb dX8_copies_3 rfl (lv_at hl 2 rfl) ?_
  refine lv_icmp_ge (tgt := 21) hx hb dX8_copies_4 (by decide) (fun c125 => absurd c125 (by decide)) (fun c125 => ?_)
  refine lv_aload_n hx hb dX8_copies_7 rfl (lv_at hl 1 rfl) ?_
  refine lv_iload_n hx hb dX8_copies_8 rfl (lv_at hl 0 rfl) ?_
  refine lv_aload_n hx hb dX8_copies_9 rfl (lv_at hl 1 rfl) ?_
  refine lv_iload_n hx hb dX8_copies_10 rfl (lv_at hl 2 rfl) ?_
  refine lv_iload_n hx hb dX8_copies_11 rfl (lv_at hl 0 rfl) ?_
  refine lv_iadd hx hb dX8_copies_12 ?_
  refine tq_i (w := 72) (by decide) ?_
  refine va_iald (i := 72) hx hb hK hP 0 0 rfl rfl (tq_in (by decide)) dX8_copies_13 ?_
  refine lv_topi (fun x126 ex126 => ?_)
  refine va_iast (i := 8) hx hb hK hP hD hS 0 0 rfl rfl (tq_in (by decide)) dX8_copies_14 (fun H locs hP hD hS => ?_)
  have hP : va_P G vwCl [(ra, .inl (cA 0, 128, .inl ((upd f124 (8 : Int32).toNatClampNeg x126))))] H := hP
  have hD : va_D A [(ra, .inl (cA 0, 128, .inl ((upd f124 (8 : Int32).toNatClampNeg x126))))] := hD
  generalize (upd f124 (8 : Int32).toNatClampNeg x126) = f127 at hP hD
  refine lv_iinc (v := 9) (lv' := [(2, .int 9), (0, .ref ra), (1, .int 64)]) hx hb dX8_copies_15 hl (k := 0) rfl (by decide) (by decide) rfl (fun ls hl => ?_)
  refine lv_goto (tgt := 2) hx hb dX8_copies_18 (by decide) ?_
  refine lv_iload_n hx hb dX8_copies_2 rfl (lv_at hl 0 rfl) ?_
  refine lv_iload_n hx hb dX8_copies_3 rfl (lv_at hl 2 rfl) ?_
  refine lv_icmp_ge (tgt := 21) hx hb dX8_copies_4 (by decide) (fun c128 => absurd c128 (by decide)) (fun c128 => ?_)
  refine lv_aload_n hx hb dX8_copies_7 rfl (lv_at hl 1 rfl) ?_
  refine lv_iload_n hx hb dX8_copies_8 rfl (lv_at hl 0 rfl) ?_
  refine lv_aload_n hx hb dX8_copies_9 rfl (lv_at hl 1 rfl) ?_
  refine lv_iload_n hx hb dX8_copies_10 rfl (lv_at hl 2 rfl) ?_
  refine lv_iload_n hx hb dX8_copies_11 rfl (lv_at hl 0 rfl) ?_
  refine lv_iadd hx hb dX8_copies_12 ?_
  refine tq_i (w := 73) (by decide) ?_
  refine va_iald (i := 73) hx hb hK hP 0 0 rfl rfl (tq_in (by decide)) dX8_copies_13 ?_
  refine lv_topi (fun x129 ex129 => ?_)
  refine va_iast (i := 9) hx hb hK hP hD hS 0 0 rfl rfl (tq_in (by decide)) dX8_copies_14 (fun H locs hP hD hS => ?_)
  have hP : va_P G vwCl [(ra, .inl (cA 0, 128, .inl ((upd f127 (9 : Int32).toNatClampNeg x129))))] H := hP
  have hD : va_D A [(ra, .inl (cA 0, 128, .inl ((upd f127 (9 : Int32).toNatClampNeg x129))))] := hD
  generalize (upd f127 (9 : Int32).toNatClampNeg x129) = f130 at hP hD
  refine lv_iinc (v := 10) (lv' := [(2, .int 10), (0, .ref ra), (1, .int 64)]) hx hb dX8_copies_15 hl (k := 0) rfl (by decide) (by decide) rfl (fun ls hl => ?_)
  refine lv_goto (tgt := 2) hx hb dX8_copies_18 (by decide) ?_
  refine lv_iload_n hx hb dX8_copies_2 rfl (lv_at hl 0 rfl) ?_
  refine lv_iload_n hx hb dX8_copies_3 rfl (lv_at hl 2 rfl) ?_
  refine lv_icmp_ge (tgt := 21) hx hb dX8_copies_4 (by decide) (fun c131 => absurd c131 (by decide)) (fun c131 => ?_)
  refine lv_aload_n hx hb dX8_copies_7 rfl (lv_at hl 1 rfl) ?_
  refine lv_iload_n hx hb dX8_copies_8 rfl (lv_at hl 0 rfl) ?_
  refine lv_aload_n hx hb dX8_copies_9 rfl (lv_at hl 1 rfl) ?_
  refine lv_iload_n hx hb dX8_copies_10 rfl (lv_at hl 2 rfl) ?_
  refine lv_iload_n hx hb dX8_copies_11 rfl (lv_at hl 0 rfl) ?_
  refine lv_iadd hx hb dX8_copies_12 ?_
  refine tq_i (w := 74) (by decide) ?_
  refine va_iald (i := 74) hx hb hK hP 0 0 rfl rfl (tq_in (by decide)) dX8_copies_13 ?_
  refine lv_topi (fun x132 ex132 => ?_)
  refine va_iast (i := 10) hx hb hK hP hD hS 0 0 rfl rfl (tq_in (by decide)) dX8_copies_14 (fun H locs hP hD hS => ?_)
  have hP : va_P G vwCl [(ra, .inl (cA 0, 128, .inl ((upd f130 (10 : Int32).toNatClampNeg x132))))] H := hP
  have hD : va_D A [(ra, .inl (cA 0, 128, .inl ((upd f130 (10 : Int32).toNatClampNeg x132))))] := hD
  generalize (upd f130 (10 : Int32).toNatClampNeg x132) = f133 at hP hD
  refine lv_iinc (v := 11) (lv' := [(2, .int 11), (0, .ref ra), (1, .int 64)]) hx hb dX8_copies_15 hl (k := 0) rfl (by decide) (by decide) rfl (fun ls hl => ?_)
  refine lv_goto (tgt := 2) hx hb dX8_copies_18 (by decide) ?_
  refine lv_iload_n hx hb dX8_copies_2 rfl (lv_at hl 0 rfl) ?_
  refine lv_iload_n hx hb dX8_copies_3 rfl (lv_at hl 2 rfl) ?_
  refine lv_icmp_ge (tgt := 21) hx hb dX8_copies_4 (by decide) (fun c134 => absurd c134 (by decide)) (fun c134 => ?_)
  refine lv_aload_n hx hb dX8_copies_7 rfl (lv_at hl 1 rfl) ?_
  refine lv_iload_n hx hb dX8_copies_8 rfl (lv_at hl 0 rfl) ?_
  refine lv_aload_n hx hb dX8_copies_9 rfl (lv_at hl 1 rfl) ?_
  refine lv_iload_n hx hb dX8_copies_10 rfl (lv_at hl 2 rfl) ?_
  refine lv_iload_n hx hb dX8_copies_11 rfl (lv_at hl 0 rfl) ?_
  refine lv_iadd hx hb dX8_copies_12 ?_
  refine tq_i (w := 75) (by decide) ?_
  refine va_iald (i := 75) hx hb hK hP 0 0 rfl rfl (tq_in (by decide)) dX8_copies_13 ?_
  refine lv_topi (fun x135 ex135 => ?_)
  refine va_iast (i := 11) hx hb hK hP hD hS 0 0 rfl rfl (tq_in (by decide)) dX8_copies_14 (fun H locs hP hD hS => ?_)
  have hP : va_P G vwCl [(ra, .inl (cA 0, 128, .inl ((upd f133 (11 : Int32).toNatClampNeg x135))))] H := hP
  have hD : va_D A [(ra, .inl (cA 0, 128, .inl ((upd f133 (11 : Int32).toNatClampNeg x135))))] := hD
  generalize (upd f133 (11 : Int32).toNatClampNeg x135) = f136 at hP hD
  refine lv_iinc (v := 12) (lv' := [(2, .int 12), (0, .ref ra), (1, .int 64)]) hx hb dX8_copies_15 hl (k := 0) rfl (by decide) (by decide) rfl (fun ls hl => ?_)
  refine lv_goto (tgt := 2) hx hb dX8_copies_18 (by decide) ?_
  refine lv_iload_n hx hb dX8_copies_2 rfl (lv_at hl 0 rfl) ?_
  refine lv_iload_n hx hb dX8_copies_3 rfl (lv_at hl 2 rfl) ?_
  refine lv_icmp_ge (tgt := 21) hx hb dX8_copies_4 (by decide) (fun c137 => absurd c137 (by decide)) (fun c137 => ?_)
  refine lv_aload_n hx hb dX8_copies_7 rfl (lv_at hl 1 rfl) ?_
  refine lv_iload_n hx hb dX8_copies_8 rfl (lv_at hl 0 rfl) ?_
  refine lv_aload_n hx hb dX8_copies_9 rfl (lv_at hl 1 rfl) ?_
  refine lv_iload_n hx hb dX8_copies_10 rfl (lv_at hl 2 rfl) ?_
  refine lv_iload_n hx hb dX8_copies_11 rfl (lv_at hl 0 rfl) ?_
  refine lv_iadd hx hb dX8_copies_12 ?_
  refine tq_i (w := 76) (by decide) ?_
  refine va_iald (i := 76) hx hb hK hP 0 0 rfl rfl (tq_in (by decide)) dX8_copies_13 ?_
  refine lv_topi (fun x138 ex138 => ?_)
  refine va_iast (i := 12) hx hb hK hP hD hS 0 0 rfl rfl (tq_in (by decide)) dX8_copies_14 (fun H locs hP hD hS => ?_)
  have hP : va_P G vwCl [(ra, .inl (cA 0, 128, .inl ((upd f136 (12 : Int32).toNatClampNeg x138))))] H := hP
  have hD : va_D A [(ra, .inl (cA 0, 128, .inl ((upd f136 (12 : Int32).toNatClampNeg x138))))] := hD
  generalize (upd f136 (12 : Int32).toNatClampNeg x138) = f139 at hP hD
  refine lv_iinc (v := 13) (lv' := [(2, .int 13), (0, .ref ra), (1, .int 64)]) hx hb dX8_copies_15 hl (k := 0) rfl (by decide) (by decide) rfl (fun ls hl => ?_)
  refine lv_goto (tgt := 2) hx hb dX8_copies_18 (by decide) ?_
  refine lv_iload_n hx hb dX8_copies_2 rfl (lv_at hl 0 rfl) ?_
  refine lv_iload_n hx hb dX8_copies_3 rfl (lv_at hl 2 rfl) ?_
  refine lv_icmp_ge (tgt := 21) hx hb dX8_copies_4 (by decide) (fun c140 => absurd c140 (by decide)) (fun c140 => ?_)
  refine lv_aload_n hx hb dX8_copies_7 rfl (lv_at hl 1 rfl) ?_
  refine lv_iload_n hx hb dX8_copies_8 rfl (lv_at hl 0 rfl) ?_
  refine lv_aload_n hx hb dX8_copies_9 rfl (lv_at hl 1 rfl) ?_
  refine lv_iload_n hx hb dX8_copies_10 rfl (lv_at hl 2 rfl) ?_
  refine lv_iload_n hx hb dX8_copies_11 rfl (lv_at hl 0 rfl) ?_
  refine lv_iadd hx hb dX8_copies_12 ?_
  refine tq_i (w := 77) (by decide) ?_
  refine va_iald (i := 77) hx hb hK hP 0 0 rfl rfl (tq_in (by decide)) dX8_copies_13 ?_
  refine lv_topi (fun x141 ex141 => ?_)
  refine va_iast (i := 13) hx hb hK hP hD hS 0 0 rfl rfl (tq_in (by decide)) dX8_copies_14 (fun H locs hP hD hS => ?_)
  have hP : va_P G vwCl [(ra, .inl (cA 0, 128, .inl ((upd f139 (13 : Int32).toNatClampNeg x141))))] H := hP
  have hD : va_D A [(ra, .inl (cA 0, 128, .inl ((upd f139 (13 : Int32).toNatClampNeg x141))))] := hD
  generalize (upd f139 (13 : Int32).toNatClampNeg x141) = f142 at hP hD
  refine lv_iinc (v := 14) (lv' := [(2, .int 14), (0, .ref ra), (1, .int 64)]) hx hb dX8_copies_15 hl (k := 0) rfl (by decide) (by decide) rfl (fun ls hl => ?_)
  refine lv_goto (tgt := 2) hx hb dX8_copies_18 (by decide) ?_
  refine lv_iload_n hx hb dX8_copies_2 rfl (lv_at hl 0 rfl) ?_
  refine lv_iload_n hx hb dX8_copies_3 rfl (lv_at hl 2 rfl) ?_
  refine lv_icmp_ge (tgt := 21) hx hb dX8_copies_4 (by decide) (fun c143 => absurd c143 (by decide)) (fun c143 => ?_)
  refine lv_aload_n hx hb dX8_copies_7 rfl (lv_at hl 1 rfl) ?_
  refine lv_iload_n hx hb dX8_copies_8 rfl (lv_at hl 0 rfl) ?_
  refine lv_aload_n hx hb dX8_copies_9 rfl (lv_at hl 1 rfl) ?_
  refine lv_iload_n hx hb dX8_copies_10 rfl (lv_at hl 2 rfl) ?_
  refine lv_iload_n hx hb dX8_copies_11 rfl (lv_at hl 0 rfl) ?_
  refine lv_iadd hx hb dX8_copies_12 ?_
  refine tq_i (w := 78) (by decide) ?_
  refine va_iald (i := 78) hx hb hK hP 0 0 rfl rfl (tq_in (by decide)) dX8_copies_13 ?_
  refine lv_topi (fun x144 ex144 => ?_)
  refine va_iast (i := 14) hx hb hK hP hD hS 0 0 rfl rfl (tq_in (by decide)) dX8_copies_14 (fun H locs hP hD hS => ?_)
  have hP : va_P G vwCl [(ra, .inl (cA 0, 128, .inl ((upd f142 (14 : Int32).toNatClampNeg x144))))] H := hP
  have hD : va_D A [(ra, .inl (cA 0, 128, .inl ((upd f142 (14 : Int32).toNatClampNeg x144))))] := hD
  generalize (upd f142 (14 : Int32).toNatClampNeg x144) = f145 at hP hD
  refine lv_iinc (v := 15) (lv' := [(2, .int 15), (0, .ref ra), (1, .int 64)]) hx hb dX8_copies_15 hl (k := 0) rfl (by decide) (by decide) rfl (fun ls hl => ?_)
  refine lv_goto (tgt := 2) hx hb dX8_copies_18 (by decide) ?_
  refine lv_iload_n hx hb dX8_copies_2 rfl (lv_at hl 0 rfl) ?_
  refine lv_iload_n hx hb dX8_copies_3 rfl (lv_at hl 2 rfl) ?_
  refine lv_icmp_ge (tgt := 21) hx hb dX8_copies_4 (by decide) (fun c146 => absurd c146 (by decide)) (fun c146 => ?_)
  refine lv_aload_n hx hb dX8_copies_7 rfl (lv_at hl 1 rfl) ?_
  refine lv_iload_n hx hb dX8_copies_8 rfl (lv_at hl 0 rfl) ?_
  refine lv_aload_n hx hb dX8_copies_9 rfl (lv_at hl 1 rfl) ?_
  refine lv_iload_n hx hb dX8_copies_10 rfl (lv_at hl 2 rfl) ?_
  refine lv_iload_n hx hb dX8_copies_11 rfl (lv_at hl 0 rfl) ?_
  refine lv_iadd hx hb dX8_copies_12 ?_
  refine tq_i (w := 79) (by decide) ?_
  refine va_iald (i := 79) hx hb hK hP 0 0 rfl rfl (tq_in (by decide)) dX8_copies_13 ?_
  refine lv_topi (fun x147 ex147 => ?_)
  refine va_iast (i := 15) hx hb hK hP hD hS 0 0 rfl rfl (tq_in (by decide)) dX8_copies_14 (fun H locs hP hD hS => ?_)
  have hP : va_P G vwCl [(ra, .inl (cA 0, 128, .inl ((upd f145 (15 : Int32).toNatClampNeg x147))))] H := hP
  have hD : va_D A [(ra, .inl (cA 0, 128, .inl ((upd f145 (15 : Int32).toNatClampNeg x147))))] := hD
  generalize (upd f145 (15 : Int32).toNatClampNeg x147) = f148 at hP hD
  refine lv_iinc (v := 16) (lv' := [(2, .int 16), (0, .ref ra), (1, .int 64)]) hx hb dX8_copies_15 hl (k := 0) rfl (by decide) (by decide) rfl (fun ls hl => ?_)
  refine lv_goto (tgt := 2) hx hb dX8_copies_18 (by decide) ?_
  refine lv_iload_n hx hb dX8_copies_2 rfl (lv_at hl 0 rfl) ?_
  refine lv_iload_n hx hb dX8_copies_3 rfl (lv_at hl 2 rfl) ?_
  refine lv_icmp_ge (tgt := 21) hx hb dX8_copies_4 (by decide) (fun c149 => absurd c149 (by decide)) (fun c149 => ?_)
  refine lv_aload_n hx hb dX8_copies_7 rfl (lv_at hl 1 rfl) ?_
  refine lv_iload_n hx hb dX8_copies_8 rfl (lv_at hl 0 rfl) ?_
  refine lv_aload_n hx hb dX8_copies_9 rfl (lv_at hl 1 rfl) ?_
  refine lv_iload_n hx hb dX8_copies_10 rfl (lv_at hl 2 rfl) ?_
  refine lv_iload_n hx hb dX8_copies_11 rfl (lv_at hl 0 rfl) ?_
  refine lv_iadd hx hb dX8_copies_12 ?_
  refine tq_i (w := 80) (by decide) ?_
  refine va_iald (i := 80) hx hb hK hP 0 0 rfl rfl (tq_in (by decide)) dX8_copies_13 ?_
  refine lv_topi (fun x150 ex150 => ?_)
  refine va_iast (i := 16) hx hb hK hP hD hS 0 0 rfl rfl (tq_in (by decide)) dX8_copies_14 (fun H locs hP hD hS => ?_)
  have hP : va_P G vwCl [(ra, .inl (cA 0, 128, .inl ((upd f148 (16 : Int32).toNatClampNeg x150))))] H := hP
  have hD : va_D A [(ra, .inl (cA 0, 128, .inl ((upd f148 (16 : Int32).toNatClampNeg x150))))] := hD
  generalize (upd f148 (16 : Int32).toNatClampNeg x150) = f151 at hP hD
  refine lv_iinc (v := 17) (lv' := [(2, .int 17), (0, .ref ra), (1, .int 64)]) hx hb dX8_copies_15 hl (k := 0) rfl (by decide) (by decide) rfl (fun ls hl => ?_)
  refine lv_goto (tgt := 2) hx hb dX8_copies_18 (by decide) ?_
  refine lv_iload_n hx hb dX8_copies_2 rfl (lv_at hl 0 rfl) ?_
  refine lv_iload_n hx hb dX8_copies_3 rfl (lv_at hl 2 rfl) ?_
  refine lv_icmp_ge (tgt := 21) hx hb dX8_copies_4 (by decide) (fun c152 => absurd c152 (by decide)) (fun c152 => ?_)
  refine lv_aload_n hx hb dX8_copies_7 rfl (lv_at hl 1 rfl) ?_
  refine lv_iload_n hx hb dX8_copies_8 rfl (lv_at hl 0 rfl) ?_
  refine lv_aload_n hx hb dX8_copies_9 rfl (lv_at hl 1 rfl) ?_
  refine lv_iload_n hx hb dX8_copies_10 rfl (lv_at hl 2 rfl) ?_
  refine lv_iload_n hx hb dX8_copies_11 rfl (lv_at hl 0 rfl) ?_
  refine lv_iadd hx hb dX8_copies_12 ?_
  refine tq_i (w := 81) (by decide) ?_
  refine va_iald (i := 81) hx hb hK hP 0 0 rfl rfl (tq_in (by decide)) dX8_copies_13 ?_
  refine lv_topi (fun x153 ex153 => ?_)
  refine va_iast (i := 17) hx hb hK hP hD hS 0 0 rfl rfl (tq_in (by decide)) dX8_copies_14 (fun H locs hP hD hS => ?_)
  have hP : va_P G vwCl [(ra, .inl (cA 0, 128, .inl ((upd f151 (17 : Int32).toNatClampNeg x153))))] H := hP
  have hD : va_D A [(ra, .inl (cA 0, 128, .inl ((upd f151 (17 : Int32).toNatClampNeg x153))))] := hD
  generalize (upd f151 (17 : Int32).toNatClampNeg x153) = f154 at hP hD
  refine lv_iinc (v := 18) (lv' := [(2, .int 18), (0, .ref ra), (1, .int 64)]) hx hb dX8_copies_15 hl (k := 0) rfl (by decide) (by decide) rfl (fun ls hl => ?_)
  refine lv_goto (tgt := 2) hx hb dX8_copies_18 (by decide) ?_
  refine lv_iload_n hx hb dX8_copies_2 rfl (lv_at hl 0 rfl) ?_
  refine lv_iload_n hx hb dX8_copies_3 rfl (lv_at hl 2 rfl) ?_
  refine lv_icmp_ge (tgt := 21) hx hb dX8_copies_4 (by decide) (fun c155 => absurd c155 (by decide)) (fun c155 => ?_)
  refine lv_aload_n hx hb dX8_copies_7 rfl (lv_at hl 1 rfl) ?_
  refine lv_iload_n hx hb dX8_copies_8 rfl (lv_at hl 0 rfl) ?_
  refine lv_aload_n hx hb dX8_copies_9 rfl (lv_at hl 1 rfl) ?_
  refine lv_iload_n hx hb dX8_copies_10 rfl (lv_at hl 2 rfl) ?_
  refine lv_iload_n hx hb dX8_copies_11 rfl (lv_at hl 0 rfl) ?_
  refine lv_iadd hx hb dX8_copies_12 ?_
  refine tq_i (w := 82) (by decide) ?_
  refine va_iald (i := 82) hx hb hK hP 0 0 rfl rfl (tq_in (by decide)) dX8_copies_13 ?_
  refine lv_topi (fun x156 ex156 => ?_)
  refine va_iast (i := 18) hx hb hK hP hD hS 0 0 rfl rfl (tq_in (by decide)) dX8_copies_14 (fun H locs hP hD hS => ?_)
  have hP : va_P G vwCl [(ra, .inl (cA 0, 128, .inl ((upd f154 (18 : Int32).toNatClampNeg x156))))] H := hP
  have hD : va_D A [(ra, .inl (cA 0, 128, .inl ((upd f154 (18 : Int32).toNatClampNeg x156))))] := hD
  generalize (upd f154 (18 : Int32).toNatClampNeg x156) = f157 at hP hD
  refine lv_iinc (v := 19) (lv' := [(2, .int 19), (0, .ref ra), (1, .int 64)]) hx hb dX8_copies_15 hl (k := 0) rfl (by decide) (by decide) rfl (fun ls hl => ?_)
  refine lv_goto (tgt := 2) hx hb dX8_copies_18 (by decide) ?_
  refine lv_iload_n hx hb dX8_copies_2 rfl (lv_at hl 0 rfl) ?_
  refine lv_iload_n hx hb dX8_copies_3 rfl (lv_at hl 2 rfl) ?_
  refine lv_icmp_ge (tgt := 21) hx hb dX8_copies_4 (by decide) (fun c158 => absurd c158 (by decide)) (fun c158 => ?_)
  refine lv_aload_n hx hb dX8_copies_7 rfl (lv_at hl 1 rfl) ?_
  refine lv_iload_n hx hb dX8_copies_8 rfl (lv_at hl 0 rfl) ?_
  refine lv_aload_n hx hb dX8_copies_9 rfl (lv_at hl 1 rfl) ?_
  refine lv_iload_n hx hb dX8_copies_10 rfl (lv_at hl 2 rfl) ?_
  refine lv_iload_n hx hb dX8_copies_11 rfl (lv_at hl 0 rfl) ?_
  refine lv_iadd hx hb dX8_copies_12 ?_
  refine tq_i (w := 83) (by decide) ?_
  refine va_iald (i := 83) hx hb hK hP 0 0 rfl rfl (tq_in (by decide)) dX8_copies_13 ?_
  refine lv_topi (fun x159 ex159 => ?_)
  refine va_iast (i := 19) hx hb hK hP hD hS 0 0 rfl rfl (tq_in (by decide)) dX8_copies_14 (fun H locs hP hD hS => ?_)
  have hP : va_P G vwCl [(ra, .inl (cA 0, 128, .inl ((upd f157 (19 : Int32).toNatClampNeg x159))))] H := hP
  have hD : va_D A [(ra, .inl (cA 0, 128, .inl ((upd f157 (19 : Int32).toNatClampNeg x159))))] := hD
  generalize (upd f157 (19 : Int32).toNatClampNeg x159) = f160 at hP hD
  refine lv_iinc (v := 20) (lv' := [(2, .int 20), (0, .ref ra), (1, .int 64)]) hx hb dX8_copies_15 hl (k := 0) rfl (by decide) (by decide) rfl (fun ls hl => ?_)
  refine lv_goto (tgt := 2) hx hb dX8_copies_18 (by decide) ?_
  refine lv_iload_n hx hb dX8_copies_2 rfl (lv_at hl 0 rfl) ?_
  refine lv_iload_n hx hb dX8_copies_3 rfl (lv_at hl 2 rfl) ?_
  refine lv_icmp_ge (tgt := 21) hx hb dX8_copies_4 (by decide) (fun c161 => absurd c161 (by decide)) (fun c161 => ?_)
  refine lv_aload_n hx hb dX8_copies_7 rfl (lv_at hl 1 rfl) ?_
  refine lv_iload_n hx hb dX8_copies_8 rfl (lv_at hl 0 rfl) ?_
  refine lv_aload_n hx hb dX8_copies_9 rfl (lv_at hl 1 rfl) ?_
  refine lv_iload_n hx hb dX8_copies_10 rfl (lv_at hl 2 rfl) ?_
  refine lv_iload_n hx hb dX8_copies_11 rfl (lv_at hl 0 rfl) ?_
  refine lv_iadd hx hb dX8_copies_12 ?_
  refine tq_i (w := 84) (by decide) ?_
  refine va_iald (i := 84) hx hb hK hP 0 0 rfl rfl (tq_in (by decide)) dX8_copies_13 ?_
  refine lv_topi (fun x162 ex162 => ?_)
  refine va_iast (i := 20) hx hb hK hP hD hS 0 0 rfl rfl (tq_in (by decide)) dX8_copies_14 (fun H locs hP hD hS => ?_)
  have hP : va_P G vwCl [(ra, .inl (cA 0, 128, .inl ((upd f160 (20 : Int32).toNatClampNeg x162))))] H := hP
  have hD : va_D A [(ra, .inl (cA 0, 128, .inl ((upd f160 (20 : Int32).toNatClampNeg x162))))] := hD
  generalize (upd f160 (20 : Int32).toNatClampNeg x162) = f163 at hP hD
  refine lv_iinc (v := 21) (lv' := [(2, .int 21), (0, .ref ra), (1, .int 64)]) hx hb dX8_copies_15 hl (k := 0) rfl (by decide) (by decide) rfl (fun ls hl => ?_)
  refine lv_goto (tgt := 2) hx hb dX8_copies_18 (by decide) ?_
  refine lv_iload_n hx hb dX8_copies_2 rfl (lv_at hl 0 rfl) ?_
  refine lv_iload_n hx hb dX8_copies_3 rfl (lv_at hl 2 rfl) ?_
  refine lv_icmp_ge (tgt := 21) hx hb dX8_copies_4 (by decide) (fun c164 => absurd c164 (by decide)) (fun c164 => ?_)
  refine lv_aload_n hx hb dX8_copies_7 rfl (lv_at hl 1 rfl) ?_
  refine lv_iload_n hx hb dX8_copies_8 rfl (lv_at hl 0 rfl) ?_
  refine lv_aload_n hx hb dX8_copies_9 rfl (lv_at hl 1 rfl) ?_
  refine lv_iload_n hx hb dX8_copies_10 rfl (lv_at hl 2 rfl) ?_
  refine lv_iload_n hx hb dX8_copies_11 rfl (lv_at hl 0 rfl) ?_
  refine lv_iadd hx hb dX8_copies_12 ?_
  refine tq_i (w := 85) (by decide) ?_
  refine va_iald (i := 85) hx hb hK hP 0 0 rfl rfl (tq_in (by decide)) dX8_copies_13 ?_
  refine lv_topi (fun x165 ex165 => ?_)
  refine va_iast (i := 21) hx hb hK hP hD hS 0 0 rfl rfl (tq_in (by decide)) dX8_copies_14 (fun H locs hP hD hS => ?_)
  have hP : va_P G vwCl [(ra, .inl (cA 0, 128, .inl ((upd f163 (21 : Int32).toNatClampNeg x165))))] H := hP
  have hD : va_D A [(ra, .inl (cA 0, 128, .inl ((upd f163 (21 : Int32).toNatClampNeg x165))))] := hD
  generalize (upd f163 (21 : Int32).toNatClampNeg x165) = f166 at hP hD
  refine lv_iinc (v := 22) (lv' := [(2, .int 22), (0, .ref ra), (1, .int 64)]) hx hb dX8_copies_15 hl (k := 0) rfl (by decide) (by decide) rfl (fun ls hl => ?_)
  refine lv_goto (tgt := 2) hx hb dX8_copies_18 (by decide) ?_
  refine lv_iload_n hx hb dX8_copies_2 rfl (lv_at hl 0 rfl) ?_
  refine lv_iload_n hx hb dX8_copies_3 rfl (lv_at hl 2 rfl) ?_
  refine lv_icmp_ge (tgt := 21) hx hb dX8_copies_4 (by decide) (fun c167 => absurd c167 (by decide)) (fun c167 => ?_)
  refine lv_aload_n hx hb dX8_copies_7 rfl (lv_at hl 1 rfl) ?_
  refine lv_iload_n hx hb dX8_copies_8 rfl (lv_at hl 0 rfl) ?_
  refine lv_aload_n hx hb dX8_copies_9 rfl (lv_at hl 1 rfl) ?_
  refine lv_iload_n hx hb dX8_copies_10 rfl (lv_at hl 2 rfl) ?_
  refine lv_iload_n hx hb dX8_copies_11 rfl (lv_at hl 0 rfl) ?_
  refine lv_iadd hx hb dX8_copies_12 ?_
  refine tq_i (w := 86) (by decide) ?_
  refine va_iald (i := 86) hx hb hK hP 0 0 rfl rfl (tq_in (by decide)) dX8_copies_13 ?_
  refine lv_topi (fun x168 ex168 => ?_)
  refine va_iast (i := 22) hx hb hK hP hD hS 0 0 rfl rfl (tq_in (by decide)) dX8_copies_14 (fun H locs hP hD hS => ?_)
  have hP : va_P G vwCl [(ra, .inl (cA 0, 128, .inl ((upd f166 (22 : Int32).toNatClampNeg x168))))] H := hP
  have hD : va_D A [(ra, .inl (cA 0, 128, .inl ((upd f166 (22 : Int32).toNatClampNeg x168))))] := hD
  generalize (upd f166 (22 : Int32).toNatClampNeg x168) = f169 at hP hD
  refine lv_iinc (v := 23) (lv' := [(2, .int 23), (0, .ref ra), (1, .int 64)]) hx hb dX8_copies_15 hl (k := 0) rfl (by decide) (by decide) rfl (fun ls hl => ?_)
  refine lv_goto (tgt := 2) hx hb dX8_copies_18 (by decide) ?_
  refine lv_iload_n hx hb dX8_copies_2 rfl (lv_at hl 0 rfl) ?_
  refine lv_iload_n hx hb dX8_copies_3 rfl (lv_at hl 2 rfl) ?_
  refine lv_icmp_ge (tgt := 21) hx hb dX8_copies_4 (by decide) (fun c170 => absurd c170 (by decide)) (fun c170 => ?_)
  refine lv_aload_n hx hb dX8_copies_7 rfl (lv_at hl 1 rfl) ?_
  refine lv_iload_n hx hb dX8_copies_8 rfl (lv_at hl 0 rfl) ?_
  refine lv_aload_n hx hb dX8_copies_9 rfl (lv_at hl 1 rfl) ?_
  refine lv_iload_n hx hb dX8_copies_10 rfl (lv_at hl 2 rfl) ?_
  refine lv_iload_n hx hb dX8_copies_11 rfl (lv_at hl 0 rfl) ?_
  refine lv_iadd hx hb dX8_copies_12 ?_
  refine tq_i (w := 87) (by decide) ?_
  refine va_iald (i := 87) hx hb hK hP 0 0 rfl rfl (tq_in (by decide)) dX8_copies_13 ?_
  refine lv_topi (fun x171 ex171 => ?_)
  refine va_iast (i := 23) hx hb hK hP hD hS 0 0 rfl rfl (tq_in (by decide)) dX8_copies_14 (fun H locs hP hD hS => ?_)
  have hP : va_P G vwCl [(ra, .inl (cA 0, 128, .inl ((upd f169 (23 : Int32).toNatClampNeg x171))))] H := hP
  have hD : va_D A [(ra, .inl (cA 0, 128, .inl ((upd f169 (23 : Int32).toNatClampNeg x171))))] := hD
  generalize (upd f169 (23 : Int32).toNatClampNeg x171) = f172 at hP hD
  refine lv_iinc (v := 24) (lv' := [(2, .int 24), (0, .ref ra), (1, .int 64)]) hx hb dX8_copies_15 hl (k := 0) rfl (by decide) (by decide) rfl (fun ls hl => ?_)
  refine lv_goto (tgt := 2) hx hb dX8_copies_18 (by decide) ?_
  refine lv_iload_n hx hb dX8_copies_2 rfl (lv_at hl 0 rfl) ?_
  refine lv_iload_n hx hb dX8_copies_3 rfl (lv_at hl 2 rfl) ?_
  refine lv_icmp_ge (tgt := 21) hx hb dX8_copies_4 (by decide) (fun c173 => absurd c173 (by decide)) (fun c173 => ?_)
  refine lv_aload_n hx hb dX8_copies_7 rfl (lv_at hl 1 rfl) ?_
  refine lv_iload_n hx hb dX8_copies_8 rfl (lv_at hl 0 rfl) ?_
  refine lv_aload_n hx hb dX8_copies_9 rfl (lv_at hl 1 rfl) ?_
  refine lv_iload_n hx hb dX8_copies_10 rfl (lv_at hl 2 rfl) ?_
  refine lv_iload_n hx hb dX8_copies_11 rfl (lv_at hl 0 rfl) ?_
  refine lv_iadd hx hb dX8_copies_12 ?_
  refine tq_i (w := 88) (by decide) ?_
  refine va_iald (i := 88) hx hb hK hP 0 0 rfl rfl (tq_in (by decide)) dX8_copies_13 ?_
  refine lv_topi (fun x174 ex174 => ?_)
  refine va_iast (i := 24) hx hb hK hP hD hS 0 0 rfl rfl (tq_in (by decide)) dX8_copies_14 (fun H locs hP hD hS => ?_)
  have hP : va_P G vwCl [(ra, .inl (cA 0, 128, .inl ((upd f172 (24 : Int32).toNatClampNeg x174))))] H := hP
  have hD : va_D A [(ra, .inl (cA 0, 128, .inl ((upd f172 (24 : Int32).toNatClampNeg x174))))] := hD
  generalize (upd f172 (24 : Int32).toNatClampNeg x174) = f175 at hP hD
  refine lv_iinc (v := 25) (lv' := [(2, .int 25), (0, .ref ra), (1, .int 64)]) hx hb dX8_copies_15 hl (k := 0) rfl (by decide) (by decide) rfl (fun ls hl => ?_)
  refine lv_goto (tgt := 2) hx hb dX8_copies_18 (by decide) ?_
  refine lv_iload_n hx hb dX8_copies_2 rfl (lv_at hl 0 rfl) ?_
  refine lv_iload_n hx hb dX8_copies_3 rfl (lv_at hl 2 rfl) ?_
  refine lv_icmp_ge (tgt := 21) hx hb dX8_copies_4 (by decide) (fun c176 => absurd c176 (by decide)) (fun c176 => ?_)
  refine lv_aload_n hx hb dX8_copies_7 rfl (lv_at hl 1 rfl) ?_
  refine lv_iload_n hx hb dX8_copies_8 rfl (lv_at hl 0 rfl) ?_
  refine lv_aload_n hx hb dX8_copies_9 rfl (lv_at hl 1 rfl) ?_
  refine lv_iload_n hx hb dX8_copies_10 rfl (lv_at hl 2 rfl) ?_
  refine lv_iload_n hx hb dX8_copies_11 rfl (lv_at hl 0 rfl) ?_
  refine lv_iadd hx hb dX8_copies_12 ?_
  refine tq_i (w := 89) (by decide) ?_
  refine va_iald (i := 89) hx hb hK hP 0 0 rfl rfl (tq_in (by decide)) dX8_copies_13 ?_
  refine lv_topi (fun x177 ex177 => ?_)
  refine va_iast (i := 25) hx hb hK hP hD hS 0 0 rfl rfl (tq_in (by decide)) dX8_copies_14 (fun H locs hP hD hS => ?_)
  have hP : va_P G vwCl [(ra, .inl (cA 0, 128, .inl ((upd f175 (25 : Int32).toNatClampNeg x177))))] H := hP
  have hD : va_D A [(ra, .inl (cA 0, 128, .inl ((upd f175 (25 : Int32).toNatClampNeg x177))))] := hD
  generalize (upd f175 (25 : Int32).toNatClampNeg x177) = f178 at hP hD
  refine lv_iinc (v := 26) (lv' := [(2, .int 26), (0, .ref ra), (1, .int 64)]) hx hb dX8_copies_15 hl (k := 0) rfl (by decide) (by decide) rfl (fun ls hl => ?_)
  refine lv_goto (tgt := 2) hx hb dX8_copies_18 (by decide) ?_
  refine lv_iload_n hx hb dX8_copies_2 rfl (lv_at hl 0 rfl) ?_
  refine lv_iload_n hx hb dX8_copies_3 rfl (lv_at hl 2 rfl) ?_
  refine lv_icmp_ge (tgt := 21) hx hb dX8_copies_4 (by decide) (fun c179 => absurd c179 (by decide)) (fun c179 => ?_)
  refine lv_aload_n hx hb dX8_copies_7 rfl (lv_at hl 1 rfl) ?_
  refine lv_iload_n hx hb dX8_copies_8 rfl (lv_at hl 0 rfl) ?_
  refine lv_aload_n hx hb dX8_copies_9 rfl (lv_at hl 1 rfl) ?_
  refine lv_iload_n hx hb dX8_copies_10 rfl (lv_at hl 2 rfl) ?_
  refine lv_iload_n hx hb dX8_copies_11 rfl (lv_at hl 0 rfl) ?_
  refine lv_iadd hx hb dX8_copies_12 ?_
  refine tq_i (w := 90) (by decide) ?_
  refine va_iald (i := 90) hx hb hK hP 0 0 rfl rfl (tq_in (by decide)) dX8_copies_13 ?_
  refine lv_topi (fun x180 ex180 => ?_)
  refine va_iast (i := 26) hx hb hK hP hD hS 0 0 rfl rfl (tq_in (by decide)) dX8_copies_14 (fun H locs hP hD hS => ?_)
  have hP : va_P G vwCl [(ra, .inl (cA 0, 128, .inl ((upd f178 (26 : Int32).toNatClampNeg x180))))] H := hP
  have hD : va_D A [(ra, .inl (cA 0, 128, .inl ((upd f178 (26 : Int32).toNatClampNeg x180))))] := hD
  generalize (upd f178 (26 : Int32).toNatClampNeg x180) = f181 at hP hD
  refine lv_iinc (v := 27) (lv' := [(2, .int 27), (0, .ref ra), (1, .int 64)]) hx hb dX8_copies_15 hl (k := 0) rfl (by decide) (by decide) rfl (fun ls hl => ?_)
  refine lv_goto (tgt := 2) hx hb dX8_copies_18 (by decide) ?_
  refine lv_iload_n hx hb dX8_copies_2 rfl (lv_at hl 0 rfl) ?_
  refine lv_iload_n hx hb dX8_copies_3 rfl (lv_at hl 2 rfl) ?_
  refine lv_icmp_ge (tgt := 21) hx hb dX8_copies_4 (by decide) (fun c182 => absurd c182 (by decide)) (fun c182 => ?_)
  refine lv_aload_n hx hb dX8_copies_7 rfl (lv_at hl 1 rfl) ?_
  refine lv_iload_n hx hb dX8_copies_8 rfl (lv_at hl 0 rfl) ?_
  refine lv_aload_n hx hb dX8_copies_9 rfl (lv_at hl 1 rfl) ?_
  refine lv_iload_n hx hb dX8_copies_10 rfl (lv_at hl 2 rfl) ?_
  refine lv_iload_n hx hb dX8_copies_11 rfl (lv_at hl 0 rfl) ?_
  refine lv_iadd hx hb dX8_copies_12 ?_
  refine tq_i (w := 91) (by decide) ?_
  refine va_iald (i := 91) hx hb hK hP 0 0 rfl rfl (tq_in (by decide)) dX8_copies_13 ?_
  refine lv_topi (fun x183 ex183 => ?_)
  refine va_iast (i := 27) hx hb hK hP hD hS 0 0 rfl rfl (tq_in (by decide)) dX8_copies_14 (fun H locs hP hD hS => ?_)
  have hP : va_P G vwCl [(ra, .inl (cA 0, 128, .inl ((upd f181 (27 : Int32).toNatClampNeg x183))))] H := hP
  have hD : va_D A [(ra, .inl (cA 0, 128, .inl ((upd f181 (27 : Int32).toNatClampNeg x183))))] := hD
  generalize (upd f181 (27 : Int32).toNatClampNeg x183) = f184 at hP hD
  refine lv_iinc (v := 28) (lv' := [(2, .int 28), (0, .ref ra), (1, .int 64)]) hx hb dX8_copies_15 hl (k := 0) rfl (by decide) (by decide) rfl (fun ls hl => ?_)
  refine lv_goto (tgt := 2) hx hb dX8_copies_18 (by decide) ?_
  refine lv_iload_n hx hb dX8_copies_2 rfl (lv_at hl 0 rfl) ?_
  refine lv_iload_n hx hb dX8_copies_3 rfl (lv_at hl 2 rfl) ?_
  refine lv_icmp_ge (tgt := 21) hx hb dX8_copies_4 (by decide) (fun c185 => absurd c185 (by decide)) (fun c185 => ?_)
  refine lv_aload_n hx hb dX8_copies_7 rfl (lv_at hl 1 rfl) ?_
  refine lv_iload_n hx hb dX8_copies_8 rfl (lv_at hl 0 rfl) ?_
  refine lv_aload_n hx hb dX8_copies_9 rfl (lv_at hl 1 rfl) ?_
  refine lv_iload_n hx hb dX8_copies_10 rfl (lv_at hl 2 rfl) ?_
  refine lv_iload_n hx hb dX8_copies_11 rfl (lv_at hl 0 rfl) ?_
  refine lv_iadd hx hb dX8_copies_12 ?_
  refine tq_i (w := 92) (by decide) ?_
  refine va_iald (i := 92) hx hb hK hP 0 0 rfl rfl (tq_in (by decide)) dX8_copies_13 ?_
  refine lv_topi (fun x186 ex186 => ?_)
  refine va_iast (i := 28) hx hb hK hP hD hS 0 0 rfl rfl (tq_in (by decide)) dX8_copies_14 (fun H locs hP hD hS => ?_)
  have hP : va_P G vwCl [(ra, .inl (cA 0, 128, .inl ((upd f184 (28 : Int32).toNatClampNeg x186))))] H := hP
  have hD : va_D A [(ra, .inl (cA 0, 128, .inl ((upd f184 (28 : Int32).toNatClampNeg x186))))] := hD
  generalize (upd f184 (28 : Int32).toNatClampNeg x186) = f187 at hP hD
  refine lv_iinc (v := 29) (lv' := [(2, .int 29), (0, .ref ra), (1, .int 64)]) hx hb dX8_copies_15 hl (k := 0) rfl (by decide) (by decide) rfl (fun ls hl => ?_)
  refine lv_goto (tgt := 2) hx hb dX8_copies_18 (by decide) ?_
  refine lv_iload_n hx hb dX8_copies_2 rfl (lv_at hl 0 rfl) ?_
  refine lv_iload_n hx hb dX8_copies_3 rfl (lv_at hl 2 rfl) ?_
  refine lv_icmp_ge (tgt := 21) hx hb dX8_copies_4 (by decide) (fun c188 => absurd c188 (by decide)) (fun c188 => ?_)
  refine lv_aload_n hx hb dX8_copies_7 rfl (lv_at hl 1 rfl) ?_
  refine lv_iload_n hx hb dX8_copies_8 rfl (lv_at hl 0 rfl) ?_
  refine lv_aload_n hx hb dX8_copies_9 rfl (lv_at hl 1 rfl) ?_
  refine lv_iload_n hx hb dX8_copies_10 rfl (lv_at hl 2 rfl) ?_
  refine lv_iload_n hx hb dX8_copies_11 rfl (lv_at hl 0 rfl) ?_
  refine lv_iadd hx hb dX8_copies_12 ?_
  refine tq_i (w := 93) (by decide) ?_
  refine va_iald (i := 93) hx hb hK hP 0 0 rfl rfl (tq_in (by decide)) dX8_copies_13 ?_
  refine lv_topi (fun x189 ex189 => ?_)
  refine va_iast (i := 29) hx hb hK hP hD hS 0 0 rfl rfl (tq_in (by decide)) dX8_copies_14 (fun H locs hP hD hS => ?_)
  have hP : va_P G vwCl [(ra, .inl (cA 0, 128, .inl ((upd f187 (29 : Int32).toNatClampNeg x189))))] H := hP
  have hD : va_D A [(ra, .inl (cA 0, 128, .inl ((upd f187 (29 : Int32).toNatClampNeg x189))))] := hD
  generalize (upd f187 (29 : Int32).toNatClampNeg x189) = f190 at hP hD
  refine lv_iinc (v := 30) (lv' := [(2, .int 30), (0, .ref ra), (1, .int 64)]) hx hb dX8_copies_15 hl (k := 0) rfl (by decide) (by decide) rfl (fun ls hl => ?_)
  refine lv_goto (tgt := 2) hx hb dX8_copies_18 (by decide) ?_
  refine lv_iload_n hx hb dX8_copies_2 rfl (lv_at hl 0 rfl) ?_
  refine lv_iload_n hx hb dX8_copies_3 rfl (lv_at hl 2 rfl) ?_
  refine lv_icmp_ge (tgt := 21) hx hb dX8_copies_4 (by decide) (fun c191 => absurd c191 (by decide)) (fun c191 => ?_)
  refine lv_aload_n hx hb dX8_copies_7 rfl (lv_at hl 1 rfl) ?_
  refine lv_iload_n hx hb dX8_copies_8 rfl (lv_at hl 0 rfl) ?_
  refine lv_aload_n hx hb dX8_copies_9 rfl (lv_at hl 1 rfl) ?_
  refine lv_iload_n hx hb dX8_copies_10 rfl (lv_at hl 2 rfl) ?_
  refine lv_iload_n hx hb dX8_copies_11 rfl (lv_at hl 0 rfl) ?_
  refine lv_iadd hx hb dX8_copies_12 ?_
  refine tq_i (w := 94) (by decide) ?_
  refine va_iald (i := 94) hx hb hK hP 0 0 rfl rfl (tq_in (by decide)) dX8_copies_13 ?_
  refine lv_topi (fun x192 ex192 => ?_)
  refine va_iast (i := 30) hx hb hK hP hD hS 0 0 rfl rfl (tq_in (by decide)) dX8_copies_14 (fun H locs hP hD hS => ?_)
  have hP : va_P G vwCl [(ra, .inl (cA 0, 128, .inl ((upd f190 (30 : Int32).toNatClampNeg x192))))] H := hP
  have hD : va_D A [(ra, .inl (cA 0, 128, .inl ((upd f190 (30 : Int32).toNatClampNeg x192))))] := hD
  generalize (upd f190 (30 : Int32).toNatClampNeg x192) = f193 at hP hD
  refine lv_iinc (v := 31) (lv' := [(2, .int 31), (0, .ref ra), (1, .int 64)]) hx hb dX8_copies_15 hl (k := 0) rfl (by decide) (by decide) rfl (fun ls hl => ?_)
  refine lv_goto (tgt := 2) hx hb dX8_copies_18 (by decide) ?_
  refine lv_iload_n hx hb dX8_copies_2 rfl (lv_at hl 0 rfl) ?_
  refine lv_iload_n hx hb dX8_copies_3 rfl (lv_at hl 2 rfl) ?_
  refine lv_icmp_ge (tgt := 21) hx hb dX8_copies_4 (by decide) (fun c194 => absurd c194 (by decide)) (fun c194 => ?_)
  refine lv_aload_n hx hb dX8_copies_7 rfl (lv_at hl 1 rfl) ?_
  refine lv_iload_n hx hb dX8_copies_8 rfl (lv_at hl 0 rfl) ?_
  refine lv_aload_n hx hb dX8_copies_9 rfl (lv_at hl 1 rfl) ?_
  refine lv_iload_n hx hb dX8_copies_10 rfl (lv_at hl 2 rfl) ?_
  refine lv_iload_n hx hb dX8_copies_11 rfl (lv_at hl 0 rfl) ?_
  refine lv_iadd hx hb dX8_copies_12 ?_
  refine tq_i (w := 95) (by decide) ?_
  refine va_iald (i := 95) hx hb hK hP 0 0 rfl rfl (tq_in (by decide)) dX8_copies_13 ?_
  refine lv_topi (fun x195 ex195 => ?_)
  refine va_iast (i := 31) hx hb hK hP hD hS 0 0 rfl rfl (tq_in (by decide)) dX8_copies_14 (fun H locs hP hD hS => ?_)
  have hP : va_P G vwCl [(ra, .inl (cA 0, 128, .inl ((upd f193 (31 : Int32).toNatClampNeg x195))))] H := hP
  have hD : va_D A [(ra, .inl (cA 0, 128, .inl ((upd f193 (31 : Int32).toNatClampNeg x195))))] := hD
  generalize (upd f193 (31 : Int32).toNatClampNeg x195) = f196 at hP hD
  refine lv_iinc (v := 32) (lv' := [(2, .int 32), (0, .ref ra), (1, .int 64)]) hx hb dX8_copies_15 hl (k := 0) rfl (by decide) (by decide) rfl (fun ls hl => ?_)
  refine lv_goto (tgt := 2) hx hb dX8_copies_18 (by decide) ?_
  refine lv_iload_n hx hb dX8_copies_2 rfl (lv_at hl 0 rfl) ?_
  refine lv_iload_n hx hb dX8_copies_3 rfl (lv_at hl 2 rfl) ?_
  refine lv_icmp_ge (tgt := 21) hx hb dX8_copies_4 (by decide) (fun c197 => absurd c197 (by decide)) (fun c197 => ?_)
  refine lv_aload_n hx hb dX8_copies_7 rfl (lv_at hl 1 rfl) ?_
  refine lv_iload_n hx hb dX8_copies_8 rfl (lv_at hl 0 rfl) ?_
  refine lv_aload_n hx hb dX8_copies_9 rfl (lv_at hl 1 rfl) ?_
  refine lv_iload_n hx hb dX8_copies_10 rfl (lv_at hl 2 rfl) ?_
  refine lv_iload_n hx hb dX8_copies_11 rfl (lv_at hl 0 rfl) ?_
  refine lv_iadd hx hb dX8_copies_12 ?_
  refine tq_i (w := 96) (by decide) ?_
  refine va_iald (i := 96) hx hb hK hP 0 0 rfl rfl (tq_in (by decide)) dX8_copies_13 ?_
  refine lv_topi (fun x198 ex198 => ?_)
  refine va_iast (i := 32) hx hb hK hP hD hS 0 0 rfl rfl (tq_in (by decide)) dX8_copies_14 (fun H locs hP hD hS => ?_)
  have hP : va_P G vwCl [(ra, .inl (cA 0, 128, .inl ((upd f196 (32 : Int32).toNatClampNeg x198))))] H := hP
  have hD : va_D A [(ra, .inl (cA 0, 128, .inl ((upd f196 (32 : Int32).toNatClampNeg x198))))] := hD
  generalize (upd f196 (32 : Int32).toNatClampNeg x198) = f199 at hP hD
  refine lv_iinc (v := 33) (lv' := [(2, .int 33), (0, .ref ra), (1, .int 64)]) hx hb dX8_copies_15 hl (k := 0) rfl (by decide) (by decide) rfl (fun ls hl => ?_)
  refine lv_goto (tgt := 2) hx hb dX8_copies_18 (by decide) ?_
  refine lv_iload_n hx hb dX8_copies_2 rfl (lv_at hl 0 rfl) ?_
  refine lv_iload_n hx hb dX8_copies_3 rfl (lv_at hl 2 rfl) ?_
  refine lv_icmp_ge (tgt := 21) hx hb dX8_copies_4 (by decide) (fun c200 => absurd c200 (by decide)) (fun c200 => ?_)
  refine lv_aload_n hx hb dX8_copies_7 rfl (lv_at hl 1 rfl) ?_
  refine lv_iload_n hx hb dX8_copies_8 rfl (lv_at hl 0 rfl) ?_
  refine lv_aload_n hx hb dX8_copies_9 rfl (lv_at hl 1 rfl) ?_
  refine lv_iload_n hx hb dX8_copies_10 rfl (lv_at hl 2 rfl) ?_
  refine lv_iload_n hx hb dX8_copies_11 rfl (lv_at hl 0 rfl) ?_
  refine lv_iadd hx hb dX8_copies_12 ?_
  refine tq_i (w := 97) (by decide) ?_
  refine va_iald (i := 97) hx hb hK hP 0 0 rfl rfl (tq_in (by decide)) dX8_copies_13 ?_
  refine lv_topi (fun x201 ex201 => ?_)
  refine va_iast (i := 33) hx hb hK hP hD hS 0 0 rfl rfl (tq_in (by decide)) dX8_copies_14 (fun H locs hP hD hS => ?_)
  have hP : va_P G vwCl [(ra, .inl (cA 0, 128, .inl ((upd f199 (33 : Int32).toNatClampNeg x201))))] H := hP
  have hD : va_D A [(ra, .inl (cA 0, 128, .inl ((upd f199 (33 : Int32).toNatClampNeg x201))))] := hD
  generalize (upd f199 (33 : Int32).toNatClampNeg x201) = f202 at hP hD
  refine lv_iinc (v := 34) (lv' := [(2, .int 34), (0, .ref ra), (1, .int 64)]) hx hb dX8_copies_15 hl (k := 0) rfl (by decide) (by decide) rfl (fun ls hl => ?_)
  refine lv_goto (tgt := 2) hx hb dX8_copies_18 (by decide) ?_
  refine lv_iload_n hx hb dX8_copies_2 rfl (lv_at hl 0 rfl) ?_
  refine lv_iload_n hx hb dX8_copies_3 rfl (lv_at hl 2 rfl) ?_
  refine lv_icmp_ge (tgt := 21) hx hb dX8_copies_4 (by decide) (fun c203 => absurd c203 (by decide)) (fun c203 => ?_)
  refine lv_aload_n hx hb dX8_copies_7 rfl (lv_at hl 1 rfl) ?_
  refine lv_iload_n hx hb dX8_copies_8 rfl (lv_at hl 0 rfl) ?_
  refine lv_aload_n hx hb dX8_copies_9 rfl (lv_at hl 1 rfl) ?_
  refine lv_iload_n hx hb dX8_copies_10 rfl (lv_at hl 2 rfl) ?_
  refine lv_iload_n hx hb dX8_copies_11 rfl (lv_at hl 0 rfl) ?_
  refine lv_iadd hx hb dX8_copies_12 ?_
  refine tq_i (w := 98) (by decide) ?_
  refine va_iald (i := 98) hx hb hK hP 0 0 rfl rfl (tq_in (by decide)) dX8_copies_13 ?_
  refine lv_topi (fun x204 ex204 => ?_)
  refine va_iast (i := 34) hx hb hK hP hD hS 0 0 rfl rfl (tq_in (by decide)) dX8_copies_14 (fun H locs hP hD hS => ?_)
  have hP : va_P G vwCl [(ra, .inl (cA 0, 128, .inl ((upd f202 (34 : Int32).toNatClampNeg x204))))] H := hP
  have hD : va_D A [(ra, .inl (cA 0, 128, .inl ((upd f202 (34 : Int32).toNatClampNeg x204))))] := hD
  generalize (upd f202 (34 : Int32).toNatClampNeg x204) = f205 at hP hD
  refine lv_iinc (v := 35) (lv' := [(2, .int 35), (0, .ref ra), (1, .int 64)]) hx hb dX8_copies_15 hl (k := 0) rfl (by decide) (by decide) rfl (fun ls hl => ?_)
  refine lv_goto (tgt := 2) hx hb dX8_copies_18 (by decide) ?_
  refine lv_iload_n hx hb dX8_copies_2 rfl (lv_at hl 0 rfl) ?_
  refine lv_iload_n hx hb dX8_copies_3 rfl (lv_at hl 2 rfl) ?_
  refine lv_icmp_ge (tgt := 21) hx hb dX8_copies_4 (by decide) (fun c206 => absurd c206 (by decide)) (fun c206 => ?_)
  refine lv_aload_n hx hb dX8_copies_7 rfl (lv_at hl 1 rfl) ?_
  refine lv_iload_n hx hb dX8_copies_8 rfl (lv_at hl 0 rfl) ?_
  refine lv_aload_n hx hb dX8_copies_9 rfl (lv_at hl 1 rfl) ?_
  refine lv_iload_n hx hb dX8_copies_10 rfl (lv_at hl 2 rfl) ?_
  refine lv_iload_n hx hb dX8_copies_11 rfl (lv_at hl 0 rfl) ?_
  refine lv_iadd hx hb dX8_copies_12 ?_
  refine tq_i (w := 99) (by decide) ?_
  refine va_iald (i := 99) hx hb hK hP 0 0 rfl rfl (tq_in (by decide)) dX8_copies_13 ?_
  refine lv_topi (fun x207 ex207 => ?_)
  refine va_iast (i := 35) hx hb hK hP hD hS 0 0 rfl rfl (tq_in (by decide)) dX8_copies_14 (fun H locs hP hD hS => ?_)
  have hP : va_P G vwCl [(ra, .inl (cA 0, 128, .inl ((upd f205 (35 : Int32).toNatClampNeg x207))))] H := hP
  have hD : va_D A [(ra, .inl (cA 0, 128, .inl ((upd f205 (35 : Int32).toNatClampNeg x207))))] := hD
  generalize (upd f205 (35 : Int32).toNatClampNeg x207) = f208 at hP hD
  refine lv_iinc (v := 36) (lv' := [(2, .int 36), (0, .ref ra), (1, .int 64)]) hx hb dX8_copies_15 hl (k := 0) rfl (by decide) (by decide) rfl (fun ls hl => ?_)
  refine lv_goto (tgt := 2) hx hb dX8_copies_18 (by decide) ?_
  refine lv_iload_n hx hb dX8_copies_2 rfl (lv_at hl 0 rfl) ?_
  refine lv_iload_n hx hb dX8_copies_3 rfl (lv_at hl 2 rfl) ?_
  refine lv_icmp_ge (tgt := 21) hx hb dX8_copies_4 (by decide) (fun c209 => absurd c209 (by decide)) (fun c209 => ?_)
  refine lv_aload_n hx hb dX8_copies_7 rfl (lv_at hl 1 rfl) ?_
  refine lv_iload_n hx hb dX8_copies_8 rfl (lv_at hl 0 rfl) ?_
  refine lv_aload_n hx hb dX8_copies_9 rfl (lv_at hl 1 rfl) ?_
  refine lv_iload_n hx hb dX8_copies_10 rfl (lv_at hl 2 rfl) ?_
  refine lv_iload_n hx hb dX8_copies_11 rfl (lv_at hl 0 rfl) ?_
  refine lv_iadd hx hb dX8_copies_12 ?_
  refine tq_i (w := 100) (by decide) ?_
  refine va_iald (i := 100) hx hb hK hP 0 0 rfl rfl (tq_in (by decide)) dX8_copies_13 ?_
  refine lv_topi (fun x210 ex210 => ?_)
  refine va_iast (i := 36) hx hb hK hP hD hS 0 0 rfl rfl (tq_in (by decide)) dX8_copies_14 (fun H locs hP hD hS => ?_)
  have hP : va_P G vwCl [(ra, .inl (cA 0, 128, .inl ((upd f208 (36 : Int32).toNatClampNeg x210))))] H := hP
  have hD : va_D A [(ra, .inl (cA 0, 128, .inl ((upd f208 (36 : Int32).toNatClampNeg x210))))] := hD
  generalize (upd f208 (36 : Int32).toNatClampNeg x210) = f211 at hP hD
  refine lv_iinc (v := 37) (lv' := [(2, .int 37), (0, .ref ra), (1, .int 64)]) hx hb dX8_copies_15 hl (k := 0) rfl (by decide) (by decide) rfl (fun ls hl => ?_)
  refine lv_goto (tgt := 2) hx hb dX8_copies_18 (by decide) ?_
  refine lv_iload_n hx hb dX8_copies_2 rfl (lv_at hl 0 rfl) ?_
  refine lv_iload_n hx hb dX8_copies_3 rfl (lv_at hl 2 rfl) ?_
  refine lv_icmp_ge (tgt := 21) hx hb dX8_copies_4 (by decide) (fun c212 => absurd c212 (by decide)) (fun c212 => ?_)
  refine lv_aload_n hx hb dX8_copies_7 rfl (lv_at hl 1 rfl) ?_
  refine lv_iload_n hx hb dX8_copies_8 rfl (lv_at hl 0 rfl) ?_
  refine lv_aload_n hx hb dX8_copies_9 rfl (lv_at hl 1 rfl) ?_
  refine lv_iload_n hx hb dX8_copies_10 rfl (lv_at hl 2 rfl) ?_
  refine lv_iload_n hx hb dX8_copies_11 rfl (lv_at hl 0 rfl) ?_
  refine lv_iadd hx hb dX8_copies_12 ?_
  refine tq_i (w := 101) (by decide) ?_
  refine va_iald (i := 101) hx hb hK hP 0 0 rfl rfl (tq_in (by decide)) dX8_copies_13 ?_
  refine lv_topi (fun x213 ex213 => ?_)
  refine va_iast (i := 37) hx hb hK hP hD hS 0 0 rfl rfl (tq_in (by decide)) dX8_copies_14 (fun H locs hP hD hS => ?_)
  have hP : va_P G vwCl [(ra, .inl (cA 0, 128, .inl ((upd f211 (37 : Int32).toNatClampNeg x213))))] H := hP
  have hD : va_D A [(ra, .inl (cA 0, 128, .inl ((upd f211 (37 : Int32).toNatClampNeg x213))))] := hD
  generalize (upd f211 (37 : Int32).toNatClampNeg x213) = f214 at hP hD
  refine lv_iinc (v := 38) (lv' := [(2, .int 38), (0, .ref ra), (1, .int 64)]) hx hb dX8_copies_15 hl (k := 0) rfl (by decide) (by decide) rfl (fun ls hl => ?_)
  refine lv_goto (tgt := 2) hx hb dX8_copies_18 (by decide) ?_
  refine lv_iload_n hx hb dX8_copies_2 rfl (lv_at hl 0 rfl) ?_
  refine lv_iload_n hx hb dX8_copies_3 rfl (lv_at hl 2 rfl) ?_
  refine lv_icmp_ge (tgt := 21) hx hb dX8_copies_4 (by decide) (fun c215 => absurd c215 (by decide)) (fun c215 => ?_)
  refine lv_aload_n hx hb dX8_copies_7 rfl (lv_at hl 1 rfl) ?_
  refine lv_iload_n hx hb dX8_copies_8 rfl (lv_at hl 0 rfl) ?_
  refine lv_aload_n hx hb dX8_copies_9 rfl (lv_at hl 1 rfl) ?_
  refine lv_iload_n hx hb dX8_copies_10 rfl (lv_at hl 2 rfl) ?_
  refine lv_iload_n hx hb dX8_copies_11 rfl (lv_at hl 0 rfl) ?_
  refine lv_iadd hx hb dX8_copies_12 ?_
  refine tq_i (w := 102) (by decide) ?_
  refine va_iald (i := 102) hx hb hK hP 0 0 rfl rfl (tq_in (by decide)) dX8_copies_13 ?_
  refine lv_topi (fun x216 ex216 => ?_)
  refine va_iast (i := 38) hx hb hK hP hD hS 0 0 rfl rfl (tq_in (by decide)) dX8_copies_14 (fun H locs hP hD hS => ?_)
  have hP : va_P G vwCl [(ra, .inl (cA 0, 128, .inl ((upd f214 (38 : Int32).toNatClampNeg x216))))] H := hP
  have hD : va_D A [(ra, .inl (cA 0, 128, .inl ((upd f214 (38 : Int32).toNatClampNeg x216))))] := hD
  generalize (upd f214 (38 : Int32).toNatClampNeg x216) = f217 at hP hD
  refine lv_iinc (v := 39) (lv' := [(2, .int 39), (0, .ref ra), (1, .int 64)]) hx hb dX8_copies_15 hl (k := 0) rfl (by decide) (by decide) rfl (fun ls hl => ?_)
  refine lv_goto (tgt := 2) hx hb dX8_copies_18 (by decide) ?_
  refine lv_iload_n hx hb dX8_copies_2 rfl (lv_at hl 0 rfl) ?_
  refine lv_iload_n hx hb dX8_copies_3 rfl (lv_at hl 2 rfl) ?_
  refine lv_icmp_ge (tgt := 21) hx hb dX8_copies_4 (by decide) (fun c218 => absurd c218 (by decide)) (fun c218 => ?_)
  refine lv_aload_n hx hb dX8_copies_7 rfl (lv_at hl 1 rfl) ?_
  refine lv_iload_n hx hb dX8_copies_8 rfl (lv_at hl 0 rfl) ?_
  refine lv_aload_n hx hb dX8_copies_9 rfl (lv_at hl 1 rfl) ?_
  refine lv_iload_n hx hb dX8_copies_10 rfl (lv_at hl 2 rfl) ?_
  refine lv_iload_n hx hb dX8_copies_11 rfl (lv_at hl 0 rfl) ?_
  refine lv_iadd hx hb dX8_copies_12 ?_
  refine tq_i (w := 103) (by decide) ?_
  refine va_iald (i := 103) hx hb hK hP 0 0 rfl rfl (tq_in (by decide)) dX8_copies_13 ?_
  refine lv_topi (fun x219 ex219 => ?_)
  refine va_iast (i := 39) hx hb hK hP hD hS 0 0 rfl rfl (tq_in (by decide)) dX8_copies_14 (fun H locs hP hD hS => ?_)
  have hP : va_P G vwCl [(ra, .inl (cA 0, 128, .inl ((upd f217 (39 : Int32).toNatClampNeg x219))))] H := hP
  have hD : va_D A [(ra, .inl (cA 0, 128, .inl ((upd f217 (39 : Int32).toNatClampNeg x219))))] := hD
  generalize (upd f217 (39 : Int32).toNatClampNeg x219) = f220 at hP hD
  refine lv_iinc (v := 40) (lv' := [(2, .int 40), (0, .ref ra), (1, .int 64)]) hx hb dX8_copies_15 hl (k := 0) rfl (by decide) (by decide) rfl (fun ls hl => ?_)
  refine lv_goto (tgt := 2) hx hb dX8_copies_18 (by decide) ?_
  refine lv_iload_n hx hb dX8_copies_2 rfl (lv_at hl 0 rfl) ?_
  refine lv_iload_n hx hb dX8_copies_3 rfl (lv_at hl 2 rfl) ?_
  refine lv_icmp_ge (tgt := 21) hx hb dX8_copies_4 (by decide) (fun c221 => absurd c221 (by decide)) (fun c221 => ?_)
  refine lv_aload_n hx hb dX8_copies_7 rfl (lv_at hl 1 rfl) ?_
  refine lv_iload_n hx hb dX8_copies_8 rfl (lv_at hl 0 rfl) ?_
  refine lv_aload_n hx hb dX8_copies_9 rfl (lv_at hl 1 rfl) ?_
  refine lv_iload_n hx hb dX8_copies_10 rfl (lv_at hl 2 rfl) ?_
  refine lv_iload_n hx hb dX8_copies_11 rfl (lv_at hl 0 rfl) ?_
  refine lv_iadd hx hb dX8_copies_12 ?_
  refine tq_i (w := 104) (by decide) ?_
  refine va_iald (i := 104) hx hb hK hP 0 0 rfl rfl (tq_in (by decide)) dX8_copies_13 ?_
  refine lv_topi (fun x222 ex222 => ?_)
  refine va_iast (i := 40) hx hb hK hP hD hS 0 0 rfl rfl (tq_in (by decide)) dX8_copies_14 (fun H locs hP hD hS => ?_)
  have hP : va_P G vwCl [(ra, .inl (cA 0, 128, .inl ((upd f220 (40 : Int32).toNatClampNeg x222))))] H := hP
  have hD : va_D A [(ra, .inl (cA 0, 128, .inl ((upd f220 (40 : Int32).toNatClampNeg x222))))] := hD
  generalize (upd f220 (40 : Int32).toNatClampNeg x222) = f223 at hP hD
  refine lv_iinc (v := 41) (lv' := [(2, .int 41), (0, .ref ra), (1, .int 64)]) hx hb dX8_copies_15 hl (k := 0) rfl (by decide) (by decide) rfl (fun ls hl => ?_)
  refine lv_goto (tgt := 2) hx hb dX8_copies_18 (by decide) ?_
  refine lv_iload_n hx hb dX8_copies_2 rfl (lv_at hl 0 rfl) ?_
  refine lv_iload_n hx hb dX8_copies_3 rfl (lv_at hl 2 rfl) ?_
  refine lv_icmp_ge (tgt := 21) hx hb dX8_copies_4 (by decide) (fun c224 => absurd c224 (by decide)) (fun c224 => ?_)
  refine lv_aload_n hx hb dX8_copies_7 rfl (lv_at hl 1 rfl) ?_
  refine lv_iload_n hx hb dX8_copies_8 rfl (lv_at hl 0 rfl) ?_
  refine lv_aload_n hx hb dX8_copies_9 rfl (lv_at hl 1 rfl) ?_
  refine lv_iload_n hx hb dX8_copies_10 rfl (lv_at hl 2 rfl) ?_
  refine lv_iload_n hx hb dX8_copies_11 rfl (lv_at hl 0 rfl) ?_
  refine lv_iadd hx hb dX8_copies_12 ?_
  refine tq_i (w := 105) (by decide) ?_
  refine va_iald (i := 105) hx hb hK hP 0 0 rfl rfl (tq_in (by decide)) dX8_copies_13 ?_
  refine lv_topi (fun x225 ex225 => ?_)
  refine va_iast (i := 41) hx hb hK hP hD hS 0 0 rfl rfl (tq_in (by decide)) dX8_copies_14 (fun H locs hP hD hS => ?_)
  have hP : va_P G vwCl [(ra, .inl (cA 0, 128, .inl ((upd f223 (41 : Int32).toNatClampNeg x225))))] H := hP
  have hD : va_D A [(ra, .inl (cA 0, 128, .inl ((upd f223 (41 : Int32).toNatClampNeg x225))))] := hD
  generalize (upd f223 (41 : Int32).toNatClampNeg x225) = f226 at hP hD
  refine lv_iinc (v := 42) (lv' := [(2, .int 42), (0, .ref ra), (1, .int 64)]) hx hb dX8_copies_15 hl (k := 0) rfl (by decide) (by decide) rfl (fun ls hl => ?_)
  refine lv_goto (tgt := 2) hx hb dX8_copies_18 (by decide) ?_
  refine lv_iload_n hx hb dX8_copies_2 rfl (lv_at hl 0 rfl) ?_
  refine lv_iload_n hx hb dX8_copies_3 rfl (lv_at hl 2 rfl) ?_
  refine lv_icmp_ge (tgt := 21) hx hb dX8_copies_4 (by decide) (fun c227 => absurd c227 (by decide)) (fun c227 => ?_)
  refine lv_aload_n hx hb dX8_copies_7 rfl (lv_at hl 1 rfl) ?_
  refine lv_iload_n hx hb dX8_copies_8 rfl (lv_at hl 0 rfl) ?_
  refine lv_aload_n hx hb dX8_copies_9 rfl (lv_at hl 1 rfl) ?_
  refine lv_iload_n hx hb dX8_copies_10 rfl (lv_at hl 2 rfl) ?_
  refine lv_iload_n hx hb dX8_copies_11 rfl (lv_at hl 0 rfl) ?_
  refine lv_iadd hx hb dX8_copies_12 ?_
  refine tq_i (w := 106) (by decide) ?_
  refine va_iald (i := 106) hx hb hK hP 0 0 rfl rfl (tq_in (by decide)) dX8_copies_13 ?_
  refine lv_topi (fun x228 ex228 => ?_)
  refine va_iast (i := 42) hx hb hK hP hD hS 0 0 rfl rfl (tq_in (by decide)) dX8_copies_14 (fun H locs hP hD hS => ?_)
  have hP : va_P G vwCl [(ra, .inl (cA 0, 128, .inl ((upd f226 (42 : Int32).toNatClampNeg x228))))] H := hP
  have hD : va_D A [(ra, .inl (cA 0, 128, .inl ((upd f226 (42 : Int32).toNatClampNeg x228))))] := hD
  generalize (upd f226 (42 : Int32).toNatClampNeg x228) = f229 at hP hD
  refine lv_iinc (v := 43) (lv' := [(2, .int 43), (0, .ref ra), (1, .int 64)]) hx hb dX8_copies_15 hl (k := 0) rfl (by decide) (by decide) rfl (fun ls hl => ?_)
  refine lv_goto (tgt := 2) hx hb dX8_copies_18 (by decide) ?_
  refine lv_iload_n hx hb dX8_copies_2 rfl (lv_at hl 0 rfl) ?_
  refine lv_iload_n hx hb dX8_copies_3 rfl (lv_at hl 2 rfl) ?_
  refine lv_icmp_ge (tgt := 21) hx hb dX8_copies_4 (by decide) (fun c230 => absurd c230 (by decide)) (fun c230 => ?_)
  refine lv_aload_n hx hb dX8_copies_7 rfl (lv_at hl 1 rfl) ?_
  refine lv_iload_n hx hb dX8_copies_8 rfl (lv_at hl 0 rfl) ?_
  refine lv_aload_n hx hb dX8_copies_9 rfl (lv_at hl 1 rfl) ?_
  refine lv_iload_n hx hb dX8_copies_10 rfl (lv_at hl 2 rfl) ?_
  refine lv_iload_n hx hb dX8_copies_11 rfl (lv_at hl 0 rfl) ?_
  refine lv_iadd hx hb dX8_copies_12 ?_
  refine tq_i (w := 107) (by decide) ?_
  refine va_iald (i := 107) hx hb hK hP 0 0 rfl rfl (tq_in (by decide)) dX8_copies_13 ?_
  refine lv_topi (fun x231 ex231 => ?_)
  refine va_iast (i := 43) hx hb hK hP hD hS 0 0 rfl rfl (tq_in (by decide)) dX8_copies_14 (fun H locs hP hD hS => ?_)
  have hP : va_P G vwCl [(ra, .inl (cA 0, 128, .inl ((upd f229 (43 : Int32).toNatClampNeg x231))))] H := hP
  have hD : va_D A [(ra, .inl (cA 0, 128, .inl ((upd f229 (43 : Int32).toNatClampNeg x231))))] := hD
  generalize (upd f229 (43 : Int32).toNatClampNeg x231) = f232 at hP hD
  refine lv_iinc (v := 44) (lv' := [(2, .int 44), (0, .ref ra), (1, .int 64)]) hx hb dX8_copies_15 hl (k := 0) rfl (by decide) (by decide) rfl (fun ls hl => ?_)
  refine lv_goto (tgt := 2) hx hb dX8_copies_18 (by decide) ?_
  refine lv_iload_n hx hb dX8_copies_2 rfl (lv_at hl 0 rfl) ?_
  refine lv_iload_n hx hb dX8_copies_3 rfl (lv_at hl 2 rfl) ?_
  refine lv_icmp_ge (tgt := 21) hx hb dX8_copies_4 (by decide) (fun c233 => absurd c233 (by decide)) (fun c233 => ?_)
  refine lv_aload_n hx hb dX8_copies_7 rfl (lv_at hl 1 rfl) ?_
  refine lv_iload_n hx hb dX8_copies_8 rfl (lv_at hl 0 rfl) ?_
  refine lv_aload_n hx hb dX8_copies_9 rfl (lv_at hl 1 rfl) ?_
  refine lv_iload_n hx hb dX8_copies_10 rfl (lv_at hl 2 rfl) ?_
  refine lv_iload_n hx hb dX8_copies_11 rfl (lv_at hl 0 rfl) ?_
  refine lv_iadd hx hb dX8_copies_12 ?_
  refine tq_i (w := 108) (by decide) ?_
  refine va_iald (i := 108) hx hb hK hP 0 0 rfl rfl (tq_in (by decide)) dX8_copies_13 ?_
  refine lv_topi (fun x234 ex234 => ?_)
  refine va_iast (i := 44) hx hb hK hP hD hS 0 0 rfl rfl (tq_in (by decide)) dX8_copies_14 (fun H locs hP hD hS => ?_)
  have hP : va_P G vwCl [(ra, .inl (cA 0, 128, .inl ((upd f232 (44 : Int32).toNatClampNeg x234))))] H := hP
  have hD : va_D A [(ra, .inl (cA 0, 128, .inl ((upd f232 (44 : Int32).toNatClampNeg x234))))] := hD
  generalize (upd f232 (44 : Int32).toNatClampNeg x234) = f235 at hP hD
  refine lv_iinc (v := 45) (lv' := [(2, .int 45), (0, .ref ra), (1, .int 64)]) hx hb dX8_copies_15 hl (k := 0) rfl (by decide) (by decide) rfl (fun ls hl => ?_)
  refine lv_goto (tgt := 2) hx hb dX8_copies_18 (by decide) ?_
  refine lv_iload_n hx hb dX8_copies_2 rfl (lv_at hl 0 rfl) ?_
  refine lv_iload_n hx hb dX8_copies_3 rfl (lv_at hl 2 rfl) ?_
  refine lv_icmp_ge (tgt := 21) hx hb dX8_copies_4 (by decide) (fun c236 => absurd c236 (by decide)) (fun c236 => ?_)
  refine lv_aload_n hx hb dX8_copies_7 rfl (lv_at hl 1 rfl) ?_
  refine lv_iload_n hx hb dX8_copies_8 rfl (lv_at hl 0 rfl) ?_
  refine lv_aload_n hx hb dX8_copies_9 rfl (lv_at hl 1 rfl) ?_
  refine lv_iload_n hx hb dX8_copies_10 rfl (lv_at hl 2 rfl) ?_
  refine lv_iload_n hx hb dX8_copies_11 rfl (lv_at hl 0 rfl) ?_
  refine lv_iadd hx hb dX8_copies_12 ?_
  refine tq_i (w := 109) (by decide) ?_
  refine va_iald (i := 109) hx hb hK hP 0 0 rfl rfl (tq_in (by decide)) dX8_copies_13 ?_
  refine lv_topi (fun x237 ex237 => ?_)
  refine va_iast (i := 45) hx hb hK hP hD hS 0 0 rfl rfl (tq_in (by decide)) dX8_copies_14 (fun H locs hP hD hS => ?_)
  have hP : va_P G vwCl [(ra, .inl (cA 0, 128, .inl ((upd f235 (45 : Int32).toNatClampNeg x237))))] H := hP
  have hD : va_D A [(ra, .inl (cA 0, 128, .inl ((upd f235 (45 : Int32).toNatClampNeg x237))))] := hD
  generalize (upd f235 (45 : Int32).toNatClampNeg x237) = f238 at hP hD
  refine lv_iinc (v := 46) (lv' := [(2, .int 46), (0, .ref ra), (1, .int 64)]) hx hb dX8_copies_15 hl (k := 0) rfl (by decide) (by decide) rfl (fun ls hl => ?_)
  refine lv_goto (tgt := 2) hx hb dX8_copies_18 (by decide) ?_
  refine lv_iload_n hx hb dX8_copies_2 rfl (lv_at hl 0 rfl) ?_
  refine lv_iload_n hx hb dX8_copies_3 rfl (lv_at hl 2 rfl) ?_
  refine lv_icmp_ge (tgt := 21) hx hb dX8_copies_4 (by decide) (fun c239 => absurd c239 (by decide)) (fun c239 => ?_)
  refine lv_aload_n hx hb dX8_copies_7 rfl (lv_at hl 1 rfl) ?_
  refine lv_iload_n hx hb dX8_copies_8 rfl (lv_at hl 0 rfl) ?_
  refine lv_aload_n hx hb dX8_copies_9 rfl (lv_at hl 1 rfl) ?_
  refine lv_iload_n hx hb dX8_copies_10 rfl (lv_at hl 2 rfl) ?_
  refine lv_iload_n hx hb dX8_copies_11 rfl (lv_at hl 0 rfl) ?_
  refine lv_iadd hx hb dX8_copies_12 ?_
  refine tq_i (w := 110) (by decide) ?_
  refine va_iald (i := 110) hx hb hK hP 0 0 rfl rfl (tq_in (by decide)) dX8_copies_13 ?_
  refine lv_topi (fun x240 ex240 => ?_)
  refine va_iast (i := 46) hx hb hK hP hD hS 0 0 rfl rfl (tq_in (by decide)) dX8_copies_14 (fun H locs hP hD hS => ?_)
  have hP : va_P G vwCl [(ra, .inl (cA 0, 128, .inl ((upd f238 (46 : Int32).toNatClampNeg x240))))] H := hP
  have hD : va_D A [(ra, .inl (cA 0, 128, .inl ((upd f238 (46 : Int32).toNatClampNeg x240))))] := hD
  generalize (upd f238 (46 : Int32).toNatClampNeg x240) = f241 at hP hD
  refine lv_iinc (v := 47) (lv' := [(2, .int 47), (0, .ref ra), (1, .int 64)]) hx hb dX8_copies_15 hl (k := 0) rfl (by decide) (by decide) rfl (fun ls hl => ?_)
  refine lv_goto (tgt := 2) hx hb dX8_copies_18 (by decide) ?_
  refine lv_iload_n hx hb dX8_copies_2 rfl (lv_at hl 0 rfl) ?_
  refine lv_iload_n hx hb dX8_copies_3 rfl (lv_at hl 2 rfl) ?_
  refine lv_icmp_ge (tgt := 21) hx hb dX8_copies_4 (by decide) (fun c242 => absurd c242 (by decide)) (fun c242 => ?_)
  refine lv_aload_n hx hb dX8_copies_7 rfl (lv_at hl 1 rfl) ?_
  refine lv_iload_n hx hb dX8_copies_8 rfl (lv_at hl 0 rfl) ?_
  refine lv_aload_n hx hb dX8_copies_9 rfl (lv_at hl 1 rfl) ?_
  refine lv_iload_n hx hb dX8_copies_10 rfl (lv_at hl 2 rfl) ?_
  refine lv_iload_n hx hb dX8_copies_11 rfl (lv_at hl 0 rfl) ?_
  refine lv_iadd hx hb dX8_copies_12 ?_
  refine tq_i (w := 111) (by decide) ?_
  refine va_iald (i := 111) hx hb hK hP 0 0 rfl rfl (tq_in (by decide)) dX8_copies_13 ?_
  refine lv_topi (fun x243 ex243 => ?_)
  refine va_iast (i := 47) hx hb hK hP hD hS 0 0 rfl rfl (tq_in (by decide)) dX8_copies_14 (fun H locs hP hD hS => ?_)
  have hP : va_P G vwCl [(ra, .inl (cA 0, 128, .inl ((upd f241 (47 : Int32).toNatClampNeg x243))))] H := hP
  have hD : va_D A [(ra, .inl (cA 0, 128, .inl ((upd f241 (47 : Int32).toNatClampNeg x243))))] := hD
  generalize (upd f241 (47 : Int32).toNatClampNeg x243) = f244 at hP hD
  refine lv_iinc (v := 48) (lv' := [(2, .int 48), (0, .ref ra), (1, .int 64)]) hx hb dX8_copies_15 hl (k := 0) rfl (by decide) (by decide) rfl (fun ls hl => ?_)
  refine lv_goto (tgt := 2) hx hb dX8_copies_18 (by decide) ?_
  refine lv_iload_n hx hb dX8_copies_2 rfl (lv_at hl 0 rfl) ?_
  refine lv_iload_n hx hb dX8_copies_3 rfl (lv_at hl 2 rfl) ?_
  refine lv_icmp_ge (tgt := 21) hx hb dX8_copies_4 (by decide) (fun c245 => absurd c245 (by decide)) (fun c245 => ?_)
  refine lv_aload_n hx hb dX8_copies_7 rfl (lv_at hl 1 rfl) ?_
  refine lv_iload_n hx hb dX8_copies_8 rfl (lv_at hl 0 rfl) ?_
  refine lv_aload_n hx hb dX8_copies_9 rfl (lv_at hl 1 rfl) ?_
  refine lv_iload_n hx hb dX8_copies_10 rfl (lv_at hl 2 rfl) ?_
  refine lv_iload_n hx hb dX8_copies_11 rfl (lv_at hl 0 rfl) ?_
  refine lv_iadd hx hb dX8_copies_12 ?_
  refine tq_i (w := 112) (by decide) ?_
  refine va_iald (i := 112) hx hb hK hP 0 0 rfl rfl (tq_in (by decide)) dX8_copies_13 ?_
  refine lv_topi (fun x246 ex246 => ?_)
  refine va_iast (i := 48) hx hb hK hP hD hS 0 0 rfl rfl (tq_in (by decide)) dX8_copies_14 (fun H locs hP hD hS => ?_)
  have hP : va_P G vwCl [(ra, .inl (cA 0, 128, .inl ((upd f244 (48 : Int32).toNatClampNeg x246))))] H := hP
  have hD : va_D A [(ra, .inl (cA 0, 128, .inl ((upd f244 (48 : Int32).toNatClampNeg x246))))] := hD
  generalize (upd f244 (48 : Int32).toNatClampNeg x246) = f247 at hP hD
  refine lv_iinc (v := 49) (lv' := [(2, .int 49), (0, .ref ra), (1, .int 64)]) hx hb dX8_copies_15 hl (k := 0) rfl (by decide) (by decide) rfl (fun ls hl => ?_)
  refine lv_goto (tgt := 2) hx hb dX8_copies_18 (by decide) ?_
  refine lv_iload_n hx hb dX8_copies_2 rfl (lv_at hl 0 rfl) ?_
  refine lv_iload_n hx hb dX8_copies_3 rfl (lv_at hl 2 rfl) ?_
  refine lv_icmp_ge (tgt := 21) hx hb dX8_copies_4 (by decide) (fun c248 => absurd c248 (by decide)) (fun c248 => ?_)
  refine lv_aload_n hx hb dX8_copies_7 rfl (lv_at hl 1 rfl) ?_
  refine lv_iload_n hx hb dX8_copies_8 rfl (lv_at hl 0 rfl) ?_
  refine lv_aload_n hx hb dX8_copies_9 rfl (lv_at hl 1 rfl) ?_
  refine lv_iload_n hx hb dX8_copies_10 rfl (lv_at hl 2 rfl) ?_
  refine lv_iload_n hx hb dX8_copies_11 rfl (lv_at hl 0 rfl) ?_
  refine lv_iadd hx hb dX8_copies_12 ?_
  refine tq_i (w := 113) (by decide) ?_
  refine va_iald (i := 113) hx hb hK hP 0 0 rfl rfl (tq_in (by decide)) dX8_copies_13 ?_
  refine lv_topi (fun x249 ex249 => ?_)
  refine va_iast (i := 49) hx hb hK hP hD hS 0 0 rfl rfl (tq_in (by decide)) dX8_copies_14 (fun H locs hP hD hS => ?_)
  have hP : va_P G vwCl [(ra, .inl (cA 0, 128, .inl ((upd f247 (49 : Int32).toNatClampNeg x249))))] H := hP
  have hD : va_D A [(ra, .inl (cA 0, 128, .inl ((upd f247 (49 : Int32).toNatClampNeg x249))))] := hD
  generalize (upd f247 (49 : Int32).toNatClampNeg x249) = f250 at hP hD
  refine lv_iinc (v := 50) (lv' := [(2, .int 50), (0, .ref ra), (1, .int 64)]) hx hb dX8_copies_15 hl (k := 0) rfl (by decide) (by decide) rfl (fun ls hl => ?_)
  refine lv_goto (tgt := 2) hx hb dX8_copies_18 (by decide) ?_
  refine lv_iload_n hx hb dX8_copies_2 rfl (lv_at hl 0 rfl) ?_
  refine lv_iload_n hx hb dX8_copies_3 rfl (lv_at hl 2 rfl) ?_
  refine lv_icmp_ge (tgt := 21) hx hb dX8_copies_4 (by decide) (fun c251 => absurd c251 (by decide)) (fun c251 => ?_)
  refine lv_aload_n hx hb dX8_copies_7 rfl (lv_at hl 1 rfl) ?_
  refine lv_iload_n hx hb dX8_copies_8 rfl (lv_at hl 0 rfl) ?_
  refine lv_aload_n hx hb dX8_copies_9 rfl (lv_at hl 1 rfl) ?_
  refine lv_iload_n hx hb dX8_copies_10 rfl (lv_at hl 2 rfl) ?_
  refine lv_iload_n hx hb dX8_copies_11 rfl (lv_at hl 0 rfl) ?_
  refine lv_iadd hx hb dX8_copies_12 ?_
  refine tq_i (w := 114) (by decide) ?_
  refine va_iald (i := 114) hx hb hK hP 0 0 rfl rfl (tq_in (by decide)) dX8_copies_13 ?_
  refine lv_topi (fun x252 ex252 => ?_)
  refine va_iast (i := 50) hx hb hK hP hD hS 0 0 rfl rfl (tq_in (by decide)) dX8_copies_14 (fun H locs hP hD hS => ?_)
  have hP : va_P G vwCl [(ra, .inl (cA 0, 128, .inl ((upd f250 (50 : Int32).toNatClampNeg x252))))] H := hP
  have hD : va_D A [(ra, .inl (cA 0, 128, .inl ((upd f250 (50 : Int32).toNatClampNeg x252))))] := hD
  generalize (upd f250 (50 : Int32).toNatClampNeg x252) = f253 at hP hD
  refine lv_iinc (v := 51) (lv' := [(2, .int 51), (0, .ref ra), (1, .int 64)]) hx hb dX8_copies_15 hl (k := 0) rfl (by decide) (by decide) rfl (fun ls hl => ?_)
  refine lv_goto (tgt := 2) hx hb dX8_copies_18 (by decide) ?_
  refine lv_iload_n hx hb dX8_copies_2 rfl (lv_at hl 0 rfl) ?_
  refine lv_iload_n hx hb dX8_copies_3 rfl (lv_at hl 2 rfl) ?_
  refine lv_icmp_ge (tgt := 21) hx hb dX8_copies_4 (by decide) (fun c254 => absurd c254 (by decide)) (fun c254 => ?_)
  refine lv_aload_n hx hb dX8_copies_7 rfl (lv_at hl 1 rfl) ?_
  refine lv_iload_n hx hb dX8_copies_8 rfl (lv_at hl 0 rfl) ?_
  refine lv_aload_n hx hb dX8_copies_9 rfl (lv_at hl 1 rfl) ?_
  refine lv_iload_n hx hb dX8_copies_10 rfl (lv_at hl 2 rfl) ?_
  refine lv_iload_n hx hb dX8_copies_11 rfl (lv_at hl 0 rfl) ?_
  refine lv_iadd hx hb dX8_copies_12 ?_
  refine tq_i (w := 115) (by decide) ?_
  refine va_iald (i := 115) hx hb hK hP 0 0 rfl rfl (tq_in (by decide)) dX8_copies_13 ?_
  refine lv_topi (fun x255 ex255 => ?_)
  refine va_iast (i := 51) hx hb hK hP hD hS 0 0 rfl rfl (tq_in (by decide)) dX8_copies_14 (fun H locs hP hD hS => ?_)
  have hP : va_P G vwCl [(ra, .inl (cA 0, 128, .inl ((upd f253 (51 : Int32).toNatClampNeg x255))))] H := hP
  have hD : va_D A [(ra, .inl (cA 0, 128, .inl ((upd f253 (51 : Int32).toNatClampNeg x255))))] := hD
  generalize (upd f253 (51 : Int32).toNatClampNeg x255) = f256 at hP hD
  refine lv_iinc (v := 52) (lv' := [(2, .int 52), (0, .ref ra), (1, .int 64)]) hx hb dX8_copies_15 hl (k := 0) rfl (by decide) (by decide) rfl (fun ls hl => ?_)
  refine lv_goto (tgt := 2) hx hb dX8_copies_18 (by decide) ?_
  refine lv_iload_n hx hb dX8_copies_2 rfl (lv_at hl 0 rfl) ?_
  refine lv_iload_n hx hb dX8_copies_3 rfl (lv_at hl 2 rfl) ?_
  refine lv_icmp_ge (tgt := 21) hx hb dX8_copies_4 (by decide) (fun c257 => absurd c257 (by decide)) (fun c257 => ?_)
  refine lv_aload_n hx hb dX8_copies_7 rfl (lv_at hl 1 rfl) ?_
  refine lv_iload_n hx hb dX8_copies_8 rfl (lv_at hl 0 rfl) ?_
  refine lv_aload_n hx hb dX8_copies_9 rfl (lv_at hl 1 rfl) ?_
  refine lv_iload_n hx hb dX8_copies_10 rfl (lv_at hl 2 rfl) ?_
  refine lv_iload_n hx hb dX8_copies_11 rfl (lv_at hl 0 rfl) ?_
  refine lv_iadd hx hb dX8_copies_12 ?_
  refine tq_i (w := 116) (by decide) ?_
  refine va_iald (i := 116) hx hb hK hP 0 0 rfl rfl (tq_in (by decide)) dX8_copies_13 ?_
  refine lv_topi (fun x258 ex258 => ?_)
  refine va_iast (i := 52) hx hb hK hP hD hS 0 0 rfl rfl (tq_in (by decide)) dX8_copies_14 (fun H locs hP hD hS => ?_)
  have hP : va_P G vwCl [(ra, .inl (cA 0, 128, .inl ((upd f256 (52 : Int32).toNatClampNeg x258))))] H := hP
  have hD : va_D A [(ra, .inl (cA 0, 128, .inl ((upd f256 (52 : Int32).toNatClampNeg x258))))] := hD
  generalize (upd f256 (52 : Int32).toNatClampNeg x258) = f259 at hP hD
  refine lv_iinc (v := 53) (lv' := [(2, .int 53), (0, .ref ra), (1, .int 64)]) hx hb dX8_copies_15 hl (k := 0) rfl (by decide) (by decide) rfl (fun ls hl => ?_)
  refine lv_goto (tgt := 2) hx hb dX8_copies_18 (by decide) ?_
  refine lv_iload_n hx hb dX8_copies_2 rfl (lv_at hl 0 rfl) ?_
  refine lv_iload_n hx hb dX8_copies_3 rfl (lv_at hl 2 rfl) ?_
  refine lv_icmp_ge (tgt := 21) hx hb dX8_copies_4 (by decide) (fun c260 => absurd c260 (by decide)) (fun c260 => ?_)
  refine lv_aload_n hx hb dX8_copies_7 rfl (lv_at hl 1 rfl) ?_
  refine lv_iload_n hx hb dX8_copies_8 rfl (lv_at hl 0 rfl) ?_
  refine lv_aload_n hx hb dX8_copies_9 rfl (lv_at hl 1 rfl) ?_
  refine lv_iload_n hx hb dX8_copies_10 rfl (lv_at hl 2 rfl) ?_
  refine lv_iload_n hx hb dX8_copies_11 rfl (lv_at hl 0 rfl) ?_
  refine lv_iadd hx hb dX8_copies_12 ?_
  refine tq_i (w := 117) (by decide) ?_
  refine va_iald (i := 117) hx hb hK hP 0 0 rfl rfl (tq_in (by decide)) dX8_copies_13 ?_
  refine lv_topi (fun x261 ex261 => ?_)
  refine va_iast (i := 53) hx hb hK hP hD hS 0 0 rfl rfl (tq_in (by decide)) dX8_copies_14 (fun H locs hP hD hS => ?_)
  have hP : va_P G vwCl [(ra, .inl (cA 0, 128, .inl ((upd f259 (53 : Int32).toNatClampNeg x261))))] H := hP
  have hD : va_D A [(ra, .inl (cA 0, 128, .inl ((upd f259 (53 : Int32).toNatClampNeg x261))))] := hD
  generalize (upd f259 (53 : Int32).toNatClampNeg x261) = f262 at hP hD
  refine lv_iinc (v := 54) (lv' := [(2, .int 54), (0, .ref ra), (1, .int 64)]) hx hb dX8_copies_15 hl (k := 0) rfl (by decide) (by decide) rfl (fun ls hl => ?_)
  refine lv_goto (tgt := 2) hx hb dX8_copies_18 (by decide) ?_
  refine lv_iload_n hx hb dX8_copies_2 rfl (lv_at hl 0 rfl) ?_
  refine lv_iload_n hx hb dX8_copies_3 rfl (lv_at hl 2 rfl) ?_
  refine lv_icmp_ge (tgt := 21) hx hb dX8_copies_4 (by decide) (fun c263 => absurd c263 (by decide)) (fun c263 => ?_)
  refine lv_aload_n hx hb dX8_copies_7 rfl (lv_at hl 1 rfl) ?_
  refine lv_iload_n hx hb dX8_copies_8 rfl (lv_at hl 0 rfl) ?_
  refine lv_aload_n hx hb dX8_copies_9 rfl (lv_at hl 1 rfl) ?_
  refine lv_iload_n hx hb dX8_copies_10 rfl (lv_at hl 2 rfl) ?_
  refine lv_iload_n hx hb dX8_copies_11 rfl (lv_at hl 0 rfl) ?_
  refine lv_iadd hx hb dX8_copies_12 ?_
  refine tq_i (w := 118) (by decide) ?_
  refine va_iald (i := 118) hx hb hK hP 0 0 rfl rfl (tq_in (by decide)) dX8_copies_13 ?_
  refine lv_topi (fun x264 ex264 => ?_)
  refine va_iast (i := 54) hx hb hK hP hD hS 0 0 rfl rfl (tq_in (by decide)) dX8_copies_14 (fun H locs hP hD hS => ?_)
  have hP : va_P G vwCl [(ra, .inl (cA 0, 128, .inl ((upd f262 (54 : Int32).toNatClampNeg x264))))] H := hP
  have hD : va_D A [(ra, .inl (cA 0, 128, .inl ((upd f262 (54 : Int32).toNatClampNeg x264))))] := hD
  generalize (upd f262 (54 : Int32).toNatClampNeg x264) = f265 at hP hD
  refine lv_iinc (v := 55) (lv' := [(2, .int 55), (0, .ref ra), (1, .int 64)]) hx hb dX8_copies_15 hl (k := 0) rfl (by decide) (by decide) rfl (fun ls hl => ?_)
  refine lv_goto (tgt := 2) hx hb dX8_copies_18 (by decide) ?_
  refine lv_iload_n hx hb dX8_copies_2 rfl (lv_at hl 0 rfl) ?_
  refine lv_iload_n hx hb dX8_copies_3 rfl (lv_at hl 2 rfl) ?_
  refine lv_icmp_ge (tgt := 21) hx hb dX8_copies_4 (by decide) (fun c266 => absurd c266 (by decide)) (fun c266 => ?_)
  refine lv_aload_n hx hb dX8_copies_7 rfl (lv_at hl 1 rfl) ?_
  refine lv_iload_n hx hb dX8_copies_8 rfl (lv_at hl 0 rfl) ?_
  refine lv_aload_n hx hb dX8_copies_9 rfl (lv_at hl 1 rfl) ?_
  refine lv_iload_n hx hb dX8_copies_10 rfl (lv_at hl 2 rfl) ?_
  refine lv_iload_n hx hb dX8_copies_11 rfl (lv_at hl 0 rfl) ?_
  refine lv_iadd hx hb dX8_copies_12 ?_
  refine tq_i (w := 119) (by decide) ?_
  refine va_iald (i := 119) hx hb hK hP 0 0 rfl rfl (tq_in (by decide)) dX8_copies_13 ?_
  refine lv_topi (fun x267 ex267 => ?_)
  refine va_iast (i := 55) hx hb hK hP hD hS 0 0 rfl rfl (tq_in (by decide)) dX8_copies_14 (fun H locs hP hD hS => ?_)
  have hP : va_P G vwCl [(ra, .inl (cA 0, 128, .inl ((upd f265 (55 : Int32).toNatClampNeg x267))))] H := hP
  have hD : va_D A [(ra, .inl (cA 0, 128, .inl ((upd f265 (55 : Int32).toNatClampNeg x267))))] := hD
  generalize (upd f265 (55 : Int32).toNatClampNeg x267) = f268 at hP hD
  refine lv_iinc (v := 56) (lv' := [(2, .int 56), (0, .ref ra), (1, .int 64)]) hx hb dX8_copies_15 hl (k := 0) rfl (by decide) (by decide) rfl (fun ls hl => ?_)
  refine lv_goto (tgt := 2) hx hb dX8_copies_18 (by decide) ?_
  refine lv_iload_n hx hb dX8_copies_2 rfl (lv_at hl 0 rfl) ?_
  refine lv_iload_n hx hb dX8_copies_3 rfl (lv_at hl 2 rfl) ?_
  refine lv_icmp_ge (tgt := 21) hx hb dX8_copies_4 (by decide) (fun c269 => absurd c269 (by decide)) (fun c269 => ?_)
  refine lv_aload_n hx hb dX8_copies_7 rfl (lv_at hl 1 rfl) ?_
  refine lv_iload_n hx hb dX8_copies_8 rfl (lv_at hl 0 rfl) ?_
  refine lv_aload_n hx hb dX8_copies_9 rfl (lv_at hl 1 rfl) ?_
  refine lv_iload_n hx hb dX8_copies_10 rfl (lv_at hl 2 rfl) ?_
  refine lv_iload_n hx hb dX8_copies_11 rfl (lv_at hl 0 rfl) ?_
  refine lv_iadd hx hb dX8_copies_12 ?_
  refine tq_i (w := 120) (by decide) ?_
  refine va_iald (i := 120) hx hb hK hP 0 0 rfl rfl (tq_in (by decide)) dX8_copies_13 ?_
  refine lv_topi (fun x270 ex270 => ?_)
  refine va_iast (i := 56) hx hb hK hP hD hS 0 0 rfl rfl (tq_in (by decide)) dX8_copies_14 (fun H locs hP hD hS => ?_)
  have hP : va_P G vwCl [(ra, .inl (cA 0, 128, .inl ((upd f268 (56 : Int32).toNatClampNeg x270))))] H := hP
  have hD : va_D A [(ra, .inl (cA 0, 128, .inl ((upd f268 (56 : Int32).toNatClampNeg x270))))] := hD
  generalize (upd f268 (56 : Int32).toNatClampNeg x270) = f271 at hP hD
  refine lv_iinc (v := 57) (lv' := [(2, .int 57), (0, .ref ra), (1, .int 64)]) hx hb dX8_copies_15 hl (k := 0) rfl (by decide) (by decide) rfl (fun ls hl => ?_)
  refine lv_goto (tgt := 2) hx hb dX8_copies_18 (by decide) ?_
  refine lv_iload_n hx hb dX8_copies_2 rfl (lv_at hl 0 rfl) ?_
  refine lv_iload_n hx hb dX8_copies_3 rfl (lv_at hl 2 rfl) ?_
  refine lv_icmp_ge (tgt := 21) hx hb dX8_copies_4 (by decide) (fun c272 => absurd c272 (by decide)) (fun c272 => ?_)
  refine lv_aload_n hx hb dX8_copies_7 rfl (lv_at hl 1 rfl) ?_
  refine lv_iload_n hx hb dX8_copies_8 rfl (lv_at hl 0 rfl) ?_
  refine lv_aload_n hx hb dX8_copies_9 rfl (lv_at hl 1 rfl) ?_
  refine lv_iload_n hx hb dX8_copies_10 rfl (lv_at hl 2 rfl) ?_
  refine lv_iload_n hx hb dX8_copies_11 rfl (lv_at hl 0 rfl) ?_
  refine lv_iadd hx hb dX8_copies_12 ?_
  refine tq_i (w := 121) (by decide) ?_
  refine va_iald (i := 121) hx hb hK hP 0 0 rfl rfl (tq_in (by decide)) dX8_copies_13 ?_
  refine lv_topi (fun x273 ex273 => ?_)
  refine va_iast (i := 57) hx hb hK hP hD hS 0 0 rfl rfl (tq_in (by decide)) dX8_copies_14 (fun H locs hP hD hS => ?_)
  have hP : va_P G vwCl [(ra, .inl (cA 0, 128, .inl ((upd f271 (57 : Int32).toNatClampNeg x273))))] H := hP
  have hD : va_D A [(ra, .inl (cA 0, 128, .inl ((upd f271 (57 : Int32).toNatClampNeg x273))))] := hD
  generalize (upd f271 (57 : Int32).toNatClampNeg x273) = f274 at hP hD
  refine lv_iinc (v := 58) (lv' := [(2, .int 58), (0, .ref ra), (1, .int 64)]) hx hb dX8_copies_15 hl (k := 0) rfl (by decide) (by decide) rfl (fun ls hl => ?_)
  refine lv_goto (tgt := 2) hx hb dX8_copies_18 (by decide) ?_
  refine lv_iload_n hx hb dX8_copies_2 rfl (lv_at hl 0 rfl) ?_
  refine lv_iload_n hx hb dX8_copies_3 rfl (lv_at hl 2 rfl) ?_
  refine lv_icmp_ge (tgt := 21) hx hb dX8_copies_4 (by decide) (fun c275 => absurd c275 (by decide)) (fun c275 => ?_)
  refine lv_aload_n hx hb dX8_copies_7 rfl (lv_at hl 1 rfl) ?_
  refine lv_iload_n hx hb dX8_copies_8 rfl (lv_at hl 0 rfl) ?_
  refine lv_aload_n hx hb dX8_copies_9 rfl (lv_at hl 1 rfl) ?_
  refine lv_iload_n hx hb dX8_copies_10 rfl (lv_at hl 2 rfl) ?_
  refine lv_iload_n hx hb dX8_copies_11 rfl (lv_at hl 0 rfl) ?_
  refine lv_iadd hx hb dX8_copies_12 ?_
  refine tq_i (w := 122) (by decide) ?_
  refine va_iald (i := 122) hx hb hK hP 0 0 rfl rfl (tq_in (by decide)) dX8_copies_13 ?_
  refine lv_topi (fun x276 ex276 => ?_)
  refine va_iast (i := 58) hx hb hK hP hD hS 0 0 rfl rfl (tq_in (by decide)) dX8_copies_14 (fun H locs hP hD hS => ?_)
  have hP : va_P G vwCl [(ra, .inl (cA 0, 128, .inl ((upd f274 (58 : Int32).toNatClampNeg x276))))] H := hP
  have hD : va_D A [(ra, .inl (cA 0, 128, .inl ((upd f274 (58 : Int32).toNatClampNeg x276))))] := hD
  generalize (upd f274 (58 : Int32).toNatClampNeg x276) = f277 at hP hD
  refine lv_iinc (v := 59) (lv' := [(2, .int 59), (0, .ref ra), (1, .int 64)]) hx hb dX8_copies_15 hl (k := 0) rfl (by decide) (by decide) rfl (fun ls hl => ?_)
  refine lv_goto (tgt := 2) hx hb dX8_copies_18 (by decide) ?_
  refine lv_iload_n hx hb dX8_copies_2 rfl (lv_at hl 0 rfl) ?_
  refine lv_iload_n hx hb dX8_copies_3 rfl (lv_at hl 2 rfl) ?_
  refine lv_icmp_ge (tgt := 21) hx hb dX8_copies_4 (by decide) (fun c278 => absurd c278 (by decide)) (fun c278 => ?_)
  refine lv_aload_n hx hb dX8_copies_7 rfl (lv_at hl 1 rfl) ?_
  refine lv_iload_n hx hb dX8_copies_8 rfl (lv_at hl 0 rfl) ?_
  refine lv_aload_n hx hb dX8_copies_9 rfl (lv_at hl 1 rfl) ?_
  refine lv_iload_n hx hb dX8_copies_10 rfl (lv_at hl 2 rfl) ?_
  refine lv_iload_n hx hb dX8_copies_11 rfl (lv_at hl 0 rfl) ?_
  refine lv_iadd hx hb dX8_copies_12 ?_
  refine tq_i (w := 123) (by decide) ?_
  refine va_iald (i := 123) hx hb hK hP 0 0 rfl rfl (tq_in (by decide)) dX8_copies_13 ?_
  refine lv_topi (fun x279 ex279 => ?_)
  refine va_iast (i := 59) hx hb hK hP hD hS 0 0 rfl rfl (tq_in (by decide)) dX8_copies_14 (fun H locs hP hD hS => ?_)
  have hP : va_P G vwCl [(ra, .inl (cA 0, 128, .inl ((upd f277 (59 : Int32).toNatClampNeg x279))))] H := hP
  have hD : va_D A [(ra, .inl (cA 0, 128, .inl ((upd f277 (59 : Int32).toNatClampNeg x279))))] := hD
  generalize (upd f277 (59 : Int32).toNatClampNeg x279) = f280 at hP hD
  refine lv_iinc (v := 60) (lv' := [(2, .int 60), (0, .ref ra), (1, .int 64)]) hx hb dX8_copies_15 hl (k := 0) rfl (by decide) (by decide) rfl (fun ls hl => ?_)
  refine lv_goto (tgt := 2) hx hb dX8_copies_18 (by decide) ?_
  refine lv_iload_n hx hb dX8_copies_2 rfl (lv_at hl 0 rfl) ?_
  refine lv_iload_n hx hb dX8_copies_3 rfl (lv_at hl 2 rfl) ?_
  refine lv_icmp_ge (tgt := 21) hx hb dX8_copies_4 (by decide) (fun c281 => absurd c281 (by decide)) (fun c281 => ?_)
  refine lv_aload_n hx hb dX8_copies_7 rfl (lv_at hl 1 rfl) ?_
  refine lv_iload_n hx hb dX8_copies_8 rfl (lv_at hl 0 rfl) ?_
  refine lv_aload_n hx hb dX8_copies_9 rfl (lv_at hl 1 rfl) ?_
  refine lv_iload_n hx hb dX8_copies_10 rfl (lv_at hl 2 rfl) ?_
  refine lv_iload_n hx hb dX8_copies_11 rfl (lv_at hl 0 rfl) ?_
  refine lv_iadd hx hb dX8_copies_12 ?_
  refine tq_i (w := 124) (by decide) ?_
  refine va_iald (i := 124) hx hb hK hP 0 0 rfl rfl (tq_in (by decide)) dX8_copies_13 ?_
  refine lv_topi (fun x282 ex282 => ?_)
  refine va_iast (i := 60) hx hb hK hP hD hS 0 0 rfl rfl (tq_in (by decide)) dX8_copies_14 (fun H locs hP hD hS => ?_)
  have hP : va_P G vwCl [(ra, .inl (cA 0, 128, .inl ((upd f280 (60 : Int32).toNatClampNeg x282))))] H := hP
  have hD : va_D A [(ra, .inl (cA 0, 128, .inl ((upd f280 (60 : Int32).toNatClampNeg x282))))] := hD
  generalize (upd f280 (60 : Int32).toNatClampNeg x282) = f283 at hP hD
  refine lv_iinc (v := 61) (lv' := [(2, .int 61), (0, .ref ra), (1, .int 64)]) hx hb dX8_copies_15 hl (k := 0) rfl (by decide) (by decide) rfl (fun ls hl => ?_)
  refine lv_goto (tgt := 2) hx hb dX8_copies_18 (by decide) ?_
  refine lv_iload_n hx hb dX8_copies_2 rfl (lv_at hl 0 rfl) ?_
  refine lv_iload_n hx hb dX8_copies_3 rfl (lv_at hl 2 rfl) ?_
  refine lv_icmp_ge (tgt := 21) hx hb dX8_copies_4 (by decide) (fun c284 => absurd c284 (by decide)) (fun c284 => ?_)
  refine lv_aload_n hx hb dX8_copies_7 rfl (lv_at hl 1 rfl) ?_
  refine lv_iload_n hx hb dX8_copies_8 rfl (lv_at hl 0 rfl) ?_
  refine lv_aload_n hx hb dX8_copies_9 rfl (lv_at hl 1 rfl) ?_
  refine lv_iload_n hx hb dX8_copies_10 rfl (lv_at hl 2 rfl) ?_
  refine lv_iload_n hx hb dX8_copies_11 rfl (lv_at hl 0 rfl) ?_
  refine lv_iadd hx hb dX8_copies_12 ?_
  refine tq_i (w := 125) (by decide) ?_
  refine va_iald (i := 125) hx hb hK hP 0 0 rfl rfl (tq_in (by decide)) dX8_copies_13 ?_
  refine lv_topi (fun x285 ex285 => ?_)
  refine va_iast (i := 61) hx hb hK hP hD hS 0 0 rfl rfl (tq_in (by decide)) dX8_copies_14 (fun H locs hP hD hS => ?_)
  have hP : va_P G vwCl [(ra, .inl (cA 0, 128, .inl ((upd f283 (61 : Int32).toNatClampNeg x285))))] H := hP
  have hD : va_D A [(ra, .inl (cA 0, 128, .inl ((upd f283 (61 : Int32).toNatClampNeg x285))))] := hD
  generalize (upd f283 (61 : Int32).toNatClampNeg x285) = f286 at hP hD
  refine lv_iinc (v := 62) (lv' := [(2, .int 62), (0, .ref ra), (1, .int 64)]) hx hb dX8_copies_15 hl (k := 0) rfl (by decide) (by decide) rfl (fun ls hl => ?_)
  refine lv_goto (tgt := 2) hx hb dX8_copies_18 (by decide) ?_
  refine lv_iload_n hx hb dX8_copies_2 rfl (lv_at hl 0 rfl) ?_
  refine lv_iload_n hx hb dX8_copies_3 rfl (lv_at hl 2 rfl) ?_
  refine lv_icmp_ge (tgt := 21) hx hb dX8_copies_4 (by decide) (fun c287 => absurd c287 (by decide)) (fun c287 => ?_)
  refine lv_aload_n hx hb dX8_copies_7 rfl (lv_at hl 1 rfl) ?_
  refine lv_iload_n hx hb dX8_copies_8 rfl (lv_at hl 0 rfl) ?_
  refine lv_aload_n hx hb dX8_copies_9 rfl (lv_at hl 1 rfl) ?_
  refine lv_iload_n hx hb dX8_copies_10 rfl (lv_at hl 2 rfl) ?_
  refine lv_iload_n hx hb dX8_copies_11 rfl (lv_at hl 0 rfl) ?_
  refine lv_iadd hx hb dX8_copies_12 ?_
  refine tq_i (w := 126) (by decide) ?_
  refine va_iald (i := 126) hx hb hK hP 0 0 rfl rfl (tq_in (by decide)) dX8_copies_13 ?_
  refine lv_topi (fun x288 ex288 => ?_)
  refine va_iast (i := 62) hx hb hK hP hD hS 0 0 rfl rfl (tq_in (by decide)) dX8_copies_14 (fun H locs hP hD hS => ?_)
  have hP : va_P G vwCl [(ra, .inl (cA 0, 128, .inl ((upd f286 (62 : Int32).toNatClampNeg x288))))] H := hP
  have hD : va_D A [(ra, .inl (cA 0, 128, .inl ((upd f286 (62 : Int32).toNatClampNeg x288))))] := hD
  generalize (upd f286 (62 : Int32).toNatClampNeg x288) = f289 at hP hD
  refine lv_iinc (v := 63) (lv' := [(2, .int 63), (0, .ref ra), (1, .int 64)]) hx hb dX8_copies_15 hl (k := 0) rfl (by decide) (by decide) rfl (fun ls hl => ?_)
  refine lv_goto (tgt := 2) hx hb dX8_copies_18 (by decide) ?_
  refine lv_iload_n hx hb dX8_copies_2 rfl (lv_at hl 0 rfl) ?_
  refine lv_iload_n hx hb dX8_copies_3 rfl (lv_at hl 2 rfl) ?_
  refine lv_icmp_ge (tgt := 21) hx hb dX8_copies_4 (by decide) (fun c290 => absurd c290 (by decide)) (fun c290 => ?_)
  refine lv_aload_n hx hb dX8_copies_7 rfl (lv_at hl 1 rfl) ?_
  refine lv_iload_n hx hb dX8_copies_8 rfl (lv_at hl 0 rfl) ?_
  refine lv_aload_n hx hb dX8_copies_9 rfl (lv_at hl 1 rfl) ?_
  refine lv_iload_n hx hb dX8_copies_10 rfl (lv_at hl 2 rfl) ?_
  refine lv_iload_n hx hb dX8_copies_11 rfl (lv_at hl 0 rfl) ?_
  refine lv_iadd hx hb dX8_copies_12 ?_
  refine tq_i (w := 127) (by decide) ?_
  refine va_iald (i := 127) hx hb hK hP 0 0 rfl rfl (tq_in (by decide)) dX8_copies_13 ?_
  refine lv_topi (fun x291 ex291 => ?_)
  refine va_iast (i := 63) hx hb hK hP hD hS 0 0 rfl rfl (tq_in (by decide)) dX8_copies_14 (fun H locs hP hD hS => ?_)
  have hP : va_P G vwCl [(ra, .inl (cA 0, 128, .inl ((upd f289 (63 : Int32).toNatClampNeg x291))))] H := hP
  have hD : va_D A [(ra, .inl (cA 0, 128, .inl ((upd f289 (63 : Int32).toNatClampNeg x291))))] := hD
  generalize (upd f289 (63 : Int32).toNatClampNeg x291) = f292 at hP hD
  refine lv_iinc (v := 64) (lv' := [(2, .int 64), (0, .ref ra), (1, .int 64)]) hx hb dX8_copies_15 hl (k := 0) rfl (by decide) (by decide) rfl (fun ls hl => ?_)
  refine lv_goto (tgt := 2) hx hb dX8_copies_18 (by decide) ?_
  refine lv_iload_n hx hb dX8_copies_2 rfl (lv_at hl 0 rfl) ?_
  refine lv_iload_n hx hb dX8_copies_3 rfl (lv_at hl 2 rfl) ?_
  refine lv_icmp_ge (tgt := 21) hx hb dX8_copies_4 (by decide) (fun c293 => ?_) (fun c293 => absurd (by decide) c293)
  exact W.vret hx hb hr (fun t ht hW => ⟨⟨f292, rfl, trivial, by rw [ht]; exact hP, hD⟩, hS.F ht⟩) hS.2.2 dX8_copies_21

set_option maxHeartbeats 4000000 in
set_option maxRecDepth 100000 in
theorem c_X8_copies_21e (l : Launch) (G : va_G) (cA : Nat → ClassId) (sz : Nat) (ra : Nat) (fr : Nat → Int32) (he0 : fr 21 = 60) (he1 : fr 22 = 60) (he2 : fr 23 = 60) (he3 : fr 24 = 60) (he4 : fr 25 = 60) (he5 : fr 26 = 60) (he6 : fr 27 = 60) (he7 : fr 28 = 60) (he8 : fr 29 = 60) (he9 : fr 30 = 60) (he10 : fr 31 = 60) (he11 : fr 32 = 60) (he12 : fr 33 = 60) (he13 : fr 34 = 60) (he14 : fr 35 = 60) (he15 : fr 36 = 60) (he16 : fr 37 = 60) (he17 : fr 38 = 60) (he18 : fr 39 = 60) (he19 : fr 40 = 60) (he20 : fr 41 = 60) : Met l yX8_copies (.code yX8_copies cX8_copies 3 none :: T0) ({ frames := 0, cells := 0, slots := 0, locals := 0 }) (tqP G cA [.ref ra, .int 21] [(ra, .inl (cA 0, 42, .inl fr))] sz) (tqQv G cA (fun (u : (Nat → Int32)) => u 0 = 60 ∧ u 1 = 60 ∧ u 2 = 60 ∧ u 3 = 60 ∧ u 4 = 60 ∧ u 5 = 60 ∧ u 6 = 60 ∧ u 7 = 60 ∧ u 8 = 60 ∧ u 9 = 60 ∧ u 10 = 60 ∧ u 11 = 60 ∧ u 12 = 60 ∧ u 13 = 60 ∧ u 14 = 60 ∧ u 15 = 60 ∧ u 16 = 60 ∧ u 17 = 60 ∧ u 18 = 60 ∧ u 19 = 60 ∧ u 20 = 60 ∧ u 21 = 60 ∧ u 22 = 60 ∧ u 23 = 60 ∧ u 24 = 60 ∧ u 25 = 60 ∧ u 26 = 60 ∧ u 27 = 60 ∧ u 28 = 60 ∧ u 29 = 60 ∧ u 30 = 60 ∧ u 31 = 60 ∧ u 32 = 60 ∧ u 33 = 60 ∧ u 34 = 60 ∧ u 35 = 60 ∧ u 36 = 60 ∧ u 37 = 60 ∧ u 38 = 60 ∧ u 39 = 60 ∧ u 40 = 60 ∧ u 41 = 60) (fun (u : (Nat → Int32)) => [(ra, .inl (cA 0, 42, .inl u))]) (va_A [(ra, .inl (cA 0, 42, .inl fr))] sz)) 0 0 (va_A [(ra, .inl (cA 0, 42, .inl fr))] sz) := by
  refine Met.ofW (cc := cX8_copies) (maxL := 3) (ret := none) (by decide) rfl ?_
  intro p e s m args below meth c s₁ B hml hv
  obtain ⟨rfl, hsz, hP, hK, hD0, hN⟩ := hv
  have hx := B.exec
  have hb := B.bytes
  have hr := B.returns
  have hts := atoms_spec (ws := .code yX8_copies cX8_copies 3 none :: T0) B.pre
  have hT : ∀ w ∈ T0, w.before _ s = true := fun w h => hts w (List.mem_cons_of_mem _ h)
  have hown : s.vm.findClass RX8 = some m.cls := findClass_of_methodNamed B.named
  have hlocks := B.notSynchronized
  subst hsz
  have hD := hD0.self (sz := s.heap.size)
  generalize hAe : va_A [(ra, .inl (cA 0, 42, .inl fr))] s.heap.size = A at hD ⊢
  have hA : ∀ q : Nat, s.heap.size ≤ q → A q := fun q h => by rw [← hAe]; exact Or.inr h
  have hS : va_S A s.heap s.heap [] := va_S.rf
  have hl := lv_entry ([.ref ra, .int 21]) (n := 3) (Nat.le_of_ble_eq_true rfl)
  rw [lg_entry_eq]
  generalize (lg_sl ([.ref ra, .int 21]) ++ List.replicate (3 - (lg_sl ([.ref ra, .int 21])).length) Slot.unset).toArray = ls at hl ⊢
  have hl : lv_has ls 3 [(0, .ref ra), (1, .int 21)] := hl
  obtain ⟨H, hH⟩ : ∃ z, z = s.heap := ⟨_, rfl⟩
  rw [← hH] at hP
  have hS : va_S A s.heap H [] := by rw [hH]; exact hS
  suffices hgo : W p l e _ s m _ below meth c H [] 0 0 _ _ by rw [hH] at hgo; exact hgo
  have hO := hN.2.2.2.2
  refine lv_iconst (v := 0) hx hb dX8_copies_0 (by decide) ?_
  refine lv_istore_n (lv' := [(2, .int 0), (0, .ref ra), (1, .int 21)]) hx hb dX8_copies_1 rfl hl (by decide) rfl (fun ls hl => ?_)
  refine lv_iload_n hx hb dX8_copies_2 rfl (lv_at hl 0 rfl) ?_
  refine lv_iload_n hx hb dX8_copies_3 rfl (lv_at hl 2 rfl) ?_
  refine lv_icmp_ge (tgt := 21) hx hb dX8_copies_4 (by decide) (fun c101 => absurd c101 (by decide)) (fun c101 => ?_)
  refine lv_aload_n hx hb dX8_copies_7 rfl (lv_at hl 1 rfl) ?_
  refine lv_iload_n hx hb dX8_copies_8 rfl (lv_at hl 0 rfl) ?_
  refine lv_aload_n hx hb dX8_copies_9 rfl (lv_at hl 1 rfl) ?_
  refine lv_iload_n hx hb dX8_copies_10 rfl (lv_at hl 2 rfl) ?_
  refine lv_iload_n hx hb dX8_copies_11 rfl (lv_at hl 0 rfl) ?_
  refine lv_iadd hx hb dX8_copies_12 ?_
  refine tq_i (w := 21) (by decide) ?_
  refine va_iald (i := 21) hx hb hK hP 0 0 rfl rfl (tq_in (by decide)) dX8_copies_13 ?_
  refine tq_i (w := 60) he0 ?_
  refine va_iast (i := 0) hx hb hK hP hD hS 0 0 rfl rfl (tq_in (by decide)) dX8_copies_14 (fun H locs hP hD hS => ?_)
  have hP : va_P G vwCl [(ra, .inl (cA 0, 42, .inl ((upd fr (0 : Int32).toNatClampNeg 60))))] H := hP
  have hD : va_D A [(ra, .inl (cA 0, 42, .inl ((upd fr (0 : Int32).toNatClampNeg 60))))] := hD
  have hE103 : (upd fr (0 : Int32).toNatClampNeg 60) 21 = 60 := he0
  have hE104 : (upd fr (0 : Int32).toNatClampNeg 60) 22 = 60 := he1
  have hE105 : (upd fr (0 : Int32).toNatClampNeg 60) 23 = 60 := he2
  have hE106 : (upd fr (0 : Int32).toNatClampNeg 60) 24 = 60 := he3
  have hE107 : (upd fr (0 : Int32).toNatClampNeg 60) 25 = 60 := he4
  have hE108 : (upd fr (0 : Int32).toNatClampNeg 60) 26 = 60 := he5
  have hE109 : (upd fr (0 : Int32).toNatClampNeg 60) 27 = 60 := he6
  have hE110 : (upd fr (0 : Int32).toNatClampNeg 60) 28 = 60 := he7
  have hE111 : (upd fr (0 : Int32).toNatClampNeg 60) 29 = 60 := he8
  have hE112 : (upd fr (0 : Int32).toNatClampNeg 60) 30 = 60 := he9
  have hE113 : (upd fr (0 : Int32).toNatClampNeg 60) 31 = 60 := he10
  have hE114 : (upd fr (0 : Int32).toNatClampNeg 60) 32 = 60 := he11
  have hE115 : (upd fr (0 : Int32).toNatClampNeg 60) 33 = 60 := he12
  have hE116 : (upd fr (0 : Int32).toNatClampNeg 60) 34 = 60 := he13
  have hE117 : (upd fr (0 : Int32).toNatClampNeg 60) 35 = 60 := he14
  have hE118 : (upd fr (0 : Int32).toNatClampNeg 60) 36 = 60 := he15
  have hE119 : (upd fr (0 : Int32).toNatClampNeg 60) 37 = 60 := he16
  have hE120 : (upd fr (0 : Int32).toNatClampNeg 60) 38 = 60 := he17
  have hE121 : (upd fr (0 : Int32).toNatClampNeg 60) 39 = 60 := he18
  have hE122 : (upd fr (0 : Int32).toNatClampNeg 60) 40 = 60 := he19
  have hE123 : (upd fr (0 : Int32).toNatClampNeg 60) 41 = 60 := he20
  have hE124 : (upd fr (0 : Int32).toNatClampNeg 60) 0 = 60 := rfl
  generalize (upd fr (0 : Int32).toNatClampNeg 60) = f102 at hP hD hE103 hE104 hE105 hE106 hE107 hE108 hE109 hE110 hE111 hE112 hE113 hE114 hE115 hE116 hE117 hE118 hE119 hE120 hE121 hE122 hE123 hE124
  refine lv_iinc (v := 1) (lv' := [(2, .int 1), (0, .ref ra), (1, .int 21)]) hx hb dX8_copies_15 hl (k := 0) rfl (by decide) (by decide) rfl (fun ls hl => ?_)
  refine lv_goto (tgt := 2) hx hb dX8_copies_18 (by decide) ?_
  refine lv_iload_n hx hb dX8_copies_2 rfl (lv_at hl 0 rfl) ?_
  refine lv_iload_n hx hb dX8_copies_3 rfl (lv_at hl 2 rfl) ?_
  refine lv_icmp_ge (tgt := 21) hx hb dX8_copies_4 (by decide) (fun c125 => absurd c125 (by decide)) (fun c125 => ?_)
  refine lv_aload_n hx hb dX8_copies_7 rfl (lv_at hl 1 rfl) ?_
  refine lv_iload_n hx hb dX8_copies_8 rfl (lv_at hl 0 rfl) ?_
  refine lv_aload_n hx hb dX8_copies_9 rfl (lv_at hl 1 rfl) ?_
  refine lv_iload_n hx hb dX8_copies_10 rfl (lv_at hl 2 rfl) ?_
  refine lv_iload_n hx hb dX8_copies_11 rfl (lv_at hl 0 rfl) ?_
  refine lv_iadd hx hb dX8_copies_12 ?_
  refine tq_i (w := 22) (by decide) ?_
  refine va_iald (i := 22) hx hb hK hP 0 0 rfl rfl (tq_in (by decide)) dX8_copies_13 ?_
  refine tq_i (w := 60) hE104 ?_
  refine va_iast (i := 1) hx hb hK hP hD hS 0 0 rfl rfl (tq_in (by decide)) dX8_copies_14 (fun H locs hP hD hS => ?_)
  have hP : va_P G vwCl [(ra, .inl (cA 0, 42, .inl ((upd f102 (1 : Int32).toNatClampNeg 60))))] H := hP
  have hD : va_D A [(ra, .inl (cA 0, 42, .inl ((upd f102 (1 : Int32).toNatClampNeg 60))))] := hD
  have hE127 : (upd f102 (1 : Int32).toNatClampNeg 60) 21 = 60 := hE103
  have hE128 : (upd f102 (1 : Int32).toNatClampNeg 60) 22 = 60 := hE104
  have hE129 : (upd f102 (1 : Int32).toNatClampNeg 60) 23 = 60 := hE105
  have hE130 : (upd f102 (1 : Int32).toNatClampNeg 60) 24 = 60 := hE106
  have hE131 : (upd f102 (1 : Int32).toNatClampNeg 60) 25 = 60 := hE107
  have hE132 : (upd f102 (1 : Int32).toNatClampNeg 60) 26 = 60 := hE108
  have hE133 : (upd f102 (1 : Int32).toNatClampNeg 60) 27 = 60 := hE109
  have hE134 : (upd f102 (1 : Int32).toNatClampNeg 60) 28 = 60 := hE110
  have hE135 : (upd f102 (1 : Int32).toNatClampNeg 60) 29 = 60 := hE111
  have hE136 : (upd f102 (1 : Int32).toNatClampNeg 60) 30 = 60 := hE112
  have hE137 : (upd f102 (1 : Int32).toNatClampNeg 60) 31 = 60 := hE113
  have hE138 : (upd f102 (1 : Int32).toNatClampNeg 60) 32 = 60 := hE114
  have hE139 : (upd f102 (1 : Int32).toNatClampNeg 60) 33 = 60 := hE115
  have hE140 : (upd f102 (1 : Int32).toNatClampNeg 60) 34 = 60 := hE116
  have hE141 : (upd f102 (1 : Int32).toNatClampNeg 60) 35 = 60 := hE117
  have hE142 : (upd f102 (1 : Int32).toNatClampNeg 60) 36 = 60 := hE118
  have hE143 : (upd f102 (1 : Int32).toNatClampNeg 60) 37 = 60 := hE119
  have hE144 : (upd f102 (1 : Int32).toNatClampNeg 60) 38 = 60 := hE120
  have hE145 : (upd f102 (1 : Int32).toNatClampNeg 60) 39 = 60 := hE121
  have hE146 : (upd f102 (1 : Int32).toNatClampNeg 60) 40 = 60 := hE122
  have hE147 : (upd f102 (1 : Int32).toNatClampNeg 60) 41 = 60 := hE123
  have hE148 : (upd f102 (1 : Int32).toNatClampNeg 60) 0 = 60 := hE124
  have hE149 : (upd f102 (1 : Int32).toNatClampNeg 60) 1 = 60 := rfl
  generalize (upd f102 (1 : Int32).toNatClampNeg 60) = f126 at hP hD hE127 hE128 hE129 hE130 hE131 hE132 hE133 hE134 hE135 hE136 hE137 hE138 hE139 hE140 hE141 hE142 hE143 hE144 hE145 hE146 hE147 hE148 hE149
  refine lv_iinc (v := 2) (lv' := [(2, .int 2), (0, .ref ra), (1, .int 21)]) hx hb dX8_copies_15 hl (k := 0) rfl (by decide) (by decide) rfl (fun ls hl => ?_)
  refine lv_goto (tgt := 2) hx hb dX8_copies_18 (by decide) ?_
  refine lv_iload_n hx hb dX8_copies_2 rfl (lv_at hl 0 rfl) ?_
  refine lv_iload_n hx hb dX8_copies_3 rfl (lv_at hl 2 rfl) ?_
  refine lv_icmp_ge (tgt := 21) hx hb dX8_copies_4 (by decide) (fun c150 => absurd c150 (by decide)) (fun c150 => ?_)
  refine lv_aload_n hx hb dX8_copies_7 rfl (lv_at hl 1 rfl) ?_
  refine lv_iload_n hx hb dX8_copies_8 rfl (lv_at hl 0 rfl) ?_
  refine lv_aload_n hx hb dX8_copies_9 rfl (lv_at hl 1 rfl) ?_
  refine lv_iload_n hx hb dX8_copies_10 rfl (lv_at hl 2 rfl) ?_
  refine lv_iload_n hx hb dX8_copies_11 rfl (lv_at hl 0 rfl) ?_
  refine lv_iadd hx hb dX8_copies_12 ?_
  refine tq_i (w := 23) (by decide) ?_
  refine va_iald (i := 23) hx hb hK hP 0 0 rfl rfl (tq_in (by decide)) dX8_copies_13 ?_
  refine tq_i (w := 60) hE129 ?_
  refine va_iast (i := 2) hx hb hK hP hD hS 0 0 rfl rfl (tq_in (by decide)) dX8_copies_14 (fun H locs hP hD hS => ?_)
  have hP : va_P G vwCl [(ra, .inl (cA 0, 42, .inl ((upd f126 (2 : Int32).toNatClampNeg 60))))] H := hP
  have hD : va_D A [(ra, .inl (cA 0, 42, .inl ((upd f126 (2 : Int32).toNatClampNeg 60))))] := hD
  have hE152 : (upd f126 (2 : Int32).toNatClampNeg 60) 21 = 60 := hE127
  have hE153 : (upd f126 (2 : Int32).toNatClampNeg 60) 22 = 60 := hE128
  have hE154 : (upd f126 (2 : Int32).toNatClampNeg 60) 23 = 60 := hE129
  have hE155 : (upd f126 (2 : Int32).toNatClampNeg 60) 24 = 60 := hE130
  have hE156 : (upd f126 (2 : Int32).toNatClampNeg 60) 25 = 60 := hE131
  have hE157 : (upd f126 (2 : Int32).toNatClampNeg 60) 26 = 60 := hE132
  have hE158 : (upd f126 (2 : Int32).toNatClampNeg 60) 27 = 60 := hE133
  have hE159 : (upd f126 (2 : Int32).toNatClampNeg 60) 28 = 60 := hE134
  have hE160 : (upd f126 (2 : Int32).toNatClampNeg 60) 29 = 60 := hE135
  have hE161 : (upd f126 (2 : Int32).toNatClampNeg 60) 30 = 60 := hE136
  have hE162 : (upd f126 (2 : Int32).toNatClampNeg 60) 31 = 60 := hE137
  have hE163 : (upd f126 (2 : Int32).toNatClampNeg 60) 32 = 60 := hE138
  have hE164 : (upd f126 (2 : Int32).toNatClampNeg 60) 33 = 60 := hE139
  have hE165 : (upd f126 (2 : Int32).toNatClampNeg 60) 34 = 60 := hE140
  have hE166 : (upd f126 (2 : Int32).toNatClampNeg 60) 35 = 60 := hE141
  have hE167 : (upd f126 (2 : Int32).toNatClampNeg 60) 36 = 60 := hE142
  have hE168 : (upd f126 (2 : Int32).toNatClampNeg 60) 37 = 60 := hE143
  have hE169 : (upd f126 (2 : Int32).toNatClampNeg 60) 38 = 60 := hE144
  have hE170 : (upd f126 (2 : Int32).toNatClampNeg 60) 39 = 60 := hE145
  have hE171 : (upd f126 (2 : Int32).toNatClampNeg 60) 40 = 60 := hE146
  have hE172 : (upd f126 (2 : Int32).toNatClampNeg 60) 41 = 60 := hE147
  have hE173 : (upd f126 (2 : Int32).toNatClampNeg 60) 0 = 60 := hE148
  have hE174 : (upd f126 (2 : Int32).toNatClampNeg 60) 1 = 60 := hE149
  have hE175 : (upd f126 (2 : Int32).toNatClampNeg 60) 2 = 60 := rfl
  generalize (upd f126 (2 : Int32).toNatClampNeg 60) = f151 at hP hD hE152 hE153 hE154 hE155 hE156 hE157 hE158 hE159 hE160 hE161 hE162 hE163 hE164 hE165 hE166 hE167 hE168 hE169 hE170 hE171 hE172 hE173 hE174 hE175
  refine lv_iinc (v := 3) (lv' := [(2, .int 3), (0, .ref ra), (1, .int 21)]) hx hb dX8_copies_15 hl (k := 0) rfl (by decide) (by decide) rfl (fun ls hl => ?_)
  refine lv_goto (tgt := 2) hx hb dX8_copies_18 (by decide) ?_
  refine lv_iload_n hx hb dX8_copies_2 rfl (lv_at hl 0 rfl) ?_
  refine lv_iload_n hx hb dX8_copies_3 rfl (lv_at hl 2 rfl) ?_
  refine lv_icmp_ge (tgt := 21) hx hb dX8_copies_4 (by decide) (fun c176 => absurd c176 (by decide)) (fun c176 => ?_)
  refine lv_aload_n hx hb dX8_copies_7 rfl (lv_at hl 1 rfl) ?_
  refine lv_iload_n hx hb dX8_copies_8 rfl (lv_at hl 0 rfl) ?_
  refine lv_aload_n hx hb dX8_copies_9 rfl (lv_at hl 1 rfl) ?_
  refine lv_iload_n hx hb dX8_copies_10 rfl (lv_at hl 2 rfl) ?_
  refine lv_iload_n hx hb dX8_copies_11 rfl (lv_at hl 0 rfl) ?_
  refine lv_iadd hx hb dX8_copies_12 ?_
  refine tq_i (w := 24) (by decide) ?_
  refine va_iald (i := 24) hx hb hK hP 0 0 rfl rfl (tq_in (by decide)) dX8_copies_13 ?_
  refine tq_i (w := 60) hE155 ?_
  refine va_iast (i := 3) hx hb hK hP hD hS 0 0 rfl rfl (tq_in (by decide)) dX8_copies_14 (fun H locs hP hD hS => ?_)
  have hP : va_P G vwCl [(ra, .inl (cA 0, 42, .inl ((upd f151 (3 : Int32).toNatClampNeg 60))))] H := hP
  have hD : va_D A [(ra, .inl (cA 0, 42, .inl ((upd f151 (3 : Int32).toNatClampNeg 60))))] := hD
  have hE178 : (upd f151 (3 : Int32).toNatClampNeg 60) 21 = 60 := hE152
  have hE179 : (upd f151 (3 : Int32).toNatClampNeg 60) 22 = 60 := hE153
  have hE180 : (upd f151 (3 : Int32).toNatClampNeg 60) 23 = 60 := hE154
  have hE181 : (upd f151 (3 : Int32).toNatClampNeg 60) 24 = 60 := hE155
  have hE182 : (upd f151 (3 : Int32).toNatClampNeg 60) 25 = 60 := hE156
  have hE183 : (upd f151 (3 : Int32).toNatClampNeg 60) 26 = 60 := hE157
  have hE184 : (upd f151 (3 : Int32).toNatClampNeg 60) 27 = 60 := hE158
  have hE185 : (upd f151 (3 : Int32).toNatClampNeg 60) 28 = 60 := hE159
  have hE186 : (upd f151 (3 : Int32).toNatClampNeg 60) 29 = 60 := hE160
  have hE187 : (upd f151 (3 : Int32).toNatClampNeg 60) 30 = 60 := hE161
  have hE188 : (upd f151 (3 : Int32).toNatClampNeg 60) 31 = 60 := hE162
  have hE189 : (upd f151 (3 : Int32).toNatClampNeg 60) 32 = 60 := hE163
  have hE190 : (upd f151 (3 : Int32).toNatClampNeg 60) 33 = 60 := hE164
  have hE191 : (upd f151 (3 : Int32).toNatClampNeg 60) 34 = 60 := hE165
  have hE192 : (upd f151 (3 : Int32).toNatClampNeg 60) 35 = 60 := hE166
  have hE193 : (upd f151 (3 : Int32).toNatClampNeg 60) 36 = 60 := hE167
  have hE194 : (upd f151 (3 : Int32).toNatClampNeg 60) 37 = 60 := hE168
  have hE195 : (upd f151 (3 : Int32).toNatClampNeg 60) 38 = 60 := hE169
  have hE196 : (upd f151 (3 : Int32).toNatClampNeg 60) 39 = 60 := hE170
  have hE197 : (upd f151 (3 : Int32).toNatClampNeg 60) 40 = 60 := hE171
  have hE198 : (upd f151 (3 : Int32).toNatClampNeg 60) 41 = 60 := hE172
  have hE199 : (upd f151 (3 : Int32).toNatClampNeg 60) 0 = 60 := hE173
  have hE200 : (upd f151 (3 : Int32).toNatClampNeg 60) 1 = 60 := hE174
  have hE201 : (upd f151 (3 : Int32).toNatClampNeg 60) 2 = 60 := hE175
  have hE202 : (upd f151 (3 : Int32).toNatClampNeg 60) 3 = 60 := rfl
  generalize (upd f151 (3 : Int32).toNatClampNeg 60) = f177 at hP hD hE178 hE179 hE180 hE181 hE182 hE183 hE184 hE185 hE186 hE187 hE188 hE189 hE190 hE191 hE192 hE193 hE194 hE195 hE196 hE197 hE198 hE199 hE200 hE201 hE202
  refine lv_iinc (v := 4) (lv' := [(2, .int 4), (0, .ref ra), (1, .int 21)]) hx hb dX8_copies_15 hl (k := 0) rfl (by decide) (by decide) rfl (fun ls hl => ?_)
  refine lv_goto (tgt := 2) hx hb dX8_copies_18 (by decide) ?_
  refine lv_iload_n hx hb dX8_copies_2 rfl (lv_at hl 0 rfl) ?_
  refine lv_iload_n hx hb dX8_copies_3 rfl (lv_at hl 2 rfl) ?_
  refine lv_icmp_ge (tgt := 21) hx hb dX8_copies_4 (by decide) (fun c203 => absurd c203 (by decide)) (fun c203 => ?_)
  refine lv_aload_n hx hb dX8_copies_7 rfl (lv_at hl 1 rfl) ?_
  refine lv_iload_n hx hb dX8_copies_8 rfl (lv_at hl 0 rfl) ?_
  refine lv_aload_n hx hb dX8_copies_9 rfl (lv_at hl 1 rfl) ?_
  refine lv_iload_n hx hb dX8_copies_10 rfl (lv_at hl 2 rfl) ?_
  refine lv_iload_n hx hb dX8_copies_11 rfl (lv_at hl 0 rfl) ?_
  refine lv_iadd hx hb dX8_copies_12 ?_
  refine tq_i (w := 25) (by decide) ?_
  refine va_iald (i := 25) hx hb hK hP 0 0 rfl rfl (tq_in (by decide)) dX8_copies_13 ?_
  refine tq_i (w := 60) hE182 ?_
  refine va_iast (i := 4) hx hb hK hP hD hS 0 0 rfl rfl (tq_in (by decide)) dX8_copies_14 (fun H locs hP hD hS => ?_)
  have hP : va_P G vwCl [(ra, .inl (cA 0, 42, .inl ((upd f177 (4 : Int32).toNatClampNeg 60))))] H := hP
  have hD : va_D A [(ra, .inl (cA 0, 42, .inl ((upd f177 (4 : Int32).toNatClampNeg 60))))] := hD
  have hE205 : (upd f177 (4 : Int32).toNatClampNeg 60) 21 = 60 := hE178
  have hE206 : (upd f177 (4 : Int32).toNatClampNeg 60) 22 = 60 := hE179
  have hE207 : (upd f177 (4 : Int32).toNatClampNeg 60) 23 = 60 := hE180
  have hE208 : (upd f177 (4 : Int32).toNatClampNeg 60) 24 = 60 := hE181
  have hE209 : (upd f177 (4 : Int32).toNatClampNeg 60) 25 = 60 := hE182
  have hE210 : (upd f177 (4 : Int32).toNatClampNeg 60) 26 = 60 := hE183
  have hE211 : (upd f177 (4 : Int32).toNatClampNeg 60) 27 = 60 := hE184
  have hE212 : (upd f177 (4 : Int32).toNatClampNeg 60) 28 = 60 := hE185
  have hE213 : (upd f177 (4 : Int32).toNatClampNeg 60) 29 = 60 := hE186
  have hE214 : (upd f177 (4 : Int32).toNatClampNeg 60) 30 = 60 := hE187
  have hE215 : (upd f177 (4 : Int32).toNatClampNeg 60) 31 = 60 := hE188
  have hE216 : (upd f177 (4 : Int32).toNatClampNeg 60) 32 = 60 := hE189
  have hE217 : (upd f177 (4 : Int32).toNatClampNeg 60) 33 = 60 := hE190
  have hE218 : (upd f177 (4 : Int32).toNatClampNeg 60) 34 = 60 := hE191
  have hE219 : (upd f177 (4 : Int32).toNatClampNeg 60) 35 = 60 := hE192
  have hE220 : (upd f177 (4 : Int32).toNatClampNeg 60) 36 = 60 := hE193
  have hE221 : (upd f177 (4 : Int32).toNatClampNeg 60) 37 = 60 := hE194
  have hE222 : (upd f177 (4 : Int32).toNatClampNeg 60) 38 = 60 := hE195
  have hE223 : (upd f177 (4 : Int32).toNatClampNeg 60) 39 = 60 := hE196
  have hE224 : (upd f177 (4 : Int32).toNatClampNeg 60) 40 = 60 := hE197
  have hE225 : (upd f177 (4 : Int32).toNatClampNeg 60) 41 = 60 := hE198
  have hE226 : (upd f177 (4 : Int32).toNatClampNeg 60) 0 = 60 := hE199
  have hE227 : (upd f177 (4 : Int32).toNatClampNeg 60) 1 = 60 := hE200
  have hE228 : (upd f177 (4 : Int32).toNatClampNeg 60) 2 = 60 := hE201
  have hE229 : (upd f177 (4 : Int32).toNatClampNeg 60) 3 = 60 := hE202
  have hE230 : (upd f177 (4 : Int32).toNatClampNeg 60) 4 = 60 := rfl
  generalize (upd f177 (4 : Int32).toNatClampNeg 60) = f204 at hP hD hE205 hE206 hE207 hE208 hE209 hE210 hE211 hE212 hE213 hE214 hE215 hE216 hE217 hE218 hE219 hE220 hE221 hE222 hE223 hE224 hE225 hE226 hE227 hE228 hE229 hE230
  refine lv_iinc (v := 5) (lv' := [(2, .int 5), (0, .ref ra), (1, .int 21)]) hx hb dX8_copies_15 hl (k := 0) rfl (by decide) (by decide) rfl (fun ls hl => ?_)
  refine lv_goto (tgt := 2) hx hb dX8_copies_18 (by decide) ?_
  refine lv_iload_n hx hb dX8_copies_2 rfl (lv_at hl 0 rfl) ?_
  refine lv_iload_n hx hb dX8_copies_3 rfl (lv_at hl 2 rfl) ?_
  refine lv_icmp_ge (tgt := 21) hx hb dX8_copies_4 (by decide) (fun c231 => absurd c231 (by decide)) (fun c231 => ?_)
  refine lv_aload_n hx hb dX8_copies_7 rfl (lv_at hl 1 rfl) ?_
  refine lv_iload_n hx hb dX8_copies_8 rfl (lv_at hl 0 rfl) ?_
  refine lv_aload_n hx hb dX8_copies_9 rfl (lv_at hl 1 rfl) ?_
  refine lv_iload_n hx hb dX8_copies_10 rfl (lv_at hl 2 rfl) ?_
  refine lv_iload_n hx hb dX8_copies_11 rfl (lv_at hl 0 rfl) ?_
  refine lv_iadd hx hb dX8_copies_12 ?_
  refine tq_i (w := 26) (by decide) ?_
  refine va_iald (i := 26) hx hb hK hP 0 0 rfl rfl (tq_in (by decide)) dX8_copies_13 ?_
  refine tq_i (w := 60) hE210 ?_
  refine va_iast (i := 5) hx hb hK hP hD hS 0 0 rfl rfl (tq_in (by decide)) dX8_copies_14 (fun H locs hP hD hS => ?_)
  have hP : va_P G vwCl [(ra, .inl (cA 0, 42, .inl ((upd f204 (5 : Int32).toNatClampNeg 60))))] H := hP
  have hD : va_D A [(ra, .inl (cA 0, 42, .inl ((upd f204 (5 : Int32).toNatClampNeg 60))))] := hD
  have hE233 : (upd f204 (5 : Int32).toNatClampNeg 60) 21 = 60 := hE205
  have hE234 : (upd f204 (5 : Int32).toNatClampNeg 60) 22 = 60 := hE206
  have hE235 : (upd f204 (5 : Int32).toNatClampNeg 60) 23 = 60 := hE207
  have hE236 : (upd f204 (5 : Int32).toNatClampNeg 60) 24 = 60 := hE208
  have hE237 : (upd f204 (5 : Int32).toNatClampNeg 60) 25 = 60 := hE209
  have hE238 : (upd f204 (5 : Int32).toNatClampNeg 60) 26 = 60 := hE210
  have hE239 : (upd f204 (5 : Int32).toNatClampNeg 60) 27 = 60 := hE211
  have hE240 : (upd f204 (5 : Int32).toNatClampNeg 60) 28 = 60 := hE212
  have hE241 : (upd f204 (5 : Int32).toNatClampNeg 60) 29 = 60 := hE213
  have hE242 : (upd f204 (5 : Int32).toNatClampNeg 60) 30 = 60 := hE214
  have hE243 : (upd f204 (5 : Int32).toNatClampNeg 60) 31 = 60 := hE215
  have hE244 : (upd f204 (5 : Int32).toNatClampNeg 60) 32 = 60 := hE216
  have hE245 : (upd f204 (5 : Int32).toNatClampNeg 60) 33 = 60 := hE217
  have hE246 : (upd f204 (5 : Int32).toNatClampNeg 60) 34 = 60 := hE218
  have hE247 : (upd f204 (5 : Int32).toNatClampNeg 60) 35 = 60 := hE219
  have hE248 : (upd f204 (5 : Int32).toNatClampNeg 60) 36 = 60 := hE220
  have hE249 : (upd f204 (5 : Int32).toNatClampNeg 60) 37 = 60 := hE221
  have hE250 : (upd f204 (5 : Int32).toNatClampNeg 60) 38 = 60 := hE222
  have hE251 : (upd f204 (5 : Int32).toNatClampNeg 60) 39 = 60 := hE223
  have hE252 : (upd f204 (5 : Int32).toNatClampNeg 60) 40 = 60 := hE224
  have hE253 : (upd f204 (5 : Int32).toNatClampNeg 60) 41 = 60 := hE225
  have hE254 : (upd f204 (5 : Int32).toNatClampNeg 60) 0 = 60 := hE226
  have hE255 : (upd f204 (5 : Int32).toNatClampNeg 60) 1 = 60 := hE227
  have hE256 : (upd f204 (5 : Int32).toNatClampNeg 60) 2 = 60 := hE228
  have hE257 : (upd f204 (5 : Int32).toNatClampNeg 60) 3 = 60 := hE229
  have hE258 : (upd f204 (5 : Int32).toNatClampNeg 60) 4 = 60 := hE230
  have hE259 : (upd f204 (5 : Int32).toNatClampNeg 60) 5 = 60 := rfl
  generalize (upd f204 (5 : Int32).toNatClampNeg 60) = f232 at hP hD hE233 hE234 hE235 hE236 hE237 hE238 hE239 hE240 hE241 hE242 hE243 hE244 hE245 hE246 hE247 hE248 hE249 hE250 hE251 hE252 hE253 hE254 hE255 hE256 hE257 hE258 hE259
  refine lv_iinc (v := 6) (lv' := [(2, .int 6), (0, .ref ra), (1, .int 21)]) hx hb dX8_copies_15 hl (k := 0) rfl (by decide) (by decide) rfl (fun ls hl => ?_)
  refine lv_goto (tgt := 2) hx hb dX8_copies_18 (by decide) ?_
  refine lv_iload_n hx hb dX8_copies_2 rfl (lv_at hl 0 rfl) ?_
  refine lv_iload_n hx hb dX8_copies_3 rfl (lv_at hl 2 rfl) ?_
  refine lv_icmp_ge (tgt := 21) hx hb dX8_copies_4 (by decide) (fun c260 => absurd c260 (by decide)) (fun c260 => ?_)
  refine lv_aload_n hx hb dX8_copies_7 rfl (lv_at hl 1 rfl) ?_
  refine lv_iload_n hx hb dX8_copies_8 rfl (lv_at hl 0 rfl) ?_
  refine lv_aload_n hx hb dX8_copies_9 rfl (lv_at hl 1 rfl) ?_
  refine lv_iload_n hx hb dX8_copies_10 rfl (lv_at hl 2 rfl) ?_
  refine lv_iload_n hx hb dX8_copies_11 rfl (lv_at hl 0 rfl) ?_
  refine lv_iadd hx hb dX8_copies_12 ?_
  refine tq_i (w := 27) (by decide) ?_
  refine va_iald (i := 27) hx hb hK hP 0 0 rfl rfl (tq_in (by decide)) dX8_copies_13 ?_
  refine tq_i (w := 60) hE239 ?_
  refine va_iast (i := 6) hx hb hK hP hD hS 0 0 rfl rfl (tq_in (by decide)) dX8_copies_14 (fun H locs hP hD hS => ?_)
  have hP : va_P G vwCl [(ra, .inl (cA 0, 42, .inl ((upd f232 (6 : Int32).toNatClampNeg 60))))] H := hP
  have hD : va_D A [(ra, .inl (cA 0, 42, .inl ((upd f232 (6 : Int32).toNatClampNeg 60))))] := hD
  have hE262 : (upd f232 (6 : Int32).toNatClampNeg 60) 21 = 60 := hE233
  have hE263 : (upd f232 (6 : Int32).toNatClampNeg 60) 22 = 60 := hE234
  have hE264 : (upd f232 (6 : Int32).toNatClampNeg 60) 23 = 60 := hE235
  have hE265 : (upd f232 (6 : Int32).toNatClampNeg 60) 24 = 60 := hE236
  have hE266 : (upd f232 (6 : Int32).toNatClampNeg 60) 25 = 60 := hE237
  have hE267 : (upd f232 (6 : Int32).toNatClampNeg 60) 26 = 60 := hE238
  have hE268 : (upd f232 (6 : Int32).toNatClampNeg 60) 27 = 60 := hE239
  have hE269 : (upd f232 (6 : Int32).toNatClampNeg 60) 28 = 60 := hE240
  have hE270 : (upd f232 (6 : Int32).toNatClampNeg 60) 29 = 60 := hE241
  have hE271 : (upd f232 (6 : Int32).toNatClampNeg 60) 30 = 60 := hE242
  have hE272 : (upd f232 (6 : Int32).toNatClampNeg 60) 31 = 60 := hE243
  have hE273 : (upd f232 (6 : Int32).toNatClampNeg 60) 32 = 60 := hE244
  have hE274 : (upd f232 (6 : Int32).toNatClampNeg 60) 33 = 60 := hE245
  have hE275 : (upd f232 (6 : Int32).toNatClampNeg 60) 34 = 60 := hE246
  have hE276 : (upd f232 (6 : Int32).toNatClampNeg 60) 35 = 60 := hE247
  have hE277 : (upd f232 (6 : Int32).toNatClampNeg 60) 36 = 60 := hE248
  have hE278 : (upd f232 (6 : Int32).toNatClampNeg 60) 37 = 60 := hE249
  have hE279 : (upd f232 (6 : Int32).toNatClampNeg 60) 38 = 60 := hE250
  have hE280 : (upd f232 (6 : Int32).toNatClampNeg 60) 39 = 60 := hE251
  have hE281 : (upd f232 (6 : Int32).toNatClampNeg 60) 40 = 60 := hE252
  have hE282 : (upd f232 (6 : Int32).toNatClampNeg 60) 41 = 60 := hE253
  have hE283 : (upd f232 (6 : Int32).toNatClampNeg 60) 0 = 60 := hE254
  have hE284 : (upd f232 (6 : Int32).toNatClampNeg 60) 1 = 60 := hE255
  have hE285 : (upd f232 (6 : Int32).toNatClampNeg 60) 2 = 60 := hE256
  have hE286 : (upd f232 (6 : Int32).toNatClampNeg 60) 3 = 60 := hE257
  have hE287 : (upd f232 (6 : Int32).toNatClampNeg 60) 4 = 60 := hE258
  have hE288 : (upd f232 (6 : Int32).toNatClampNeg 60) 5 = 60 := hE259
  have hE289 : (upd f232 (6 : Int32).toNatClampNeg 60) 6 = 60 := rfl
  generalize (upd f232 (6 : Int32).toNatClampNeg 60) = f261 at hP hD hE262 hE263 hE264 hE265 hE266 hE267 hE268 hE269 hE270 hE271 hE272 hE273 hE274 hE275 hE276 hE277 hE278 hE279 hE280 hE281 hE282 hE283 hE284 hE285 hE286 hE287 hE288 hE289
  refine lv_iinc (v := 7) (lv' := [(2, .int 7), (0, .ref ra), (1, .int 21)]) hx hb dX8_copies_15 hl (k := 0) rfl (by decide) (by decide) rfl (fun ls hl => ?_)
  refine lv_goto (tgt := 2) hx hb dX8_copies_18 (by decide) ?_
  refine lv_iload_n hx hb dX8_copies_2 rfl (lv_at hl 0 rfl) ?_
  refine lv_iload_n hx hb dX8_copies_3 rfl (lv_at hl 2 rfl) ?_
  refine lv_icmp_ge (tgt := 21) hx hb dX8_copies_4 (by decide) (fun c290 => absurd c290 (by decide)) (fun c290 => ?_)
  refine lv_aload_n hx hb dX8_copies_7 rfl (lv_at hl 1 rfl) ?_
  refine lv_iload_n hx hb dX8_copies_8 rfl (lv_at hl 0 rfl) ?_
  refine lv_aload_n hx hb dX8_copies_9 rfl (lv_at hl 1 rfl) ?_
  refine lv_iload_n hx hb dX8_copies_10 rfl (lv_at hl 2 rfl) ?_
  refine lv_iload_n hx hb dX8_copies_11 rfl (lv_at hl 0 rfl) ?_
  refine lv_iadd hx hb dX8_copies_12 ?_
  refine tq_i (w := 28) (by decide) ?_
  refine va_iald (i := 28) hx hb hK hP 0 0 rfl rfl (tq_in (by decide)) dX8_copies_13 ?_
  refine tq_i (w := 60) hE269 ?_
  refine va_iast (i := 7) hx hb hK hP hD hS 0 0 rfl rfl (tq_in (by decide)) dX8_copies_14 (fun H locs hP hD hS => ?_)
  have hP : va_P G vwCl [(ra, .inl (cA 0, 42, .inl ((upd f261 (7 : Int32).toNatClampNeg 60))))] H := hP
  have hD : va_D A [(ra, .inl (cA 0, 42, .inl ((upd f261 (7 : Int32).toNatClampNeg 60))))] := hD
  have hE292 : (upd f261 (7 : Int32).toNatClampNeg 60) 21 = 60 := hE262
  have hE293 : (upd f261 (7 : Int32).toNatClampNeg 60) 22 = 60 := hE263
  have hE294 : (upd f261 (7 : Int32).toNatClampNeg 60) 23 = 60 := hE264
  have hE295 : (upd f261 (7 : Int32).toNatClampNeg 60) 24 = 60 := hE265
  have hE296 : (upd f261 (7 : Int32).toNatClampNeg 60) 25 = 60 := hE266
  have hE297 : (upd f261 (7 : Int32).toNatClampNeg 60) 26 = 60 := hE267
  have hE298 : (upd f261 (7 : Int32).toNatClampNeg 60) 27 = 60 := hE268
  have hE299 : (upd f261 (7 : Int32).toNatClampNeg 60) 28 = 60 := hE269
  have hE300 : (upd f261 (7 : Int32).toNatClampNeg 60) 29 = 60 := hE270
  have hE301 : (upd f261 (7 : Int32).toNatClampNeg 60) 30 = 60 := hE271
  have hE302 : (upd f261 (7 : Int32).toNatClampNeg 60) 31 = 60 := hE272
  have hE303 : (upd f261 (7 : Int32).toNatClampNeg 60) 32 = 60 := hE273
  have hE304 : (upd f261 (7 : Int32).toNatClampNeg 60) 33 = 60 := hE274
  have hE305 : (upd f261 (7 : Int32).toNatClampNeg 60) 34 = 60 := hE275
  have hE306 : (upd f261 (7 : Int32).toNatClampNeg 60) 35 = 60 := hE276
  have hE307 : (upd f261 (7 : Int32).toNatClampNeg 60) 36 = 60 := hE277
  have hE308 : (upd f261 (7 : Int32).toNatClampNeg 60) 37 = 60 := hE278
  have hE309 : (upd f261 (7 : Int32).toNatClampNeg 60) 38 = 60 := hE279
  have hE310 : (upd f261 (7 : Int32).toNatClampNeg 60) 39 = 60 := hE280
  have hE311 : (upd f261 (7 : Int32).toNatClampNeg 60) 40 = 60 := hE281
  have hE312 : (upd f261 (7 : Int32).toNatClampNeg 60) 41 = 60 := hE282
  have hE313 : (upd f261 (7 : Int32).toNatClampNeg 60) 0 = 60 := hE283
  have hE314 : (upd f261 (7 : Int32).toNatClampNeg 60) 1 = 60 := hE284
  have hE315 : (upd f261 (7 : Int32).toNatClampNeg 60) 2 = 60 := hE285
  have hE316 : (upd f261 (7 : Int32).toNatClampNeg 60) 3 = 60 := hE286
  have hE317 : (upd f261 (7 : Int32).toNatClampNeg 60) 4 = 60 := hE287
  have hE318 : (upd f261 (7 : Int32).toNatClampNeg 60) 5 = 60 := hE288
  have hE319 : (upd f261 (7 : Int32).toNatClampNeg 60) 6 = 60 := hE289
  have hE320 : (upd f261 (7 : Int32).toNatClampNeg 60) 7 = 60 := rfl
  generalize (upd f261 (7 : Int32).toNatClampNeg 60) = f291 at hP hD hE292 hE293 hE294 hE295 hE296 hE297 hE298 hE299 hE300 hE301 hE302 hE303 hE304 hE305 hE306 hE307 hE308 hE309 hE310 hE311 hE312 hE313 hE314 hE315 hE316 hE317 hE318 hE319 hE320
  refine lv_iinc (v := 8) (lv' := [(2, .int 8), (0, .ref ra), (1, .int 21)]) hx hb dX8_copies_15 hl (k := 0) rfl (by decide) (by decide) rfl (fun ls hl => ?_)
  refine lv_goto (tgt := 2) hx hb dX8_copies_18 (by decide) ?_
  refine lv_iload_n hx hb dX8_copies_2 rfl (lv_at hl 0 rfl) ?_
  refine lv_iload_n hx hb dX8_copies_3 rfl (lv_at hl 2 rfl) ?_
  refine lv_icmp_ge (tgt := 21) hx hb dX8_copies_4 (by decide) (fun c321 => absurd c321 (by decide)) (fun c321 => ?_)
  refine lv_aload_n hx hb dX8_copies_7 rfl (lv_at hl 1 rfl) ?_
  refine lv_iload_n hx hb dX8_copies_8 rfl (lv_at hl 0 rfl) ?_
  refine lv_aload_n hx hb dX8_copies_9 rfl (lv_at hl 1 rfl) ?_
  refine lv_iload_n hx hb dX8_copies_10 rfl (lv_at hl 2 rfl) ?_
  refine lv_iload_n hx hb dX8_copies_11 rfl (lv_at hl 0 rfl) ?_
  refine lv_iadd hx hb dX8_copies_12 ?_
  refine tq_i (w := 29) (by decide) ?_
  refine va_iald (i := 29) hx hb hK hP 0 0 rfl rfl (tq_in (by decide)) dX8_copies_13 ?_
  refine tq_i (w := 60) hE300 ?_
  refine va_iast (i := 8) hx hb hK hP hD hS 0 0 rfl rfl (tq_in (by decide)) dX8_copies_14 (fun H locs hP hD hS => ?_)
  have hP : va_P G vwCl [(ra, .inl (cA 0, 42, .inl ((upd f291 (8 : Int32).toNatClampNeg 60))))] H := hP
  have hD : va_D A [(ra, .inl (cA 0, 42, .inl ((upd f291 (8 : Int32).toNatClampNeg 60))))] := hD
  have hE323 : (upd f291 (8 : Int32).toNatClampNeg 60) 21 = 60 := hE292
  have hE324 : (upd f291 (8 : Int32).toNatClampNeg 60) 22 = 60 := hE293
  have hE325 : (upd f291 (8 : Int32).toNatClampNeg 60) 23 = 60 := hE294
  have hE326 : (upd f291 (8 : Int32).toNatClampNeg 60) 24 = 60 := hE295
  have hE327 : (upd f291 (8 : Int32).toNatClampNeg 60) 25 = 60 := hE296
  have hE328 : (upd f291 (8 : Int32).toNatClampNeg 60) 26 = 60 := hE297
  have hE329 : (upd f291 (8 : Int32).toNatClampNeg 60) 27 = 60 := hE298
  have hE330 : (upd f291 (8 : Int32).toNatClampNeg 60) 28 = 60 := hE299
  have hE331 : (upd f291 (8 : Int32).toNatClampNeg 60) 29 = 60 := hE300
  have hE332 : (upd f291 (8 : Int32).toNatClampNeg 60) 30 = 60 := hE301
  have hE333 : (upd f291 (8 : Int32).toNatClampNeg 60) 31 = 60 := hE302
  have hE334 : (upd f291 (8 : Int32).toNatClampNeg 60) 32 = 60 := hE303
  have hE335 : (upd f291 (8 : Int32).toNatClampNeg 60) 33 = 60 := hE304
  have hE336 : (upd f291 (8 : Int32).toNatClampNeg 60) 34 = 60 := hE305
  have hE337 : (upd f291 (8 : Int32).toNatClampNeg 60) 35 = 60 := hE306
  have hE338 : (upd f291 (8 : Int32).toNatClampNeg 60) 36 = 60 := hE307
  have hE339 : (upd f291 (8 : Int32).toNatClampNeg 60) 37 = 60 := hE308
  have hE340 : (upd f291 (8 : Int32).toNatClampNeg 60) 38 = 60 := hE309
  have hE341 : (upd f291 (8 : Int32).toNatClampNeg 60) 39 = 60 := hE310
  have hE342 : (upd f291 (8 : Int32).toNatClampNeg 60) 40 = 60 := hE311
  have hE343 : (upd f291 (8 : Int32).toNatClampNeg 60) 41 = 60 := hE312
  have hE344 : (upd f291 (8 : Int32).toNatClampNeg 60) 0 = 60 := hE313
  have hE345 : (upd f291 (8 : Int32).toNatClampNeg 60) 1 = 60 := hE314
  have hE346 : (upd f291 (8 : Int32).toNatClampNeg 60) 2 = 60 := hE315
  have hE347 : (upd f291 (8 : Int32).toNatClampNeg 60) 3 = 60 := hE316
  have hE348 : (upd f291 (8 : Int32).toNatClampNeg 60) 4 = 60 := hE317
  have hE349 : (upd f291 (8 : Int32).toNatClampNeg 60) 5 = 60 := hE318
  have hE350 : (upd f291 (8 : Int32).toNatClampNeg 60) 6 = 60 := hE319
  have hE351 : (upd f291 (8 : Int32).toNatClampNeg 60) 7 = 60 := hE320
  have hE352 : (upd f291 (8 : Int32).toNatClampNeg 60) 8 = 60 := rfl
  generalize (upd f291 (8 : Int32).toNatClampNeg 60) = f322 at hP hD hE323 hE324 hE325 hE326 hE327 hE328 hE329 hE330 hE331 hE332 hE333 hE334 hE335 hE336 hE337 hE338 hE339 hE340 hE341 hE342 hE343 hE344 hE345 hE346 hE347 hE348 hE349 hE350 hE351 hE352
  refine lv_iinc (v := 9) (lv' := [(2, .int 9), (0, .ref ra), (1, .int 21)]) hx hb dX8_copies_15 hl (k := 0) rfl (by decide) (by decide) rfl (fun ls hl => ?_)
  refine lv_goto (tgt := 2) hx hb dX8_copies_18 (by decide) ?_
  refine lv_iload_n hx hb dX8_copies_2 rfl (lv_at hl 0 rfl) ?_
  refine lv_iload_n hx hb dX8_copies_3 rfl (lv_at hl 2 rfl) ?_
  refine lv_icmp_ge (tgt := 21) hx hb dX8_copies_4 (by decide) (fun c353 => absurd c353 (by decide)) (fun c353 => ?_)
  refine lv_aload_n hx hb dX8_copies_7 rfl (lv_at hl 1 rfl) ?_
  refine lv_iload_n hx hb dX8_copies_8 rfl (lv_at hl 0 rfl) ?_
  refine lv_aload_n hx hb dX8_copies_9 rfl (lv_at hl 1 rfl) ?_
  refine lv_iload_n hx hb dX8_copies_10 rfl (lv_at hl 2 rfl) ?_
  refine lv_iload_n hx hb dX8_copies_11 rfl (lv_at hl 0 rfl) ?_
  refine lv_iadd hx hb dX8_copies_12 ?_
  refine tq_i (w := 30) (by decide) ?_
  refine va_iald (i := 30) hx hb hK hP 0 0 rfl rfl (tq_in (by decide)) dX8_copies_13 ?_
  refine tq_i (w := 60) hE332 ?_
  refine va_iast (i := 9) hx hb hK hP hD hS 0 0 rfl rfl (tq_in (by decide)) dX8_copies_14 (fun H locs hP hD hS => ?_)
  have hP : va_P G vwCl [(ra, .inl (cA 0, 42, .inl ((upd f322 (9 : Int32).toNatClampNeg 60))))] H := hP
  have hD : va_D A [(ra, .inl (cA 0, 42, .inl ((upd f322 (9 : Int32).toNatClampNeg 60))))] := hD
  have hE355 : (upd f322 (9 : Int32).toNatClampNeg 60) 21 = 60 := hE323
  have hE356 : (upd f322 (9 : Int32).toNatClampNeg 60) 22 = 60 := hE324
  have hE357 : (upd f322 (9 : Int32).toNatClampNeg 60) 23 = 60 := hE325
  have hE358 : (upd f322 (9 : Int32).toNatClampNeg 60) 24 = 60 := hE326
  have hE359 : (upd f322 (9 : Int32).toNatClampNeg 60) 25 = 60 := hE327
  have hE360 : (upd f322 (9 : Int32).toNatClampNeg 60) 26 = 60 := hE328
  have hE361 : (upd f322 (9 : Int32).toNatClampNeg 60) 27 = 60 := hE329
  have hE362 : (upd f322 (9 : Int32).toNatClampNeg 60) 28 = 60 := hE330
  have hE363 : (upd f322 (9 : Int32).toNatClampNeg 60) 29 = 60 := hE331
  have hE364 : (upd f322 (9 : Int32).toNatClampNeg 60) 30 = 60 := hE332
  have hE365 : (upd f322 (9 : Int32).toNatClampNeg 60) 31 = 60 := hE333
  have hE366 : (upd f322 (9 : Int32).toNatClampNeg 60) 32 = 60 := hE334
  have hE367 : (upd f322 (9 : Int32).toNatClampNeg 60) 33 = 60 := hE335
  have hE368 : (upd f322 (9 : Int32).toNatClampNeg 60) 34 = 60 := hE336
  have hE369 : (upd f322 (9 : Int32).toNatClampNeg 60) 35 = 60 := hE337
  have hE370 : (upd f322 (9 : Int32).toNatClampNeg 60) 36 = 60 := hE338
  have hE371 : (upd f322 (9 : Int32).toNatClampNeg 60) 37 = 60 := hE339
  have hE372 : (upd f322 (9 : Int32).toNatClampNeg 60) 38 = 60 := hE340
  have hE373 : (upd f322 (9 : Int32).toNatClampNeg 60) 39 = 60 := hE341
  have hE374 : (upd f322 (9 : Int32).toNatClampNeg 60) 40 = 60 := hE342
  have hE375 : (upd f322 (9 : Int32).toNatClampNeg 60) 41 = 60 := hE343
  have hE376 : (upd f322 (9 : Int32).toNatClampNeg 60) 0 = 60 := hE344
  have hE377 : (upd f322 (9 : Int32).toNatClampNeg 60) 1 = 60 := hE345
  have hE378 : (upd f322 (9 : Int32).toNatClampNeg 60) 2 = 60 := hE346
  have hE379 : (upd f322 (9 : Int32).toNatClampNeg 60) 3 = 60 := hE347
  have hE380 : (upd f322 (9 : Int32).toNatClampNeg 60) 4 = 60 := hE348
  have hE381 : (upd f322 (9 : Int32).toNatClampNeg 60) 5 = 60 := hE349
  have hE382 : (upd f322 (9 : Int32).toNatClampNeg 60) 6 = 60 := hE350
  have hE383 : (upd f322 (9 : Int32).toNatClampNeg 60) 7 = 60 := hE351
  have hE384 : (upd f322 (9 : Int32).toNatClampNeg 60) 8 = 60 := hE352
  have hE385 : (upd f322 (9 : Int32).toNatClampNeg 60) 9 = 60 := rfl
  generalize (upd f322 (9 : Int32).toNatClampNeg 60) = f354 at hP hD hE355 hE356 hE357 hE358 hE359 hE360 hE361 hE362 hE363 hE364 hE365 hE366 hE367 hE368 hE369 hE370 hE371 hE372 hE373 hE374 hE375 hE376 hE377 hE378 hE379 hE380 hE381 hE382 hE383 hE384 hE385
  refine lv_iinc (v := 10) (lv' := [(2, .int 10), (0, .ref ra), (1, .int 21)]) hx hb dX8_copies_15 hl (k := 0) rfl (by decide) (by decide) rfl (fun ls hl => ?_)
  refine lv_goto (tgt := 2) hx hb dX8_copies_18 (by decide) ?_
  refine lv_iload_n hx hb dX8_copies_2 rfl (lv_at hl 0 rfl) ?_
  refine lv_iload_n hx hb dX8_copies_3 rfl (lv_at hl 2 rfl) ?_
  refine lv_icmp_ge (tgt := 21) hx hb dX8_copies_4 (by decide) (fun c386 => absurd c386 (by decide)) (fun c386 => ?_)
  refine lv_aload_n hx hb dX8_copies_7 rfl (lv_at hl 1 rfl) ?_
  refine lv_iload_n hx hb dX8_copies_8 rfl (lv_at hl 0 rfl) ?_
  refine lv_aload_n hx hb dX8_copies_9 rfl (lv_at hl 1 rfl) ?_
  refine lv_iload_n hx hb dX8_copies_10 rfl (lv_at hl 2 rfl) ?_
  refine lv_iload_n hx hb dX8_copies_11 rfl (lv_at hl 0 rfl) ?_
  refine lv_iadd hx hb dX8_copies_12 ?_
  refine tq_i (w := 31) (by decide) ?_
  refine va_iald (i := 31) hx hb hK hP 0 0 rfl rfl (tq_in (by decide)) dX8_copies_13 ?_
  refine tq_i (w := 60) hE365 ?_
  refine va_iast (i := 10) hx hb hK hP hD hS 0 0 rfl rfl (tq_in (by decide)) dX8_copies_14 (fun H locs hP hD hS => ?_)
  have hP : va_P G vwCl [(ra, .inl (cA 0, 42, .inl ((upd f354 (10 : Int32).toNatClampNeg 60))))] H := hP
  have hD : va_D A [(ra, .inl (cA 0, 42, .inl ((upd f354 (10 : Int32).toNatClampNeg 60))))] := hD
  have hE388 : (upd f354 (10 : Int32).toNatClampNeg 60) 21 = 60 := hE355
  have hE389 : (upd f354 (10 : Int32).toNatClampNeg 60) 22 = 60 := hE356
  have hE390 : (upd f354 (10 : Int32).toNatClampNeg 60) 23 = 60 := hE357
  have hE391 : (upd f354 (10 : Int32).toNatClampNeg 60) 24 = 60 := hE358
  have hE392 : (upd f354 (10 : Int32).toNatClampNeg 60) 25 = 60 := hE359
  have hE393 : (upd f354 (10 : Int32).toNatClampNeg 60) 26 = 60 := hE360
  have hE394 : (upd f354 (10 : Int32).toNatClampNeg 60) 27 = 60 := hE361
  have hE395 : (upd f354 (10 : Int32).toNatClampNeg 60) 28 = 60 := hE362
  have hE396 : (upd f354 (10 : Int32).toNatClampNeg 60) 29 = 60 := hE363
  have hE397 : (upd f354 (10 : Int32).toNatClampNeg 60) 30 = 60 := hE364
  have hE398 : (upd f354 (10 : Int32).toNatClampNeg 60) 31 = 60 := hE365
  have hE399 : (upd f354 (10 : Int32).toNatClampNeg 60) 32 = 60 := hE366
  have hE400 : (upd f354 (10 : Int32).toNatClampNeg 60) 33 = 60 := hE367
  have hE401 : (upd f354 (10 : Int32).toNatClampNeg 60) 34 = 60 := hE368
  have hE402 : (upd f354 (10 : Int32).toNatClampNeg 60) 35 = 60 := hE369
  have hE403 : (upd f354 (10 : Int32).toNatClampNeg 60) 36 = 60 := hE370
  have hE404 : (upd f354 (10 : Int32).toNatClampNeg 60) 37 = 60 := hE371
  have hE405 : (upd f354 (10 : Int32).toNatClampNeg 60) 38 = 60 := hE372
  have hE406 : (upd f354 (10 : Int32).toNatClampNeg 60) 39 = 60 := hE373
  have hE407 : (upd f354 (10 : Int32).toNatClampNeg 60) 40 = 60 := hE374
  have hE408 : (upd f354 (10 : Int32).toNatClampNeg 60) 41 = 60 := hE375
  have hE409 : (upd f354 (10 : Int32).toNatClampNeg 60) 0 = 60 := hE376
  have hE410 : (upd f354 (10 : Int32).toNatClampNeg 60) 1 = 60 := hE377
  have hE411 : (upd f354 (10 : Int32).toNatClampNeg 60) 2 = 60 := hE378
  have hE412 : (upd f354 (10 : Int32).toNatClampNeg 60) 3 = 60 := hE379
  have hE413 : (upd f354 (10 : Int32).toNatClampNeg 60) 4 = 60 := hE380
  have hE414 : (upd f354 (10 : Int32).toNatClampNeg 60) 5 = 60 := hE381
  have hE415 : (upd f354 (10 : Int32).toNatClampNeg 60) 6 = 60 := hE382
  have hE416 : (upd f354 (10 : Int32).toNatClampNeg 60) 7 = 60 := hE383
  have hE417 : (upd f354 (10 : Int32).toNatClampNeg 60) 8 = 60 := hE384
  have hE418 : (upd f354 (10 : Int32).toNatClampNeg 60) 9 = 60 := hE385
  have hE419 : (upd f354 (10 : Int32).toNatClampNeg 60) 10 = 60 := rfl
  generalize (upd f354 (10 : Int32).toNatClampNeg 60) = f387 at hP hD hE388 hE389 hE390 hE391 hE392 hE393 hE394 hE395 hE396 hE397 hE398 hE399 hE400 hE401 hE402 hE403 hE404 hE405 hE406 hE407 hE408 hE409 hE410 hE411 hE412 hE413 hE414 hE415 hE416 hE417 hE418 hE419
  refine lv_iinc (v := 11) (lv' := [(2, .int 11), (0, .ref ra), (1, .int 21)]) hx hb dX8_copies_15 hl (k := 0) rfl (by decide) (by decide) rfl (fun ls hl => ?_)
  refine lv_goto (tgt := 2) hx hb dX8_copies_18 (by decide) ?_
  refine lv_iload_n hx hb dX8_copies_2 rfl (lv_at hl 0 rfl) ?_
  refine lv_iload_n hx hb dX8_copies_3 rfl (lv_at hl 2 rfl) ?_
  refine lv_icmp_ge (tgt := 21) hx hb dX8_copies_4 (by decide) (fun c420 => absurd c420 (by decide)) (fun c420 => ?_)
  refine lv_aload_n hx hb dX8_copies_7 rfl (lv_at hl 1 rfl) ?_
  refine lv_iload_n hx hb dX8_copies_8 rfl (lv_at hl 0 rfl) ?_
  refine lv_aload_n hx hb dX8_copies_9 rfl (lv_at hl 1 rfl) ?_
  refine lv_iload_n hx hb dX8_copies_10 rfl (lv_at hl 2 rfl) ?_
  refine lv_iload_n hx hb dX8_copies_11 rfl (lv_at hl 0 rfl) ?_
  refine lv_iadd hx hb dX8_copies_12 ?_
  refine tq_i (w := 32) (by decide) ?_
  refine va_iald (i := 32) hx hb hK hP 0 0 rfl rfl (tq_in (by decide)) dX8_copies_13 ?_
  refine tq_i (w := 60) hE399 ?_
  refine va_iast (i := 11) hx hb hK hP hD hS 0 0 rfl rfl (tq_in (by decide)) dX8_copies_14 (fun H locs hP hD hS => ?_)
  have hP : va_P G vwCl [(ra, .inl (cA 0, 42, .inl ((upd f387 (11 : Int32).toNatClampNeg 60))))] H := hP
  have hD : va_D A [(ra, .inl (cA 0, 42, .inl ((upd f387 (11 : Int32).toNatClampNeg 60))))] := hD
  have hE422 : (upd f387 (11 : Int32).toNatClampNeg 60) 21 = 60 := hE388
  have hE423 : (upd f387 (11 : Int32).toNatClampNeg 60) 22 = 60 := hE389
  have hE424 : (upd f387 (11 : Int32).toNatClampNeg 60) 23 = 60 := hE390
  have hE425 : (upd f387 (11 : Int32).toNatClampNeg 60) 24 = 60 := hE391
  have hE426 : (upd f387 (11 : Int32).toNatClampNeg 60) 25 = 60 := hE392
  have hE427 : (upd f387 (11 : Int32).toNatClampNeg 60) 26 = 60 := hE393
  have hE428 : (upd f387 (11 : Int32).toNatClampNeg 60) 27 = 60 := hE394
  have hE429 : (upd f387 (11 : Int32).toNatClampNeg 60) 28 = 60 := hE395
  have hE430 : (upd f387 (11 : Int32).toNatClampNeg 60) 29 = 60 := hE396
  have hE431 : (upd f387 (11 : Int32).toNatClampNeg 60) 30 = 60 := hE397
  have hE432 : (upd f387 (11 : Int32).toNatClampNeg 60) 31 = 60 := hE398
  have hE433 : (upd f387 (11 : Int32).toNatClampNeg 60) 32 = 60 := hE399
  have hE434 : (upd f387 (11 : Int32).toNatClampNeg 60) 33 = 60 := hE400
  have hE435 : (upd f387 (11 : Int32).toNatClampNeg 60) 34 = 60 := hE401
  have hE436 : (upd f387 (11 : Int32).toNatClampNeg 60) 35 = 60 := hE402
  have hE437 : (upd f387 (11 : Int32).toNatClampNeg 60) 36 = 60 := hE403
  have hE438 : (upd f387 (11 : Int32).toNatClampNeg 60) 37 = 60 := hE404
  have hE439 : (upd f387 (11 : Int32).toNatClampNeg 60) 38 = 60 := hE405
  have hE440 : (upd f387 (11 : Int32).toNatClampNeg 60) 39 = 60 := hE406
  have hE441 : (upd f387 (11 : Int32).toNatClampNeg 60) 40 = 60 := hE407
  have hE442 : (upd f387 (11 : Int32).toNatClampNeg 60) 41 = 60 := hE408
  have hE443 : (upd f387 (11 : Int32).toNatClampNeg 60) 0 = 60 := hE409
  have hE444 : (upd f387 (11 : Int32).toNatClampNeg 60) 1 = 60 := hE410
  have hE445 : (upd f387 (11 : Int32).toNatClampNeg 60) 2 = 60 := hE411
  have hE446 : (upd f387 (11 : Int32).toNatClampNeg 60) 3 = 60 := hE412
  have hE447 : (upd f387 (11 : Int32).toNatClampNeg 60) 4 = 60 := hE413
  have hE448 : (upd f387 (11 : Int32).toNatClampNeg 60) 5 = 60 := hE414
  have hE449 : (upd f387 (11 : Int32).toNatClampNeg 60) 6 = 60 := hE415
  have hE450 : (upd f387 (11 : Int32).toNatClampNeg 60) 7 = 60 := hE416
  have hE451 : (upd f387 (11 : Int32).toNatClampNeg 60) 8 = 60 := hE417
  have hE452 : (upd f387 (11 : Int32).toNatClampNeg 60) 9 = 60 := hE418
  have hE453 : (upd f387 (11 : Int32).toNatClampNeg 60) 10 = 60 := hE419
  have hE454 : (upd f387 (11 : Int32).toNatClampNeg 60) 11 = 60 := rfl
  generalize (upd f387 (11 : Int32).toNatClampNeg 60) = f421 at hP hD hE422 hE423 hE424 hE425 hE426 hE427 hE428 hE429 hE430 hE431 hE432 hE433 hE434 hE435 hE436 hE437 hE438 hE439 hE440 hE441 hE442 hE443 hE444 hE445 hE446 hE447 hE448 hE449 hE450 hE451 hE452 hE453 hE454
  refine lv_iinc (v := 12) (lv' := [(2, .int 12), (0, .ref ra), (1, .int 21)]) hx hb dX8_copies_15 hl (k := 0) rfl (by decide) (by decide) rfl (fun ls hl => ?_)
  refine lv_goto (tgt := 2) hx hb dX8_copies_18 (by decide) ?_
  refine lv_iload_n hx hb dX8_copies_2 rfl (lv_at hl 0 rfl) ?_
  refine lv_iload_n hx hb dX8_copies_3 rfl (lv_at hl 2 rfl) ?_
  refine lv_icmp_ge (tgt := 21) hx hb dX8_copies_4 (by decide) (fun c455 => absurd c455 (by decide)) (fun c455 => ?_)
  refine lv_aload_n hx hb dX8_copies_7 rfl (lv_at hl 1 rfl) ?_
  refine lv_iload_n hx hb dX8_copies_8 rfl (lv_at hl 0 rfl) ?_
  refine lv_aload_n hx hb dX8_copies_9 rfl (lv_at hl 1 rfl) ?_
  refine lv_iload_n hx hb dX8_copies_10 rfl (lv_at hl 2 rfl) ?_
  refine lv_iload_n hx hb dX8_copies_11 rfl (lv_at hl 0 rfl) ?_
  refine lv_iadd hx hb dX8_copies_12 ?_
  refine tq_i (w := 33) (by decide) ?_
  refine va_iald (i := 33) hx hb hK hP 0 0 rfl rfl (tq_in (by decide)) dX8_copies_13 ?_
  refine tq_i (w := 60) hE434 ?_
  refine va_iast (i := 12) hx hb hK hP hD hS 0 0 rfl rfl (tq_in (by decide)) dX8_copies_14 (fun H locs hP hD hS => ?_)
  have hP : va_P G vwCl [(ra, .inl (cA 0, 42, .inl ((upd f421 (12 : Int32).toNatClampNeg 60))))] H := hP
  have hD : va_D A [(ra, .inl (cA 0, 42, .inl ((upd f421 (12 : Int32).toNatClampNeg 60))))] := hD
  have hE457 : (upd f421 (12 : Int32).toNatClampNeg 60) 21 = 60 := hE422
  have hE458 : (upd f421 (12 : Int32).toNatClampNeg 60) 22 = 60 := hE423
  have hE459 : (upd f421 (12 : Int32).toNatClampNeg 60) 23 = 60 := hE424
  have hE460 : (upd f421 (12 : Int32).toNatClampNeg 60) 24 = 60 := hE425
  have hE461 : (upd f421 (12 : Int32).toNatClampNeg 60) 25 = 60 := hE426
  have hE462 : (upd f421 (12 : Int32).toNatClampNeg 60) 26 = 60 := hE427
  have hE463 : (upd f421 (12 : Int32).toNatClampNeg 60) 27 = 60 := hE428
  have hE464 : (upd f421 (12 : Int32).toNatClampNeg 60) 28 = 60 := hE429
  have hE465 : (upd f421 (12 : Int32).toNatClampNeg 60) 29 = 60 := hE430
  have hE466 : (upd f421 (12 : Int32).toNatClampNeg 60) 30 = 60 := hE431
  have hE467 : (upd f421 (12 : Int32).toNatClampNeg 60) 31 = 60 := hE432
  have hE468 : (upd f421 (12 : Int32).toNatClampNeg 60) 32 = 60 := hE433
  have hE469 : (upd f421 (12 : Int32).toNatClampNeg 60) 33 = 60 := hE434
  have hE470 : (upd f421 (12 : Int32).toNatClampNeg 60) 34 = 60 := hE435
  have hE471 : (upd f421 (12 : Int32).toNatClampNeg 60) 35 = 60 := hE436
  have hE472 : (upd f421 (12 : Int32).toNatClampNeg 60) 36 = 60 := hE437
  have hE473 : (upd f421 (12 : Int32).toNatClampNeg 60) 37 = 60 := hE438
  have hE474 : (upd f421 (12 : Int32).toNatClampNeg 60) 38 = 60 := hE439
  have hE475 : (upd f421 (12 : Int32).toNatClampNeg 60) 39 = 60 := hE440
  have hE476 : (upd f421 (12 : Int32).toNatClampNeg 60) 40 = 60 := hE441
  have hE477 : (upd f421 (12 : Int32).toNatClampNeg 60) 41 = 60 := hE442
  have hE478 : (upd f421 (12 : Int32).toNatClampNeg 60) 0 = 60 := hE443
  have hE479 : (upd f421 (12 : Int32).toNatClampNeg 60) 1 = 60 := hE444
  have hE480 : (upd f421 (12 : Int32).toNatClampNeg 60) 2 = 60 := hE445
  have hE481 : (upd f421 (12 : Int32).toNatClampNeg 60) 3 = 60 := hE446
  have hE482 : (upd f421 (12 : Int32).toNatClampNeg 60) 4 = 60 := hE447
  have hE483 : (upd f421 (12 : Int32).toNatClampNeg 60) 5 = 60 := hE448
  have hE484 : (upd f421 (12 : Int32).toNatClampNeg 60) 6 = 60 := hE449
  have hE485 : (upd f421 (12 : Int32).toNatClampNeg 60) 7 = 60 := hE450
  have hE486 : (upd f421 (12 : Int32).toNatClampNeg 60) 8 = 60 := hE451
  have hE487 : (upd f421 (12 : Int32).toNatClampNeg 60) 9 = 60 := hE452
  have hE488 : (upd f421 (12 : Int32).toNatClampNeg 60) 10 = 60 := hE453
  have hE489 : (upd f421 (12 : Int32).toNatClampNeg 60) 11 = 60 := hE454
  have hE490 : (upd f421 (12 : Int32).toNatClampNeg 60) 12 = 60 := rfl
  generalize (upd f421 (12 : Int32).toNatClampNeg 60) = f456 at hP hD hE457 hE458 hE459 hE460 hE461 hE462 hE463 hE464 hE465 hE466 hE467 hE468 hE469 hE470 hE471 hE472 hE473 hE474 hE475 hE476 hE477 hE478 hE479 hE480 hE481 hE482 hE483 hE484 hE485 hE486 hE487 hE488 hE489 hE490
  refine lv_iinc (v := 13) (lv' := [(2, .int 13), (0, .ref ra), (1, .int 21)]) hx hb dX8_copies_15 hl (k := 0) rfl (by decide) (by decide) rfl (fun ls hl => ?_)
  refine lv_goto (tgt := 2) hx hb dX8_copies_18 (by decide) ?_
  refine lv_iload_n hx hb dX8_copies_2 rfl (lv_at hl 0 rfl) ?_
  refine lv_iload_n hx hb dX8_copies_3 rfl (lv_at hl 2 rfl) ?_
  refine lv_icmp_ge (tgt := 21) hx hb dX8_copies_4 (by decide) (fun c491 => absurd c491 (by decide)) (fun c491 => ?_)
  refine lv_aload_n hx hb dX8_copies_7 rfl (lv_at hl 1 rfl) ?_
  refine lv_iload_n hx hb dX8_copies_8 rfl (lv_at hl 0 rfl) ?_
  refine lv_aload_n hx hb dX8_copies_9 rfl (lv_at hl 1 rfl) ?_
  refine lv_iload_n hx hb dX8_copies_10 rfl (lv_at hl 2 rfl) ?_
  refine lv_iload_n hx hb dX8_copies_11 rfl (lv_at hl 0 rfl) ?_
  refine lv_iadd hx hb dX8_copies_12 ?_
  refine tq_i (w := 34) (by decide) ?_
  refine va_iald (i := 34) hx hb hK hP 0 0 rfl rfl (tq_in (by decide)) dX8_copies_13 ?_
  refine tq_i (w := 60) hE470 ?_
  refine va_iast (i := 13) hx hb hK hP hD hS 0 0 rfl rfl (tq_in (by decide)) dX8_copies_14 (fun H locs hP hD hS => ?_)
  have hP : va_P G vwCl [(ra, .inl (cA 0, 42, .inl ((upd f456 (13 : Int32).toNatClampNeg 60))))] H := hP
  have hD : va_D A [(ra, .inl (cA 0, 42, .inl ((upd f456 (13 : Int32).toNatClampNeg 60))))] := hD
  have hE493 : (upd f456 (13 : Int32).toNatClampNeg 60) 21 = 60 := hE457
  have hE494 : (upd f456 (13 : Int32).toNatClampNeg 60) 22 = 60 := hE458
  have hE495 : (upd f456 (13 : Int32).toNatClampNeg 60) 23 = 60 := hE459
  have hE496 : (upd f456 (13 : Int32).toNatClampNeg 60) 24 = 60 := hE460
  have hE497 : (upd f456 (13 : Int32).toNatClampNeg 60) 25 = 60 := hE461
  have hE498 : (upd f456 (13 : Int32).toNatClampNeg 60) 26 = 60 := hE462
  have hE499 : (upd f456 (13 : Int32).toNatClampNeg 60) 27 = 60 := hE463
  have hE500 : (upd f456 (13 : Int32).toNatClampNeg 60) 28 = 60 := hE464
  have hE501 : (upd f456 (13 : Int32).toNatClampNeg 60) 29 = 60 := hE465
  have hE502 : (upd f456 (13 : Int32).toNatClampNeg 60) 30 = 60 := hE466
  have hE503 : (upd f456 (13 : Int32).toNatClampNeg 60) 31 = 60 := hE467
  have hE504 : (upd f456 (13 : Int32).toNatClampNeg 60) 32 = 60 := hE468
  have hE505 : (upd f456 (13 : Int32).toNatClampNeg 60) 33 = 60 := hE469
  have hE506 : (upd f456 (13 : Int32).toNatClampNeg 60) 34 = 60 := hE470
  have hE507 : (upd f456 (13 : Int32).toNatClampNeg 60) 35 = 60 := hE471
  have hE508 : (upd f456 (13 : Int32).toNatClampNeg 60) 36 = 60 := hE472
  have hE509 : (upd f456 (13 : Int32).toNatClampNeg 60) 37 = 60 := hE473
  have hE510 : (upd f456 (13 : Int32).toNatClampNeg 60) 38 = 60 := hE474
  have hE511 : (upd f456 (13 : Int32).toNatClampNeg 60) 39 = 60 := hE475
  have hE512 : (upd f456 (13 : Int32).toNatClampNeg 60) 40 = 60 := hE476
  have hE513 : (upd f456 (13 : Int32).toNatClampNeg 60) 41 = 60 := hE477
  have hE514 : (upd f456 (13 : Int32).toNatClampNeg 60) 0 = 60 := hE478
  have hE515 : (upd f456 (13 : Int32).toNatClampNeg 60) 1 = 60 := hE479
  have hE516 : (upd f456 (13 : Int32).toNatClampNeg 60) 2 = 60 := hE480
  have hE517 : (upd f456 (13 : Int32).toNatClampNeg 60) 3 = 60 := hE481
  have hE518 : (upd f456 (13 : Int32).toNatClampNeg 60) 4 = 60 := hE482
  have hE519 : (upd f456 (13 : Int32).toNatClampNeg 60) 5 = 60 := hE483
  have hE520 : (upd f456 (13 : Int32).toNatClampNeg 60) 6 = 60 := hE484
  have hE521 : (upd f456 (13 : Int32).toNatClampNeg 60) 7 = 60 := hE485
  have hE522 : (upd f456 (13 : Int32).toNatClampNeg 60) 8 = 60 := hE486
  have hE523 : (upd f456 (13 : Int32).toNatClampNeg 60) 9 = 60 := hE487
  have hE524 : (upd f456 (13 : Int32).toNatClampNeg 60) 10 = 60 := hE488
  have hE525 : (upd f456 (13 : Int32).toNatClampNeg 60) 11 = 60 := hE489
  have hE526 : (upd f456 (13 : Int32).toNatClampNeg 60) 12 = 60 := hE490
  have hE527 : (upd f456 (13 : Int32).toNatClampNeg 60) 13 = 60 := rfl
  generalize (upd f456 (13 : Int32).toNatClampNeg 60) = f492 at hP hD hE493 hE494 hE495 hE496 hE497 hE498 hE499 hE500 hE501 hE502 hE503 hE504 hE505 hE506 hE507 hE508 hE509 hE510 hE511 hE512 hE513 hE514 hE515 hE516 hE517 hE518 hE519 hE520 hE521 hE522 hE523 hE524 hE525 hE526 hE527
  refine lv_iinc (v := 14) (lv' := [(2, .int 14), (0, .ref ra), (1, .int 21)]) hx hb dX8_copies_15 hl (k := 0) rfl (by decide) (by decide) rfl (fun ls hl => ?_)
  refine lv_goto (tgt := 2) hx hb dX8_copies_18 (by decide) ?_
  refine lv_iload_n hx hb dX8_copies_2 rfl (lv_at hl 0 rfl) ?_
  refine lv_iload_n hx hb dX8_copies_3 rfl (lv_at hl 2 rfl) ?_
  refine lv_icmp_ge (tgt := 21) hx hb dX8_copies_4 (by decide) (fun c528 => absurd c528 (by decide)) (fun c528 => ?_)
  refine lv_aload_n hx hb dX8_copies_7 rfl (lv_at hl 1 rfl) ?_
  refine lv_iload_n hx hb dX8_copies_8 rfl (lv_at hl 0 rfl) ?_
  refine lv_aload_n hx hb dX8_copies_9 rfl (lv_at hl 1 rfl) ?_
  refine lv_iload_n hx hb dX8_copies_10 rfl (lv_at hl 2 rfl) ?_
  refine lv_iload_n hx hb dX8_copies_11 rfl (lv_at hl 0 rfl) ?_
  refine lv_iadd hx hb dX8_copies_12 ?_
  refine tq_i (w := 35) (by decide) ?_
  refine va_iald (i := 35) hx hb hK hP 0 0 rfl rfl (tq_in (by decide)) dX8_copies_13 ?_
  refine tq_i (w := 60) hE507 ?_
  refine va_iast (i := 14) hx hb hK hP hD hS 0 0 rfl rfl (tq_in (by decide)) dX8_copies_14 (fun H locs hP hD hS => ?_)
  have hP : va_P G vwCl [(ra, .inl (cA 0, 42, .inl ((upd f492 (14 : Int32).toNatClampNeg 60))))] H := hP
  have hD : va_D A [(ra, .inl (cA 0, 42, .inl ((upd f492 (14 : Int32).toNatClampNeg 60))))] := hD
  have hE530 : (upd f492 (14 : Int32).toNatClampNeg 60) 21 = 60 := hE493
  have hE531 : (upd f492 (14 : Int32).toNatClampNeg 60) 22 = 60 := hE494
  have hE532 : (upd f492 (14 : Int32).toNatClampNeg 60) 23 = 60 := hE495
  have hE533 : (upd f492 (14 : Int32).toNatClampNeg 60) 24 = 60 := hE496
  have hE534 : (upd f492 (14 : Int32).toNatClampNeg 60) 25 = 60 := hE497
  have hE535 : (upd f492 (14 : Int32).toNatClampNeg 60) 26 = 60 := hE498
  have hE536 : (upd f492 (14 : Int32).toNatClampNeg 60) 27 = 60 := hE499
  have hE537 : (upd f492 (14 : Int32).toNatClampNeg 60) 28 = 60 := hE500
  have hE538 : (upd f492 (14 : Int32).toNatClampNeg 60) 29 = 60 := hE501
  have hE539 : (upd f492 (14 : Int32).toNatClampNeg 60) 30 = 60 := hE502
  have hE540 : (upd f492 (14 : Int32).toNatClampNeg 60) 31 = 60 := hE503
  have hE541 : (upd f492 (14 : Int32).toNatClampNeg 60) 32 = 60 := hE504
  have hE542 : (upd f492 (14 : Int32).toNatClampNeg 60) 33 = 60 := hE505
  have hE543 : (upd f492 (14 : Int32).toNatClampNeg 60) 34 = 60 := hE506
  have hE544 : (upd f492 (14 : Int32).toNatClampNeg 60) 35 = 60 := hE507
  have hE545 : (upd f492 (14 : Int32).toNatClampNeg 60) 36 = 60 := hE508
  have hE546 : (upd f492 (14 : Int32).toNatClampNeg 60) 37 = 60 := hE509
  have hE547 : (upd f492 (14 : Int32).toNatClampNeg 60) 38 = 60 := hE510
  have hE548 : (upd f492 (14 : Int32).toNatClampNeg 60) 39 = 60 := hE511
  have hE549 : (upd f492 (14 : Int32).toNatClampNeg 60) 40 = 60 := hE512
  have hE550 : (upd f492 (14 : Int32).toNatClampNeg 60) 41 = 60 := hE513
  have hE551 : (upd f492 (14 : Int32).toNatClampNeg 60) 0 = 60 := hE514
  have hE552 : (upd f492 (14 : Int32).toNatClampNeg 60) 1 = 60 := hE515
  have hE553 : (upd f492 (14 : Int32).toNatClampNeg 60) 2 = 60 := hE516
  have hE554 : (upd f492 (14 : Int32).toNatClampNeg 60) 3 = 60 := hE517
  have hE555 : (upd f492 (14 : Int32).toNatClampNeg 60) 4 = 60 := hE518
  have hE556 : (upd f492 (14 : Int32).toNatClampNeg 60) 5 = 60 := hE519
  have hE557 : (upd f492 (14 : Int32).toNatClampNeg 60) 6 = 60 := hE520
  have hE558 : (upd f492 (14 : Int32).toNatClampNeg 60) 7 = 60 := hE521
  have hE559 : (upd f492 (14 : Int32).toNatClampNeg 60) 8 = 60 := hE522
  have hE560 : (upd f492 (14 : Int32).toNatClampNeg 60) 9 = 60 := hE523
  have hE561 : (upd f492 (14 : Int32).toNatClampNeg 60) 10 = 60 := hE524
  have hE562 : (upd f492 (14 : Int32).toNatClampNeg 60) 11 = 60 := hE525
  have hE563 : (upd f492 (14 : Int32).toNatClampNeg 60) 12 = 60 := hE526
  have hE564 : (upd f492 (14 : Int32).toNatClampNeg 60) 13 = 60 := hE527
  have hE565 : (upd f492 (14 : Int32).toNatClampNeg 60) 14 = 60 := rfl
  generalize (upd f492 (14 : Int32).toNatClampNeg 60) = f529 at hP hD hE530 hE531 hE532 hE533 hE534 hE535 hE536 hE537 hE538 hE539 hE540 hE541 hE542 hE543 hE544 hE545 hE546 hE547 hE548 hE549 hE550 hE551 hE552 hE553 hE554 hE555 hE556 hE557 hE558 hE559 hE560 hE561 hE562 hE563 hE564 hE565
  refine lv_iinc (v := 15) (lv' := [(2, .int 15), (0, .ref ra), (1, .int 21)]) hx hb dX8_copies_15 hl (k := 0) rfl (by decide) (by decide) rfl (fun ls hl => ?_)
  refine lv_goto (tgt := 2) hx hb dX8_copies_18 (by decide) ?_
  refine lv_iload_n hx hb dX8_copies_2 rfl (lv_at hl 0 rfl) ?_
  refine lv_iload_n hx hb dX8_copies_3 rfl (lv_at hl 2 rfl) ?_
  refine lv_icmp_ge (tgt := 21) hx hb dX8_copies_4 (by decide) (fun c566 => absurd c566 (by decide)) (fun c566 => ?_)
  refine lv_aload_n hx hb dX8_copies_7 rfl (lv_at hl 1 rfl) ?_
  refine lv_iload_n hx hb dX8_copies_8 rfl (lv_at hl 0 rfl) ?_
  refine lv_aload_n hx hb dX8_copies_9 rfl (lv_at hl 1 rfl) ?_
  refine lv_iload_n hx hb dX8_copies_10 rfl (lv_at hl 2 rfl) ?_
  refine lv_iload_n hx hb dX8_copies_11 rfl (lv_at hl 0 rfl) ?_
  refine lv_iadd hx hb dX8_copies_12 ?_
  refine tq_i (w := 36) (by decide) ?_
  refine va_iald (i := 36) hx hb hK hP 0 0 rfl rfl (tq_in (by decide)) dX8_copies_13 ?_
  refine tq_i (w := 60) hE545 ?_
  refine va_iast (i := 15) hx hb hK hP hD hS 0 0 rfl rfl (tq_in (by decide)) dX8_copies_14 (fun H locs hP hD hS => ?_)
  have hP : va_P G vwCl [(ra, .inl (cA 0, 42, .inl ((upd f529 (15 : Int32).toNatClampNeg 60))))] H := hP
  have hD : va_D A [(ra, .inl (cA 0, 42, .inl ((upd f529 (15 : Int32).toNatClampNeg 60))))] := hD
  have hE568 : (upd f529 (15 : Int32).toNatClampNeg 60) 21 = 60 := hE530
  have hE569 : (upd f529 (15 : Int32).toNatClampNeg 60) 22 = 60 := hE531
  have hE570 : (upd f529 (15 : Int32).toNatClampNeg 60) 23 = 60 := hE532
  have hE571 : (upd f529 (15 : Int32).toNatClampNeg 60) 24 = 60 := hE533
  have hE572 : (upd f529 (15 : Int32).toNatClampNeg 60) 25 = 60 := hE534
  have hE573 : (upd f529 (15 : Int32).toNatClampNeg 60) 26 = 60 := hE535
  have hE574 : (upd f529 (15 : Int32).toNatClampNeg 60) 27 = 60 := hE536
  have hE575 : (upd f529 (15 : Int32).toNatClampNeg 60) 28 = 60 := hE537
  have hE576 : (upd f529 (15 : Int32).toNatClampNeg 60) 29 = 60 := hE538
  have hE577 : (upd f529 (15 : Int32).toNatClampNeg 60) 30 = 60 := hE539
  have hE578 : (upd f529 (15 : Int32).toNatClampNeg 60) 31 = 60 := hE540
  have hE579 : (upd f529 (15 : Int32).toNatClampNeg 60) 32 = 60 := hE541
  have hE580 : (upd f529 (15 : Int32).toNatClampNeg 60) 33 = 60 := hE542
  have hE581 : (upd f529 (15 : Int32).toNatClampNeg 60) 34 = 60 := hE543
  have hE582 : (upd f529 (15 : Int32).toNatClampNeg 60) 35 = 60 := hE544
  have hE583 : (upd f529 (15 : Int32).toNatClampNeg 60) 36 = 60 := hE545
  have hE584 : (upd f529 (15 : Int32).toNatClampNeg 60) 37 = 60 := hE546
  have hE585 : (upd f529 (15 : Int32).toNatClampNeg 60) 38 = 60 := hE547
  have hE586 : (upd f529 (15 : Int32).toNatClampNeg 60) 39 = 60 := hE548
  have hE587 : (upd f529 (15 : Int32).toNatClampNeg 60) 40 = 60 := hE549
  have hE588 : (upd f529 (15 : Int32).toNatClampNeg 60) 41 = 60 := hE550
  have hE589 : (upd f529 (15 : Int32).toNatClampNeg 60) 0 = 60 := hE551
  have hE590 : (upd f529 (15 : Int32).toNatClampNeg 60) 1 = 60 := hE552
  have hE591 : (upd f529 (15 : Int32).toNatClampNeg 60) 2 = 60 := hE553
  have hE592 : (upd f529 (15 : Int32).toNatClampNeg 60) 3 = 60 := hE554
  have hE593 : (upd f529 (15 : Int32).toNatClampNeg 60) 4 = 60 := hE555
  have hE594 : (upd f529 (15 : Int32).toNatClampNeg 60) 5 = 60 := hE556
  have hE595 : (upd f529 (15 : Int32).toNatClampNeg 60) 6 = 60 := hE557
  have hE596 : (upd f529 (15 : Int32).toNatClampNeg 60) 7 = 60 := hE558
  have hE597 : (upd f529 (15 : Int32).toNatClampNeg 60) 8 = 60 := hE559
  have hE598 : (upd f529 (15 : Int32).toNatClampNeg 60) 9 = 60 := hE560
  have hE599 : (upd f529 (15 : Int32).toNatClampNeg 60) 10 = 60 := hE561
  have hE600 : (upd f529 (15 : Int32).toNatClampNeg 60) 11 = 60 := hE562
  have hE601 : (upd f529 (15 : Int32).toNatClampNeg 60) 12 = 60 := hE563
  have hE602 : (upd f529 (15 : Int32).toNatClampNeg 60) 13 = 60 := hE564
  have hE603 : (upd f529 (15 : Int32).toNatClampNeg 60) 14 = 60 := hE565
  have hE604 : (upd f529 (15 : Int32).toNatClampNeg 60) 15 = 60 := rfl
  generalize (upd f529 (15 : Int32).toNatClampNeg 60) = f567 at hP hD hE568 hE569 hE570 hE571 hE572 hE573 hE574 hE575 hE576 hE577 hE578 hE579 hE580 hE581 hE582 hE583 hE584 hE585 hE586 hE587 hE588 hE589 hE590 hE591 hE592 hE593 hE594 hE595 hE596 hE597 hE598 hE599 hE600 hE601 hE602 hE603 hE604
  refine lv_iinc (v := 16) (lv' := [(2, .int 16), (0, .ref ra), (1, .int 21)]) hx hb dX8_copies_15 hl (k := 0) rfl (by decide) (by decide) rfl (fun ls hl => ?_)
  refine lv_goto (tgt := 2) hx hb dX8_copies_18 (by decide) ?_
  refine lv_iload_n hx hb dX8_copies_2 rfl (lv_at hl 0 rfl) ?_
  refine lv_iload_n hx hb dX8_copies_3 rfl (lv_at hl 2 rfl) ?_
  refine lv_icmp_ge (tgt := 21) hx hb dX8_copies_4 (by decide) (fun c605 => absurd c605 (by decide)) (fun c605 => ?_)
  refine lv_aload_n hx hb dX8_copies_7 rfl (lv_at hl 1 rfl) ?_
  refine lv_iload_n hx hb dX8_copies_8 rfl (lv_at hl 0 rfl) ?_
  refine lv_aload_n hx hb dX8_copies_9 rfl (lv_at hl 1 rfl) ?_
  refine lv_iload_n hx hb dX8_copies_10 rfl (lv_at hl 2 rfl) ?_
  refine lv_iload_n hx hb dX8_copies_11 rfl (lv_at hl 0 rfl) ?_
  refine lv_iadd hx hb dX8_copies_12 ?_
  refine tq_i (w := 37) (by decide) ?_
  refine va_iald (i := 37) hx hb hK hP 0 0 rfl rfl (tq_in (by decide)) dX8_copies_13 ?_
  refine tq_i (w := 60) hE584 ?_
  refine va_iast (i := 16) hx hb hK hP hD hS 0 0 rfl rfl (tq_in (by decide)) dX8_copies_14 (fun H locs hP hD hS => ?_)
  have hP : va_P G vwCl [(ra, .inl (cA 0, 42, .inl ((upd f567 (16 : Int32).toNatClampNeg 60))))] H := hP
  have hD : va_D A [(ra, .inl (cA 0, 42, .inl ((upd f567 (16 : Int32).toNatClampNeg 60))))] := hD
  have hE607 : (upd f567 (16 : Int32).toNatClampNeg 60) 21 = 60 := hE568
  have hE608 : (upd f567 (16 : Int32).toNatClampNeg 60) 22 = 60 := hE569
  have hE609 : (upd f567 (16 : Int32).toNatClampNeg 60) 23 = 60 := hE570
  have hE610 : (upd f567 (16 : Int32).toNatClampNeg 60) 24 = 60 := hE571
  have hE611 : (upd f567 (16 : Int32).toNatClampNeg 60) 25 = 60 := hE572
  have hE612 : (upd f567 (16 : Int32).toNatClampNeg 60) 26 = 60 := hE573
  have hE613 : (upd f567 (16 : Int32).toNatClampNeg 60) 27 = 60 := hE574
  have hE614 : (upd f567 (16 : Int32).toNatClampNeg 60) 28 = 60 := hE575
  have hE615 : (upd f567 (16 : Int32).toNatClampNeg 60) 29 = 60 := hE576
  have hE616 : (upd f567 (16 : Int32).toNatClampNeg 60) 30 = 60 := hE577
  have hE617 : (upd f567 (16 : Int32).toNatClampNeg 60) 31 = 60 := hE578
  have hE618 : (upd f567 (16 : Int32).toNatClampNeg 60) 32 = 60 := hE579
  have hE619 : (upd f567 (16 : Int32).toNatClampNeg 60) 33 = 60 := hE580
  have hE620 : (upd f567 (16 : Int32).toNatClampNeg 60) 34 = 60 := hE581
  have hE621 : (upd f567 (16 : Int32).toNatClampNeg 60) 35 = 60 := hE582
  have hE622 : (upd f567 (16 : Int32).toNatClampNeg 60) 36 = 60 := hE583
  have hE623 : (upd f567 (16 : Int32).toNatClampNeg 60) 37 = 60 := hE584
  have hE624 : (upd f567 (16 : Int32).toNatClampNeg 60) 38 = 60 := hE585
  have hE625 : (upd f567 (16 : Int32).toNatClampNeg 60) 39 = 60 := hE586
  have hE626 : (upd f567 (16 : Int32).toNatClampNeg 60) 40 = 60 := hE587
  have hE627 : (upd f567 (16 : Int32).toNatClampNeg 60) 41 = 60 := hE588
  have hE628 : (upd f567 (16 : Int32).toNatClampNeg 60) 0 = 60 := hE589
  have hE629 : (upd f567 (16 : Int32).toNatClampNeg 60) 1 = 60 := hE590
  have hE630 : (upd f567 (16 : Int32).toNatClampNeg 60) 2 = 60 := hE591
  have hE631 : (upd f567 (16 : Int32).toNatClampNeg 60) 3 = 60 := hE592
  have hE632 : (upd f567 (16 : Int32).toNatClampNeg 60) 4 = 60 := hE593
  have hE633 : (upd f567 (16 : Int32).toNatClampNeg 60) 5 = 60 := hE594
  have hE634 : (upd f567 (16 : Int32).toNatClampNeg 60) 6 = 60 := hE595
  have hE635 : (upd f567 (16 : Int32).toNatClampNeg 60) 7 = 60 := hE596
  have hE636 : (upd f567 (16 : Int32).toNatClampNeg 60) 8 = 60 := hE597
  have hE637 : (upd f567 (16 : Int32).toNatClampNeg 60) 9 = 60 := hE598
  have hE638 : (upd f567 (16 : Int32).toNatClampNeg 60) 10 = 60 := hE599
  have hE639 : (upd f567 (16 : Int32).toNatClampNeg 60) 11 = 60 := hE600
  have hE640 : (upd f567 (16 : Int32).toNatClampNeg 60) 12 = 60 := hE601
  have hE641 : (upd f567 (16 : Int32).toNatClampNeg 60) 13 = 60 := hE602
  have hE642 : (upd f567 (16 : Int32).toNatClampNeg 60) 14 = 60 := hE603
  have hE643 : (upd f567 (16 : Int32).toNatClampNeg 60) 15 = 60 := hE604
  have hE644 : (upd f567 (16 : Int32).toNatClampNeg 60) 16 = 60 := rfl
  generalize (upd f567 (16 : Int32).toNatClampNeg 60) = f606 at hP hD hE607 hE608 hE609 hE610 hE611 hE612 hE613 hE614 hE615 hE616 hE617 hE618 hE619 hE620 hE621 hE622 hE623 hE624 hE625 hE626 hE627 hE628 hE629 hE630 hE631 hE632 hE633 hE634 hE635 hE636 hE637 hE638 hE639 hE640 hE641 hE642 hE643 hE644
  refine lv_iinc (v := 17) (lv' := [(2, .int 17), (0, .ref ra), (1, .int 21)]) hx hb dX8_copies_15 hl (k := 0) rfl (by decide) (by decide) rfl (fun ls hl => ?_)
  refine lv_goto (tgt := 2) hx hb dX8_copies_18 (by decide) ?_
  refine lv_iload_n hx hb dX8_copies_2 rfl (lv_at hl 0 rfl) ?_
  refine lv_iload_n hx hb dX8_copies_3 rfl (lv_at hl 2 rfl) ?_
  refine lv_icmp_ge (tgt := 21) hx hb dX8_copies_4 (by decide) (fun c645 => absurd c645 (by decide)) (fun c645 => ?_)
  refine lv_aload_n hx hb dX8_copies_7 rfl (lv_at hl 1 rfl) ?_
  refine lv_iload_n hx hb dX8_copies_8 rfl (lv_at hl 0 rfl) ?_
  refine lv_aload_n hx hb dX8_copies_9 rfl (lv_at hl 1 rfl) ?_
  refine lv_iload_n hx hb dX8_copies_10 rfl (lv_at hl 2 rfl) ?_
  refine lv_iload_n hx hb dX8_copies_11 rfl (lv_at hl 0 rfl) ?_
  refine lv_iadd hx hb dX8_copies_12 ?_
  refine tq_i (w := 38) (by decide) ?_
  refine va_iald (i := 38) hx hb hK hP 0 0 rfl rfl (tq_in (by decide)) dX8_copies_13 ?_
  refine tq_i (w := 60) hE624 ?_
  refine va_iast (i := 17) hx hb hK hP hD hS 0 0 rfl rfl (tq_in (by decide)) dX8_copies_14 (fun H locs hP hD hS => ?_)
  have hP : va_P G vwCl [(ra, .inl (cA 0, 42, .inl ((upd f606 (17 : Int32).toNatClampNeg 60))))] H := hP
  have hD : va_D A [(ra, .inl (cA 0, 42, .inl ((upd f606 (17 : Int32).toNatClampNeg 60))))] := hD
  have hE647 : (upd f606 (17 : Int32).toNatClampNeg 60) 21 = 60 := hE607
  have hE648 : (upd f606 (17 : Int32).toNatClampNeg 60) 22 = 60 := hE608
  have hE649 : (upd f606 (17 : Int32).toNatClampNeg 60) 23 = 60 := hE609
  have hE650 : (upd f606 (17 : Int32).toNatClampNeg 60) 24 = 60 := hE610
  have hE651 : (upd f606 (17 : Int32).toNatClampNeg 60) 25 = 60 := hE611
  have hE652 : (upd f606 (17 : Int32).toNatClampNeg 60) 26 = 60 := hE612
  have hE653 : (upd f606 (17 : Int32).toNatClampNeg 60) 27 = 60 := hE613
  have hE654 : (upd f606 (17 : Int32).toNatClampNeg 60) 28 = 60 := hE614
  have hE655 : (upd f606 (17 : Int32).toNatClampNeg 60) 29 = 60 := hE615
  have hE656 : (upd f606 (17 : Int32).toNatClampNeg 60) 30 = 60 := hE616
  have hE657 : (upd f606 (17 : Int32).toNatClampNeg 60) 31 = 60 := hE617
  have hE658 : (upd f606 (17 : Int32).toNatClampNeg 60) 32 = 60 := hE618
  have hE659 : (upd f606 (17 : Int32).toNatClampNeg 60) 33 = 60 := hE619
  have hE660 : (upd f606 (17 : Int32).toNatClampNeg 60) 34 = 60 := hE620
  have hE661 : (upd f606 (17 : Int32).toNatClampNeg 60) 35 = 60 := hE621
  have hE662 : (upd f606 (17 : Int32).toNatClampNeg 60) 36 = 60 := hE622
  have hE663 : (upd f606 (17 : Int32).toNatClampNeg 60) 37 = 60 := hE623
  have hE664 : (upd f606 (17 : Int32).toNatClampNeg 60) 38 = 60 := hE624
  have hE665 : (upd f606 (17 : Int32).toNatClampNeg 60) 39 = 60 := hE625
  have hE666 : (upd f606 (17 : Int32).toNatClampNeg 60) 40 = 60 := hE626
  have hE667 : (upd f606 (17 : Int32).toNatClampNeg 60) 41 = 60 := hE627
  have hE668 : (upd f606 (17 : Int32).toNatClampNeg 60) 0 = 60 := hE628
  have hE669 : (upd f606 (17 : Int32).toNatClampNeg 60) 1 = 60 := hE629
  have hE670 : (upd f606 (17 : Int32).toNatClampNeg 60) 2 = 60 := hE630
  have hE671 : (upd f606 (17 : Int32).toNatClampNeg 60) 3 = 60 := hE631
  have hE672 : (upd f606 (17 : Int32).toNatClampNeg 60) 4 = 60 := hE632
  have hE673 : (upd f606 (17 : Int32).toNatClampNeg 60) 5 = 60 := hE633
  have hE674 : (upd f606 (17 : Int32).toNatClampNeg 60) 6 = 60 := hE634
  have hE675 : (upd f606 (17 : Int32).toNatClampNeg 60) 7 = 60 := hE635
  have hE676 : (upd f606 (17 : Int32).toNatClampNeg 60) 8 = 60 := hE636
  have hE677 : (upd f606 (17 : Int32).toNatClampNeg 60) 9 = 60 := hE637
  have hE678 : (upd f606 (17 : Int32).toNatClampNeg 60) 10 = 60 := hE638
  have hE679 : (upd f606 (17 : Int32).toNatClampNeg 60) 11 = 60 := hE639
  have hE680 : (upd f606 (17 : Int32).toNatClampNeg 60) 12 = 60 := hE640
  have hE681 : (upd f606 (17 : Int32).toNatClampNeg 60) 13 = 60 := hE641
  have hE682 : (upd f606 (17 : Int32).toNatClampNeg 60) 14 = 60 := hE642
  have hE683 : (upd f606 (17 : Int32).toNatClampNeg 60) 15 = 60 := hE643
  have hE684 : (upd f606 (17 : Int32).toNatClampNeg 60) 16 = 60 := hE644
  have hE685 : (upd f606 (17 : Int32).toNatClampNeg 60) 17 = 60 := rfl
  generalize (upd f606 (17 : Int32).toNatClampNeg 60) = f646 at hP hD hE647 hE648 hE649 hE650 hE651 hE652 hE653 hE654 hE655 hE656 hE657 hE658 hE659 hE660 hE661 hE662 hE663 hE664 hE665 hE666 hE667 hE668 hE669 hE670 hE671 hE672 hE673 hE674 hE675 hE676 hE677 hE678 hE679 hE680 hE681 hE682 hE683 hE684 hE685
  refine lv_iinc (v := 18) (lv' := [(2, .int 18), (0, .ref ra), (1, .int 21)]) hx hb dX8_copies_15 hl (k := 0) rfl (by decide) (by decide) rfl (fun ls hl => ?_)
  refine lv_goto (tgt := 2) hx hb dX8_copies_18 (by decide) ?_
  refine lv_iload_n hx hb dX8_copies_2 rfl (lv_at hl 0 rfl) ?_
  refine lv_iload_n hx hb dX8_copies_3 rfl (lv_at hl 2 rfl) ?_
  refine lv_icmp_ge (tgt := 21) hx hb dX8_copies_4 (by decide) (fun c686 => absurd c686 (by decide)) (fun c686 => ?_)
  refine lv_aload_n hx hb dX8_copies_7 rfl (lv_at hl 1 rfl) ?_
  refine lv_iload_n hx hb dX8_copies_8 rfl (lv_at hl 0 rfl) ?_
  refine lv_aload_n hx hb dX8_copies_9 rfl (lv_at hl 1 rfl) ?_
  refine lv_iload_n hx hb dX8_copies_10 rfl (lv_at hl 2 rfl) ?_
  refine lv_iload_n hx hb dX8_copies_11 rfl (lv_at hl 0 rfl) ?_
  refine lv_iadd hx hb dX8_copies_12 ?_
  refine tq_i (w := 39) (by decide) ?_
  refine va_iald (i := 39) hx hb hK hP 0 0 rfl rfl (tq_in (by decide)) dX8_copies_13 ?_
  refine tq_i (w := 60) hE665 ?_
  refine va_iast (i := 18) hx hb hK hP hD hS 0 0 rfl rfl (tq_in (by decide)) dX8_copies_14 (fun H locs hP hD hS => ?_)
  have hP : va_P G vwCl [(ra, .inl (cA 0, 42, .inl ((upd f646 (18 : Int32).toNatClampNeg 60))))] H := hP
  have hD : va_D A [(ra, .inl (cA 0, 42, .inl ((upd f646 (18 : Int32).toNatClampNeg 60))))] := hD
  have hE688 : (upd f646 (18 : Int32).toNatClampNeg 60) 21 = 60 := hE647
  have hE689 : (upd f646 (18 : Int32).toNatClampNeg 60) 22 = 60 := hE648
  have hE690 : (upd f646 (18 : Int32).toNatClampNeg 60) 23 = 60 := hE649
  have hE691 : (upd f646 (18 : Int32).toNatClampNeg 60) 24 = 60 := hE650
  have hE692 : (upd f646 (18 : Int32).toNatClampNeg 60) 25 = 60 := hE651
  have hE693 : (upd f646 (18 : Int32).toNatClampNeg 60) 26 = 60 := hE652
  have hE694 : (upd f646 (18 : Int32).toNatClampNeg 60) 27 = 60 := hE653
  have hE695 : (upd f646 (18 : Int32).toNatClampNeg 60) 28 = 60 := hE654
  have hE696 : (upd f646 (18 : Int32).toNatClampNeg 60) 29 = 60 := hE655
  have hE697 : (upd f646 (18 : Int32).toNatClampNeg 60) 30 = 60 := hE656
  have hE698 : (upd f646 (18 : Int32).toNatClampNeg 60) 31 = 60 := hE657
  have hE699 : (upd f646 (18 : Int32).toNatClampNeg 60) 32 = 60 := hE658
  have hE700 : (upd f646 (18 : Int32).toNatClampNeg 60) 33 = 60 := hE659
  have hE701 : (upd f646 (18 : Int32).toNatClampNeg 60) 34 = 60 := hE660
  have hE702 : (upd f646 (18 : Int32).toNatClampNeg 60) 35 = 60 := hE661
  have hE703 : (upd f646 (18 : Int32).toNatClampNeg 60) 36 = 60 := hE662
  have hE704 : (upd f646 (18 : Int32).toNatClampNeg 60) 37 = 60 := hE663
  have hE705 : (upd f646 (18 : Int32).toNatClampNeg 60) 38 = 60 := hE664
  have hE706 : (upd f646 (18 : Int32).toNatClampNeg 60) 39 = 60 := hE665
  have hE707 : (upd f646 (18 : Int32).toNatClampNeg 60) 40 = 60 := hE666
  have hE708 : (upd f646 (18 : Int32).toNatClampNeg 60) 41 = 60 := hE667
  have hE709 : (upd f646 (18 : Int32).toNatClampNeg 60) 0 = 60 := hE668
  have hE710 : (upd f646 (18 : Int32).toNatClampNeg 60) 1 = 60 := hE669
  have hE711 : (upd f646 (18 : Int32).toNatClampNeg 60) 2 = 60 := hE670
  have hE712 : (upd f646 (18 : Int32).toNatClampNeg 60) 3 = 60 := hE671
  have hE713 : (upd f646 (18 : Int32).toNatClampNeg 60) 4 = 60 := hE672
  have hE714 : (upd f646 (18 : Int32).toNatClampNeg 60) 5 = 60 := hE673
  have hE715 : (upd f646 (18 : Int32).toNatClampNeg 60) 6 = 60 := hE674
  have hE716 : (upd f646 (18 : Int32).toNatClampNeg 60) 7 = 60 := hE675
  have hE717 : (upd f646 (18 : Int32).toNatClampNeg 60) 8 = 60 := hE676
  have hE718 : (upd f646 (18 : Int32).toNatClampNeg 60) 9 = 60 := hE677
  have hE719 : (upd f646 (18 : Int32).toNatClampNeg 60) 10 = 60 := hE678
  have hE720 : (upd f646 (18 : Int32).toNatClampNeg 60) 11 = 60 := hE679
  have hE721 : (upd f646 (18 : Int32).toNatClampNeg 60) 12 = 60 := hE680
  have hE722 : (upd f646 (18 : Int32).toNatClampNeg 60) 13 = 60 := hE681
  have hE723 : (upd f646 (18 : Int32).toNatClampNeg 60) 14 = 60 := hE682
  have hE724 : (upd f646 (18 : Int32).toNatClampNeg 60) 15 = 60 := hE683
  have hE725 : (upd f646 (18 : Int32).toNatClampNeg 60) 16 = 60 := hE684
  have hE726 : (upd f646 (18 : Int32).toNatClampNeg 60) 17 = 60 := hE685
  have hE727 : (upd f646 (18 : Int32).toNatClampNeg 60) 18 = 60 := rfl
  generalize (upd f646 (18 : Int32).toNatClampNeg 60) = f687 at hP hD hE688 hE689 hE690 hE691 hE692 hE693 hE694 hE695 hE696 hE697 hE698 hE699 hE700 hE701 hE702 hE703 hE704 hE705 hE706 hE707 hE708 hE709 hE710 hE711 hE712 hE713 hE714 hE715 hE716 hE717 hE718 hE719 hE720 hE721 hE722 hE723 hE724 hE725 hE726 hE727
  refine lv_iinc (v := 19) (lv' := [(2, .int 19), (0, .ref ra), (1, .int 21)]) hx hb dX8_copies_15 hl (k := 0) rfl (by decide) (by decide) rfl (fun ls hl => ?_)
  refine lv_goto (tgt := 2) hx hb dX8_copies_18 (by decide) ?_
  refine lv_iload_n hx hb dX8_copies_2 rfl (lv_at hl 0 rfl) ?_
  refine lv_iload_n hx hb dX8_copies_3 rfl (lv_at hl 2 rfl) ?_
  refine lv_icmp_ge (tgt := 21) hx hb dX8_copies_4 (by decide) (fun c728 => absurd c728 (by decide)) (fun c728 => ?_)
  refine lv_aload_n hx hb dX8_copies_7 rfl (lv_at hl 1 rfl) ?_
  refine lv_iload_n hx hb dX8_copies_8 rfl (lv_at hl 0 rfl) ?_
  refine lv_aload_n hx hb dX8_copies_9 rfl (lv_at hl 1 rfl) ?_
  refine lv_iload_n hx hb dX8_copies_10 rfl (lv_at hl 2 rfl) ?_
  refine lv_iload_n hx hb dX8_copies_11 rfl (lv_at hl 0 rfl) ?_
  refine lv_iadd hx hb dX8_copies_12 ?_
  refine tq_i (w := 40) (by decide) ?_
  refine va_iald (i := 40) hx hb hK hP 0 0 rfl rfl (tq_in (by decide)) dX8_copies_13 ?_
  refine tq_i (w := 60) hE707 ?_
  refine va_iast (i := 19) hx hb hK hP hD hS 0 0 rfl rfl (tq_in (by decide)) dX8_copies_14 (fun H locs hP hD hS => ?_)
  have hP : va_P G vwCl [(ra, .inl (cA 0, 42, .inl ((upd f687 (19 : Int32).toNatClampNeg 60))))] H := hP
  have hD : va_D A [(ra, .inl (cA 0, 42, .inl ((upd f687 (19 : Int32).toNatClampNeg 60))))] := hD
  have hE730 : (upd f687 (19 : Int32).toNatClampNeg 60) 21 = 60 := hE688
  have hE731 : (upd f687 (19 : Int32).toNatClampNeg 60) 22 = 60 := hE689
  have hE732 : (upd f687 (19 : Int32).toNatClampNeg 60) 23 = 60 := hE690
  have hE733 : (upd f687 (19 : Int32).toNatClampNeg 60) 24 = 60 := hE691
  have hE734 : (upd f687 (19 : Int32).toNatClampNeg 60) 25 = 60 := hE692
  have hE735 : (upd f687 (19 : Int32).toNatClampNeg 60) 26 = 60 := hE693
  have hE736 : (upd f687 (19 : Int32).toNatClampNeg 60) 27 = 60 := hE694
  have hE737 : (upd f687 (19 : Int32).toNatClampNeg 60) 28 = 60 := hE695
  have hE738 : (upd f687 (19 : Int32).toNatClampNeg 60) 29 = 60 := hE696
  have hE739 : (upd f687 (19 : Int32).toNatClampNeg 60) 30 = 60 := hE697
  have hE740 : (upd f687 (19 : Int32).toNatClampNeg 60) 31 = 60 := hE698
  have hE741 : (upd f687 (19 : Int32).toNatClampNeg 60) 32 = 60 := hE699
  have hE742 : (upd f687 (19 : Int32).toNatClampNeg 60) 33 = 60 := hE700
  have hE743 : (upd f687 (19 : Int32).toNatClampNeg 60) 34 = 60 := hE701
  have hE744 : (upd f687 (19 : Int32).toNatClampNeg 60) 35 = 60 := hE702
  have hE745 : (upd f687 (19 : Int32).toNatClampNeg 60) 36 = 60 := hE703
  have hE746 : (upd f687 (19 : Int32).toNatClampNeg 60) 37 = 60 := hE704
  have hE747 : (upd f687 (19 : Int32).toNatClampNeg 60) 38 = 60 := hE705
  have hE748 : (upd f687 (19 : Int32).toNatClampNeg 60) 39 = 60 := hE706
  have hE749 : (upd f687 (19 : Int32).toNatClampNeg 60) 40 = 60 := hE707
  have hE750 : (upd f687 (19 : Int32).toNatClampNeg 60) 41 = 60 := hE708
  have hE751 : (upd f687 (19 : Int32).toNatClampNeg 60) 0 = 60 := hE709
  have hE752 : (upd f687 (19 : Int32).toNatClampNeg 60) 1 = 60 := hE710
  have hE753 : (upd f687 (19 : Int32).toNatClampNeg 60) 2 = 60 := hE711
  have hE754 : (upd f687 (19 : Int32).toNatClampNeg 60) 3 = 60 := hE712
  have hE755 : (upd f687 (19 : Int32).toNatClampNeg 60) 4 = 60 := hE713
  have hE756 : (upd f687 (19 : Int32).toNatClampNeg 60) 5 = 60 := hE714
  have hE757 : (upd f687 (19 : Int32).toNatClampNeg 60) 6 = 60 := hE715
  have hE758 : (upd f687 (19 : Int32).toNatClampNeg 60) 7 = 60 := hE716
  have hE759 : (upd f687 (19 : Int32).toNatClampNeg 60) 8 = 60 := hE717
  have hE760 : (upd f687 (19 : Int32).toNatClampNeg 60) 9 = 60 := hE718
  have hE761 : (upd f687 (19 : Int32).toNatClampNeg 60) 10 = 60 := hE719
  have hE762 : (upd f687 (19 : Int32).toNatClampNeg 60) 11 = 60 := hE720
  have hE763 : (upd f687 (19 : Int32).toNatClampNeg 60) 12 = 60 := hE721
  have hE764 : (upd f687 (19 : Int32).toNatClampNeg 60) 13 = 60 := hE722
  have hE765 : (upd f687 (19 : Int32).toNatClampNeg 60) 14 = 60 := hE723
  have hE766 : (upd f687 (19 : Int32).toNatClampNeg 60) 15 = 60 := hE724
  have hE767 : (upd f687 (19 : Int32).toNatClampNeg 60) 16 = 60 := hE725
  have hE768 : (upd f687 (19 : Int32).toNatClampNeg 60) 17 = 60 := hE726
  have hE769 : (upd f687 (19 : Int32).toNatClampNeg 60) 18 = 60 := hE727
  have hE770 : (upd f687 (19 : Int32).toNatClampNeg 60) 19 = 60 := rfl
  generalize (upd f687 (19 : Int32).toNatClampNeg 60) = f729 at hP hD hE730 hE731 hE732 hE733 hE734 hE735 hE736 hE737 hE738 hE739 hE740 hE741 hE742 hE743 hE744 hE745 hE746 hE747 hE748 hE749 hE750 hE751 hE752 hE753 hE754 hE755 hE756 hE757 hE758 hE759 hE760 hE761 hE762 hE763 hE764 hE765 hE766 hE767 hE768 hE769 hE770
  refine lv_iinc (v := 20) (lv' := [(2, .int 20), (0, .ref ra), (1, .int 21)]) hx hb dX8_copies_15 hl (k := 0) rfl (by decide) (by decide) rfl (fun ls hl => ?_)
  refine lv_goto (tgt := 2) hx hb dX8_copies_18 (by decide) ?_
  refine lv_iload_n hx hb dX8_copies_2 rfl (lv_at hl 0 rfl) ?_
  refine lv_iload_n hx hb dX8_copies_3 rfl (lv_at hl 2 rfl) ?_
  refine lv_icmp_ge (tgt := 21) hx hb dX8_copies_4 (by decide) (fun c771 => absurd c771 (by decide)) (fun c771 => ?_)
  refine lv_aload_n hx hb dX8_copies_7 rfl (lv_at hl 1 rfl) ?_
  refine lv_iload_n hx hb dX8_copies_8 rfl (lv_at hl 0 rfl) ?_
  refine lv_aload_n hx hb dX8_copies_9 rfl (lv_at hl 1 rfl) ?_
  refine lv_iload_n hx hb dX8_copies_10 rfl (lv_at hl 2 rfl) ?_
  refine lv_iload_n hx hb dX8_copies_11 rfl (lv_at hl 0 rfl) ?_
  refine lv_iadd hx hb dX8_copies_12 ?_
  refine tq_i (w := 41) (by decide) ?_
  refine va_iald (i := 41) hx hb hK hP 0 0 rfl rfl (tq_in (by decide)) dX8_copies_13 ?_
  refine tq_i (w := 60) hE750 ?_
  refine va_iast (i := 20) hx hb hK hP hD hS 0 0 rfl rfl (tq_in (by decide)) dX8_copies_14 (fun H locs hP hD hS => ?_)
  have hP : va_P G vwCl [(ra, .inl (cA 0, 42, .inl ((upd f729 (20 : Int32).toNatClampNeg 60))))] H := hP
  have hD : va_D A [(ra, .inl (cA 0, 42, .inl ((upd f729 (20 : Int32).toNatClampNeg 60))))] := hD
  have hE773 : (upd f729 (20 : Int32).toNatClampNeg 60) 21 = 60 := hE730
  have hE774 : (upd f729 (20 : Int32).toNatClampNeg 60) 22 = 60 := hE731
  have hE775 : (upd f729 (20 : Int32).toNatClampNeg 60) 23 = 60 := hE732
  have hE776 : (upd f729 (20 : Int32).toNatClampNeg 60) 24 = 60 := hE733
  have hE777 : (upd f729 (20 : Int32).toNatClampNeg 60) 25 = 60 := hE734
  have hE778 : (upd f729 (20 : Int32).toNatClampNeg 60) 26 = 60 := hE735
  have hE779 : (upd f729 (20 : Int32).toNatClampNeg 60) 27 = 60 := hE736
  have hE780 : (upd f729 (20 : Int32).toNatClampNeg 60) 28 = 60 := hE737
  have hE781 : (upd f729 (20 : Int32).toNatClampNeg 60) 29 = 60 := hE738
  have hE782 : (upd f729 (20 : Int32).toNatClampNeg 60) 30 = 60 := hE739
  have hE783 : (upd f729 (20 : Int32).toNatClampNeg 60) 31 = 60 := hE740
  have hE784 : (upd f729 (20 : Int32).toNatClampNeg 60) 32 = 60 := hE741
  have hE785 : (upd f729 (20 : Int32).toNatClampNeg 60) 33 = 60 := hE742
  have hE786 : (upd f729 (20 : Int32).toNatClampNeg 60) 34 = 60 := hE743
  have hE787 : (upd f729 (20 : Int32).toNatClampNeg 60) 35 = 60 := hE744
  have hE788 : (upd f729 (20 : Int32).toNatClampNeg 60) 36 = 60 := hE745
  have hE789 : (upd f729 (20 : Int32).toNatClampNeg 60) 37 = 60 := hE746
  have hE790 : (upd f729 (20 : Int32).toNatClampNeg 60) 38 = 60 := hE747
  have hE791 : (upd f729 (20 : Int32).toNatClampNeg 60) 39 = 60 := hE748
  have hE792 : (upd f729 (20 : Int32).toNatClampNeg 60) 40 = 60 := hE749
  have hE793 : (upd f729 (20 : Int32).toNatClampNeg 60) 41 = 60 := hE750
  have hE794 : (upd f729 (20 : Int32).toNatClampNeg 60) 0 = 60 := hE751
  have hE795 : (upd f729 (20 : Int32).toNatClampNeg 60) 1 = 60 := hE752
  have hE796 : (upd f729 (20 : Int32).toNatClampNeg 60) 2 = 60 := hE753
  have hE797 : (upd f729 (20 : Int32).toNatClampNeg 60) 3 = 60 := hE754
  have hE798 : (upd f729 (20 : Int32).toNatClampNeg 60) 4 = 60 := hE755
  have hE799 : (upd f729 (20 : Int32).toNatClampNeg 60) 5 = 60 := hE756
  have hE800 : (upd f729 (20 : Int32).toNatClampNeg 60) 6 = 60 := hE757
  have hE801 : (upd f729 (20 : Int32).toNatClampNeg 60) 7 = 60 := hE758
  have hE802 : (upd f729 (20 : Int32).toNatClampNeg 60) 8 = 60 := hE759
  have hE803 : (upd f729 (20 : Int32).toNatClampNeg 60) 9 = 60 := hE760
  have hE804 : (upd f729 (20 : Int32).toNatClampNeg 60) 10 = 60 := hE761
  have hE805 : (upd f729 (20 : Int32).toNatClampNeg 60) 11 = 60 := hE762
  have hE806 : (upd f729 (20 : Int32).toNatClampNeg 60) 12 = 60 := hE763
  have hE807 : (upd f729 (20 : Int32).toNatClampNeg 60) 13 = 60 := hE764
  have hE808 : (upd f729 (20 : Int32).toNatClampNeg 60) 14 = 60 := hE765
  have hE809 : (upd f729 (20 : Int32).toNatClampNeg 60) 15 = 60 := hE766
  have hE810 : (upd f729 (20 : Int32).toNatClampNeg 60) 16 = 60 := hE767
  have hE811 : (upd f729 (20 : Int32).toNatClampNeg 60) 17 = 60 := hE768
  have hE812 : (upd f729 (20 : Int32).toNatClampNeg 60) 18 = 60 := hE769
  have hE813 : (upd f729 (20 : Int32).toNatClampNeg 60) 19 = 60 := hE770
  have hE814 : (upd f729 (20 : Int32).toNatClampNeg 60) 20 = 60 := rfl
  generalize (upd f729 (20 : Int32).toNatClampNeg 60) = f772 at hP hD hE773 hE774 hE775 hE776 hE777 hE778 hE779 hE780 hE781 hE782 hE783 hE784 hE785 hE786 hE787 hE788 hE789 hE790 hE791 hE792 hE793 hE794 hE795 hE796 hE797 hE798 hE799 hE800 hE801 hE802 hE803 hE804 hE805 hE806 hE807 hE808 hE809 hE810 hE811 hE812 hE813 hE814
  refine lv_iinc (v := 21) (lv' := [(2, .int 21), (0, .ref ra), (1, .int 21)]) hx hb dX8_copies_15 hl (k := 0) rfl (by decide) (by decide) rfl (fun ls hl => ?_)
  refine lv_goto (tgt := 2) hx hb dX8_copies_18 (by decide) ?_
  refine lv_iload_n hx hb dX8_copies_2 rfl (lv_at hl 0 rfl) ?_
  refine lv_iload_n hx hb dX8_copies_3 rfl (lv_at hl 2 rfl) ?_
  refine lv_icmp_ge (tgt := 21) hx hb dX8_copies_4 (by decide) (fun c815 => ?_) (fun c815 => absurd (by decide) c815)
  exact W.vret hx hb hr (fun t ht hW => ⟨⟨f772, rfl, ⟨hE794, hE795, hE796, hE797, hE798, hE799, hE800, hE801, hE802, hE803, hE804, hE805, hE806, hE807, hE808, hE809, hE810, hE811, hE812, hE813, hE814, hE773, hE774, hE775, hE776, hE777, hE778, hE779, hE780, hE781, hE782, hE783, hE784, hE785, hE786, hE787, hE788, hE789, hE790, hE791, hE792, hE793⟩, by rw [ht]; exact hP, hD⟩, hS.F ht⟩) hS.2.2 dX8_copies_21

set_option maxHeartbeats 4000000 in
set_option maxRecDepth 100000 in
theorem c_X8_copies_3z (l : Launch) (G : va_G) (cA : Nat → ClassId) (sz : Nat) (ra : Nat) (fr : Nat → Int32) (he0 : fr 3 = 0) (he1 : fr 4 = 0) (he2 : fr 5 = 0) : Met l yX8_copies (.code yX8_copies cX8_copies 3 none :: T0) ({ frames := 0, cells := 0, slots := 0, locals := 0 }) (tqP G cA [.ref ra, .int 3] [(ra, .inl (cA 0, 6, .inl fr))] sz) (tqQv G cA (fun (u : (Nat → Int32)) => u 0 = 0 ∧ u 1 = 0 ∧ u 2 = 0 ∧ u 3 = 0 ∧ u 4 = 0 ∧ u 5 = 0) (fun (u : (Nat → Int32)) => [(ra, .inl (cA 0, 6, .inl u))]) (va_A [(ra, .inl (cA 0, 6, .inl fr))] sz)) 0 0 (va_A [(ra, .inl (cA 0, 6, .inl fr))] sz) := by
  refine Met.ofW (cc := cX8_copies) (maxL := 3) (ret := none) (by decide) rfl ?_
  intro p e s m args below meth c s₁ B hml hv
  obtain ⟨rfl, hsz, hP, hK, hD0, hN⟩ := hv
  have hx := B.exec
  have hb := B.bytes
  have hr := B.returns
  have hts := atoms_spec (ws := .code yX8_copies cX8_copies 3 none :: T0) B.pre
  have hT : ∀ w ∈ T0, w.before _ s = true := fun w h => hts w (List.mem_cons_of_mem _ h)
  have hown : s.vm.findClass RX8 = some m.cls := findClass_of_methodNamed B.named
  have hlocks := B.notSynchronized
  subst hsz
  have hD := hD0.self (sz := s.heap.size)
  generalize hAe : va_A [(ra, .inl (cA 0, 6, .inl fr))] s.heap.size = A at hD ⊢
  have hA : ∀ q : Nat, s.heap.size ≤ q → A q := fun q h => by rw [← hAe]; exact Or.inr h
  have hS : va_S A s.heap s.heap [] := va_S.rf
  have hl := lv_entry ([.ref ra, .int 3]) (n := 3) (Nat.le_of_ble_eq_true rfl)
  rw [lg_entry_eq]
  generalize (lg_sl ([.ref ra, .int 3]) ++ List.replicate (3 - (lg_sl ([.ref ra, .int 3])).length) Slot.unset).toArray = ls at hl ⊢
  have hl : lv_has ls 3 [(0, .ref ra), (1, .int 3)] := hl
  obtain ⟨H, hH⟩ : ∃ z, z = s.heap := ⟨_, rfl⟩
  rw [← hH] at hP
  have hS : va_S A s.heap H [] := by rw [hH]; exact hS
  suffices hgo : W p l e _ s m _ below meth c H [] 0 0 _ _ by rw [hH] at hgo; exact hgo
  have hO := hN.2.2.2.2
  refine lv_iconst (v := 0) hx hb dX8_copies_0 (by decide) ?_
  refine lv_istore_n (lv' := [(2, .int 0), (0, .ref ra), (1, .int 3)]) hx hb dX8_copies_1 rfl hl (by decide) rfl (fun ls hl => ?_)
  refine lv_iload_n hx hb dX8_copies_2 rfl (lv_at hl 0 rfl) ?_
  refine lv_iload_n hx hb dX8_copies_3 rfl (lv_at hl 2 rfl) ?_
  refine lv_icmp_ge (tgt := 21) hx hb dX8_copies_4 (by decide) (fun c101 => absurd c101 (by decide)) (fun c101 => ?_)
  refine lv_aload_n hx hb dX8_copies_7 rfl (lv_at hl 1 rfl) ?_
  refine lv_iload_n hx hb dX8_copies_8 rfl (lv_at hl 0 rfl) ?_
  refine lv_aload_n hx hb dX8_copies_9 rfl (lv_at hl 1 rfl) ?_
  refine lv_iload_n hx hb dX8_copies_10 rfl (lv_at hl 2 rfl) ?_
  refine lv_iload_n hx hb dX8_copies_11 rfl (lv_at hl 0 rfl) ?_
  refine lv_iadd hx hb dX8_copies_12 ?_
  refine tq_i (w := 3) (by decide) ?_
  refine va_iald (i := 3) hx hb hK hP 0 0 rfl rfl (tq_in (by decide)) dX8_copies_13 ?_
  refine tq_i (w := 0) he0 ?_
  refine va_iast (i := 0) hx hb hK hP hD hS 0 0 rfl rfl (tq_in (by decide)) dX8_copies_14 (fun H locs hP hD hS => ?_)
  have hP : va_P G vwCl [(ra, .inl (cA 0, 6, .inl ((upd fr (0 : Int32).toNatClampNeg 0))))] H := hP
  have hD : va_D A [(ra, .inl (cA 0, 6, .inl ((upd fr (0 : Int32).toNatClampNeg 0))))] := hD
  have hE103 : (upd fr (0 : Int32).toNatClampNeg 0) 3 = 0 := he0
  have hE104 : (upd fr (0 : Int32).toNatClampNeg 0) 4 = 0 := he1
  have hE105 : (upd fr (0 : Int32).toNatClampNeg 0) 5 = 0 := he2
  have hE106 : (upd fr (0 : Int32).toNatClampNeg 0) 0 = 0 := rfl
  generalize (upd fr (0 : Int32).toNatClampNeg 0) = f102 at hP hD hE103 hE104 hE105 hE106
  refine lv_iinc (v := 1) (lv' := [(2, .int 1), (0, .ref ra), (1, .int 3)]) hx hb dX8_copies_15 hl (k := 0) rfl (by decide) (by decide) rfl (fun ls hl => ?_)
  refine lv_goto (tgt := 2) hx hb dX8_copies_18 (by decide) ?_
  refine lv_iload_n hx hb dX8_copies_2 rfl (lv_at hl 0 rfl) ?_
  refine lv_iload_n hx hb dX8_copies_3 rfl (lv_at hl 2 rfl) ?_
  refine lv_icmp_ge (tgt := 21) hx hb dX8_copies_4 (by decide) (fun c107 => absurd c107 (by decide)) (fun c107 => ?_)
  refine lv_aload_n hx hb dX8_copies_7 rfl (lv_at hl 1 rfl) ?_
  refine lv_iload_n hx hb dX8_copies_8 rfl (lv_at hl 0 rfl) ?_
  refine lv_aload_n hx hb dX8_copies_9 rfl (lv_at hl 1 rfl) ?_
  refine lv_iload_n hx hb dX8_copies_10 rfl (lv_at hl 2 rfl) ?_
  refine lv_iload_n hx hb dX8_copies_11 rfl (lv_at hl 0 rfl) ?_
  refine lv_iadd hx hb dX8_copies_12 ?_
  refine tq_i (w := 4) (by decide) ?_
  refine va_iald (i := 4) hx hb hK hP 0 0 rfl rfl (tq_in (by decide)) dX8_copies_13 ?_
  refine tq_i (w := 0) hE104 ?_
  refine va_iast (i := 1) hx hb hK hP hD hS 0 0 rfl rfl (tq_in (by decide)) dX8_copies_14 (fun H locs hP hD hS => ?_)
  have hP : va_P G vwCl [(ra, .inl (cA 0, 6, .inl ((upd f102 (1 : Int32).toNatClampNeg 0))))] H := hP
  have hD : va_D A [(ra, .inl (cA 0, 6, .inl ((upd f102 (1 : Int32).toNatClampNeg 0))))] := hD
  have hE109 : (upd f102 (1 : Int32).toNatClampNeg 0) 3 = 0 := hE103
  have hE110 : (upd f102 (1 : Int32).toNatClampNeg 0) 4 = 0 := hE104
  have hE111 : (upd f102 (1 : Int32).toNatClampNeg 0) 5 = 0 := hE105
  have hE112 : (upd f102 (1 : Int32).toNatClampNeg 0) 0 = 0 := hE106
  have hE113 : (upd f102 (1 : Int32).toNatClampNeg 0) 1 = 0 := rfl
  generalize (upd f102 (1 : Int32).toNatClampNeg 0) = f108 at hP hD hE109 hE110 hE111 hE112 hE113
  refine lv_iinc (v := 2) (lv' := [(2, .int 2), (0, .ref ra), (1, .int 3)]) hx hb dX8_copies_15 hl (k := 0) rfl (by decide) (by decide) rfl (fun ls hl => ?_)
  refine lv_goto (tgt := 2) hx hb dX8_copies_18 (by decide) ?_
  refine lv_iload_n hx hb dX8_copies_2 rfl (lv_at hl 0 rfl) ?_
  refine lv_iload_n hx hb dX8_copies_3 rfl (lv_at hl 2 rfl) ?_
  refine lv_icmp_ge (tgt := 21) hx hb dX8_copies_4 (by decide) (fun c114 => absurd c114 (by decide)) (fun c114 => ?_)
  refine lv_aload_n hx hb dX8_copies_7 rfl (lv_at hl 1 rfl) ?_
  refine lv_iload_n hx hb dX8_copies_8 rfl (lv_at hl 0 rfl) ?_
  refine lv_aload_n hx hb dX8_copies_9 rfl (lv_at hl 1 rfl) ?_
  refine lv_iload_n hx hb dX8_copies_10 rfl (lv_at hl 2 rfl) ?_
  refine lv_iload_n hx hb dX8_copies_11 rfl (lv_at hl 0 rfl) ?_
  refine lv_iadd hx hb dX8_copies_12 ?_
  refine tq_i (w := 5) (by decide) ?_
  refine va_iald (i := 5) hx hb hK hP 0 0 rfl rfl (tq_in (by decide)) dX8_copies_13 ?_
  refine tq_i (w := 0) hE111 ?_
  refine va_iast (i := 2) hx hb hK hP hD hS 0 0 rfl rfl (tq_in (by decide)) dX8_copies_14 (fun H locs hP hD hS => ?_)
  have hP : va_P G vwCl [(ra, .inl (cA 0, 6, .inl ((upd f108 (2 : Int32).toNatClampNeg 0))))] H := hP
  have hD : va_D A [(ra, .inl (cA 0, 6, .inl ((upd f108 (2 : Int32).toNatClampNeg 0))))] := hD
  have hE116 : (upd f108 (2 : Int32).toNatClampNeg 0) 3 = 0 := hE109
  have hE117 : (upd f108 (2 : Int32).toNatClampNeg 0) 4 = 0 := hE110
  have hE118 : (upd f108 (2 : Int32).toNatClampNeg 0) 5 = 0 := hE111
  have hE119 : (upd f108 (2 : Int32).toNatClampNeg 0) 0 = 0 := hE112
  have hE120 : (upd f108 (2 : Int32).toNatClampNeg 0) 1 = 0 := hE113
  have hE121 : (upd f108 (2 : Int32).toNatClampNeg 0) 2 = 0 := rfl
  generalize (upd f108 (2 : Int32).toNatClampNeg 0) = f115 at hP hD hE116 hE117 hE118 hE119 hE120 hE121
  refine lv_iinc (v := 3) (lv' := [(2, .int 3), (0, .ref ra), (1, .int 3)]) hx hb dX8_copies_15 hl (k := 0) rfl (by decide) (by decide) rfl (fun ls hl => ?_)
  refine lv_goto (tgt := 2) hx hb dX8_copies_18 (by decide) ?_
  refine lv_iload_n hx hb dX8_copies_2 rfl (lv_at hl 0 rfl) ?_
  refine lv_iload_n hx hb dX8_copies_3 rfl (lv_at hl 2 rfl) ?_
  refine lv_icmp_ge (tgt := 21) hx hb dX8_copies_4 (by decide) (fun c122 => ?_) (fun c122 => absurd (by decide) c122)
  exact W.vret hx hb hr (fun t ht hW => ⟨⟨f115, rfl, ⟨hE119, hE120, hE121, hE116, hE117, hE118⟩, by rw [ht]; exact hP, hD⟩, hS.F ht⟩) hS.2.2 dX8_copies_21
