abbrev G_X6_level (p : Program) (l : Launch) (e : Env) (s : State) (m : MethodId) (below : List Frame) (meth : Method) (c : Code) (G : va_G) (cA : Nat → ClassId) (A : Nat → Prop) (ta : Nat → Nat) (pa : Nat → Nat) (T : Tr) (P : Tr) (L : Lo) (x1 : Int32) (r0 : Int32) (H : Heap) (locs : List Loc) (g : JFrame) : Prop := W p l e (headSpec (.code yX6_level cX6_level 4 (some .int) :: T0) ({ frames := 0, cells := 0, slots := 0, locals := 0 } : Room)).room s m ([.ref (ta 0), .int x1] : List Value).toArray below meth c H locs 0 0 (MQ below (tqQi G cA (fun (r : Int32) (_ : Unit) => r = r0) (fun (_ : Unit) => wTP cA ta pa T P L) A) ([.ref (ta 0), .int x1] : List Value).toArray s 0 0 A) g
set_option maxHeartbeats 4000000 in
set_option maxRecDepth 100000 in
theorem w_X6_level_L13 {p : Program} {l : Launch} {e : Env} {s : State} {m : MethodId} {below : List Frame} {meth : Method} {c : Code} {G : va_G} {cA : Nat → ClassId} {A : Nat → Prop} {ta : Nat → Nat} {pa : Nat → Nat} {T : Tr} {P : Tr} {L : Lo} {x1₀ : Int32} {r0 : Int32} {x1 : Int32} {x2 : Int32} (F : tF p s m ([.ref (ta 0), .int x1₀] : List Value).toArray meth c G cA A RX6 cX6_level 4 (some .int))    (N : Nat) : ∀ (x3 : Int32) (H : Heap) (locs : List Loc) (ls : Array Slot), lpF (fun _ => none) (fB_X6_level_L13 T x1 x2) N x3 = some r0 → va_P G vwCl (wTP cA ta pa T P L) H → va_D A (wTP cA ta pa T P L) → va_S A s.heap H locs → lv_has ls 4 [(0, .ref (ta 0)), (1, .int x1), (2, .int x2), (3, .int x3)] → G_X6_level p l e s m below meth c G cA A ta pa T P L x1₀ r0 H locs (F0 m 13 ls []) := by
  obtain ⟨hx, hb, hr, hml, hT, hown, hlocks, hK, hN, hA⟩ := id F
  induction N with
  | zero =>
    intro x3 H locs ls h
    have h : (none : Option (Int32)) = some r0 := h
    cases h
  | succ N hk13 =>
    intro x3 H locs ls h hP hD hS hl
    have h : fB_X6_level_L13 T x1 x2 (lpF (fun _ => none) (fB_X6_level_L13 T x1 x2) N) x3 = some r0 := h
    generalize hk13e : lpF (fun _ => none) (fB_X6_level_L13 T x1 x2) N = k13 at h hk13
    unfold fB_X6_level_L13 at h
    refine lv_iload_n hx hb dX6_level_13 rfl (lv_at hl 3 rfl) ?_
    refine lv_aload_n hx hb dX6_level_14 rfl (lv_at hl 0 rfl) ?_
    refine va_get (D := G) (ci := 6) (v := .ref (ta 17)) (C := RX6) (T := TX6) (N := 20) hx hb hT ku_6 hown hK hP 0 rfl rfl 16 (by decide) (hT _ kw_7_15) (fun _ h9 => h9) rfl dX6_level_15 ?_
    refine lv_iload_n hx hb dX6_level_18 rfl (lv_at hl 2 rfl) ?_
    obtain ⟨g4, h⟩ := tx_ck h
    refine va_iald (i := x2) hx hb hK hP 9 0 rfl rfl (tx_in g4) dX6_level_19 ?_
    refine lv_icmp_ge (tgt := 46) hx hb dX6_level_20 (by decide) (fun c5 => ?_) (fun c5 => ?_)
    · have h := tx_pos c5 h
      refine lv_iconst (v := (-1)) hx hb dX6_level_46 (by decide) ?_
      obtain rfl := tx_1 h
      exact W.iret hx hb hr (fun t ht hW => ⟨⟨_, (), rfl, rfl, by rw [ht]; exact hP, hD⟩, hS.F ht⟩) hS.2.2 dX6_level_47
    · have h := tx_neg c5 h
      refine lv_aload_n hx hb dX6_level_23 rfl (lv_at hl 0 rfl) ?_
      refine va_get (D := G) (ci := 6) (v := .ref (ta 16)) (C := RX6) (T := TX6) (N := 20) hx hb hT ku_6 hown hK hP 0 rfl rfl 15 (by decide) (hT _ kw_7_14) (fun _ h9 => h9) rfl dX6_level_24 ?_
      refine lv_iload_n hx hb dX6_level_27 rfl (lv_at hl 2 rfl) ?_
      refine lv_bipush (v := 10) hx hb dX6_level_28 (by decide) ?_
      refine lv_imul hx hb dX6_level_30 ?_
      refine lv_iload_n hx hb dX6_level_31 rfl (lv_at hl 3 rfl) ?_
      refine lv_iadd hx hb dX6_level_32 ?_
      obtain ⟨g6, h⟩ := tx_ck h
      refine va_iald (i := ((x2 * 10) + x3)) hx hb hK hP 8 0 rfl rfl (tx_in g6) dX6_level_33 ?_
      refine lv_iload_n hx hb dX6_level_34 rfl (lv_at hl 1 rfl) ?_
      refine lv_icmp_ne (tgt := 40) hx hb dX6_level_35 (by decide) (fun c7 => ?_) (fun c7 => ?_)
      · have h := tx_neg c7 h
        obtain ⟨y8, ey8, h⟩ := tx_lt h
        refine lv_iinc (v := y8) (lv' := [(3, .int y8), (0, .ref (ta 0)), (1, .int x1), (2, .int x2)]) hx hb dX6_level_40 hl (k := 3) rfl ey8 (by decide) rfl (fun ls hl => ?_)
        refine lv_goto (tgt := 13) hx hb dX6_level_43 (by decide) ?_
        exact hk13 y8 H locs ls h hP hD hS (lv_sub hl [1, 2, 3, 0] rfl)
      · have h := tx_pos c7 h
        refine lv_iload_n hx hb dX6_level_38 rfl (lv_at hl 3 rfl) ?_
        obtain rfl := tx_1 h
        exact W.iret hx hb hr (fun t ht hW => ⟨⟨_, (), rfl, rfl, by rw [ht]; exact hP, hD⟩, hS.F ht⟩) hS.2.2 dX6_level_39
set_option maxHeartbeats 4000000 in
set_option maxRecDepth 100000 in
theorem c_X6_level (l : Launch) (G : va_G) (cA : Nat → ClassId) (sz : Nat) (ta : Nat → Nat) (pa : Nat → Nat) (T : Tr) (P : Tr) (L : Lo) (x1 : Int32)  (r0 : Int32) (h : f_X6_level T x1 = some r0) : Met l yX6_level (.code yX6_level cX6_level 4 (some .int) :: T0) ({ frames := 0, cells := 0, slots := 0, locals := 0 } : Room) (tqP G cA [.ref (ta 0), .int x1] (wTP cA ta pa T P L) sz) (tqQi G cA (fun (r : Int32) (_ : Unit) => r = r0) (fun (_ : Unit) => wTP cA ta pa T P L) (va_A (wTP cA ta pa T P L) sz)) 0 0 (va_A (wTP cA ta pa T P L) sz) := by
  refine Met.ofW (cc := cX6_level) (maxL := 4) (ret := (some .int)) (by decide) rfl ?_
  intro p e s m args below meth c s₁ B hml hv
  obtain ⟨rfl, hsz, hP, hK, hD0, hN⟩ := hv
  have hx := B.exec
  have hb := B.bytes
  have hr := B.returns
  have hts := atoms_spec (ws := .code yX6_level cX6_level 4 (some .int) :: T0) B.pre
  have hT : ∀ w ∈ T0, w.before _ s = true := fun w h => hts w (List.mem_cons_of_mem _ h)
  have hown : s.vm.findClass RX6 = some m.cls := findClass_of_methodNamed B.named
  have hlocks := B.notSynchronized
  subst hsz
  have hD := hD0.self (sz := s.heap.size)
  generalize hAe : va_A (wTP cA ta pa T P L) s.heap.size = A at hD ⊢
  have hA : ∀ q : Nat, s.heap.size ≤ q → A q := fun q h => by rw [← hAe]; exact Or.inr h
  have hS : va_S A s.heap s.heap [] := va_S.rf
  have hl := lv_entry ([.ref (ta 0), .int x1]) (n := 4) (Nat.le_of_ble_eq_true rfl)
  rw [lg_entry_eq]
  generalize (lg_sl ([.ref (ta 0), .int x1]) ++ List.replicate (4 - (lg_sl ([.ref (ta 0), .int x1])).length) Slot.unset).toArray = ls at hl ⊢
  have hl : lv_has ls 4 [(0, .ref (ta 0)), (1, .int x1)] := hl
  have F : tF p s m ([.ref (ta 0), .int x1] : List Value).toArray meth c G cA A RX6 cX6_level 4 (some .int) := ⟨hx, hb, hr, hml, hT, hown, hlocks, hK, hN, hA⟩
  obtain ⟨H, hH⟩ : ∃ z, z = s.heap := ⟨_, rfl⟩
  rw [← hH] at hP
  have hS : va_S A s.heap H [] := by rw [hH]; exact hS
  suffices hgo : G_X6_level p l e s m below meth c G cA A ta pa T P L x1 r0 H [] (F0 m 0 ls []) by rw [hH] at hgo; exact hgo
  generalize ([] : List Loc) = locs at hS ⊢
  unfold f_X6_level at h
  refine lv_aload_n hx hb dX6_level_0 rfl (lv_at hl 0 rfl) ?_
  refine va_get (D := G) (ci := 6) (v := .ref (ta 15)) (C := RX6) (T := TX6) (N := 20) hx hb hT ku_6 hown hK hP 0 rfl rfl 14 (by decide) (hT _ kw_7_13) (fun _ h9 => h9) rfl dX6_level_1 ?_
  refine lv_iload_n hx hb dX6_level_4 rfl (lv_at hl 1 rfl) ?_
  obtain ⟨g1, h⟩ := tx_ck h
  refine va_iald (i := x1) hx hb hK hP 7 0 rfl rfl (tx_in g1) dX6_level_5 ?_
  refine lv_topi (fun y2 ey2 => ?_)
  have h := tx_let ey2 h
  refine lv_istore_n (lv' := [(2, .int y2), (0, .ref (ta 0)), (1, .int x1)]) hx hb dX6_level_6 rfl hl (by decide) rfl (fun ls hl => ?_)
  refine lv_iload_n hx hb dX6_level_7 rfl (lv_at hl 0 rfl) ?_
  refine lv_if_lt (tgt := 46) hx hb dX6_level_8 (by decide) (fun c3 => ?_) (fun c3 => ?_)
  · have h := tx_pos c3 h
    refine lv_iconst (v := (-1)) hx hb dX6_level_46 (by decide) ?_
    obtain rfl := tx_1 h
    exact W.iret hx hb hr (fun t ht hW => ⟨⟨_, (), rfl, rfl, by rw [ht]; exact hP, hD⟩, hS.F ht⟩) hS.2.2 dX6_level_47
  · have h := tx_neg c3 h
    refine lv_iconst (v := 0) hx hb dX6_level_11 (by decide) ?_
    refine lv_istore_n (lv' := [(3, .int 0), (2, .int y2), (0, .ref (ta 0)), (1, .int x1)]) hx hb dX6_level_12 rfl hl (by decide) rfl (fun ls hl => ?_)
    exact w_X6_level_L13 F 2000 0 H locs ls h hP hD hS (lv_sub hl [2, 3, 1, 0] rfl)
abbrev G_X6_above (p : Program) (l : Launch) (e : Env) (s : State) (m : MethodId) (below : List Frame) (meth : Method) (c : Code) (G : va_G) (cA : Nat → ClassId) (A : Nat → Prop) (ta : Nat → Nat) (pa : Nat → Nat) (T : Tr) (P : Tr) (L : Lo) (x1 : Int32) (r0 : Int32) (H : Heap) (locs : List Loc) (g : JFrame) : Prop := W p l e (headSpec (.code yX6_above cX6_above 3 (some .int) :: T0) ({ frames := 1, cells := 0, slots := 0, locals := 23 } : Room)).room s m ([.ref (ta 0), .int x1] : List Value).toArray below meth c H locs 0 0 (MQ below (tqQi G cA (fun (r : Int32) (_ : Unit) => r = r0) (fun (_ : Unit) => wTP cA ta pa T P L) A) ([.ref (ta 0), .int x1] : List Value).toArray s 0 0 A) g
set_option maxHeartbeats 4000000 in
set_option maxRecDepth 100000 in
theorem c_X6_above (l : Launch) (G : va_G) (cA : Nat → ClassId) (sz : Nat) (ta : Nat → Nat) (pa : Nat → Nat) (T : Tr) (P : Tr) (L : Lo) (x1 : Int32)  (r0 : Int32) (h : f_X6_above T x1 = some r0) : Met l yX6_above (.code yX6_above cX6_above 3 (some .int) :: T0) ({ frames := 1, cells := 0, slots := 0, locals := 23 } : Room) (tqP G cA [.ref (ta 0), .int x1] (wTP cA ta pa T P L) sz) (tqQi G cA (fun (r : Int32) (_ : Unit) => r = r0) (fun (_ : Unit) => wTP cA ta pa T P L) (va_A (wTP cA ta pa T P L) sz)) 0 0 (va_A (wTP cA ta pa T P L) sz) := by
  refine Met.ofW (cc := cX6_above) (maxL := 3) (ret := (some .int)) (by decide) rfl ?_
  intro p e s m args below meth c s₁ B hml hv
  obtain ⟨rfl, hsz, hP, hK, hD0, hN⟩ := hv
  have hx := B.exec
  have hb := B.bytes
  have hr := B.returns
  have hts := atoms_spec (ws := .code yX6_above cX6_above 3 (some .int) :: T0) B.pre
  have hT : ∀ w ∈ T0, w.before _ s = true := fun w h => hts w (List.mem_cons_of_mem _ h)
  have hown : s.vm.findClass RX6 = some m.cls := findClass_of_methodNamed B.named
  have hlocks := B.notSynchronized
  subst hsz
  have hD := hD0.self (sz := s.heap.size)
  generalize hAe : va_A (wTP cA ta pa T P L) s.heap.size = A at hD ⊢
  have hA : ∀ q : Nat, s.heap.size ≤ q → A q := fun q h => by rw [← hAe]; exact Or.inr h
  have hS : va_S A s.heap s.heap [] := va_S.rf
  have hl := lv_entry ([.ref (ta 0), .int x1]) (n := 3) (Nat.le_of_ble_eq_true rfl)
  rw [lg_entry_eq]
  generalize (lg_sl ([.ref (ta 0), .int x1]) ++ List.replicate (3 - (lg_sl ([.ref (ta 0), .int x1])).length) Slot.unset).toArray = ls at hl ⊢
  have hl : lv_has ls 3 [(0, .ref (ta 0)), (1, .int x1)] := hl
  have F : tF p s m ([.ref (ta 0), .int x1] : List Value).toArray meth c G cA A RX6 cX6_above 3 (some .int) := ⟨hx, hb, hr, hml, hT, hown, hlocks, hK, hN, hA⟩
  obtain ⟨H, hH⟩ : ∃ z, z = s.heap := ⟨_, rfl⟩
  rw [← hH] at hP
  have hS : va_S A s.heap H [] := by rw [hH]; exact hS
  suffices hgo : G_X6_above p l e s m below meth c G cA A ta pa T P L x1 r0 H [] (F0 m 0 ls []) by rw [hH] at hgo; exact hgo
  generalize ([] : List Loc) = locs at hS ⊢
  unfold f_X6_above at h
  refine lv_aload_n hx hb dX6_above_0 rfl (lv_at hl 0 rfl) ?_
  refine va_get (D := G) (ci := 6) (v := .ref (ta 15)) (C := RX6) (T := TX6) (N := 20) hx hb hT ku_6 hown hK hP 0 rfl rfl 14 (by decide) (hT _ kw_7_13) (fun _ h9 => h9) rfl dX6_above_1 ?_
  refine lv_iload_n hx hb dX6_above_4 rfl (lv_at hl 1 rfl) ?_
  obtain ⟨g1, h⟩ := tx_ck h
  refine va_iald (i := x1) hx hb hK hP 7 0 rfl rfl (tx_in g1) dX6_above_5 ?_
  refine lv_topi (fun y2 ey2 => ?_)
  have h := tx_let ey2 h
  refine lv_istore_n (lv' := [(2, .int y2), (0, .ref (ta 0)), (1, .int x1)]) hx hb dX6_above_6 rfl hl (by decide) rfl (fun ls hl => ?_)
  refine lv_iload_n hx hb dX6_above_7 rfl (lv_at hl 0 rfl) ?_
  refine lv_if_ge (tgt := 15) hx hb dX6_above_8 (by decide) (fun c3 => ?_) (fun c3 => ?_)
  · have h := tx_pos c3 h
    refine lv_aload_n hx hb dX6_above_15 rfl (lv_at hl 1 rfl) ?_
    refine va_get (D := G) (ci := 6) (v := .ref (ta 17)) (C := RX6) (T := TX6) (N := 20) hx hb hT ku_6 hown hK hP 0 rfl rfl 16 (by decide) (hT _ kw_7_15) (fun _ h9 => h9) rfl dX6_above_16 ?_
    refine lv_iload_n hx hb dX6_above_19 rfl (lv_at hl 0 rfl) ?_
    obtain ⟨g4, h⟩ := tx_ck h
    refine va_iald (i := y2) hx hb hK hP 9 0 rfl rfl (tx_in g4) dX6_above_20 ?_
    refine lv_iconst (v := 1) hx hb dX6_above_21 (by decide) ?_
    refine lv_isub hx hb dX6_above_22 ?_
    refine lv_aload_n hx hb dX6_above_23 rfl (lv_at hl 1 rfl) ?_
    refine lv_iload_n hx hb dX6_above_24 rfl (lv_at hl 2 rfl) ?_
    obtain ⟨r5, hc6, h⟩ := tx_bd h
    refine tz_i (As := [.int x1]) (rest := [.int ((T 17 y2.toNatClampNeg) - 1)]) ⟨hx, hb, hml, hown, hT⟩ hP hD hS hA hK hN (c_X6_level l G cA H.size ta pa T P L x1  r5 hc6) (tq_gV kw_30_14 kw_30_15 kw_30_16 kw_1_23 kw_30_17) rfl rfl dkdV_yX6_level_1 (Nat.le_of_ble_eq_true rfl) (Nat.le_of_ble_eq_true rfl) (ci := 6) (q0 := 0) rfl rfl rfl hl.1 rfl (Nat.le_of_ble_eq_true rfl) dX6_above_25 ⟨Nat.le_of_ble_eq_true rfl, Nat.le_of_ble_eq_true rfl⟩ (fun _ _ H locs z7 hP hD hS => ?_)
    have z7 := z7.symm
    subst z7
    have hP : va_P G vwCl (wTP cA ta pa T P L) H := hP
    have hD : va_D A (wTP cA ta pa T P L) := hD
    refine lv_isub hx hb dX6_above_28 ?_
    obtain rfl := tx_1 h
    exact W.iret hx hb hr (fun t ht hW => ⟨⟨_, (), rfl, rfl, by rw [ht]; exact hP, hD⟩, hS.F ht⟩) hS.2.2 dX6_above_29
  · have h := tx_neg c3 h
    refine lv_iconst (v := 0) hx hb dX6_above_11 (by decide) ?_
    refine lv_goto (tgt := 29) hx hb dX6_above_12 (by decide) ?_
    obtain rfl := tx_1 h
    exact W.iret hx hb hr (fun t ht hW => ⟨⟨_, (), rfl, rfl, by rw [ht]; exact hP, hD⟩, hS.F ht⟩) hS.2.2 dX6_above_29
abbrev G_X6_top (p : Program) (l : Launch) (e : Env) (s : State) (m : MethodId) (below : List Frame) (meth : Method) (c : Code) (G : va_G) (cA : Nat → ClassId) (A : Nat → Prop) (ta : Nat → Nat) (pa : Nat → Nat) (T : Tr) (P : Tr) (L : Lo) (x1 : Int32) (r0 : Int32) (H : Heap) (locs : List Loc) (g : JFrame) : Prop := W p l e (headSpec (.code yX6_top cX6_top 2 (some .int) :: T0) ({ frames := 0, cells := 0, slots := 0, locals := 0 } : Room)).room s m ([.ref (ta 0), .int x1] : List Value).toArray below meth c H locs 0 0 (MQ below (tqQi G cA (fun (r : Int32) (_ : Unit) => r = r0) (fun (_ : Unit) => wTP cA ta pa T P L) A) ([.ref (ta 0), .int x1] : List Value).toArray s 0 0 A) g
set_option maxHeartbeats 4000000 in
set_option maxRecDepth 100000 in
theorem c_X6_top (l : Launch) (G : va_G) (cA : Nat → ClassId) (sz : Nat) (ta : Nat → Nat) (pa : Nat → Nat) (T : Tr) (P : Tr) (L : Lo) (x1 : Int32)  (r0 : Int32) (h : f_X6_top T x1 = some r0) : Met l yX6_top (.code yX6_top cX6_top 2 (some .int) :: T0) ({ frames := 0, cells := 0, slots := 0, locals := 0 } : Room) (tqP G cA [.ref (ta 0), .int x1] (wTP cA ta pa T P L) sz) (tqQi G cA (fun (r : Int32) (_ : Unit) => r = r0) (fun (_ : Unit) => wTP cA ta pa T P L) (va_A (wTP cA ta pa T P L) sz)) 0 0 (va_A (wTP cA ta pa T P L) sz) := by
  refine Met.ofW (cc := cX6_top) (maxL := 2) (ret := (some .int)) (by decide) rfl ?_
  intro p e s m args below meth c s₁ B hml hv
  obtain ⟨rfl, hsz, hP, hK, hD0, hN⟩ := hv
  have hx := B.exec
  have hb := B.bytes
  have hr := B.returns
  have hts := atoms_spec (ws := .code yX6_top cX6_top 2 (some .int) :: T0) B.pre
  have hT : ∀ w ∈ T0, w.before _ s = true := fun w h => hts w (List.mem_cons_of_mem _ h)
  have hown : s.vm.findClass RX6 = some m.cls := findClass_of_methodNamed B.named
  have hlocks := B.notSynchronized
  subst hsz
  have hD := hD0.self (sz := s.heap.size)
  generalize hAe : va_A (wTP cA ta pa T P L) s.heap.size = A at hD ⊢
  have hA : ∀ q : Nat, s.heap.size ≤ q → A q := fun q h => by rw [← hAe]; exact Or.inr h
  have hS : va_S A s.heap s.heap [] := va_S.rf
  have hl := lv_entry ([.ref (ta 0), .int x1]) (n := 2) (Nat.le_of_ble_eq_true rfl)
  rw [lg_entry_eq]
  generalize (lg_sl ([.ref (ta 0), .int x1]) ++ List.replicate (2 - (lg_sl ([.ref (ta 0), .int x1])).length) Slot.unset).toArray = ls at hl ⊢
  have hl : lv_has ls 2 [(0, .ref (ta 0)), (1, .int x1)] := hl
  have F : tF p s m ([.ref (ta 0), .int x1] : List Value).toArray meth c G cA A RX6 cX6_top 2 (some .int) := ⟨hx, hb, hr, hml, hT, hown, hlocks, hK, hN, hA⟩
  obtain ⟨H, hH⟩ : ∃ z, z = s.heap := ⟨_, rfl⟩
  rw [← hH] at hP
  have hS : va_S A s.heap H [] := by rw [hH]; exact hS
  suffices hgo : G_X6_top p l e s m below meth c G cA A ta pa T P L x1 r0 H [] (F0 m 0 ls []) by rw [hH] at hgo; exact hgo
  generalize ([] : List Loc) = locs at hS ⊢
  unfold f_X6_top at h
  refine lv_aload_n hx hb dX6_top_0 rfl (lv_at hl 0 rfl) ?_
  refine va_get (D := G) (ci := 6) (v := .ref (ta 17)) (C := RX6) (T := TX6) (N := 20) hx hb hT ku_6 hown hK hP 0 rfl rfl 16 (by decide) (hT _ kw_7_15) (fun _ h9 => h9) rfl dX6_top_1 ?_
  refine lv_iload_n hx hb dX6_top_4 rfl (lv_at hl 1 rfl) ?_
  obtain ⟨g1, h⟩ := tx_ck h
  refine va_iald (i := x1) hx hb hK hP 9 0 rfl rfl (tx_in g1) dX6_top_5 ?_
  refine lv_if_ne (tgt := 13) hx hb dX6_top_6 (by decide) (fun c2 => ?_) (fun c2 => ?_)
  · have h := tx_neg c2 h
    refine lv_aload_n hx hb dX6_top_13 rfl (lv_at hl 0 rfl) ?_
    refine va_get (D := G) (ci := 6) (v := .ref (ta 16)) (C := RX6) (T := TX6) (N := 20) hx hb hT ku_6 hown hK hP 0 rfl rfl 15 (by decide) (hT _ kw_7_14) (fun _ h9 => h9) rfl dX6_top_14 ?_
    refine lv_iload_n hx hb dX6_top_17 rfl (lv_at hl 1 rfl) ?_
    refine lv_bipush (v := 10) hx hb dX6_top_18 (by decide) ?_
    refine lv_imul hx hb dX6_top_20 ?_
    refine lv_aload_n hx hb dX6_top_21 rfl (lv_at hl 0 rfl) ?_
    refine va_get (D := G) (ci := 6) (v := .ref (ta 17)) (C := RX6) (T := TX6) (N := 20) hx hb hT ku_6 hown hK hP 0 rfl rfl 16 (by decide) (hT _ kw_7_15) (fun _ h9 => h9) rfl dX6_top_22 ?_
    refine lv_iload_n hx hb dX6_top_25 rfl (lv_at hl 1 rfl) ?_
    refine va_iald (i := x1) hx hb hK hP 9 0 rfl rfl (tx_in g1) dX6_top_26 ?_
    refine lv_iadd hx hb dX6_top_27 ?_
    refine lv_iconst (v := 1) hx hb dX6_top_28 (by decide) ?_
    refine lv_isub hx hb dX6_top_29 ?_
    obtain ⟨g3, h⟩ := tx_ck h
    refine va_iald (i := (((x1 * 10) + (T 17 x1.toNatClampNeg)) - 1)) hx hb hK hP 8 0 rfl rfl (tx_in g3) dX6_top_30 ?_
    obtain rfl := tx_1 h
    exact W.iret hx hb hr (fun t ht hW => ⟨⟨_, (), rfl, rfl, by rw [ht]; exact hP, hD⟩, hS.F ht⟩) hS.2.2 dX6_top_31
  · have h := tx_pos c2 h
    refine lv_iconst (v := (-1)) hx hb dX6_top_9 (by decide) ?_
    refine lv_goto (tgt := 31) hx hb dX6_top_10 (by decide) ?_
    obtain rfl := tx_1 h
    exact W.iret hx hb hr (fun t ht hW => ⟨⟨_, (), rfl, rfl, by rw [ht]; exact hP, hD⟩, hS.F ht⟩) hS.2.2 dX6_top_31
abbrev G_X6_isRack (p : Program) (l : Launch) (e : Env) (s : State) (m : MethodId) (below : List Frame) (meth : Method) (c : Code) (G : va_G) (cA : Nat → ClassId) (A : Nat → Prop) (ta : Nat → Nat) (pa : Nat → Nat) (T : Tr) (P : Tr) (L : Lo) (x1 : Int32) (r0 : Int32) (H : Heap) (locs : List Loc) (g : JFrame) : Prop := W p l e (headSpec (.code yX6_isRack cX6_isRack 2 (some .boolean) :: T0) ({ frames := 0, cells := 0, slots := 0, locals := 0 } : Room)).room s m ([.ref (ta 0), .int x1] : List Value).toArray below meth c H locs 0 0 (MQ below (tqQi G cA (fun (r : Int32) (_ : Unit) => r = r0) (fun (_ : Unit) => wTP cA ta pa T P L) A) ([.ref (ta 0), .int x1] : List Value).toArray s 0 0 A) g
set_option maxHeartbeats 4000000 in
set_option maxRecDepth 100000 in
theorem c_X6_isRack (l : Launch) (G : va_G) (cA : Nat → ClassId) (sz : Nat) (ta : Nat → Nat) (pa : Nat → Nat) (T : Tr) (P : Tr) (L : Lo) (x1 : Int32)  (r0 : Int32) (h : f_X6_isRack P x1 = some r0) : Met l yX6_isRack (.code yX6_isRack cX6_isRack 2 (some .boolean) :: T0) ({ frames := 0, cells := 0, slots := 0, locals := 0 } : Room) (tqP G cA [.ref (ta 0), .int x1] (wTP cA ta pa T P L) sz) (tqQi G cA (fun (r : Int32) (_ : Unit) => r = r0) (fun (_ : Unit) => wTP cA ta pa T P L) (va_A (wTP cA ta pa T P L) sz)) 0 0 (va_A (wTP cA ta pa T P L) sz) := by
  refine Met.ofW (cc := cX6_isRack) (maxL := 2) (ret := (some .boolean)) (by decide) rfl ?_
  intro p e s m args below meth c s₁ B hml hv
  obtain ⟨rfl, hsz, hP, hK, hD0, hN⟩ := hv
  have hx := B.exec
  have hb := B.bytes
  have hr := B.returns
  have hts := atoms_spec (ws := .code yX6_isRack cX6_isRack 2 (some .boolean) :: T0) B.pre
  have hT : ∀ w ∈ T0, w.before _ s = true := fun w h => hts w (List.mem_cons_of_mem _ h)
  have hown : s.vm.findClass RX6 = some m.cls := findClass_of_methodNamed B.named
  have hlocks := B.notSynchronized
  subst hsz
  have hD := hD0.self (sz := s.heap.size)
  generalize hAe : va_A (wTP cA ta pa T P L) s.heap.size = A at hD ⊢
  have hA : ∀ q : Nat, s.heap.size ≤ q → A q := fun q h => by rw [← hAe]; exact Or.inr h
  have hS : va_S A s.heap s.heap [] := va_S.rf
  have hl := lv_entry ([.ref (ta 0), .int x1]) (n := 2) (Nat.le_of_ble_eq_true rfl)
  rw [lg_entry_eq]
  generalize (lg_sl ([.ref (ta 0), .int x1]) ++ List.replicate (2 - (lg_sl ([.ref (ta 0), .int x1])).length) Slot.unset).toArray = ls at hl ⊢
  have hl : lv_has ls 2 [(0, .ref (ta 0)), (1, .int x1)] := hl
  have F : tF p s m ([.ref (ta 0), .int x1] : List Value).toArray meth c G cA A RX6 cX6_isRack 2 (some .boolean) := ⟨hx, hb, hr, hml, hT, hown, hlocks, hK, hN, hA⟩
  obtain ⟨H, hH⟩ : ∃ z, z = s.heap := ⟨_, rfl⟩
  rw [← hH] at hP
  have hS : va_S A s.heap H [] := by rw [hH]; exact hS
  suffices hgo : G_X6_isRack p l e s m below meth c G cA A ta pa T P L x1 r0 H [] (F0 m 0 ls []) by rw [hH] at hgo; exact hgo
  generalize ([] : List Loc) = locs at hS ⊢
  unfold f_X6_isRack at h
  refine lv_aload_n hx hb dX6_isRack_0 rfl (lv_at hl 0 rfl) ?_
  refine va_get (D := G) (ci := 6) (v := .ref (pa 0)) (C := RX6) (T := TX6) (N := 20) hx hb hT ku_6 hown hK hP 0 rfl rfl 19 (by decide) (hT _ kw_8_1) (fun _ h9 => h9) rfl dX6_isRack_1 ?_
  refine va_get (D := G) (ci := 2) (v := .ref (pa 8)) (C := RX2) (T := TX2) (N := 19) hx hb hT ku_2 hown hK hP 12 rfl rfl 7 (by decide) (hT _ kw_33_18) (fun _ h9 => h9) rfl dX6_isRack_4 ?_
  refine lv_iload_n hx hb dX6_isRack_7 rfl (lv_at hl 1 rfl) ?_
  obtain ⟨g1, h⟩ := tx_ck h
  refine va_iald (i := x1) hx hb hK hP 13 0 rfl rfl (tx_in g1) dX6_isRack_8 ?_
  refine lv_if_eq (tgt := 25) hx hb dX6_isRack_9 (by decide) (fun c2 => ?_) (fun c2 => ?_)
  · have h := tx_pos c2 h
    refine lv_iconst (v := 1) hx hb dX6_isRack_25 (by decide) ?_
    refine lv_goto (tgt := 30) hx hb dX6_isRack_26 (by decide) ?_
    obtain rfl := tx_1 h
    exact W.zret (ty := .boolean) hx hb hr rfl (fun t ht hW => ⟨⟨_, (), rfl, rfl, by rw [ht]; exact hP, hD⟩, hS.F ht⟩) hS.2.2 dX6_isRack_30
  · have h := tx_neg c2 h
    refine lv_aload_n hx hb dX6_isRack_12 rfl (lv_at hl 0 rfl) ?_
    refine va_get (D := G) (ci := 6) (v := .ref (pa 0)) (C := RX6) (T := TX6) (N := 20) hx hb hT ku_6 hown hK hP 0 rfl rfl 19 (by decide) (hT _ kw_8_1) (fun _ h9 => h9) rfl dX6_isRack_13 ?_
    refine va_get (D := G) (ci := 2) (v := .ref (pa 8)) (C := RX2) (T := TX2) (N := 19) hx hb hT ku_2 hown hK hP 12 rfl rfl 7 (by decide) (hT _ kw_33_18) (fun _ h9 => h9) rfl dX6_isRack_16 ?_
    refine lv_iload_n hx hb dX6_isRack_19 rfl (lv_at hl 1 rfl) ?_
    refine va_iald (i := x1) hx hb hK hP 13 0 rfl rfl (tx_in g1) dX6_isRack_20 ?_
    refine lv_iconst (v := 1) hx hb dX6_isRack_21 (by decide) ?_
    refine lv_icmp_ne (tgt := 29) hx hb dX6_isRack_22 (by decide) (fun c3 => ?_) (fun c3 => ?_)
    · have h := tx_neg c3 h
      refine lv_iconst (v := 0) hx hb dX6_isRack_29 (by decide) ?_
      obtain rfl := tx_1 h
      exact W.zret (ty := .boolean) hx hb hr rfl (fun t ht hW => ⟨⟨_, (), rfl, rfl, by rw [ht]; exact hP, hD⟩, hS.F ht⟩) hS.2.2 dX6_isRack_30
    · have h := tx_pos c3 h
      refine lv_iconst (v := 1) hx hb dX6_isRack_25 (by decide) ?_
      refine lv_goto (tgt := 30) hx hb dX6_isRack_26 (by decide) ?_
      obtain rfl := tx_1 h
      exact W.zret (ty := .boolean) hx hb hr rfl (fun t ht hW => ⟨⟨_, (), rfl, rfl, by rw [ht]; exact hP, hD⟩, hS.F ht⟩) hS.2.2 dX6_isRack_30
abbrev G_X1_joined (p : Program) (l : Launch) (e : Env) (s : State) (m : MethodId) (below : List Frame) (meth : Method) (c : Code) (G : va_G) (cA : Nat → ClassId) (A : Nat → Prop) (x0 : Int32) (x1 : Int64) (x3 : Int64) (r0 : Int64) (H : Heap) (locs : List Loc) (g : JFrame) : Prop := W p l e (headSpec (.code yX1_joined cX1_joined 7 (some .long) :: T0) ({ frames := 0, cells := 0, slots := 0, locals := 0 } : Room)).room s m ([.int x0, .long x1, .long x3] : List Value).toArray below meth c H locs 0 0 (MQ below (tqQl G cA (fun (r : Int64) (_ : Unit) => r = r0) (fun (_ : Unit) => ([] : va_W)) A) ([.int x0, .long x1, .long x3] : List Value).toArray s 0 0 A) g
set_option maxHeartbeats 4000000 in
set_option maxRecDepth 100000 in
theorem w_X1_joined_J231 {p : Program} {l : Launch} {e : Env} {s : State} {m : MethodId} {below : List Frame} {meth : Method} {c : Code} {G : va_G} {cA : Nat → ClassId} {A : Nat → Prop} {x0₀ : Int32} {x1₀ : Int64} {x3₀ : Int64} {r0 : Int64} (F : tF p s m ([.int x0₀, .long x1₀, .long x3₀] : List Value).toArray meth c G cA A RX1 cX1_joined 7 (some .long))    (x1 : Int64) (x3 : Int64) (s0 : Int64) (s1 : Int64) (H : Heap) (locs : List Loc) (ls : Array Slot) (h : fJ_X1_joined_J231 x1 x3 s0 s1 = some r0) (hP : va_P G vwCl (([] : va_W)) H) (hD : va_D A (([] : va_W))) (hS : va_S A s.heap H locs) (hl : lv_has ls 7 [(1, .long x1), (3, .long x3)]) : G_X1_joined p l e s m below meth c G cA A x0₀ x1₀ x3₀ r0 H locs (F0 m 231 ls [.long s0, .long s1]) := by
  obtain ⟨hx, hb, hr, hml, hT, hown, hlocks, hK, hN, hA⟩ := id F
  unfold fJ_X1_joined_J231 at h
  obtain ⟨g24, h⟩ := tx_ck h
  refine lv_ldiv hx hb dX1_joined_231 (tx_nzl g24) ?_
  refine lv_topl (fun y25 ey25 => ?_)
  have h := tx_let ey25 h
  refine lv_lstore (lv' := [(5, .long y25), (1, .long x1), (3, .long x3)]) hx hb dX1_joined_232 hl (by decide) rfl (fun ls hl => ?_)
  refine lv_lload_n hx hb dX1_joined_234 rfl (lv_at hl 2 rfl) ?_
  refine lv_lload hx hb dX1_joined_235 (lv_at hl 0 rfl) ?_
  refine W.lcmp hx hb dX1_joined_237 ?_
  refine lv_if_gt (tgt := 249) hx hb dX1_joined_238 (by decide) (fun c26 => ?_) (fun c26 => ?_)
  · have h := tx_pos c26 h
    refine lv_ldc2 (v := (-9223372036854775808)) hx hb hown (hT _ kw_34_1) dX1_joined_249 ?_
    refine lv_goto (tgt := 258) hx hb dX1_joined_252 (by decide) ?_
    obtain rfl := tx_1 h
    exact W.lret hx hb hr (fun t ht hW => ⟨⟨_, (), rfl, rfl, by rw [ht]; exact hP, hD⟩, hS.F ht⟩) hS.2.2 dX1_joined_258
  · have h := tx_neg c26 h
    refine lv_lload_n hx hb dX1_joined_241 rfl (lv_at hl 2 rfl) ?_
    refine lv_lload hx hb dX1_joined_242 (lv_at hl 0 rfl) ?_
    refine lv_lneg hx hb dX1_joined_244 ?_
    refine W.lcmp hx hb dX1_joined_245 ?_
    refine lv_if_ge (tgt := 255) hx hb dX1_joined_246 (by decide) (fun c27 => ?_) (fun c27 => ?_)
    · have h := tx_pos c27 h
      refine lv_lload_n hx hb dX1_joined_255 rfl (lv_at hl 1 rfl) ?_
      refine lv_lload_n hx hb dX1_joined_256 rfl (lv_at hl 2 rfl) ?_
      refine lv_lmul hx hb dX1_joined_257 ?_
      obtain rfl := tx_1 h
      exact W.lret hx hb hr (fun t ht hW => ⟨⟨_, (), rfl, rfl, by rw [ht]; exact hP, hD⟩, hS.F ht⟩) hS.2.2 dX1_joined_258
    · have h := tx_neg c27 h
      refine lv_ldc2 (v := (-9223372036854775808)) hx hb hown (hT _ kw_34_1) dX1_joined_249 ?_
      refine lv_goto (tgt := 258) hx hb dX1_joined_252 (by decide) ?_
      obtain rfl := tx_1 h
      exact W.lret hx hb hr (fun t ht hW => ⟨⟨_, (), rfl, rfl, by rw [ht]; exact hP, hD⟩, hS.F ht⟩) hS.2.2 dX1_joined_258
set_option maxHeartbeats 4000000 in
set_option maxRecDepth 100000 in
theorem c_X1_joined (l : Launch) (G : va_G) (cA : Nat → ClassId) (sz : Nat) (x0 : Int32) (x1 : Int64) (x3 : Int64)  (r0 : Int64) (h : f_X1_joined x0 x1 x3 = some r0) : Met l yX1_joined (.code yX1_joined cX1_joined 7 (some .long) :: T0) ({ frames := 0, cells := 0, slots := 0, locals := 0 } : Room) (tqP G cA [.int x0, .long x1, .long x3] (([] : va_W)) sz) (tqQl G cA (fun (r : Int64) (_ : Unit) => r = r0) (fun (_ : Unit) => ([] : va_W)) (va_A (([] : va_W)) sz)) 0 0 (va_A (([] : va_W)) sz) := by
  refine Met.ofW (cc := cX1_joined) (maxL := 7) (ret := (some .long)) (by decide) rfl ?_
  intro p e s m args below meth c s₁ B hml hv
  obtain ⟨rfl, hsz, hP, hK, hD0, hN⟩ := hv
  have hx := B.exec
  have hb := B.bytes
  have hr := B.returns
  have hts := atoms_spec (ws := .code yX1_joined cX1_joined 7 (some .long) :: T0) B.pre
  have hT : ∀ w ∈ T0, w.before _ s = true := fun w h => hts w (List.mem_cons_of_mem _ h)
  have hown : s.vm.findClass RX1 = some m.cls := findClass_of_methodNamed B.named
  have hlocks := B.notSynchronized
  subst hsz
  have hD := hD0.self (sz := s.heap.size)
  generalize hAe : va_A (([] : va_W)) s.heap.size = A at hD ⊢
  have hA : ∀ q : Nat, s.heap.size ≤ q → A q := fun q h => by rw [← hAe]; exact Or.inr h
  have hS : va_S A s.heap s.heap [] := va_S.rf
  have hl := lv_entry ([.int x0, .long x1, .long x3]) (n := 7) (Nat.le_of_ble_eq_true rfl)
  rw [lg_entry_eq]
  generalize (lg_sl ([.int x0, .long x1, .long x3]) ++ List.replicate (7 - (lg_sl ([.int x0, .long x1, .long x3])).length) Slot.unset).toArray = ls at hl ⊢
  have hl : lv_has ls 7 [(0, .int x0), (1, .long x1), (3, .long x3)] := hl
  have F : tF p s m ([.int x0, .long x1, .long x3] : List Value).toArray meth c G cA A RX1 cX1_joined 7 (some .long) := ⟨hx, hb, hr, hml, hT, hown, hlocks, hK, hN, hA⟩
  obtain ⟨H, hH⟩ : ∃ z, z = s.heap := ⟨_, rfl⟩
  rw [← hH] at hP
  have hS : va_S A s.heap H [] := by rw [hH]; exact hS
  suffices hgo : G_X1_joined p l e s m below meth c G cA A x0 x1 x3 r0 H [] (F0 m 0 ls []) by rw [hH] at hgo; exact hgo
  generalize ([] : List Loc) = locs at hS ⊢
  unfold f_X1_joined at h
  refine lv_iload_n hx hb dX1_joined_0 rfl (lv_at hl 0 rfl) ?_
  by_cases c1 : x0 = 19
  · have h := tx_pos c1 h
    refine lv_tableIn (off := 91) (tgt := 92) hx hb dX1_joined_1 (by rw [c1]; decide) (by rw [c1]; decide) (by rw [c1]; decide) (by decide) ?_
    refine lv_lload_n hx hb dX1_joined_92 rfl (lv_at hl 1 rfl) ?_
    refine lv_lconst (v := 0) hx hb dX1_joined_93 (by decide) ?_
    refine W.lcmp hx hb dX1_joined_94 ?_
    refine lv_if_ne (tgt := 104) hx hb dX1_joined_95 (by decide) (fun c2 => ?_) (fun c2 => ?_)
    · have h := tx_neg c2 h
      refine lv_lconst (v := 1) hx hb dX1_joined_104 (by decide) ?_
      refine lv_goto (tgt := 109) hx hb dX1_joined_105 (by decide) ?_
      obtain rfl := tx_1 h
      exact W.lret hx hb hr (fun t ht hW => ⟨⟨_, (), rfl, rfl, by rw [ht]; exact hP, hD⟩, hS.F ht⟩) hS.2.2 dX1_joined_109
    · have h := tx_pos c2 h
      refine lv_lload_n hx hb dX1_joined_98 rfl (lv_at hl 2 rfl) ?_
      refine lv_lconst (v := 0) hx hb dX1_joined_99 (by decide) ?_
      refine W.lcmp hx hb dX1_joined_100 ?_
      refine lv_if_eq (tgt := 108) hx hb dX1_joined_101 (by decide) (fun c3 => ?_) (fun c3 => ?_)
      · have h := tx_pos c3 h
        refine lv_lconst (v := 0) hx hb dX1_joined_108 (by decide) ?_
        obtain rfl := tx_1 h
        exact W.lret hx hb hr (fun t ht hW => ⟨⟨_, (), rfl, rfl, by rw [ht]; exact hP, hD⟩, hS.F ht⟩) hS.2.2 dX1_joined_109
      · have h := tx_neg c3 h
        refine lv_lconst (v := 1) hx hb dX1_joined_104 (by decide) ?_
        refine lv_goto (tgt := 109) hx hb dX1_joined_105 (by decide) ?_
        obtain rfl := tx_1 h
        exact W.lret hx hb hr (fun t ht hW => ⟨⟨_, (), rfl, rfl, by rw [ht]; exact hP, hD⟩, hS.F ht⟩) hS.2.2 dX1_joined_109
  · have h := tx_neg c1 h
    by_cases c4 : x0 = 20
    · have h := tx_pos c4 h
      refine lv_tableIn (off := 109) (tgt := 110) hx hb dX1_joined_1 (by rw [c4]; decide) (by rw [c4]; decide) (by rw [c4]; decide) (by decide) ?_
      refine lv_lload_n hx hb dX1_joined_110 rfl (lv_at hl 1 rfl) ?_
      refine lv_lconst (v := 0) hx hb dX1_joined_111 (by decide) ?_
      refine W.lcmp hx hb dX1_joined_112 ?_
      refine lv_if_eq (tgt := 126) hx hb dX1_joined_113 (by decide) (fun c5 => ?_) (fun c5 => ?_)
      · have h := tx_pos c5 h
        refine lv_lconst (v := 0) hx hb dX1_joined_126 (by decide) ?_
        obtain rfl := tx_1 h
        exact W.lret hx hb hr (fun t ht hW => ⟨⟨_, (), rfl, rfl, by rw [ht]; exact hP, hD⟩, hS.F ht⟩) hS.2.2 dX1_joined_127
      · have h := tx_neg c5 h
        refine lv_lload_n hx hb dX1_joined_116 rfl (lv_at hl 2 rfl) ?_
        refine lv_lconst (v := 0) hx hb dX1_joined_117 (by decide) ?_
        refine W.lcmp hx hb dX1_joined_118 ?_
        refine lv_if_eq (tgt := 126) hx hb dX1_joined_119 (by decide) (fun c6 => ?_) (fun c6 => ?_)
        · have h := tx_pos c6 h
          refine lv_lconst (v := 0) hx hb dX1_joined_126 (by decide) ?_
          obtain rfl := tx_1 h
          exact W.lret hx hb hr (fun t ht hW => ⟨⟨_, (), rfl, rfl, by rw [ht]; exact hP, hD⟩, hS.F ht⟩) hS.2.2 dX1_joined_127
        · have h := tx_neg c6 h
          refine lv_lconst (v := 1) hx hb dX1_joined_122 (by decide) ?_
          refine lv_goto (tgt := 127) hx hb dX1_joined_123 (by decide) ?_
          obtain rfl := tx_1 h
          exact W.lret hx hb hr (fun t ht hW => ⟨⟨_, (), rfl, rfl, by rw [ht]; exact hP, hD⟩, hS.F ht⟩) hS.2.2 dX1_joined_127
    · have h := tx_neg c4 h
      by_cases c7 : x0 = 29
      · have h := tx_pos c7 h
        refine lv_tableIn (off := 127) (tgt := 128) hx hb dX1_joined_1 (by rw [c7]; decide) (by rw [c7]; decide) (by rw [c7]; decide) (by decide) ?_
        refine lv_lload_n hx hb dX1_joined_128 rfl (lv_at hl 1 rfl) ?_
        refine lv_lload_n hx hb dX1_joined_129 rfl (lv_at hl 2 rfl) ?_
        refine W.lcmp hx hb dX1_joined_130 ?_
        refine lv_if_ge (tgt := 138) hx hb dX1_joined_131 (by decide) (fun c8 => ?_) (fun c8 => ?_)
        · have h := tx_pos c8 h
          refine lv_lconst (v := 0) hx hb dX1_joined_138 (by decide) ?_
          obtain rfl := tx_1 h
          exact W.lret hx hb hr (fun t ht hW => ⟨⟨_, (), rfl, rfl, by rw [ht]; exact hP, hD⟩, hS.F ht⟩) hS.2.2 dX1_joined_139
        · have h := tx_neg c8 h
          refine lv_lconst (v := 1) hx hb dX1_joined_134 (by decide) ?_
          refine lv_goto (tgt := 139) hx hb dX1_joined_135 (by decide) ?_
          obtain rfl := tx_1 h
          exact W.lret hx hb hr (fun t ht hW => ⟨⟨_, (), rfl, rfl, by rw [ht]; exact hP, hD⟩, hS.F ht⟩) hS.2.2 dX1_joined_139
      · have h := tx_neg c7 h
        by_cases c9 : x0 = 30
        · have h := tx_pos c9 h
          refine lv_tableIn (off := 139) (tgt := 140) hx hb dX1_joined_1 (by rw [c9]; decide) (by rw [c9]; decide) (by rw [c9]; decide) (by decide) ?_
          refine lv_lload_n hx hb dX1_joined_140 rfl (lv_at hl 1 rfl) ?_
          refine lv_lload_n hx hb dX1_joined_141 rfl (lv_at hl 2 rfl) ?_
          refine W.lcmp hx hb dX1_joined_142 ?_
          refine lv_if_gt (tgt := 150) hx hb dX1_joined_143 (by decide) (fun c10 => ?_) (fun c10 => ?_)
          · have h := tx_pos c10 h
            refine lv_lconst (v := 0) hx hb dX1_joined_150 (by decide) ?_
            obtain rfl := tx_1 h
            exact W.lret hx hb hr (fun t ht hW => ⟨⟨_, (), rfl, rfl, by rw [ht]; exact hP, hD⟩, hS.F ht⟩) hS.2.2 dX1_joined_151
          · have h := tx_neg c10 h
            refine lv_lconst (v := 1) hx hb dX1_joined_146 (by decide) ?_
            refine lv_goto (tgt := 151) hx hb dX1_joined_147 (by decide) ?_
            obtain rfl := tx_1 h
            exact W.lret hx hb hr (fun t ht hW => ⟨⟨_, (), rfl, rfl, by rw [ht]; exact hP, hD⟩, hS.F ht⟩) hS.2.2 dX1_joined_151
        · have h := tx_neg c9 h
          by_cases c11 : x0 = 31
          · have h := tx_pos c11 h
            refine lv_tableIn (off := 151) (tgt := 152) hx hb dX1_joined_1 (by rw [c11]; decide) (by rw [c11]; decide) (by rw [c11]; decide) (by decide) ?_
            refine lv_lload_n hx hb dX1_joined_152 rfl (lv_at hl 1 rfl) ?_
            refine lv_lload_n hx hb dX1_joined_153 rfl (lv_at hl 2 rfl) ?_
            refine W.lcmp hx hb dX1_joined_154 ?_
            refine lv_if_ne (tgt := 162) hx hb dX1_joined_155 (by decide) (fun c12 => ?_) (fun c12 => ?_)
            · have h := tx_neg c12 h
              refine lv_lconst (v := 0) hx hb dX1_joined_162 (by decide) ?_
              obtain rfl := tx_1 h
              exact W.lret hx hb hr (fun t ht hW => ⟨⟨_, (), rfl, rfl, by rw [ht]; exact hP, hD⟩, hS.F ht⟩) hS.2.2 dX1_joined_163
            · have h := tx_pos c12 h
              refine lv_lconst (v := 1) hx hb dX1_joined_158 (by decide) ?_
              refine lv_goto (tgt := 163) hx hb dX1_joined_159 (by decide) ?_
              obtain rfl := tx_1 h
              exact W.lret hx hb hr (fun t ht hW => ⟨⟨_, (), rfl, rfl, by rw [ht]; exact hP, hD⟩, hS.F ht⟩) hS.2.2 dX1_joined_163
          · have h := tx_neg c11 h
            by_cases c13 : x0 = 32
            · have h := tx_pos c13 h
              refine lv_tableIn (off := 163) (tgt := 164) hx hb dX1_joined_1 (by rw [c13]; decide) (by rw [c13]; decide) (by rw [c13]; decide) (by decide) ?_
              refine lv_lload_n hx hb dX1_joined_164 rfl (lv_at hl 1 rfl) ?_
              refine lv_lload_n hx hb dX1_joined_165 rfl (lv_at hl 2 rfl) ?_
              refine W.lcmp hx hb dX1_joined_166 ?_
              refine lv_if_eq (tgt := 174) hx hb dX1_joined_167 (by decide) (fun c14 => ?_) (fun c14 => ?_)
              · have h := tx_pos c14 h
                refine lv_lconst (v := 0) hx hb dX1_joined_174 (by decide) ?_
                obtain rfl := tx_1 h
                exact W.lret hx hb hr (fun t ht hW => ⟨⟨_, (), rfl, rfl, by rw [ht]; exact hP, hD⟩, hS.F ht⟩) hS.2.2 dX1_joined_175
              · have h := tx_neg c14 h
                refine lv_lconst (v := 1) hx hb dX1_joined_170 (by decide) ?_
                refine lv_goto (tgt := 175) hx hb dX1_joined_171 (by decide) ?_
                obtain rfl := tx_1 h
                exact W.lret hx hb hr (fun t ht hW => ⟨⟨_, (), rfl, rfl, by rw [ht]; exact hP, hD⟩, hS.F ht⟩) hS.2.2 dX1_joined_175
            · have h := tx_neg c13 h
              by_cases c15 : x0 = 33
              · have h := tx_pos c15 h
                refine lv_tableIn (off := 175) (tgt := 176) hx hb dX1_joined_1 (by rw [c15]; decide) (by rw [c15]; decide) (by rw [c15]; decide) (by decide) ?_
                refine lv_lload_n hx hb dX1_joined_176 rfl (lv_at hl 1 rfl) ?_
                refine lv_lload_n hx hb dX1_joined_177 rfl (lv_at hl 2 rfl) ?_
                refine W.lcmp hx hb dX1_joined_178 ?_
                refine lv_if_lt (tgt := 186) hx hb dX1_joined_179 (by decide) (fun c16 => ?_) (fun c16 => ?_)
                · have h := tx_pos c16 h
                  refine lv_lconst (v := 0) hx hb dX1_joined_186 (by decide) ?_
                  obtain rfl := tx_1 h
                  exact W.lret hx hb hr (fun t ht hW => ⟨⟨_, (), rfl, rfl, by rw [ht]; exact hP, hD⟩, hS.F ht⟩) hS.2.2 dX1_joined_187
                · have h := tx_neg c16 h
                  refine lv_lconst (v := 1) hx hb dX1_joined_182 (by decide) ?_
                  refine lv_goto (tgt := 187) hx hb dX1_joined_183 (by decide) ?_
                  obtain rfl := tx_1 h
                  exact W.lret hx hb hr (fun t ht hW => ⟨⟨_, (), rfl, rfl, by rw [ht]; exact hP, hD⟩, hS.F ht⟩) hS.2.2 dX1_joined_187
              · have h := tx_neg c15 h
                by_cases c17 : x0 = 34
                · have h := tx_pos c17 h
                  refine lv_tableIn (off := 187) (tgt := 188) hx hb dX1_joined_1 (by rw [c17]; decide) (by rw [c17]; decide) (by rw [c17]; decide) (by decide) ?_
                  refine lv_lload_n hx hb dX1_joined_188 rfl (lv_at hl 1 rfl) ?_
                  refine lv_lload_n hx hb dX1_joined_189 rfl (lv_at hl 2 rfl) ?_
                  refine W.lcmp hx hb dX1_joined_190 ?_
                  refine lv_if_le (tgt := 198) hx hb dX1_joined_191 (by decide) (fun c18 => ?_) (fun c18 => ?_)
                  · have h := tx_pos c18 h
                    refine lv_lconst (v := 0) hx hb dX1_joined_198 (by decide) ?_
                    obtain rfl := tx_1 h
                    exact W.lret hx hb hr (fun t ht hW => ⟨⟨_, (), rfl, rfl, by rw [ht]; exact hP, hD⟩, hS.F ht⟩) hS.2.2 dX1_joined_199
                  · have h := tx_neg c18 h
                    refine lv_lconst (v := 1) hx hb dX1_joined_194 (by decide) ?_
                    refine lv_goto (tgt := 199) hx hb dX1_joined_195 (by decide) ?_
                    obtain rfl := tx_1 h
                    exact W.lret hx hb hr (fun t ht hW => ⟨⟨_, (), rfl, rfl, by rw [ht]; exact hP, hD⟩, hS.F ht⟩) hS.2.2 dX1_joined_199
                · have h := tx_neg c17 h
                  by_cases c19 : x0 = 35
                  · have h := tx_pos c19 h
                    refine lv_tableIn (off := 199) (tgt := 200) hx hb dX1_joined_1 (by rw [c19]; decide) (by rw [c19]; decide) (by rw [c19]; decide) (by decide) ?_
                    refine lv_lload_n hx hb dX1_joined_200 rfl (lv_at hl 1 rfl) ?_
                    refine lv_lload_n hx hb dX1_joined_201 rfl (lv_at hl 2 rfl) ?_
                    refine lv_ladd hx hb dX1_joined_202 ?_
                    obtain rfl := tx_1 h
                    exact W.lret hx hb hr (fun t ht hW => ⟨⟨_, (), rfl, rfl, by rw [ht]; exact hP, hD⟩, hS.F ht⟩) hS.2.2 dX1_joined_203
                  · have h := tx_neg c19 h
                    by_cases c20 : x0 = 36
                    · have h := tx_pos c20 h
                      refine lv_tableIn (off := 203) (tgt := 204) hx hb dX1_joined_1 (by rw [c20]; decide) (by rw [c20]; decide) (by rw [c20]; decide) (by decide) ?_
                      refine lv_lload_n hx hb dX1_joined_204 rfl (lv_at hl 1 rfl) ?_
                      refine lv_lload_n hx hb dX1_joined_205 rfl (lv_at hl 2 rfl) ?_
                      refine lv_lsub hx hb dX1_joined_206 ?_
                      obtain rfl := tx_1 h
                      exact W.lret hx hb hr (fun t ht hW => ⟨⟨_, (), rfl, rfl, by rw [ht]; exact hP, hD⟩, hS.F ht⟩) hS.2.2 dX1_joined_207
                    · have h := tx_neg c20 h
                      by_cases c21 : x0 = 37
                      · have h := tx_pos c21 h
                        refine lv_tableIn (off := 207) (tgt := 208) hx hb dX1_joined_1 (by rw [c21]; decide) (by rw [c21]; decide) (by rw [c21]; decide) (by decide) ?_
                        refine lv_lload_n hx hb dX1_joined_208 rfl (lv_at hl 1 rfl) ?_
                        refine lv_lconst (v := 0) hx hb dX1_joined_209 (by decide) ?_
                        refine W.lcmp hx hb dX1_joined_210 ?_
                        refine lv_if_ne (tgt := 216) hx hb dX1_joined_211 (by decide) (fun c22 => ?_) (fun c22 => ?_)
                        · have h := tx_neg c22 h
                          refine lv_ldc2 (v := 1000000000000) hx hb hown (hT _ kw_34_0) dX1_joined_216 ?_
                          refine lv_lload_n hx hb dX1_joined_219 rfl (lv_at hl 1 rfl) ?_
                          refine lv_lconst (v := 0) hx hb dX1_joined_220 (by decide) ?_
                          refine W.lcmp hx hb dX1_joined_221 ?_
                          refine lv_if_ge (tgt := 230) hx hb dX1_joined_222 (by decide) (fun c23 => ?_) (fun c23 => ?_)
                          · have h := tx_pos c23 h
                            refine lv_lload_n hx hb dX1_joined_230 rfl (lv_at hl 1 rfl) ?_
                            exact w_X1_joined_J231 F x1 x3 x1 1000000000000 H locs ls h hP hD hS (lv_sub hl [1, 2] rfl)
                          · have h := tx_neg c23 h
                            refine lv_lload_n hx hb dX1_joined_225 rfl (lv_at hl 1 rfl) ?_
                            refine lv_lneg hx hb dX1_joined_226 ?_
                            refine lv_goto (tgt := 231) hx hb dX1_joined_227 (by decide) ?_
                            exact w_X1_joined_J231 F x1 x3 (-x1) 1000000000000 H locs ls h hP hD hS (lv_sub hl [1, 2] rfl)
                        · have h := tx_pos c22 h
                          refine lv_lconst (v := 0) hx hb dX1_joined_214 (by decide) ?_
                          obtain rfl := tx_1 h
                          exact W.lret hx hb hr (fun t ht hW => ⟨⟨_, (), rfl, rfl, by rw [ht]; exact hP, hD⟩, hS.F ht⟩) hS.2.2 dX1_joined_215
                      · have h := tx_neg c21 h
                        have kc1 := tq_eqn (a := x0.toInt) (b := 19) rfl (by decide) c1
                        have kc4 := tq_eqn (a := x0.toInt) (b := 20) rfl (by decide) c4
                        have kc7 := tq_eqn (a := x0.toInt) (b := 29) rfl (by decide) c7
                        have kc9 := tq_eqn (a := x0.toInt) (b := 30) rfl (by decide) c9
                        have kc11 := tq_eqn (a := x0.toInt) (b := 31) rfl (by decide) c11
                        have kc13 := tq_eqn (a := x0.toInt) (b := 32) rfl (by decide) c13
                        have kc15 := tq_eqn (a := x0.toInt) (b := 33) rfl (by decide) c15
                        have kc17 := tq_eqn (a := x0.toInt) (b := 34) rfl (by decide) c17
                        have kc19 := tq_eqn (a := x0.toInt) (b := 35) rfl (by decide) c19
                        have kc20 := tq_eqn (a := x0.toInt) (b := 36) rfl (by decide) c20
                        have kc21 := tq_eqn (a := x0.toInt) (b := 37) rfl (by decide) c21
                        rcases (show (x0.toInt < 19 ∨ 37 < x0.toInt) ∨ x0.toInt = 21 ∨ x0.toInt = 22 ∨ x0.toInt = 23 ∨ x0.toInt = 24 ∨ x0.toInt = 25 ∨ x0.toInt = 26 ∨ x0.toInt = 27 ∨ x0.toInt = 28 by omega) with k30 | k30 | k30 | k30 | k30 | k30 | k30 | k30 | k30
                        · refine lv_tableOut (tgt := 259) hx hb dX1_joined_1 k30 (by decide) ?_
                          refine lv_lload_n hx hb dX1_joined_259 rfl (lv_at hl 2 rfl) ?_
                          refine lv_lconst (v := 0) hx hb dX1_joined_260 (by decide) ?_
                          refine W.lcmp hx hb dX1_joined_261 ?_
                          refine lv_if_ne (tgt := 271) hx hb dX1_joined_262 (by decide) (fun c28 => ?_) (fun c28 => ?_)
                          · have h := tx_neg c28 h
                            refine lv_lload_n hx hb dX1_joined_271 rfl (lv_at hl 1 rfl) ?_
                            refine lv_lload_n hx hb dX1_joined_272 rfl (lv_at hl 2 rfl) ?_
                            obtain ⟨g29, h⟩ := tx_ck h
                            refine lv_ldiv hx hb dX1_joined_273 (tx_nzl g29) ?_
                            obtain rfl := tx_1 h
                            exact W.lret hx hb hr (fun t ht hW => ⟨⟨_, (), rfl, rfl, by rw [ht]; exact hP, hD⟩, hS.F ht⟩) hS.2.2 dX1_joined_274
                          · have h := tx_pos c28 h
                            refine lv_ldc2 (v := (-9223372036854775808)) hx hb hown (hT _ kw_34_1) dX1_joined_265 ?_
                            refine lv_goto (tgt := 274) hx hb dX1_joined_268 (by decide) ?_
                            obtain rfl := tx_1 h
                            exact W.lret hx hb hr (fun t ht hW => ⟨⟨_, (), rfl, rfl, by rw [ht]; exact hP, hD⟩, hS.F ht⟩) hS.2.2 dX1_joined_274
                        · refine lv_tableIn (off := 258) (tgt := 259) hx hb dX1_joined_1 (by omega) (by omega) (by rw [k30]; rfl) (by decide) ?_
                          refine lv_lload_n hx hb dX1_joined_259 rfl (lv_at hl 2 rfl) ?_
                          refine lv_lconst (v := 0) hx hb dX1_joined_260 (by decide) ?_
                          refine W.lcmp hx hb dX1_joined_261 ?_
                          refine lv_if_ne (tgt := 271) hx hb dX1_joined_262 (by decide) (fun c28 => ?_) (fun c28 => ?_)
                          · have h := tx_neg c28 h
                            refine lv_lload_n hx hb dX1_joined_271 rfl (lv_at hl 1 rfl) ?_
                            refine lv_lload_n hx hb dX1_joined_272 rfl (lv_at hl 2 rfl) ?_
                            obtain ⟨g29, h⟩ := tx_ck h
                            refine lv_ldiv hx hb dX1_joined_273 (tx_nzl g29) ?_
                            obtain rfl := tx_1 h
                            exact W.lret hx hb hr (fun t ht hW => ⟨⟨_, (), rfl, rfl, by rw [ht]; exact hP, hD⟩, hS.F ht⟩) hS.2.2 dX1_joined_274
                          · have h := tx_pos c28 h
                            refine lv_ldc2 (v := (-9223372036854775808)) hx hb hown (hT _ kw_34_1) dX1_joined_265 ?_
                            refine lv_goto (tgt := 274) hx hb dX1_joined_268 (by decide) ?_
                            obtain rfl := tx_1 h
                            exact W.lret hx hb hr (fun t ht hW => ⟨⟨_, (), rfl, rfl, by rw [ht]; exact hP, hD⟩, hS.F ht⟩) hS.2.2 dX1_joined_274
                        · refine lv_tableIn (off := 258) (tgt := 259) hx hb dX1_joined_1 (by omega) (by omega) (by rw [k30]; rfl) (by decide) ?_
                          refine lv_lload_n hx hb dX1_joined_259 rfl (lv_at hl 2 rfl) ?_
                          refine lv_lconst (v := 0) hx hb dX1_joined_260 (by decide) ?_
                          refine W.lcmp hx hb dX1_joined_261 ?_
                          refine lv_if_ne (tgt := 271) hx hb dX1_joined_262 (by decide) (fun c28 => ?_) (fun c28 => ?_)
                          · have h := tx_neg c28 h
                            refine lv_lload_n hx hb dX1_joined_271 rfl (lv_at hl 1 rfl) ?_
                            refine lv_lload_n hx hb dX1_joined_272 rfl (lv_at hl 2 rfl) ?_
                            obtain ⟨g29, h⟩ := tx_ck h
                            refine lv_ldiv hx hb dX1_joined_273 (tx_nzl g29) ?_
                            obtain rfl := tx_1 h
                            exact W.lret hx hb hr (fun t ht hW => ⟨⟨_, (), rfl, rfl, by rw [ht]; exact hP, hD⟩, hS.F ht⟩) hS.2.2 dX1_joined_274
                          · have h := tx_pos c28 h
                            refine lv_ldc2 (v := (-9223372036854775808)) hx hb hown (hT _ kw_34_1) dX1_joined_265 ?_
                            refine lv_goto (tgt := 274) hx hb dX1_joined_268 (by decide) ?_
                            obtain rfl := tx_1 h
                            exact W.lret hx hb hr (fun t ht hW => ⟨⟨_, (), rfl, rfl, by rw [ht]; exact hP, hD⟩, hS.F ht⟩) hS.2.2 dX1_joined_274
                        · refine lv_tableIn (off := 258) (tgt := 259) hx hb dX1_joined_1 (by omega) (by omega) (by rw [k30]; rfl) (by decide) ?_
                          refine lv_lload_n hx hb dX1_joined_259 rfl (lv_at hl 2 rfl) ?_
                          refine lv_lconst (v := 0) hx hb dX1_joined_260 (by decide) ?_
                          refine W.lcmp hx hb dX1_joined_261 ?_
                          refine lv_if_ne (tgt := 271) hx hb dX1_joined_262 (by decide) (fun c28 => ?_) (fun c28 => ?_)
                          · have h := tx_neg c28 h
                            refine lv_lload_n hx hb dX1_joined_271 rfl (lv_at hl 1 rfl) ?_
                            refine lv_lload_n hx hb dX1_joined_272 rfl (lv_at hl 2 rfl) ?_
                            obtain ⟨g29, h⟩ := tx_ck h
                            refine lv_ldiv hx hb dX1_joined_273 (tx_nzl g29) ?_
                            obtain rfl := tx_1 h
                            exact W.lret hx hb hr (fun t ht hW => ⟨⟨_, (), rfl, rfl, by rw [ht]; exact hP, hD⟩, hS.F ht⟩) hS.2.2 dX1_joined_274
                          · have h := tx_pos c28 h
                            refine lv_ldc2 (v := (-9223372036854775808)) hx hb hown (hT _ kw_34_1) dX1_joined_265 ?_
                            refine lv_goto (tgt := 274) hx hb dX1_joined_268 (by decide) ?_
                            obtain rfl := tx_1 h
                            exact W.lret hx hb hr (fun t ht hW => ⟨⟨_, (), rfl, rfl, by rw [ht]; exact hP, hD⟩, hS.F ht⟩) hS.2.2 dX1_joined_274
                        · refine lv_tableIn (off := 258) (tgt := 259) hx hb dX1_joined_1 (by omega) (by omega) (by rw [k30]; rfl) (by decide) ?_
                          refine lv_lload_n hx hb dX1_joined_259 rfl (lv_at hl 2 rfl) ?_
                          refine lv_lconst (v := 0) hx hb dX1_joined_260 (by decide) ?_
                          refine W.lcmp hx hb dX1_joined_261 ?_
                          refine lv_if_ne (tgt := 271) hx hb dX1_joined_262 (by decide) (fun c28 => ?_) (fun c28 => ?_)
                          · have h := tx_neg c28 h
                            refine lv_lload_n hx hb dX1_joined_271 rfl (lv_at hl 1 rfl) ?_
                            refine lv_lload_n hx hb dX1_joined_272 rfl (lv_at hl 2 rfl) ?_
                            obtain ⟨g29, h⟩ := tx_ck h
                            refine lv_ldiv hx hb dX1_joined_273 (tx_nzl g29) ?_
                            obtain rfl := tx_1 h
                            exact W.lret hx hb hr (fun t ht hW => ⟨⟨_, (), rfl, rfl, by rw [ht]; exact hP, hD⟩, hS.F ht⟩) hS.2.2 dX1_joined_274
                          · have h := tx_pos c28 h
                            refine lv_ldc2 (v := (-9223372036854775808)) hx hb hown (hT _ kw_34_1) dX1_joined_265 ?_
                            refine lv_goto (tgt := 274) hx hb dX1_joined_268 (by decide) ?_
                            obtain rfl := tx_1 h
                            exact W.lret hx hb hr (fun t ht hW => ⟨⟨_, (), rfl, rfl, by rw [ht]; exact hP, hD⟩, hS.F ht⟩) hS.2.2 dX1_joined_274
                        · refine lv_tableIn (off := 258) (tgt := 259) hx hb dX1_joined_1 (by omega) (by omega) (by rw [k30]; rfl) (by decide) ?_
                          refine lv_lload_n hx hb dX1_joined_259 rfl (lv_at hl 2 rfl) ?_
                          refine lv_lconst (v := 0) hx hb dX1_joined_260 (by decide) ?_
                          refine W.lcmp hx hb dX1_joined_261 ?_
                          refine lv_if_ne (tgt := 271) hx hb dX1_joined_262 (by decide) (fun c28 => ?_) (fun c28 => ?_)
                          · have h := tx_neg c28 h
                            refine lv_lload_n hx hb dX1_joined_271 rfl (lv_at hl 1 rfl) ?_
                            refine lv_lload_n hx hb dX1_joined_272 rfl (lv_at hl 2 rfl) ?_
                            obtain ⟨g29, h⟩ := tx_ck h
                            refine lv_ldiv hx hb dX1_joined_273 (tx_nzl g29) ?_
                            obtain rfl := tx_1 h
                            exact W.lret hx hb hr (fun t ht hW => ⟨⟨_, (), rfl, rfl, by rw [ht]; exact hP, hD⟩, hS.F ht⟩) hS.2.2 dX1_joined_274
                          · have h := tx_pos c28 h
                            refine lv_ldc2 (v := (-9223372036854775808)) hx hb hown (hT _ kw_34_1) dX1_joined_265 ?_
                            refine lv_goto (tgt := 274) hx hb dX1_joined_268 (by decide) ?_
                            obtain rfl := tx_1 h
                            exact W.lret hx hb hr (fun t ht hW => ⟨⟨_, (), rfl, rfl, by rw [ht]; exact hP, hD⟩, hS.F ht⟩) hS.2.2 dX1_joined_274
                        · refine lv_tableIn (off := 258) (tgt := 259) hx hb dX1_joined_1 (by omega) (by omega) (by rw [k30]; rfl) (by decide) ?_
                          refine lv_lload_n hx hb dX1_joined_259 rfl (lv_at hl 2 rfl) ?_
                          refine lv_lconst (v := 0) hx hb dX1_joined_260 (by decide) ?_
                          refine W.lcmp hx hb dX1_joined_261 ?_
                          refine lv_if_ne (tgt := 271) hx hb dX1_joined_262 (by decide) (fun c28 => ?_) (fun c28 => ?_)
                          · have h := tx_neg c28 h
                            refine lv_lload_n hx hb dX1_joined_271 rfl (lv_at hl 1 rfl) ?_
                            refine lv_lload_n hx hb dX1_joined_272 rfl (lv_at hl 2 rfl) ?_
                            obtain ⟨g29, h⟩ := tx_ck h
                            refine lv_ldiv hx hb dX1_joined_273 (tx_nzl g29) ?_
                            obtain rfl := tx_1 h
                            exact W.lret hx hb hr (fun t ht hW => ⟨⟨_, (), rfl, rfl, by rw [ht]; exact hP, hD⟩, hS.F ht⟩) hS.2.2 dX1_joined_274
                          · have h := tx_pos c28 h
                            refine lv_ldc2 (v := (-9223372036854775808)) hx hb hown (hT _ kw_34_1) dX1_joined_265 ?_
                            refine lv_goto (tgt := 274) hx hb dX1_joined_268 (by decide) ?_
                            obtain rfl := tx_1 h
                            exact W.lret hx hb hr (fun t ht hW => ⟨⟨_, (), rfl, rfl, by rw [ht]; exact hP, hD⟩, hS.F ht⟩) hS.2.2 dX1_joined_274
                        · refine lv_tableIn (off := 258) (tgt := 259) hx hb dX1_joined_1 (by omega) (by omega) (by rw [k30]; rfl) (by decide) ?_
                          refine lv_lload_n hx hb dX1_joined_259 rfl (lv_at hl 2 rfl) ?_
                          refine lv_lconst (v := 0) hx hb dX1_joined_260 (by decide) ?_
                          refine W.lcmp hx hb dX1_joined_261 ?_
                          refine lv_if_ne (tgt := 271) hx hb dX1_joined_262 (by decide) (fun c28 => ?_) (fun c28 => ?_)
                          · have h := tx_neg c28 h
                            refine lv_lload_n hx hb dX1_joined_271 rfl (lv_at hl 1 rfl) ?_
                            refine lv_lload_n hx hb dX1_joined_272 rfl (lv_at hl 2 rfl) ?_
                            obtain ⟨g29, h⟩ := tx_ck h
                            refine lv_ldiv hx hb dX1_joined_273 (tx_nzl g29) ?_
                            obtain rfl := tx_1 h
                            exact W.lret hx hb hr (fun t ht hW => ⟨⟨_, (), rfl, rfl, by rw [ht]; exact hP, hD⟩, hS.F ht⟩) hS.2.2 dX1_joined_274
                          · have h := tx_pos c28 h
                            refine lv_ldc2 (v := (-9223372036854775808)) hx hb hown (hT _ kw_34_1) dX1_joined_265 ?_
                            refine lv_goto (tgt := 274) hx hb dX1_joined_268 (by decide) ?_
                            obtain rfl := tx_1 h
                            exact W.lret hx hb hr (fun t ht hW => ⟨⟨_, (), rfl, rfl, by rw [ht]; exact hP, hD⟩, hS.F ht⟩) hS.2.2 dX1_joined_274
                        · refine lv_tableIn (off := 258) (tgt := 259) hx hb dX1_joined_1 (by omega) (by omega) (by rw [k30]; rfl) (by decide) ?_
                          refine lv_lload_n hx hb dX1_joined_259 rfl (lv_at hl 2 rfl) ?_
                          refine lv_lconst (v := 0) hx hb dX1_joined_260 (by decide) ?_
                          refine W.lcmp hx hb dX1_joined_261 ?_
                          refine lv_if_ne (tgt := 271) hx hb dX1_joined_262 (by decide) (fun c28 => ?_) (fun c28 => ?_)
                          · have h := tx_neg c28 h
                            refine lv_lload_n hx hb dX1_joined_271 rfl (lv_at hl 1 rfl) ?_
                            refine lv_lload_n hx hb dX1_joined_272 rfl (lv_at hl 2 rfl) ?_
                            obtain ⟨g29, h⟩ := tx_ck h
                            refine lv_ldiv hx hb dX1_joined_273 (tx_nzl g29) ?_
                            obtain rfl := tx_1 h
                            exact W.lret hx hb hr (fun t ht hW => ⟨⟨_, (), rfl, rfl, by rw [ht]; exact hP, hD⟩, hS.F ht⟩) hS.2.2 dX1_joined_274
                          · have h := tx_pos c28 h
                            refine lv_ldc2 (v := (-9223372036854775808)) hx hb hown (hT _ kw_34_1) dX1_joined_265 ?_
                            refine lv_goto (tgt := 274) hx hb dX1_joined_268 (by decide) ?_
                            obtain rfl := tx_1 h
                            exact W.lret hx hb hr (fun t ht hW => ⟨⟨_, (), rfl, rfl, by rw [ht]; exact hP, hD⟩, hS.F ht⟩) hS.2.2 dX1_joined_274
abbrev G_X1_value (p : Program) (l : Launch) (e : Env) (s : State) (m : MethodId) (below : List Frame) (meth : Method) (c : Code) (G : va_G) (cA : Nat → ClassId) (A : Nat → Prop) (ta : Nat → Nat) (pa : Nat → Nat) (j : Nat) (T : Tr) (P : Tr) (r0 : Int64) (L' : Lo) (H : Heap) (locs : List Loc) (g : JFrame) : Prop := W p l e (headSpec (.code yX1_value cX1_value 8 (some .long) :: T0) ({ frames := 1, cells := 0, slots := 0, locals := 26 } : Room)).room s m ([.ref (pa (30 + 3 * j)), .ref (ta 19)] : List Value).toArray below meth c H locs 0 0 (MQ below (tqQl G cA (fun (r : Int64) (_ : Unit) => r = r0) (fun (_ : Unit) => wTP cA ta pa T P (L')) A) ([.ref (pa (30 + 3 * j)), .ref (ta 19)] : List Value).toArray s 0 0 A) g
set_option maxHeartbeats 4000000 in
set_option maxRecDepth 100000 in
theorem w_X1_value_J190 {p : Program} {l : Launch} {e : Env} {s : State} {m : MethodId} {below : List Frame} {meth : Method} {c : Code} {G : va_G} {cA : Nat → ClassId} {A : Nat → Prop} {ta : Nat → Nat} {pa : Nat → Nat} {j : Nat} {T : Tr} {P : Tr} {r0 : Int64} {L' : Lo} (F : tF p s m ([.ref (pa (30 + 3 * j)), .ref (ta 19)] : List Value).toArray meth c G cA A RX1 cX1_value 8 (some .long)) (hj : j < 3)   (x2 : Int32) (L : Lo) (H : Heap) (locs : List Loc) (ls : Array Slot) (h : fJ_X1_value_J190 j T P x2 L = some (r0, L')) (hP : va_P G vwCl (wTP cA ta pa T P L) H) (hD : va_D A (wTP cA ta pa T P L)) (hS : va_S A s.heap H locs) (hl : lv_has ls 8 [(0, .ref (pa (30 + 3 * j))), (2, .int x2)]) : G_X1_value p l e s m below meth c G cA A ta pa j T P r0 L' H locs (F0 m 190 ls []) := by
  obtain ⟨hx, hb, hr, hml, hT, hown, hlocks, hK, hN, hA⟩ := id F
  unfold fJ_X1_value_J190 at h
  refine lv_iload_n hx hb dX1_value_190 rfl (lv_at hl 1 rfl) ?_
  refine lv_iconst (v := 1) hx hb dX1_value_191 (by decide) ?_
  refine lv_icmp_ne (tgt := 204) hx hb dX1_value_192 (by decide) (fun c2 => ?_) (fun c2 => ?_)
  · have h := tx_neg c2 h
    refine lv_ldc2 (v := (-9223372036854775808)) hx hb hown (hT _ kw_34_1) dX1_value_204 ?_
    obtain ⟨rfl, rfl⟩ := tx_2 h
    exact W.lret hx hb hr (fun t ht hW => ⟨⟨_, (), rfl, rfl, by rw [ht]; exact hP, hD⟩, hS.F ht⟩) hS.2.2 dX1_value_207
  · have h := tx_pos c2 h
    refine lv_aload_n hx hb dX1_value_195 rfl (lv_at hl 0 rfl) ?_
    refine va_get (D := G) (ci := 1) (v := .ref (pa (32 + 3 * j))) (C := RX1) (T := TX1) (N := 3) hx hb hT ku_1 hown hK hP (25 + 3 * j) (aLTP_0 hj) rfl 2 (by decide) (hT _ kw_6_13) (fun _ h9 => h9) rfl dX1_value_196 ?_
    refine lv_iconst (v := 0) hx hb dX1_value_199 (by decide) ?_
    refine va_lald (i := 0) hx hb hK hP (27 + 3 * j) 2 (aLTP_2 hj) rfl (tq_in (by decide)) dX1_value_200 ?_
    refine tq_l (w := (L (32 + 3 * j) 0)) rfl ?_
    refine lv_goto (tgt := 207) hx hb dX1_value_201 (by decide) ?_
    obtain ⟨rfl, rfl⟩ := tx_2 h
    exact W.lret hx hb hr (fun t ht hW => ⟨⟨_, (), rfl, rfl, by rw [ht]; exact hP, hD⟩, hS.F ht⟩) hS.2.2 dX1_value_207
set_option maxHeartbeats 4000000 in
set_option maxRecDepth 100000 in
theorem w_X1_value_J123 {p : Program} {l : Launch} {e : Env} {s : State} {m : MethodId} {below : List Frame} {meth : Method} {c : Code} {G : va_G} {cA : Nat → ClassId} {A : Nat → Prop} {ta : Nat → Nat} {pa : Nat → Nat} {j : Nat} {T : Tr} {P : Tr} {r0 : Int64} {L' : Lo} (F : tF p s m ([.ref (pa (30 + 3 * j)), .ref (ta 19)] : List Value).toArray meth c G cA A RX1 cX1_value 8 (some .long)) (hj : j < 3) (k4 : Int32 → Int32 → Lo → Option (Int64 × Lo)) (hk4 : ∀ (x2 : Int32) (x3 : Int32) (L : Lo) (H : Heap) (locs : List Loc) (ls : Array Slot), k4 x2 x3 L = some (r0, L') → va_P G vwCl (wTP cA ta pa T P L) H → va_D A (wTP cA ta pa T P L) → va_S A s.heap H locs → lv_has ls 8 [(0, .ref (pa (30 + 3 * j))), (1, .ref (ta 19)), (2, .int x2), (3, .int x3)] → G_X1_value p l e s m below meth c G cA A ta pa j T P r0 L' H locs (F0 m 4 ls [])) (x2 : Int32) (x3 : Int32) (x5 : Int32) (L : Lo) (H : Heap) (locs : List Loc) (ls : Array Slot) (h : fJ_X1_value_J123 k4 j T P x2 x3 x5 L = some (r0, L')) (hP : va_P G vwCl (wTP cA ta pa T P L) H) (hD : va_D A (wTP cA ta pa T P L)) (hS : va_S A s.heap H locs) (hl : lv_has ls 8 [(0, .ref (pa (30 + 3 * j))), (1, .ref (ta 19)), (2, .int x2), (3, .int x3), (5, .int x5)]) : G_X1_value p l e s m below meth c G cA A ta pa j T P r0 L' H locs (F0 m 123 ls []) := by
  obtain ⟨hx, hb, hr, hml, hT, hown, hlocks, hK, hN, hA⟩ := id F
  unfold fJ_X1_value_J123 at h
  refine lv_iload_n hx hb dX1_value_123 rfl (lv_at hl 2 rfl) ?_
  refine lv_iconst (v := 2) hx hb dX1_value_124 (by decide) ?_
  refine lv_icmp_lt (tgt := 184) hx hb dX1_value_125 (by decide) (fun c9 => ?_) (fun c9 => ?_)
  · have h := tx_pos c9 h
    obtain ⟨y10, ey10, h⟩ := tx_lt h
    refine lv_iinc (v := y10) (lv' := [(3, .int y10), (0, .ref (pa (30 + 3 * j))), (1, .ref (ta 19)), (2, .int x2), (5, .int x5)]) hx hb dX1_value_184 hl (k := 3) rfl ey10 (by decide) rfl (fun ls hl => ?_)
    refine lv_goto (tgt := 4) hx hb dX1_value_187 (by decide) ?_
    exact hk4 x2 y10 L H locs ls h hP hD hS (lv_sub hl [1, 2, 3, 0] rfl)
  · have h := tx_neg c9 h
    obtain ⟨y11, ey11, h⟩ := tx_lt h
    refine lv_iinc (v := y11) (lv' := [(2, .int y11), (0, .ref (pa (30 + 3 * j))), (1, .ref (ta 19)), (3, .int x3), (5, .int x5)]) hx hb dX1_value_128 hl (k := 2) rfl ey11 (by decide) rfl (fun ls hl => ?_)
    refine lv_iload hx hb dX1_value_131 (lv_at hl 4 rfl) ?_
    refine lv_aload_n hx hb dX1_value_133 rfl (lv_at hl 1 rfl) ?_
    refine va_get (D := G) (ci := 1) (v := .ref (pa (32 + 3 * j))) (C := RX1) (T := TX1) (N := 3) hx hb hT ku_1 hown hK hP (25 + 3 * j) (aLTP_0 hj) rfl 2 (by decide) (hT _ kw_6_13) (fun _ h9 => h9) rfl dX1_value_134 ?_
    refine lv_iload_n hx hb dX1_value_137 rfl (lv_at hl 0 rfl) ?_
    refine lv_iconst (v := 1) hx hb dX1_value_138 (by decide) ?_
    refine lv_isub hx hb dX1_value_139 ?_
    obtain ⟨g12, h⟩ := tx_ck h
    refine va_lald (i := (y11 - 1)) hx hb hK hP (27 + 3 * j) 2 (aLTP_2 hj) rfl (tx_in g12) dX1_value_140 ?_
    refine lv_aload_n hx hb dX1_value_141 rfl (lv_at hl 1 rfl) ?_
    refine va_get (D := G) (ci := 1) (v := .ref (pa (32 + 3 * j))) (C := RX1) (T := TX1) (N := 3) hx hb hT ku_1 hown hK hP (25 + 3 * j) (aLTP_0 hj) rfl 2 (by decide) (hT _ kw_6_13) (fun _ h9 => h9) rfl dX1_value_142 ?_
    refine lv_iload_n hx hb dX1_value_145 rfl (lv_at hl 0 rfl) ?_
    obtain ⟨g13, h⟩ := tx_ck h
    refine va_lald (i := y11) hx hb hK hP (27 + 3 * j) 2 (aLTP_2 hj) rfl (tx_in g13) dX1_value_146 ?_
    obtain ⟨r14, hc15, h⟩ := tx_bd h
    refine tw_cl (tw_none (ws := wTP cA ta pa T P L)) hP hD hS hA (va_runS (As := [.int x5, .long (L (32 + 3 * j) (y11 - 1).toNatClampNeg), .long (L (32 + 3 * j) y11.toNatClampNeg)]) (rest := []) ⟨hx, hb, hml, hown, hT⟩ (c_X1_joined l G cA H.size x5 (L (32 + 3 * j) (y11 - 1).toNatClampNeg) (L (32 + 3 * j) y11.toNatClampNeg)  r14 hc15) (va_cwS 3 hT (tq_gS kw_34_2 kw_34_3 kw_6_8 kw_34_4) rfl rfl rfl dkdS_yX1_joined_3 ⟨Nat.le_of_ble_eq_true rfl, Nat.le_of_ble_eq_true rfl⟩) (tw_pre (tw_none (ws := wTP cA ta pa T P L)) hP hD hK hN) rfl rfl hl.1 rfl (lv_room (Nat.le_of_ble_eq_true rfl)) dX1_value_147 ⟨Nat.le_of_ble_eq_true rfl, Nat.le_of_ble_eq_true rfl⟩) (fun _ _ H locs z16 hP hD hS => ?_)
    have z16 := z16.symm
    subst z16
    have hP : va_P G vwCl (wTP cA ta pa T P L) H := hP
    have hD : va_D A (wTP cA ta pa T P L) := hD
    refine lv_lstore (lv' := [(6, .long r14), (2, .int y11), (0, .ref (pa (30 + 3 * j))), (1, .ref (ta 19)), (3, .int x3), (5, .int x5)]) hx hb dX1_value_150 hl (by decide) rfl (fun ls hl => ?_)
    refine lv_lload hx hb dX1_value_152 (lv_at hl 0 rfl) ?_
    refine lv_ldc2 (v := (-1000000000000)) hx hb hown (hT _ kw_33_23) dX1_value_154 ?_
    refine W.lcmp hx hb dX1_value_157 ?_
    refine lv_if_lt (tgt := 170) hx hb dX1_value_158 (by decide) (fun c17 => ?_) (fun c17 => ?_)
    · have h := tx_pos c17 h
      refine lv_ldc2 (v := (-9223372036854775808)) hx hb hown (hT _ kw_34_1) dX1_value_170 ?_
      obtain ⟨rfl, rfl⟩ := tx_2 h
      exact W.lret hx hb hr (fun t ht hW => ⟨⟨_, (), rfl, rfl, by rw [ht]; exact hP, hD⟩, hS.F ht⟩) hS.2.2 dX1_value_173
    · have h := tx_neg c17 h
      refine lv_lload hx hb dX1_value_161 (lv_at hl 0 rfl) ?_
      refine lv_ldc2 (v := 1000000000000) hx hb hown (hT _ kw_34_0) dX1_value_163 ?_
      refine W.lcmp hx hb dX1_value_166 ?_
      refine lv_if_le (tgt := 174) hx hb dX1_value_167 (by decide) (fun c18 => ?_) (fun c18 => ?_)
      · have h := tx_pos c18 h
        refine lv_aload_n hx hb dX1_value_174 rfl (lv_at hl 2 rfl) ?_
        refine va_get (D := G) (ci := 1) (v := .ref (pa (32 + 3 * j))) (C := RX1) (T := TX1) (N := 3) hx hb hT ku_1 hown hK hP (25 + 3 * j) (aLTP_0 hj) rfl 2 (by decide) (hT _ kw_6_13) (fun _ h9 => h9) rfl dX1_value_175 ?_
        refine lv_iload_n hx hb dX1_value_178 rfl (lv_at hl 1 rfl) ?_
        refine lv_iconst (v := 1) hx hb dX1_value_179 (by decide) ?_
        refine lv_isub hx hb dX1_value_180 ?_
        refine lv_lload hx hb dX1_value_181 (lv_at hl 0 rfl) ?_
        refine va_last (i := (y11 - 1)) hx hb hK hP hD hS (27 + 3 * j) 2 (aLTP_2 hj) rfl (tx_in g12) dX1_value_183 (fun H locs hP hD hS => ?_)
        obtain ⟨L_19, eL_19, h⟩ := tx_lt h
        rw [(sLTP_a2 hj), eL_19] at hP hD
        obtain ⟨y20, ey20, h⟩ := tx_lt h
        refine lv_iinc (v := y20) (lv' := [(3, .int y20), (6, .long r14), (2, .int y11), (0, .ref (pa (30 + 3 * j))), (1, .ref (ta 19)), (5, .int x5)]) hx hb dX1_value_184 hl (k := 4) rfl ey20 (by decide) rfl (fun ls hl => ?_)
        refine lv_goto (tgt := 4) hx hb dX1_value_187 (by decide) ?_
        exact hk4 y11 y20 L_19 H locs ls h hP hD hS (lv_sub hl [3, 4, 2, 0] rfl)
      · have h := tx_neg c18 h
        refine lv_ldc2 (v := (-9223372036854775808)) hx hb hown (hT _ kw_34_1) dX1_value_170 ?_
        obtain ⟨rfl, rfl⟩ := tx_2 h
        exact W.lret hx hb hr (fun t ht hW => ⟨⟨_, (), rfl, rfl, by rw [ht]; exact hP, hD⟩, hS.F ht⟩) hS.2.2 dX1_value_173
set_option maxHeartbeats 4000000 in
set_option maxRecDepth 100000 in
theorem w_X1_value_J119 {p : Program} {l : Launch} {e : Env} {s : State} {m : MethodId} {below : List Frame} {meth : Method} {c : Code} {G : va_G} {cA : Nat → ClassId} {A : Nat → Prop} {ta : Nat → Nat} {pa : Nat → Nat} {j : Nat} {T : Tr} {P : Tr} {r0 : Int64} {L' : Lo} (F : tF p s m ([.ref (pa (30 + 3 * j)), .ref (ta 19)] : List Value).toArray meth c G cA A RX1 cX1_value 8 (some .long)) (hj : j < 3) (k4 : Int32 → Int32 → Lo → Option (Int64 × Lo)) (hk4 : ∀ (x2 : Int32) (x3 : Int32) (L : Lo) (H : Heap) (locs : List Loc) (ls : Array Slot), k4 x2 x3 L = some (r0, L') → va_P G vwCl (wTP cA ta pa T P L) H → va_D A (wTP cA ta pa T P L) → va_S A s.heap H locs → lv_has ls 8 [(0, .ref (pa (30 + 3 * j))), (1, .ref (ta 19)), (2, .int x2), (3, .int x3)] → G_X1_value p l e s m below meth c G cA A ta pa j T P r0 L' H locs (F0 m 4 ls [])) (x2 : Int32) (x3 : Int32) (s0 : Int64) (s1 : Int32) (L : Lo) (H : Heap) (locs : List Loc) (ls : Array Slot) (h : fJ_X1_value_J119 k4 j T P x2 x3 s0 s1 L = some (r0, L')) (hP : va_P G vwCl (wTP cA ta pa T P L) H) (hD : va_D A (wTP cA ta pa T P L)) (hS : va_S A s.heap H locs) (hl : lv_has ls 8 [(0, .ref (pa (30 + 3 * j))), (1, .ref (ta 19)), (2, .int x2), (3, .int x3)]) : G_X1_value p l e s m below meth c G cA A ta pa j T P r0 L' H locs (F0 m 119 ls [.long s0, .int s1, .ref (pa (32 + 3 * j))]) := by
  obtain ⟨hx, hb, hr, hml, hT, hown, hlocks, hK, hN, hA⟩ := id F
  unfold fJ_X1_value_J119 at h
  obtain ⟨g24, h⟩ := tx_ck h
  refine va_last (i := s1) hx hb hK hP hD hS (27 + 3 * j) 2 (aLTP_2 hj) rfl (tx_in g24) dX1_value_119 (fun H locs hP hD hS => ?_)
  obtain ⟨L_25, eL_25, h⟩ := tx_lt h
  rw [(sLTP_a2 hj), eL_25] at hP hD
  refine lv_goto (tgt := 184) hx hb dX1_value_120 (by decide) ?_
  obtain ⟨y26, ey26, h⟩ := tx_lt h
  refine lv_iinc (v := y26) (lv' := [(3, .int y26), (0, .ref (pa (30 + 3 * j))), (1, .ref (ta 19)), (2, .int x2)]) hx hb dX1_value_184 hl (k := 3) rfl ey26 (by decide) rfl (fun ls hl => ?_)
  refine lv_goto (tgt := 4) hx hb dX1_value_187 (by decide) ?_
  exact hk4 x2 y26 L_25 H locs ls h hP hD hS (lv_sub hl [1, 2, 3, 0] rfl)
set_option maxHeartbeats 4000000 in
set_option maxRecDepth 100000 in
theorem w_X1_value_J82 {p : Program} {l : Launch} {e : Env} {s : State} {m : MethodId} {below : List Frame} {meth : Method} {c : Code} {G : va_G} {cA : Nat → ClassId} {A : Nat → Prop} {ta : Nat → Nat} {pa : Nat → Nat} {j : Nat} {T : Tr} {P : Tr} {r0 : Int64} {L' : Lo} (F : tF p s m ([.ref (pa (30 + 3 * j)), .ref (ta 19)] : List Value).toArray meth c G cA A RX1 cX1_value 8 (some .long)) (hj : j < 3) (k4 : Int32 → Int32 → Lo → Option (Int64 × Lo)) (hk4 : ∀ (x2 : Int32) (x3 : Int32) (L : Lo) (H : Heap) (locs : List Loc) (ls : Array Slot), k4 x2 x3 L = some (r0, L') → va_P G vwCl (wTP cA ta pa T P L) H → va_D A (wTP cA ta pa T P L) → va_S A s.heap H locs → lv_has ls 8 [(0, .ref (pa (30 + 3 * j))), (1, .ref (ta 19)), (2, .int x2), (3, .int x3)] → G_X1_value p l e s m below meth c G cA A ta pa j T P r0 L' H locs (F0 m 4 ls [])) (x2 : Int32) (x3 : Int32) (x5 : Int32) (L : Lo) (H : Heap) (locs : List Loc) (ls : Array Slot) (h : fJ_X1_value_J82 k4 j T P x2 x3 x5 L = some (r0, L')) (hP : va_P G vwCl (wTP cA ta pa T P L) H) (hD : va_D A (wTP cA ta pa T P L)) (hS : va_S A s.heap H locs) (hl : lv_has ls 8 [(0, .ref (pa (30 + 3 * j))), (1, .ref (ta 19)), (2, .int x2), (3, .int x3), (5, .int x5)]) : G_X1_value p l e s m below meth c G cA A ta pa j T P r0 L' H locs (F0 m 82 ls []) := by
  obtain ⟨hx, hb, hr, hml, hT, hown, hlocks, hK, hN, hA⟩ := id F
  unfold fJ_X1_value_J82 at h
  refine lv_iload hx hb dX1_value_82 (lv_at hl 4 rfl) ?_
  refine lv_bipush (v := 21) hx hb dX1_value_84 (by decide) ?_
  refine lv_icmp_ne (tgt := 123) hx hb dX1_value_86 (by decide) (fun c8 => ?_) (fun c8 => ?_)
  · have h := tx_neg c8 h
    exact w_X1_value_J123 F hj k4 hk4 x2 x3 x5 L H locs ls h hP hD hS (lv_sub hl [0, 1, 2, 3, 4] rfl)
  · have h := tx_pos c8 h
    refine lv_iload_n hx hb dX1_value_89 rfl (lv_at hl 2 rfl) ?_
    refine lv_iconst (v := 1) hx hb dX1_value_90 (by decide) ?_
    refine lv_icmp_lt (tgt := 123) hx hb dX1_value_91 (by decide) (fun c21 => ?_) (fun c21 => ?_)
    · have h := tx_pos c21 h
      exact w_X1_value_J123 F hj k4 hk4 x2 x3 x5 L H locs ls h hP hD hS (lv_sub hl [0, 1, 2, 3, 4] rfl)
    · have h := tx_neg c21 h
      refine lv_aload_n hx hb dX1_value_94 rfl (lv_at hl 0 rfl) ?_
      refine va_get (D := G) (ci := 1) (v := .ref (pa (32 + 3 * j))) (C := RX1) (T := TX1) (N := 3) hx hb hT ku_1 hown hK hP (25 + 3 * j) (aLTP_0 hj) rfl 2 (by decide) (hT _ kw_6_13) (fun _ h9 => h9) rfl dX1_value_95 ?_
      refine lv_iload_n hx hb dX1_value_98 rfl (lv_at hl 2 rfl) ?_
      refine lv_iconst (v := 1) hx hb dX1_value_99 (by decide) ?_
      refine lv_isub hx hb dX1_value_100 ?_
      refine lv_aload_n hx hb dX1_value_101 rfl (lv_at hl 0 rfl) ?_
      refine va_get (D := G) (ci := 1) (v := .ref (pa (32 + 3 * j))) (C := RX1) (T := TX1) (N := 3) hx hb hT ku_1 hown hK hP (25 + 3 * j) (aLTP_0 hj) rfl 2 (by decide) (hT _ kw_6_13) (fun _ h9 => h9) rfl dX1_value_102 ?_
      refine lv_iload_n hx hb dX1_value_105 rfl (lv_at hl 2 rfl) ?_
      refine lv_iconst (v := 1) hx hb dX1_value_106 (by decide) ?_
      refine lv_isub hx hb dX1_value_107 ?_
      obtain ⟨g22, h⟩ := tx_ck h
      refine va_lald (i := (x2 - 1)) hx hb hK hP (27 + 3 * j) 2 (aLTP_2 hj) rfl (tx_in g22) dX1_value_108 ?_
      refine lv_lconst (v := 0) hx hb dX1_value_109 (by decide) ?_
      refine W.lcmp hx hb dX1_value_110 ?_
      refine lv_if_ne (tgt := 118) hx hb dX1_value_111 (by decide) (fun c23 => ?_) (fun c23 => ?_)
      · have h := tx_neg c23 h
        refine lv_lconst (v := 0) hx hb dX1_value_118 (by decide) ?_
        exact w_X1_value_J119 F hj k4 hk4 x2 x3 0 (x2 - 1) L H locs ls h hP hD hS (lv_sub hl [0, 1, 2, 3] rfl)
      · have h := tx_pos c23 h
        refine lv_lconst (v := 1) hx hb dX1_value_114 (by decide) ?_
        refine lv_goto (tgt := 119) hx hb dX1_value_115 (by decide) ?_
        exact w_X1_value_J119 F hj k4 hk4 x2 x3 1 (x2 - 1) L H locs ls h hP hD hS (lv_sub hl [0, 1, 2, 3] rfl)
set_option maxHeartbeats 4000000 in
set_option maxRecDepth 100000 in
theorem w_X1_value_L4 {p : Program} {l : Launch} {e : Env} {s : State} {m : MethodId} {below : List Frame} {meth : Method} {c : Code} {G : va_G} {cA : Nat → ClassId} {A : Nat → Prop} {ta : Nat → Nat} {pa : Nat → Nat} {j : Nat} {T : Tr} {P : Tr} {r0 : Int64} {L' : Lo} (F : tF p s m ([.ref (pa (30 + 3 * j)), .ref (ta 19)] : List Value).toArray meth c G cA A RX1 cX1_value 8 (some .long)) (hj : j < 3)   (N : Nat) : ∀ (x2 : Int32) (x3 : Int32) (L : Lo) (H : Heap) (locs : List Loc) (ls : Array Slot), lpF (fun _ _ _ => none) (fB_X1_value_L4 j T P) N x2 x3 L = some (r0, L') → va_P G vwCl (wTP cA ta pa T P L) H → va_D A (wTP cA ta pa T P L) → va_S A s.heap H locs → lv_has ls 8 [(0, .ref (pa (30 + 3 * j))), (1, .ref (ta 19)), (2, .int x2), (3, .int x3)] → G_X1_value p l e s m below meth c G cA A ta pa j T P r0 L' H locs (F0 m 4 ls []) := by
  obtain ⟨hx, hb, hr, hml, hT, hown, hlocks, hK, hN, hA⟩ := id F
  induction N with
  | zero =>
    intro x2 x3 L H locs ls h
    have h : (none : Option (Int64 × Lo)) = some (r0, L') := h
    cases h
  | succ N hk4 =>
    intro x2 x3 L H locs ls h hP hD hS hl
    have h : fB_X1_value_L4 j T P (lpF (fun _ _ _ => none) (fB_X1_value_L4 j T P) N) x2 x3 L = some (r0, L') := h
    generalize hk4e : lpF (fun _ _ _ => none) (fB_X1_value_L4 j T P) N = k4 at h hk4
    unfold fB_X1_value_L4 at h
    refine lv_iload_n hx hb dX1_value_4 rfl (lv_at hl 3 rfl) ?_
    refine lv_aload_n hx hb dX1_value_5 rfl (lv_at hl 0 rfl) ?_
    refine va_get (D := G) (ci := 1) (v := .int (P (30 + 3 * j) 1)) (C := RX1) (T := TX1) (N := 3) hx hb hT ku_1 hown hK hP (25 + 3 * j) (aLTP_0 hj) rfl 1 (by decide) (hT _ kw_21_7) (fun _ h9 => h9) rfl dX1_value_6 ?_
    refine lv_icmp_ge (tgt := 190) hx hb dX1_value_9 (by decide) (fun c1 => ?_) (fun c1 => ?_)
    · have h := tx_pos c1 h
      exact w_X1_value_J190 F hj x2 L H locs ls h hP hD hS (lv_sub hl [0, 2] rfl)
    · have h := tx_neg c1 h
      refine lv_aload_n hx hb dX1_value_12 rfl (lv_at hl 0 rfl) ?_
      refine va_get (D := G) (ci := 1) (v := .ref (pa (31 + 3 * j))) (C := RX1) (T := TX1) (N := 3) hx hb hT ku_1 hown hK hP (25 + 3 * j) (aLTP_0 hj) rfl 0 (by decide) (hT _ kw_6_12) (fun _ h9 => h9) rfl dX1_value_13 ?_
      refine lv_iload_n hx hb dX1_value_16 rfl (lv_at hl 3 rfl) ?_
      obtain ⟨g3, h⟩ := tx_ck h
      refine va_iald (i := x3) hx hb hK hP (26 + 3 * j) 0 (aLTP_1 hj) rfl (tx_in g3) dX1_value_17 ?_
      refine lv_topi (fun y4 ey4 => ?_)
      have h := tx_let ey4 h
      refine lv_istore (lv' := [(4, .int y4), (0, .ref (pa (30 + 3 * j))), (1, .ref (ta 19)), (2, .int x2), (3, .int x3)]) hx hb dX1_value_18 hl (by decide) rfl (fun ls hl => ?_)
      refine lv_iload hx hb dX1_value_20 (lv_at hl 0 rfl) ?_
      refine lv_sipush (v := 10000) hx hb dX1_value_22 (by decide) ?_
      refine lv_isub hx hb dX1_value_25 ?_
      refine lv_topi (fun y5 ey5 => ?_)
      have h := tx_let ey5 h
      refine lv_istore (lv' := [(5, .int y5), (4, .int y4), (0, .ref (pa (30 + 3 * j))), (1, .ref (ta 19)), (2, .int x2), (3, .int x3)]) hx hb dX1_value_26 hl (by decide) rfl (fun ls hl => ?_)
      refine lv_iload hx hb dX1_value_28 (lv_at hl 0 rfl) ?_
      refine lv_if_ge (tgt := 48) hx hb dX1_value_30 (by decide) (fun c6 => ?_) (fun c6 => ?_)
      · have h := tx_pos c6 h
        refine lv_iload hx hb dX1_value_48 (lv_at hl 0 rfl) ?_
        refine lv_bipush (v := 22) hx hb dX1_value_50 (by decide) ?_
        refine lv_icmp_lt (tgt := 82) hx hb dX1_value_52 (by decide) (fun c7 => ?_) (fun c7 => ?_)
        · have h := tx_pos c7 h
          exact w_X1_value_J82 F hj k4 hk4 x2 x3 y5 L H locs ls h hP hD hS (lv_sub hl [2, 3, 4, 5, 0] rfl)
        · have h := tx_neg c7 h
          refine lv_iload hx hb dX1_value_55 (lv_at hl 0 rfl) ?_
          refine lv_bipush (v := 28) hx hb dX1_value_57 (by decide) ?_
          refine lv_icmp_gt (tgt := 82) hx hb dX1_value_59 (by decide) (fun c27 => ?_) (fun c27 => ?_)
          · have h := tx_pos c27 h
            exact w_X1_value_J82 F hj k4 hk4 x2 x3 y5 L H locs ls h hP hD hS (lv_sub hl [2, 3, 4, 5, 0] rfl)
          · have h := tx_neg c27 h
            refine lv_aload_n hx hb dX1_value_62 rfl (lv_at hl 2 rfl) ?_
            refine va_get (D := G) (ci := 1) (v := .ref (pa (32 + 3 * j))) (C := RX1) (T := TX1) (N := 3) hx hb hT ku_1 hown hK hP (25 + 3 * j) (aLTP_0 hj) rfl 2 (by decide) (hT _ kw_6_13) (fun _ h9 => h9) rfl dX1_value_63 ?_
            refine lv_iload_n hx hb dX1_value_66 rfl (lv_at hl 4 rfl) ?_
            refine lv_aload_n hx hb dX1_value_67 rfl (lv_at hl 3 rfl) ?_
            refine lv_iload hx hb dX1_value_68 (lv_at hl 0 rfl) ?_
            refine lv_bipush (v := 22) hx hb dX1_value_70 (by decide) ?_
            refine lv_isub hx hb dX1_value_72 ?_
            obtain ⟨g28, h⟩ := tx_ck h
            refine va_iald (i := (y5 - 22)) hx hb hK hP 11 0 rfl rfl (tx_in g28) dX1_value_73 ?_
            refine lv_i2l hx hb dX1_value_74 rfl ?_
            obtain ⟨g29, h⟩ := tx_ck h
            refine va_last (i := x2) hx hb hK hP hD hS (27 + 3 * j) 2 (aLTP_2 hj) rfl (tx_in g29) dX1_value_75 (fun H locs hP hD hS => ?_)
            obtain ⟨L_30, eL_30, h⟩ := tx_lt h
            rw [(sLTP_a2 hj), eL_30] at hP hD
            obtain ⟨y31, ey31, h⟩ := tx_lt h
            refine lv_iinc (v := y31) (lv' := [(2, .int y31), (5, .int y5), (4, .int y4), (0, .ref (pa (30 + 3 * j))), (1, .ref (ta 19)), (3, .int x3)]) hx hb dX1_value_76 hl (k := 4) rfl ey31 (by decide) rfl (fun ls hl => ?_)
            refine lv_goto (tgt := 184) hx hb dX1_value_79 (by decide) ?_
            obtain ⟨y32, ey32, h⟩ := tx_lt h
            refine lv_iinc (v := y32) (lv' := [(3, .int y32), (2, .int y31), (5, .int y5), (4, .int y4), (0, .ref (pa (30 + 3 * j))), (1, .ref (ta 19))]) hx hb dX1_value_184 hl (k := 5) rfl ey32 (by decide) rfl (fun ls hl => ?_)
            refine lv_goto (tgt := 4) hx hb dX1_value_187 (by decide) ?_
            exact hk4 y31 y32 L_30 H locs ls h hP hD hS (lv_sub hl [4, 5, 1, 0] rfl)
      · have h := tx_neg c6 h
        refine lv_aload_n hx hb dX1_value_33 rfl (lv_at hl 2 rfl) ?_
        refine va_get (D := G) (ci := 1) (v := .ref (pa (32 + 3 * j))) (C := RX1) (T := TX1) (N := 3) hx hb hT ku_1 hown hK hP (25 + 3 * j) (aLTP_0 hj) rfl 2 (by decide) (hT _ kw_6_13) (fun _ h9 => h9) rfl dX1_value_34 ?_
        refine lv_iload_n hx hb dX1_value_37 rfl (lv_at hl 4 rfl) ?_
        refine lv_iload hx hb dX1_value_38 (lv_at hl 1 rfl) ?_
        refine lv_i2l hx hb dX1_value_40 rfl ?_
        obtain ⟨g33, h⟩ := tx_ck h
        refine va_last (i := x2) hx hb hK hP hD hS (27 + 3 * j) 2 (aLTP_2 hj) rfl (tx_in g33) dX1_value_41 (fun H locs hP hD hS => ?_)
        obtain ⟨L_34, eL_34, h⟩ := tx_lt h
        rw [(sLTP_a2 hj), eL_34] at hP hD
        obtain ⟨y35, ey35, h⟩ := tx_lt h
        refine lv_iinc (v := y35) (lv' := [(2, .int y35), (5, .int y5), (4, .int y4), (0, .ref (pa (30 + 3 * j))), (1, .ref (ta 19)), (3, .int x3)]) hx hb dX1_value_42 hl (k := 4) rfl ey35 (by decide) rfl (fun ls hl => ?_)
        refine lv_goto (tgt := 184) hx hb dX1_value_45 (by decide) ?_
        obtain ⟨y36, ey36, h⟩ := tx_lt h
        refine lv_iinc (v := y36) (lv' := [(3, .int y36), (2, .int y35), (5, .int y5), (4, .int y4), (0, .ref (pa (30 + 3 * j))), (1, .ref (ta 19))]) hx hb dX1_value_184 hl (k := 5) rfl ey36 (by decide) rfl (fun ls hl => ?_)
        refine lv_goto (tgt := 4) hx hb dX1_value_187 (by decide) ?_
        exact hk4 y35 y36 L_34 H locs ls h hP hD hS (lv_sub hl [4, 5, 1, 0] rfl)
set_option maxHeartbeats 4000000 in
set_option maxRecDepth 100000 in
theorem c_X1_value (l : Launch) (G : va_G) (cA : Nat → ClassId) (sz : Nat) (ta : Nat → Nat) (pa : Nat → Nat) (j : Nat) (T : Tr) (P : Tr) (L : Lo) (hj : j < 3) (r0 : Int64) (L' : Lo) (h : f_X1_value j T P L = some (r0, L')) : Met l yX1_value (.code yX1_value cX1_value 8 (some .long) :: T0) ({ frames := 1, cells := 0, slots := 0, locals := 26 } : Room) (tqP G cA [.ref (pa (30 + 3 * j)), .ref (ta 19)] (wTP cA ta pa T P L) sz) (tqQl G cA (fun (r : Int64) (_ : Unit) => r = r0) (fun (_ : Unit) => wTP cA ta pa T P (L')) (va_A (wTP cA ta pa T P L) sz)) 0 0 (va_A (wTP cA ta pa T P L) sz) := by
  refine Met.ofW (cc := cX1_value) (maxL := 8) (ret := (some .long)) (by decide) rfl ?_
  intro p e s m args below meth c s₁ B hml hv
  obtain ⟨rfl, hsz, hP, hK, hD0, hN⟩ := hv
  have hx := B.exec
  have hb := B.bytes
  have hr := B.returns
  have hts := atoms_spec (ws := .code yX1_value cX1_value 8 (some .long) :: T0) B.pre
  have hT : ∀ w ∈ T0, w.before _ s = true := fun w h => hts w (List.mem_cons_of_mem _ h)
  have hown : s.vm.findClass RX1 = some m.cls := findClass_of_methodNamed B.named
  have hlocks := B.notSynchronized
  subst hsz
  have hD := hD0.self (sz := s.heap.size)
  generalize hAe : va_A (wTP cA ta pa T P L) s.heap.size = A at hD ⊢
  have hA : ∀ q : Nat, s.heap.size ≤ q → A q := fun q h => by rw [← hAe]; exact Or.inr h
  have hS : va_S A s.heap s.heap [] := va_S.rf
  have hl := lv_entry ([.ref (pa (30 + 3 * j)), .ref (ta 19)]) (n := 8) (Nat.le_of_ble_eq_true rfl)
  rw [lg_entry_eq]
  generalize (lg_sl ([.ref (pa (30 + 3 * j)), .ref (ta 19)]) ++ List.replicate (8 - (lg_sl ([.ref (pa (30 + 3 * j)), .ref (ta 19)])).length) Slot.unset).toArray = ls at hl ⊢
  have hl : lv_has ls 8 [(0, .ref (pa (30 + 3 * j))), (1, .ref (ta 19))] := hl
  have F : tF p s m ([.ref (pa (30 + 3 * j)), .ref (ta 19)] : List Value).toArray meth c G cA A RX1 cX1_value 8 (some .long) := ⟨hx, hb, hr, hml, hT, hown, hlocks, hK, hN, hA⟩
  obtain ⟨H, hH⟩ : ∃ z, z = s.heap := ⟨_, rfl⟩
  rw [← hH] at hP
  have hS : va_S A s.heap H [] := by rw [hH]; exact hS
  suffices hgo : G_X1_value p l e s m below meth c G cA A ta pa j T P r0 L' H [] (F0 m 0 ls []) by rw [hH] at hgo; exact hgo
  generalize ([] : List Loc) = locs at hS ⊢
  unfold f_X1_value at h
  refine lv_iconst (v := 0) hx hb dX1_value_0 (by decide) ?_
  refine lv_istore_n (lv' := [(2, .int 0), (0, .ref (pa (30 + 3 * j))), (1, .ref (ta 19))]) hx hb dX1_value_1 rfl hl (by decide) rfl (fun ls hl => ?_)
  refine lv_iconst (v := 0) hx hb dX1_value_2 (by decide) ?_
  refine lv_istore_n (lv' := [(3, .int 0), (2, .int 0), (0, .ref (pa (30 + 3 * j))), (1, .ref (ta 19))]) hx hb dX1_value_3 rfl hl (by decide) rfl (fun ls hl => ?_)
  exact w_X1_value_L4 F hj 2000 0 0 L H locs ls h hP hD hS (lv_sub hl [2, 3, 1, 0] rfl)
abbrev G_X6_worked (p : Program) (l : Launch) (e : Env) (s : State) (m : MethodId) (below : List Frame) (meth : Method) (c : Code) (G : va_G) (cA : Nat → ClassId) (A : Nat → Prop) (ta : Nat → Nat) (pa : Nat → Nat) (P : Tr) (x1 : Int32) (x2 : Int32) (x3 : Int32) (r0 : Int64) (T' : Tr) (L' : Lo) (H : Heap) (locs : List Loc) (g : JFrame) : Prop := W p l e (headSpec (.code yX6_worked cX6_worked 6 (some .long) :: T0) ({ frames := 2, cells := 0, slots := 0, locals := 53 } : Room)).room s m ([.ref (ta 0), .int x1, .int x2, .int x3] : List Value).toArray below meth c H locs 0 0 (MQ below (tqQl G cA (fun (r : Int64) (_ : Unit) => r = r0) (fun (_ : Unit) => wTP cA ta pa (T') P (L')) A) ([.ref (ta 0), .int x1, .int x2, .int x3] : List Value).toArray s 0 0 A) g
set_option maxHeartbeats 4000000 in
set_option maxRecDepth 100000 in
theorem c_X6_worked (l : Launch) (G : va_G) (cA : Nat → ClassId) (sz : Nat) (ta : Nat → Nat) (pa : Nat → Nat) (T : Tr) (P : Tr) (L : Lo) (x1 : Int32) (x2 : Int32) (x3 : Int32)  (r0 : Int64) (T' : Tr) (L' : Lo) (h : f_X6_worked T P L x1 x2 x3 = some (r0, T', L')) : Met l yX6_worked (.code yX6_worked cX6_worked 6 (some .long) :: T0) ({ frames := 2, cells := 0, slots := 0, locals := 53 } : Room) (tqP G cA [.ref (ta 0), .int x1, .int x2, .int x3] (wTP cA ta pa T P L) sz) (tqQl G cA (fun (r : Int64) (_ : Unit) => r = r0) (fun (_ : Unit) => wTP cA ta pa (T') P (L')) (va_A (wTP cA ta pa T P L) sz)) 0 0 (va_A (wTP cA ta pa T P L) sz) := by
  refine Met.ofW (cc := cX6_worked) (maxL := 6) (ret := (some .long)) (by decide) rfl ?_
  intro p e s m args below meth c s₁ B hml hv
  obtain ⟨rfl, hsz, hP, hK, hD0, hN⟩ := hv
  have hx := B.exec
  have hb := B.bytes
  have hr := B.returns
  have hts := atoms_spec (ws := .code yX6_worked cX6_worked 6 (some .long) :: T0) B.pre
  have hT : ∀ w ∈ T0, w.before _ s = true := fun w h => hts w (List.mem_cons_of_mem _ h)
  have hown : s.vm.findClass RX6 = some m.cls := findClass_of_methodNamed B.named
  have hlocks := B.notSynchronized
  subst hsz
  have hD := hD0.self (sz := s.heap.size)
  generalize hAe : va_A (wTP cA ta pa T P L) s.heap.size = A at hD ⊢
  have hA : ∀ q : Nat, s.heap.size ≤ q → A q := fun q h => by rw [← hAe]; exact Or.inr h
  have hS : va_S A s.heap s.heap [] := va_S.rf
  have hl := lv_entry ([.ref (ta 0), .int x1, .int x2, .int x3]) (n := 6) (Nat.le_of_ble_eq_true rfl)
  rw [lg_entry_eq]
  generalize (lg_sl ([.ref (ta 0), .int x1, .int x2, .int x3]) ++ List.replicate (6 - (lg_sl ([.ref (ta 0), .int x1, .int x2, .int x3])).length) Slot.unset).toArray = ls at hl ⊢
  have hl : lv_has ls 6 [(0, .ref (ta 0)), (1, .int x1), (2, .int x2), (3, .int x3)] := hl
  have F : tF p s m ([.ref (ta 0), .int x1, .int x2, .int x3] : List Value).toArray meth c G cA A RX6 cX6_worked 6 (some .long) := ⟨hx, hb, hr, hml, hT, hown, hlocks, hK, hN, hA⟩
  obtain ⟨H, hH⟩ : ∃ z, z = s.heap := ⟨_, rfl⟩
  rw [← hH] at hP
  have hS : va_S A s.heap H [] := by rw [hH]; exact hS
  suffices hgo : G_X6_worked p l e s m below meth c G cA A ta pa P x1 x2 x3 r0 T' L' H [] (F0 m 0 ls []) by rw [hH] at hgo; exact hgo
  generalize ([] : List Loc) = locs at hS ⊢
  unfold f_X6_worked at h
  refine lv_aload_n hx hb dX6_worked_0 rfl (lv_at hl 0 rfl) ?_
  refine va_get (D := G) (ci := 6) (v := .ref (ta 15)) (C := RX6) (T := TX6) (N := 20) hx hb hT ku_6 hown hK hP 0 rfl rfl 14 (by decide) (hT _ kw_7_13) (fun _ h9 => h9) rfl dX6_worked_1 ?_
  refine lv_iload_n hx hb dX6_worked_4 rfl (lv_at hl 2 rfl) ?_
  obtain ⟨g1, h⟩ := tx_ck h
  refine va_iald (i := x2) hx hb hK hP 7 0 rfl rfl (tx_in g1) dX6_worked_5 ?_
  refine lv_topi (fun y2 ey2 => ?_)
  have h := tx_let ey2 h
  refine lv_istore (lv' := [(4, .int y2), (0, .ref (ta 0)), (1, .int x1), (2, .int x2), (3, .int x3)]) hx hb dX6_worked_6 hl (by decide) rfl (fun ls hl => ?_)
  refine lv_aload_n hx hb dX6_worked_8 rfl (lv_at hl 1 rfl) ?_
  refine va_get (D := G) (ci := 6) (v := .ref (pa 0)) (C := RX6) (T := TX6) (N := 20) hx hb hT ku_6 hown hK hP 0 rfl rfl 19 (by decide) (hT _ kw_8_1) (fun _ h9 => h9) rfl dX6_worked_9 ?_
  refine va_get (D := G) (ci := 2) (v := .ref (pa 19)) (C := RX2) (T := TX2) (N := 19) hx hb hT ku_2 hown hK hP 12 rfl rfl 18 (by decide) (hT _ kw_33_13) (fun _ h9 => h9) rfl dX6_worked_12 ?_
  refine lv_iload_n hx hb dX6_worked_15 rfl (lv_at hl 2 rfl) ?_
  obtain ⟨g3, h⟩ := tx_ck h
  refine va_aldq (i := x1) hx hb hK hP 24 4 rfl rfl (tx_in g3) dX6_worked_16 ?_
  refine W.eq (g2 := F0 m 17 ls (.ref (pa (30 + 3 * x1.toNatClampNeg)) :: [])) (by rw [lawsf_at _ (tx_n3 g3)]; rfl) ?_
  refine lv_astore (lv' := [(5, .ref (pa (30 + 3 * x1.toNatClampNeg))), (4, .int y2), (0, .ref (ta 0)), (1, .int x1), (2, .int x2), (3, .int x3)]) hx hb dX6_worked_17 hl (by decide) rfl (fun ls hl => ?_)
  refine lv_aload hx hb dX6_worked_19 (lv_at hl 0 rfl) ?_
  refine va_get (D := G) (ci := 1) (v := .int (P (30 + 3 * x1.toNatClampNeg) 1)) (C := RX1) (T := TX1) (N := 3) hx hb hT ku_1 hown hK hP (25 + 3 * x1.toNatClampNeg) (aLTP_0 (tx_n3 g3)) rfl 1 (by decide) (hT _ kw_33_14) (fun _ h9 => h9) rfl dX6_worked_21 ?_
  refine lv_if_eq (tgt := 32) hx hb dX6_worked_24 (by decide) (fun c4 => ?_) (fun c4 => ?_)
  · have h := tx_pos c4 h
    refine lv_ldc2 (v := (-9223372036854775808)) hx hb hown (hT _ kw_33_15) dX6_worked_32 ?_
    obtain ⟨rfl, rfl, rfl⟩ := tx_3 h
    exact W.lret hx hb hr (fun t ht hW => ⟨⟨_, (), rfl, rfl, by rw [ht]; exact hP, hD⟩, hS.F ht⟩) hS.2.2 dX6_worked_35
  · have h := tx_neg c4 h
    refine lv_iload hx hb dX6_worked_27 (lv_at hl 1 rfl) ?_
    refine lv_if_ge (tgt := 36) hx hb dX6_worked_29 (by decide) (fun c5 => ?_) (fun c5 => ?_)
    · have h := tx_pos c5 h
      refine lv_aload_n hx hb dX6_worked_36 rfl (lv_at hl 2 rfl) ?_
      refine va_get (D := G) (ci := 6) (v := .ref (ta 19)) (C := RX6) (T := TX6) (N := 20) hx hb hT ku_6 hown hK hP 0 rfl rfl 18 (by decide) (hT _ kw_7_17) (fun _ h9 => h9) rfl dX6_worked_37 ?_
      refine lv_iconst (v := 0) hx hb dX6_worked_40 (by decide) ?_
      refine lv_aload_n hx hb dX6_worked_41 rfl (lv_at hl 2 rfl) ?_
      refine va_get (D := G) (ci := 6) (v := .ref (pa 0)) (C := RX6) (T := TX6) (N := 20) hx hb hT ku_6 hown hK hP 0 rfl rfl 19 (by decide) (hT _ kw_8_1) (fun _ h9 => h9) rfl dX6_worked_42 ?_
      refine va_get (D := G) (ci := 2) (v := .ref (pa 15)) (C := RX2) (T := TX2) (N := 19) hx hb hT ku_2 hown hK hP 12 rfl rfl 14 (by decide) (hT _ kw_33_16) (fun _ h9 => h9) rfl dX6_worked_45 ?_
      refine lv_iload_n hx hb dX6_worked_48 rfl (lv_at hl 4 rfl) ?_
      refine va_iald (i := x2) hx hb hK hP 20 0 rfl rfl (tx_in g1) dX6_worked_49 ?_
      refine va_iast (i := 0) hx hb hK hP hD hS 11 0 rfl rfl (tq_in (by decide)) dX6_worked_50 (fun H locs hP hD hS => ?_)
      rw [show (0 : Int32).toNatClampNeg = 0 from rfl] at hP hD
      obtain ⟨T_6, eT_6, h⟩ := tx_lt h
      rw [sTP_ta_a18, eT_6] at hP hD
      refine lv_aload_n hx hb dX6_worked_51 rfl (lv_at hl 2 rfl) ?_
      refine va_get (D := G) (ci := 6) (v := .ref (ta 19)) (C := RX6) (T := TX6) (N := 20) hx hb hT ku_6 hown hK hP 0 rfl rfl 18 (by decide) (hT _ kw_7_17) (fun _ h9 => h9) rfl dX6_worked_52 ?_
      refine lv_iconst (v := 1) hx hb dX6_worked_55 (by decide) ?_
      refine lv_aload_n hx hb dX6_worked_56 rfl (lv_at hl 2 rfl) ?_
      refine va_get (D := G) (ci := 6) (v := .ref (pa 0)) (C := RX6) (T := TX6) (N := 20) hx hb hT ku_6 hown hK hP 0 rfl rfl 19 (by decide) (hT _ kw_8_1) (fun _ h9 => h9) rfl dX6_worked_57 ?_
      refine va_get (D := G) (ci := 2) (v := .ref (pa 16)) (C := RX2) (T := TX2) (N := 19) hx hb hT ku_2 hown hK hP 12 rfl rfl 15 (by decide) (hT _ kw_33_17) (fun _ h9 => h9) rfl dX6_worked_60 ?_
      refine lv_iload_n hx hb dX6_worked_63 rfl (lv_at hl 4 rfl) ?_
      refine va_iald (i := x2) hx hb hK hP 21 0 rfl rfl (tx_in g1) dX6_worked_64 ?_
      refine va_iast (i := 1) hx hb hK hP hD hS 11 0 rfl rfl (tq_in (by decide)) dX6_worked_65 (fun H locs hP hD hS => ?_)
      rw [show (1 : Int32).toNatClampNeg = 1 from rfl] at hP hD
      obtain ⟨T_7, eT_7, h⟩ := tx_lt h
      rw [sTP_ta_a18, eT_7] at hP hD
      refine lv_aload_n hx hb dX6_worked_66 rfl (lv_at hl 2 rfl) ?_
      refine va_get (D := G) (ci := 6) (v := .ref (ta 19)) (C := RX6) (T := TX6) (N := 20) hx hb hT ku_6 hown hK hP 0 rfl rfl 18 (by decide) (hT _ kw_7_17) (fun _ h9 => h9) rfl dX6_worked_67 ?_
      refine lv_iconst (v := 2) hx hb dX6_worked_70 (by decide) ?_
      refine lv_aload_n hx hb dX6_worked_71 rfl (lv_at hl 2 rfl) ?_
      refine va_get (D := G) (ci := 6) (v := .ref (ta 17)) (C := RX6) (T := TX6) (N := 20) hx hb hT ku_6 hown hK hP 0 rfl rfl 16 (by decide) (hT _ kw_7_15) (fun _ h9 => h9) rfl dX6_worked_72 ?_
      refine lv_iload hx hb dX6_worked_75 (lv_at hl 1 rfl) ?_
      obtain ⟨g8, h⟩ := tx_ck h
      refine va_iald (i := y2) hx hb hK hP 9 0 rfl rfl (tx_in g8) dX6_worked_77 ?_
      refine lv_iconst (v := 1) hx hb dX6_worked_78 (by decide) ?_
      refine lv_isub hx hb dX6_worked_79 ?_
      refine lv_aload_n hx hb dX6_worked_80 rfl (lv_at hl 2 rfl) ?_
      refine lv_iload_n hx hb dX6_worked_81 rfl (lv_at hl 4 rfl) ?_
      obtain ⟨r9, hc10, h⟩ := tx_bd h
      refine tz_i (As := [.int x2]) (rest := [.int ((T_7 17 y2.toNatClampNeg) - 1), .int 2, .ref (ta 19)]) ⟨hx, hb, hml, hown, hT⟩ hP hD hS hA hK hN (c_X6_level l G cA H.size ta pa T_7 P L x2  r9 hc10) (tq_gV kw_30_14 kw_30_15 kw_30_16 kw_1_23 kw_30_17) rfl rfl dkdV_yX6_level_1 (Nat.le_of_ble_eq_true rfl) (Nat.le_of_ble_eq_true rfl) (ci := 6) (q0 := 0) rfl rfl rfl hl.1 rfl (Nat.le_of_ble_eq_true rfl) dX6_worked_82 ⟨Nat.le_of_ble_eq_true rfl, Nat.le_of_ble_eq_true rfl⟩ (fun _ _ H locs z11 hP hD hS => ?_)
      have z11 := z11.symm
      subst z11
      have hP : va_P G vwCl (wTP cA ta pa T_7 P L) H := hP
      have hD : va_D A (wTP cA ta pa T_7 P L) := hD
      refine lv_isub hx hb dX6_worked_85 ?_
      refine va_iast (i := 2) hx hb hK hP hD hS 11 0 rfl rfl (tq_in (by decide)) dX6_worked_86 (fun H locs hP hD hS => ?_)
      rw [show (2 : Int32).toNatClampNeg = 2 from rfl] at hP hD
      obtain ⟨T_12, eT_12, h⟩ := tx_lt h
      rw [sTP_ta_a18, eT_12] at hP hD
      refine lv_aload_n hx hb dX6_worked_87 rfl (lv_at hl 2 rfl) ?_
      refine va_get (D := G) (ci := 6) (v := .ref (ta 19)) (C := RX6) (T := TX6) (N := 20) hx hb hT ku_6 hown hK hP 0 rfl rfl 18 (by decide) (hT _ kw_7_17) (fun _ h9 => h9) rfl dX6_worked_88 ?_
      refine lv_iconst (v := 3) hx hb dX6_worked_91 (by decide) ?_
      refine lv_aload_n hx hb dX6_worked_92 rfl (lv_at hl 2 rfl) ?_
      refine va_get (D := G) (ci := 6) (v := .ref (pa 0)) (C := RX6) (T := TX6) (N := 20) hx hb hT ku_6 hown hK hP 0 rfl rfl 19 (by decide) (hT _ kw_8_1) (fun _ h9 => h9) rfl dX6_worked_93 ?_
      refine va_get (D := G) (ci := 2) (v := .ref (pa 8)) (C := RX2) (T := TX2) (N := 19) hx hb hT ku_2 hown hK hP 12 rfl rfl 7 (by decide) (hT _ kw_33_18) (fun _ h9 => h9) rfl dX6_worked_96 ?_
      refine lv_iload hx hb dX6_worked_99 (lv_at hl 1 rfl) ?_
      refine va_iald (i := y2) hx hb hK hP 13 0 rfl rfl (tx_in g8) dX6_worked_101 ?_
      refine va_iast (i := 3) hx hb hK hP hD hS 11 0 rfl rfl (tq_in (by decide)) dX6_worked_102 (fun H locs hP hD hS => ?_)
      rw [show (3 : Int32).toNatClampNeg = 3 from rfl] at hP hD
      obtain ⟨T_13, eT_13, h⟩ := tx_lt h
      rw [sTP_ta_a18, eT_13] at hP hD
      refine lv_aload_n hx hb dX6_worked_103 rfl (lv_at hl 2 rfl) ?_
      refine va_get (D := G) (ci := 6) (v := .ref (ta 19)) (C := RX6) (T := TX6) (N := 20) hx hb hT ku_6 hown hK hP 0 rfl rfl 18 (by decide) (hT _ kw_7_17) (fun _ h9 => h9) rfl dX6_worked_104 ?_
      refine lv_iconst (v := 4) hx hb dX6_worked_107 (by decide) ?_
      refine lv_iload_n hx hb dX6_worked_108 rfl (lv_at hl 5 rfl) ?_
      refine va_iast (i := 4) hx hb hK hP hD hS 11 0 rfl rfl (tq_in (by decide)) dX6_worked_109 (fun H locs hP hD hS => ?_)
      rw [show (4 : Int32).toNatClampNeg = 4 from rfl] at hP hD
      obtain ⟨T_14, eT_14, h⟩ := tx_lt h
      rw [sTP_ta_a18, eT_14] at hP hD
      refine lv_aload_n hx hb dX6_worked_110 rfl (lv_at hl 2 rfl) ?_
      refine va_get (D := G) (ci := 6) (v := .ref (ta 19)) (C := RX6) (T := TX6) (N := 20) hx hb hT ku_6 hown hK hP 0 rfl rfl 18 (by decide) (hT _ kw_7_17) (fun _ h9 => h9) rfl dX6_worked_111 ?_
      refine lv_iconst (v := 5) hx hb dX6_worked_114 (by decide) ?_
      refine lv_aload_n hx hb dX6_worked_115 rfl (lv_at hl 2 rfl) ?_
      refine va_get (D := G) (ci := 6) (v := .int (T_14 0 0)) (C := RX6) (T := TX6) (N := 20) hx hb hT ku_6 hown hK hP 0 rfl rfl 0 (by decide) (hT _ kw_8_2) (fun _ h9 => h9) rfl dX6_worked_116 ?_
      refine va_iast (i := 5) hx hb hK hP hD hS 11 0 rfl rfl (tq_in (by decide)) dX6_worked_119 (fun H locs hP hD hS => ?_)
      rw [show (5 : Int32).toNatClampNeg = 5 from rfl] at hP hD
      obtain ⟨T_15, eT_15, h⟩ := tx_lt h
      rw [sTP_ta_a18, eT_15] at hP hD
      refine lv_aload_n hx hb dX6_worked_120 rfl (lv_at hl 2 rfl) ?_
      refine va_get (D := G) (ci := 6) (v := .ref (ta 19)) (C := RX6) (T := TX6) (N := 20) hx hb hT ku_6 hown hK hP 0 rfl rfl 18 (by decide) (hT _ kw_7_17) (fun _ h9 => h9) rfl dX6_worked_121 ?_
      refine lv_bipush (v := 6) hx hb dX6_worked_124 (by decide) ?_
      refine lv_aload_n hx hb dX6_worked_126 rfl (lv_at hl 2 rfl) ?_
      refine va_get (D := G) (ci := 6) (v := .ref (ta 18)) (C := RX6) (T := TX6) (N := 20) hx hb hT ku_6 hown hK hP 0 rfl rfl 17 (by decide) (hT _ kw_7_16) (fun _ h9 => h9) rfl dX6_worked_127 ?_
      refine lv_iload hx hb dX6_worked_130 (lv_at hl 1 rfl) ?_
      refine va_iald (i := y2) hx hb hK hP 10 0 rfl rfl (tx_in g8) dX6_worked_132 ?_
      refine va_iast (i := 6) hx hb hK hP hD hS 11 0 rfl rfl (tq_in (by decide)) dX6_worked_133 (fun H locs hP hD hS => ?_)
      rw [show (6 : Int32).toNatClampNeg = 6 from rfl] at hP hD
      obtain ⟨T_16, eT_16, h⟩ := tx_lt h
      rw [sTP_ta_a18, eT_16] at hP hD
      refine lv_aload hx hb dX6_worked_134 (lv_at hl 0 rfl) ?_
      refine lv_aload_n hx hb dX6_worked_136 rfl (lv_at hl 2 rfl) ?_
      refine va_get (D := G) (ci := 6) (v := .ref (ta 19)) (C := RX6) (T := TX6) (N := 20) hx hb hT ku_6 hown hK hP 0 rfl rfl 18 (by decide) (hT _ kw_7_17) (fun _ h9 => h9) rfl dX6_worked_137 ?_
      obtain ⟨⟨r17, L_18⟩, hc19, h⟩ := tx_bd h
      replace h := tx_let (y := r17) rfl h
      replace h := tx_let (y := L_18) rfl h
      refine tz_l (As := [.ref (ta 19)]) (rest := []) ⟨hx, hb, hml, hown, hT⟩ hP hD hS hA hK hN (c_X1_value l G cA H.size ta pa x1.toNatClampNeg T_16 P L (tx_n3 g3) r17 L_18 hc19) (tq_gV kw_33_19 kw_33_20 kw_33_21 kw_6_8 kw_33_22) rfl rfl dkdV_yX1_value_1 (Nat.le_of_ble_eq_true rfl) (Nat.le_of_ble_eq_true rfl) (ci := 1) (q0 := (25 + 3 * x1.toNatClampNeg)) rfl (aLTP_0 (tx_n3 g3)) rfl hl.1 rfl (Nat.le_of_ble_eq_true rfl) dX6_worked_140 ⟨Nat.le_of_ble_eq_true rfl, Nat.le_of_ble_eq_true rfl⟩ (fun _ _ H locs z20 hP hD hS => ?_)
      have z20 := z20.symm
      subst z20
      have hP : va_P G vwCl (wTP cA ta pa T_16 P L_18) H := hP
      have hD : va_D A (wTP cA ta pa T_16 P L_18) := hD
      obtain ⟨rfl, rfl, rfl⟩ := tx_3 h
      exact W.lret hx hb hr (fun t ht hW => ⟨⟨_, (), rfl, rfl, by rw [ht]; exact hP, hD⟩, hS.F ht⟩) hS.2.2 dX6_worked_143
    · have h := tx_neg c5 h
      refine lv_ldc2 (v := (-9223372036854775808)) hx hb hown (hT _ kw_33_15) dX6_worked_32 ?_
      obtain ⟨rfl, rfl, rfl⟩ := tx_3 h
      exact W.lret hx hb hr (fun t ht hW => ⟨⟨_, (), rfl, rfl, by rw [ht]; exact hP, hD⟩, hS.F ht⟩) hS.2.2 dX6_worked_35
abbrev G_X6_within (p : Program) (l : Launch) (e : Env) (s : State) (m : MethodId) (below : List Frame) (meth : Method) (c : Code) (G : va_G) (cA : Nat → ClassId) (A : Nat → Prop) (x0 : Int64) (x2 : Int32) (r0 : Int32) (H : Heap) (locs : List Loc) (g : JFrame) : Prop := W p l e (headSpec (.code yX6_within cX6_within 3 (some .int) :: T0) ({ frames := 0, cells := 0, slots := 0, locals := 0 } : Room)).room s m ([.long x0, .int x2] : List Value).toArray below meth c H locs 0 0 (MQ below (tqQi G cA (fun (r : Int32) (_ : Unit) => r = r0) (fun (_ : Unit) => ([] : va_W)) A) ([.long x0, .int x2] : List Value).toArray s 0 0 A) g
set_option maxHeartbeats 4000000 in
set_option maxRecDepth 100000 in
theorem c_X6_within (l : Launch) (G : va_G) (cA : Nat → ClassId) (sz : Nat) (x0 : Int64) (x2 : Int32)  (r0 : Int32) (h : f_X6_within x0 x2 = some r0) : Met l yX6_within (.code yX6_within cX6_within 3 (some .int) :: T0) ({ frames := 0, cells := 0, slots := 0, locals := 0 } : Room) (tqP G cA [.long x0, .int x2] (([] : va_W)) sz) (tqQi G cA (fun (r : Int32) (_ : Unit) => r = r0) (fun (_ : Unit) => ([] : va_W)) (va_A (([] : va_W)) sz)) 0 0 (va_A (([] : va_W)) sz) := by
  refine Met.ofW (cc := cX6_within) (maxL := 3) (ret := (some .int)) (by decide) rfl ?_
  intro p e s m args below meth c s₁ B hml hv
  obtain ⟨rfl, hsz, hP, hK, hD0, hN⟩ := hv
  have hx := B.exec
  have hb := B.bytes
  have hr := B.returns
  have hts := atoms_spec (ws := .code yX6_within cX6_within 3 (some .int) :: T0) B.pre
  have hT : ∀ w ∈ T0, w.before _ s = true := fun w h => hts w (List.mem_cons_of_mem _ h)
  have hown : s.vm.findClass RX6 = some m.cls := findClass_of_methodNamed B.named
  have hlocks := B.notSynchronized
  subst hsz
  have hD := hD0.self (sz := s.heap.size)
  generalize hAe : va_A (([] : va_W)) s.heap.size = A at hD ⊢
  have hA : ∀ q : Nat, s.heap.size ≤ q → A q := fun q h => by rw [← hAe]; exact Or.inr h
  have hS : va_S A s.heap s.heap [] := va_S.rf
  have hl := lv_entry ([.long x0, .int x2]) (n := 3) (Nat.le_of_ble_eq_true rfl)
  rw [lg_entry_eq]
  generalize (lg_sl ([.long x0, .int x2]) ++ List.replicate (3 - (lg_sl ([.long x0, .int x2])).length) Slot.unset).toArray = ls at hl ⊢
  have hl : lv_has ls 3 [(0, .long x0), (2, .int x2)] := hl
  have F : tF p s m ([.long x0, .int x2] : List Value).toArray meth c G cA A RX6 cX6_within 3 (some .int) := ⟨hx, hb, hr, hml, hT, hown, hlocks, hK, hN, hA⟩
  obtain ⟨H, hH⟩ : ∃ z, z = s.heap := ⟨_, rfl⟩
  rw [← hH] at hP
  have hS : va_S A s.heap H [] := by rw [hH]; exact hS
  suffices hgo : G_X6_within p l e s m below meth c G cA A x0 x2 r0 H [] (F0 m 0 ls []) by rw [hH] at hgo; exact hgo
  generalize ([] : List Loc) = locs at hS ⊢
  unfold f_X6_within at h
  refine lv_lload_n hx hb dX6_within_0 rfl (lv_at hl 0 rfl) ?_
  refine lv_lconst (v := 0) hx hb dX6_within_1 (by decide) ?_
  refine W.lcmp hx hb dX6_within_2 ?_
  refine lv_if_ge (tgt := 10) hx hb dX6_within_3 (by decide) (fun c1 => ?_) (fun c1 => ?_)
  · have h := tx_pos c1 h
    refine lv_lload_n hx hb dX6_within_10 rfl (lv_at hl 0 rfl) ?_
    refine lv_iload_n hx hb dX6_within_11 rfl (lv_at hl 1 rfl) ?_
    refine lv_i2l hx hb dX6_within_12 rfl ?_
    refine W.lcmp hx hb dX6_within_13 ?_
    refine lv_if_le (tgt := 21) hx hb dX6_within_14 (by decide) (fun c2 => ?_) (fun c2 => ?_)
    · have h := tx_pos c2 h
      refine lv_lload_n hx hb dX6_within_21 rfl (lv_at hl 0 rfl) ?_
      refine lv_l2i hx hb dX6_within_22 rfl ?_
      obtain rfl := tx_1 h
      exact W.iret hx hb hr (fun t ht hW => ⟨⟨_, (), rfl, rfl, by rw [ht]; exact hP, hD⟩, hS.F ht⟩) hS.2.2 dX6_within_23
    · have h := tx_neg c2 h
      refine lv_iload_n hx hb dX6_within_17 rfl (lv_at hl 1 rfl) ?_
      refine lv_goto (tgt := 23) hx hb dX6_within_18 (by decide) ?_
      obtain rfl := tx_1 h
      exact W.iret hx hb hr (fun t ht hW => ⟨⟨_, (), rfl, rfl, by rw [ht]; exact hP, hD⟩, hS.F ht⟩) hS.2.2 dX6_within_23
  · have h := tx_neg c1 h
    refine lv_iconst (v := 0) hx hb dX6_within_6 (by decide) ?_
    refine lv_goto (tgt := 23) hx hb dX6_within_7 (by decide) ?_
    obtain rfl := tx_1 h
    exact W.iret hx hb hr (fun t ht hW => ⟨⟨_, (), rfl, rfl, by rw [ht]; exact hP, hD⟩, hS.F ht⟩) hS.2.2 dX6_within_23
abbrev G_X6_fallPercent (p : Program) (l : Launch) (e : Env) (s : State) (m : MethodId) (below : List Frame) (meth : Method) (c : Code) (G : va_G) (cA : Nat → ClassId) (A : Nat → Prop) (ta : Nat → Nat) (pa : Nat → Nat) (P : Tr) (x1 : Int32) (r0 : Int32) (T' : Tr) (L' : Lo) (H : Heap) (locs : List Loc) (g : JFrame) : Prop := W p l e (headSpec (.code yX6_fallPercent cX6_fallPercent 4 (some .int) :: T0) ({ frames := 3, cells := 0, slots := 0, locals := 78 } : Room)).room s m ([.ref (ta 0), .int x1] : List Value).toArray below meth c H locs 0 0 (MQ below (tqQi G cA (fun (r : Int32) (_ : Unit) => r = r0) (fun (_ : Unit) => wTP cA ta pa (T') P (L')) A) ([.ref (ta 0), .int x1] : List Value).toArray s 0 0 A) g
set_option maxHeartbeats 4000000 in
set_option maxRecDepth 100000 in
theorem w_X6_fallPercent_J57 {p : Program} {l : Launch} {e : Env} {s : State} {m : MethodId} {below : List Frame} {meth : Method} {c : Code} {G : va_G} {cA : Nat → ClassId} {A : Nat → Prop} {ta : Nat → Nat} {pa : Nat → Nat} {P : Tr} {x1₀ : Int32} {r0 : Int32} {T' : Tr} {L' : Lo} (F : tF p s m ([.ref (ta 0), .int x1₀] : List Value).toArray meth c G cA A RX6 cX6_fallPercent 4 (some .int))    (s0 : Int64) (T : Tr) (L : Lo) (H : Heap) (locs : List Loc) (ls : Array Slot) (h : fJ_X6_fallPercent_J57 P s0 T L = some (r0, T', L')) (hP : va_P G vwCl (wTP cA ta pa T P L) H) (hD : va_D A (wTP cA ta pa T P L)) (hS : va_S A s.heap H locs) (hl : lv_has ls 4 []) : G_X6_fallPercent p l e s m below meth c G cA A ta pa P x1₀ r0 T' L' H locs (F0 m 57 ls [.long s0]) := by
  obtain ⟨hx, hb, hr, hml, hT, hown, hlocks, hK, hN, hA⟩ := id F
  unfold fJ_X6_fallPercent_J57 at h
  refine lv_bipush (v := 100) hx hb dX6_fallPercent_57 (by decide) ?_
  obtain ⟨r12, hc13, h⟩ := tx_bd h
  refine tw_ci (tw_none (ws := wTP cA ta pa T P L)) hP hD hS hA (va_runS (As := [.long s0, .int 100]) (rest := []) ⟨hx, hb, hml, hown, hT⟩ (c_X6_within l G cA H.size s0 (100 : Int32)  r12 hc13) (va_cwS 2 hT (tq_gS kw_40_23 kw_41_0 kw_1_23 kw_41_1) rfl rfl rfl dkdS_yX6_within_2 ⟨Nat.le_of_ble_eq_true rfl, Nat.le_of_ble_eq_true rfl⟩) (tw_pre (tw_none (ws := wTP cA ta pa T P L)) hP hD hK hN) rfl rfl hl.1 rfl (lv_room (Nat.le_of_ble_eq_true rfl)) dX6_fallPercent_59 ⟨Nat.le_of_ble_eq_true rfl, Nat.le_of_ble_eq_true rfl⟩) (fun _ _ H locs z14 hP hD hS => ?_)
  have z14 := z14.symm
  subst z14
  have hP : va_P G vwCl (wTP cA ta pa T P L) H := hP
  have hD : va_D A (wTP cA ta pa T P L) := hD
  obtain ⟨rfl, rfl, rfl⟩ := tx_3 h
  exact W.iret hx hb hr (fun t ht hW => ⟨⟨_, (), rfl, rfl, by rw [ht]; exact hP, hD⟩, hS.F ht⟩) hS.2.2 dX6_fallPercent_62
set_option maxHeartbeats 4000000 in
set_option maxRecDepth 100000 in
theorem c_X6_fallPercent (l : Launch) (G : va_G) (cA : Nat → ClassId) (sz : Nat) (ta : Nat → Nat) (pa : Nat → Nat) (T : Tr) (P : Tr) (L : Lo) (x1 : Int32)  (r0 : Int32) (T' : Tr) (L' : Lo) (h : f_X6_fallPercent T P L x1 = some (r0, T', L')) : Met l yX6_fallPercent (.code yX6_fallPercent cX6_fallPercent 4 (some .int) :: T0) ({ frames := 3, cells := 0, slots := 0, locals := 78 } : Room) (tqP G cA [.ref (ta 0), .int x1] (wTP cA ta pa T P L) sz) (tqQi G cA (fun (r : Int32) (_ : Unit) => r = r0) (fun (_ : Unit) => wTP cA ta pa (T') P (L')) (va_A (wTP cA ta pa T P L) sz)) 0 0 (va_A (wTP cA ta pa T P L) sz) := by
  refine Met.ofW (cc := cX6_fallPercent) (maxL := 4) (ret := (some .int)) (by decide) rfl ?_
  intro p e s m args below meth c s₁ B hml hv
  obtain ⟨rfl, hsz, hP, hK, hD0, hN⟩ := hv
  have hx := B.exec
  have hb := B.bytes
  have hr := B.returns
  have hts := atoms_spec (ws := .code yX6_fallPercent cX6_fallPercent 4 (some .int) :: T0) B.pre
  have hT : ∀ w ∈ T0, w.before _ s = true := fun w h => hts w (List.mem_cons_of_mem _ h)
  have hown : s.vm.findClass RX6 = some m.cls := findClass_of_methodNamed B.named
  have hlocks := B.notSynchronized
  subst hsz
  have hD := hD0.self (sz := s.heap.size)
  generalize hAe : va_A (wTP cA ta pa T P L) s.heap.size = A at hD ⊢
  have hA : ∀ q : Nat, s.heap.size ≤ q → A q := fun q h => by rw [← hAe]; exact Or.inr h
  have hS : va_S A s.heap s.heap [] := va_S.rf
  have hl := lv_entry ([.ref (ta 0), .int x1]) (n := 4) (Nat.le_of_ble_eq_true rfl)
  rw [lg_entry_eq]
  generalize (lg_sl ([.ref (ta 0), .int x1]) ++ List.replicate (4 - (lg_sl ([.ref (ta 0), .int x1])).length) Slot.unset).toArray = ls at hl ⊢
  have hl : lv_has ls 4 [(0, .ref (ta 0)), (1, .int x1)] := hl
  have F : tF p s m ([.ref (ta 0), .int x1] : List Value).toArray meth c G cA A RX6 cX6_fallPercent 4 (some .int) := ⟨hx, hb, hr, hml, hT, hown, hlocks, hK, hN, hA⟩
  obtain ⟨H, hH⟩ : ∃ z, z = s.heap := ⟨_, rfl⟩
  rw [← hH] at hP
  have hS : va_S A s.heap H [] := by rw [hH]; exact hS
  suffices hgo : G_X6_fallPercent p l e s m below meth c G cA A ta pa P x1 r0 T' L' H [] (F0 m 0 ls []) by rw [hH] at hgo; exact hgo
  generalize ([] : List Loc) = locs at hS ⊢
  unfold f_X6_fallPercent at h
  refine lv_aload_n hx hb dX6_fallPercent_0 rfl (lv_at hl 0 rfl) ?_
  refine lv_iconst (v := 1) hx hb dX6_fallPercent_1 (by decide) ?_
  refine lv_iload_n hx hb dX6_fallPercent_2 rfl (lv_at hl 1 rfl) ?_
  refine lv_aload_n hx hb dX6_fallPercent_3 rfl (lv_at hl 0 rfl) ?_
  refine va_get (D := G) (ci := 6) (v := .ref (ta 10)) (C := RX6) (T := TX6) (N := 20) hx hb hT ku_6 hown hK hP 0 rfl rfl 9 (by decide) (hT _ kw_7_8) (fun _ h9 => h9) rfl dX6_fallPercent_4 ?_
  refine lv_aload_n hx hb dX6_fallPercent_7 rfl (lv_at hl 0 rfl) ?_
  refine va_get (D := G) (ci := 6) (v := .ref (pa 0)) (C := RX6) (T := TX6) (N := 20) hx hb hT ku_6 hown hK hP 0 rfl rfl 19 (by decide) (hT _ kw_8_1) (fun _ h9 => h9) rfl dX6_fallPercent_8 ?_
  refine va_get (D := G) (ci := 2) (v := .ref (pa 14)) (C := RX2) (T := TX2) (N := 19) hx hb hT ku_2 hown hK hP 12 rfl rfl 13 (by decide) (hT _ kw_39_0) (fun _ h9 => h9) rfl dX6_fallPercent_11 ?_
  refine lv_iload_n hx hb dX6_fallPercent_14 rfl (lv_at hl 1 rfl) ?_
  obtain ⟨g1, h⟩ := tx_ck h
  refine va_iald (i := x1) hx hb hK hP 19 0 rfl rfl (tx_in g1) dX6_fallPercent_15 ?_
  obtain ⟨g2, h⟩ := tx_ck h
  refine va_iald (i := (P 14 x1.toNatClampNeg)) hx hb hK hP 2 0 rfl rfl (tx_in g2) dX6_fallPercent_16 ?_
  obtain ⟨⟨r3, T_4, L_5⟩, hc6, h⟩ := tx_bd h
  replace h := tx_let (y := r3) rfl h
  replace h := tx_let (y := T_4) rfl h
  replace h := tx_let (y := L_5) rfl h
  refine tz_l (As := [.int 1, .int x1, .int (T 10 (P 14 x1.toNatClampNeg).toNatClampNeg)]) (rest := []) ⟨hx, hb, hml, hown, hT⟩ hP hD hS hA hK hN (c_X6_worked l G cA H.size ta pa T P L (1 : Int32) x1 (T 10 (P 14 x1.toNatClampNeg).toNatClampNeg)  r3 T_4 L_5 hc6) (tq_gV kw_40_22 kw_33_10 kw_33_11 kw_1_23 kw_33_12) rfl rfl dkdV_yX6_worked_3 (Nat.le_of_ble_eq_true rfl) (Nat.le_of_ble_eq_true rfl) (ci := 6) (q0 := 0) rfl rfl rfl hl.1 rfl (Nat.le_of_ble_eq_true rfl) dX6_fallPercent_17 ⟨Nat.le_of_ble_eq_true rfl, Nat.le_of_ble_eq_true rfl⟩ (fun _ _ H locs z7 hP hD hS => ?_)
  have z7 := z7.symm
  subst z7
  have hP : va_P G vwCl (wTP cA ta pa T_4 P L_5) H := hP
  have hD : va_D A (wTP cA ta pa T_4 P L_5) := hD
  refine lv_lstore_n (lv' := [(2, .long r3), (0, .ref (ta 0)), (1, .int x1)]) hx hb dX6_fallPercent_20 rfl hl (by decide) rfl (fun ls hl => ?_)
  refine lv_lload_n hx hb dX6_fallPercent_21 rfl (lv_at hl 0 rfl) ?_
  refine lv_ldc2 (v := (-9223372036854775808)) hx hb hown (hT _ kw_33_15) dX6_fallPercent_22 ?_
  refine W.lcmp hx hb dX6_fallPercent_25 ?_
  refine lv_if_eq (tgt := 33) hx hb dX6_fallPercent_26 (by decide) (fun c8 => ?_) (fun c8 => ?_)
  · have h := tx_pos c8 h
    refine lv_aload_n hx hb dX6_fallPercent_33 rfl (lv_at hl 1 rfl) ?_
    refine va_get (D := G) (ci := 6) (v := .int (T_4 0 4)) (C := RX6) (T := TX6) (N := 20) hx hb hT ku_6 hown hK hP 0 rfl rfl 4 (by decide) (hT _ kw_8_9) (fun _ h9 => h9) rfl dX6_fallPercent_34 ?_
    refine lv_bipush (v := 10) hx hb dX6_fallPercent_37 (by decide) ?_
    refine lv_aload_n hx hb dX6_fallPercent_39 rfl (lv_at hl 1 rfl) ?_
    refine lv_iload_n hx hb dX6_fallPercent_40 rfl (lv_at hl 2 rfl) ?_
    obtain ⟨r9, hc10, h⟩ := tx_bd h
    refine tz_i (As := [.int x1]) (rest := [.int 10, .int (T_4 0 4)]) ⟨hx, hb, hml, hown, hT⟩ hP hD hS hA hK hN (c_X6_level l G cA H.size ta pa T_4 P L_5 x1  r9 hc10) (tq_gV kw_30_14 kw_30_15 kw_30_16 kw_1_23 kw_30_17) rfl rfl dkdV_yX6_level_1 (Nat.le_of_ble_eq_true rfl) (Nat.le_of_ble_eq_true rfl) (ci := 6) (q0 := 0) rfl rfl rfl hl.1 rfl (Nat.le_of_ble_eq_true rfl) dX6_fallPercent_41 ⟨Nat.le_of_ble_eq_true rfl, Nat.le_of_ble_eq_true rfl⟩ (fun _ _ H locs z11 hP hD hS => ?_)
    have z11 := z11.symm
    subst z11
    have hP : va_P G vwCl (wTP cA ta pa T_4 P L_5) H := hP
    have hD : va_D A (wTP cA ta pa T_4 P L_5) := hD
    refine lv_imul hx hb dX6_fallPercent_44 ?_
    refine lv_iadd hx hb dX6_fallPercent_45 ?_
    refine lv_aload_n hx hb dX6_fallPercent_46 rfl (lv_at hl 1 rfl) ?_
    refine va_get (D := G) (ci := 6) (v := .ref (pa 0)) (C := RX6) (T := TX6) (N := 20) hx hb hT ku_6 hown hK hP 0 rfl rfl 19 (by decide) (hT _ kw_8_1) (fun _ h9 => h9) rfl dX6_fallPercent_47 ?_
    refine va_get (D := G) (ci := 2) (v := .ref (pa 15)) (C := RX2) (T := TX2) (N := 19) hx hb hT ku_2 hown hK hP 12 rfl rfl 14 (by decide) (hT _ kw_33_16) (fun _ h9 => h9) rfl dX6_fallPercent_50 ?_
    refine lv_iload_n hx hb dX6_fallPercent_53 rfl (lv_at hl 2 rfl) ?_
    refine va_iald (i := x1) hx hb hK hP 20 0 rfl rfl (tx_in g1) dX6_fallPercent_54 ?_
    refine lv_isub hx hb dX6_fallPercent_55 ?_
    refine lv_i2l hx hb dX6_fallPercent_56 rfl ?_
    exact w_X6_fallPercent_J57 F ((((T_4 0 4) + ((10 : Int32) * r9)) - (P 15 x1.toNatClampNeg)).toInt64) T_4 L_5 H locs ls h hP hD hS (lv_sub hl [] rfl)
  · have h := tx_neg c8 h
    refine lv_lload_n hx hb dX6_fallPercent_29 rfl (lv_at hl 0 rfl) ?_
    refine lv_goto (tgt := 57) hx hb dX6_fallPercent_30 (by decide) ?_
    exact w_X6_fallPercent_J57 F r3 T_4 L_5 H locs ls h hP hD hS (lv_sub hl [] rfl)
abbrev G_X6_happens (p : Program) (l : Launch) (e : Env) (s : State) (m : MethodId) (below : List Frame) (meth : Method) (c : Code) (G : va_G) (cA : Nat → ClassId) (A : Nat → Prop) (ta : Nat → Nat) (pa : Nat → Nat) (P : Tr) (L : Lo) (x1 : Int32) (r0 : Int32) (T' : Tr) (H : Heap) (locs : List Loc) (g : JFrame) : Prop := W p l e (headSpec (.code yX6_happens cX6_happens 2 (some .boolean) :: T0) ({ frames := 0, cells := 0, slots := 0, locals := 0 } : Room)).room s m ([.ref (ta 0), .int x1] : List Value).toArray below meth c H locs 0 0 (MQ below (tqQi G cA (fun (r : Int32) (_ : Unit) => r = r0) (fun (_ : Unit) => wTP cA ta pa (T') P L) A) ([.ref (ta 0), .int x1] : List Value).toArray s 0 0 A) g
set_option maxHeartbeats 4000000 in
set_option maxRecDepth 100000 in
theorem c_X6_happens (l : Launch) (G : va_G) (cA : Nat → ClassId) (sz : Nat) (ta : Nat → Nat) (pa : Nat → Nat) (T : Tr) (P : Tr) (L : Lo) (x1 : Int32)  (r0 : Int32) (T' : Tr) (h : f_X6_happens T x1 = some (r0, T')) : Met l yX6_happens (.code yX6_happens cX6_happens 2 (some .boolean) :: T0) ({ frames := 0, cells := 0, slots := 0, locals := 0 } : Room) (tqP G cA [.ref (ta 0), .int x1] (wTP cA ta pa T P L) sz) (tqQi G cA (fun (r : Int32) (_ : Unit) => r = r0) (fun (_ : Unit) => wTP cA ta pa (T') P L) (va_A (wTP cA ta pa T P L) sz)) 0 0 (va_A (wTP cA ta pa T P L) sz) := by
  refine Met.ofW (cc := cX6_happens) (maxL := 2) (ret := (some .boolean)) (by decide) rfl ?_
  intro p e s m args below meth c s₁ B hml hv
  obtain ⟨rfl, hsz, hP, hK, hD0, hN⟩ := hv
  have hx := B.exec
  have hb := B.bytes
  have hr := B.returns
  have hts := atoms_spec (ws := .code yX6_happens cX6_happens 2 (some .boolean) :: T0) B.pre
  have hT : ∀ w ∈ T0, w.before _ s = true := fun w h => hts w (List.mem_cons_of_mem _ h)
  have hown : s.vm.findClass RX6 = some m.cls := findClass_of_methodNamed B.named
  have hlocks := B.notSynchronized
  subst hsz
  have hD := hD0.self (sz := s.heap.size)
  generalize hAe : va_A (wTP cA ta pa T P L) s.heap.size = A at hD ⊢
  have hA : ∀ q : Nat, s.heap.size ≤ q → A q := fun q h => by rw [← hAe]; exact Or.inr h
  have hS : va_S A s.heap s.heap [] := va_S.rf
  have hl := lv_entry ([.ref (ta 0), .int x1]) (n := 2) (Nat.le_of_ble_eq_true rfl)
  rw [lg_entry_eq]
  generalize (lg_sl ([.ref (ta 0), .int x1]) ++ List.replicate (2 - (lg_sl ([.ref (ta 0), .int x1])).length) Slot.unset).toArray = ls at hl ⊢
  have hl : lv_has ls 2 [(0, .ref (ta 0)), (1, .int x1)] := hl
  have F : tF p s m ([.ref (ta 0), .int x1] : List Value).toArray meth c G cA A RX6 cX6_happens 2 (some .boolean) := ⟨hx, hb, hr, hml, hT, hown, hlocks, hK, hN, hA⟩
  obtain ⟨H, hH⟩ : ∃ z, z = s.heap := ⟨_, rfl⟩
  rw [← hH] at hP
  have hS : va_S A s.heap H [] := by rw [hH]; exact hS
  suffices hgo : G_X6_happens p l e s m below meth c G cA A ta pa P L x1 r0 T' H [] (F0 m 0 ls []) by rw [hH] at hgo; exact hgo
  generalize ([] : List Loc) = locs at hS ⊢
  unfold f_X6_happens at h
  refine lv_aload_n hx hb dX6_happens_0 rfl (lv_at hl 0 rfl) ?_
  refine va_get (D := G) (ci := 6) (v := .int (T 0 5)) (C := RX6) (T := TX6) (N := 20) hx hb hT ku_6 hown hK hP 0 rfl rfl 5 (by decide) (hT _ kw_7_18) (fun _ h9 => h9) rfl dX6_happens_1 ?_
  refine lv_if_ne (tgt := 19) hx hb dX6_happens_4 (by decide) (fun c1 => ?_) (fun c1 => ?_)
  · have h := tx_neg c1 h
    refine lv_aload_n hx hb dX6_happens_19 rfl (lv_at hl 0 rfl) ?_
    refine lv_aload_n hx hb dX6_happens_20 rfl (lv_at hl 0 rfl) ?_
    refine va_get (D := G) (ci := 6) (v := .int (T 0 2)) (C := RX6) (T := TX6) (N := 20) hx hb hT ku_6 hown hK hP 0 rfl rfl 2 (by decide) (hT _ kw_8_5) (fun _ h9 => h9) rfl dX6_happens_21 ?_
    refine lv_ldc (v := 1103515245) hx hb hown (hT _ kw_43_0) dX6_happens_24 ?_
    refine lv_imul hx hb dX6_happens_26 ?_
    refine lv_sipush (v := 12345) hx hb dX6_happens_27 (by decide) ?_
    refine lv_iadd hx hb dX6_happens_30 ?_
    refine lv_ldc (v := 2147483647) hx hb hown (hT _ kw_43_1) dX6_happens_31 ?_
    refine lv_iand hx hb dX6_happens_33 ?_
    refine va_put (D := G) (ci := 6) (v := .int ((((T 0 2) * 1103515245) + 12345) &&& 2147483647)) (ty := .int) (C := RX6) (T := TX6) (N := 20) hx hb hT ku_6 tyX6 tyX6_ok nmX6 hown hK hP hD hS 0 rfl rfl 2 (by decide) (hT _ kw_8_5) (fun _ h9 => h9) rfl (by decide +kernel) rfl rfl (Nat.le_of_ble_eq_true rfl) dX6_happens_34 (fun H locs hP hD hS => ?_)
    obtain ⟨T_2, eT_2, h⟩ := tx_lt h
    rw [sTP_ta_f2, eT_2] at hP hD
    refine lv_iload_n hx hb dX6_happens_37 rfl (lv_at hl 1 rfl) ?_
    refine lv_aload_n hx hb dX6_happens_38 rfl (lv_at hl 0 rfl) ?_
    refine va_get (D := G) (ci := 6) (v := .int (T_2 0 2)) (C := RX6) (T := TX6) (N := 20) hx hb hT ku_6 hown hK hP 0 rfl rfl 2 (by decide) (hT _ kw_8_5) (fun _ h9 => h9) rfl dX6_happens_39 ?_
    refine lv_bipush (v := 16) hx hb dX6_happens_42 (by decide) ?_
    refine lv_iushr hx hb dX6_happens_44 rfl ?_
    refine lv_bipush (v := 100) hx hb dX6_happens_45 (by decide) ?_
    refine lv_irem hx hb dX6_happens_47 (by decide) ?_
    refine lv_icmp_le (tgt := 55) hx hb dX6_happens_48 (by decide) (fun c3 => ?_) (fun c3 => ?_)
    · have h := tx_pos c3 h
      refine lv_iconst (v := 0) hx hb dX6_happens_55 (by decide) ?_
      obtain ⟨rfl, rfl⟩ := tx_2 h
      exact W.zret (ty := .boolean) hx hb hr rfl (fun t ht hW => ⟨⟨_, (), rfl, rfl, by rw [ht]; exact hP, hD⟩, hS.F ht⟩) hS.2.2 dX6_happens_56
    · have h := tx_neg c3 h
      refine lv_iconst (v := 1) hx hb dX6_happens_51 (by decide) ?_
      refine lv_goto (tgt := 56) hx hb dX6_happens_52 (by decide) ?_
      obtain ⟨rfl, rfl⟩ := tx_2 h
      exact W.zret (ty := .boolean) hx hb hr rfl (fun t ht hW => ⟨⟨_, (), rfl, rfl, by rw [ht]; exact hP, hD⟩, hS.F ht⟩) hS.2.2 dX6_happens_56
  · have h := tx_pos c1 h
    refine lv_iload_n hx hb dX6_happens_7 rfl (lv_at hl 1 rfl) ?_
    refine lv_bipush (v := 50) hx hb dX6_happens_8 (by decide) ?_
    refine lv_icmp_lt (tgt := 17) hx hb dX6_happens_10 (by decide) (fun c4 => ?_) (fun c4 => ?_)
    · have h := tx_pos c4 h
      refine lv_iconst (v := 0) hx hb dX6_happens_17 (by decide) ?_
      obtain ⟨rfl, rfl⟩ := tx_2 h
      exact W.zret (ty := .boolean) hx hb hr rfl (fun t ht hW => ⟨⟨_, (), rfl, rfl, by rw [ht]; exact hP, hD⟩, hS.F ht⟩) hS.2.2 dX6_happens_18
    · have h := tx_neg c4 h
      refine lv_iconst (v := 1) hx hb dX6_happens_13 (by decide) ?_
      refine lv_goto (tgt := 18) hx hb dX6_happens_14 (by decide) ?_
      obtain ⟨rfl, rfl⟩ := tx_2 h
      exact W.zret (ty := .boolean) hx hb hr rfl (fun t ht hW => ⟨⟨_, (), rfl, rfl, by rw [ht]; exact hP, hD⟩, hS.F ht⟩) hS.2.2 dX6_happens_18
abbrev G_X6_takeAway (p : Program) (l : Launch) (e : Env) (s : State) (m : MethodId) (below : List Frame) (meth : Method) (c : Code) (G : va_G) (cA : Nat → ClassId) (A : Nat → Prop) (ta : Nat → Nat) (pa : Nat → Nat) (P : Tr) (L : Lo) (x1 : Int32) (x2 : Int32) (T' : Tr) (H : Heap) (locs : List Loc) (g : JFrame) : Prop := W p l e (headSpec (.code yX6_takeAway cX6_takeAway 6 none :: T0) ({ frames := 1, cells := 0, slots := 0, locals := 23 } : Room)).room s m ([.ref (ta 0), .int x1, .int x2] : List Value).toArray below meth c H locs 0 0 (MQ below (tqQv G cA (fun (_ : Unit) => True) (fun (_ : Unit) => wTP cA ta pa (T') P L) A) ([.ref (ta 0), .int x1, .int x2] : List Value).toArray s 0 0 A) g
set_option maxHeartbeats 4000000 in
set_option maxRecDepth 100000 in
theorem w_X6_takeAway_J70 {p : Program} {l : Launch} {e : Env} {s : State} {m : MethodId} {below : List Frame} {meth : Method} {c : Code} {G : va_G} {cA : Nat → ClassId} {A : Nat → Prop} {ta : Nat → Nat} {pa : Nat → Nat} {P : Tr} {L : Lo} {x1₀ : Int32} {x2₀ : Int32} {T' : Tr} (F : tF p s m ([.ref (ta 0), .int x1₀, .int x2₀] : List Value).toArray meth c G cA A RX6 cX6_takeAway 6 none)    (x1 : Int32) (x2 : Int32) (x4 : Int32) (T : Tr) (H : Heap) (locs : List Loc) (ls : Array Slot) (h : fJ_X6_takeAway_J70 P x1 x2 x4 T = some T') (hP : va_P G vwCl (wTP cA ta pa T P L) H) (hD : va_D A (wTP cA ta pa T P L)) (hS : va_S A s.heap H locs) (hl : lv_has ls 6 [(0, .ref (ta 0)), (1, .int x1), (2, .int x2), (4, .int x4)]) : G_X6_takeAway p l e s m below meth c G cA A ta pa P L x1₀ x2₀ T' H locs (F0 m 70 ls []) := by
  obtain ⟨hx, hb, hr, hml, hT, hown, hlocks, hK, hN, hA⟩ := id F
  unfold fJ_X6_takeAway_J70 at h
  refine lv_aload_n hx hb dX6_takeAway_70 rfl (lv_at hl 0 rfl) ?_
  refine va_get (D := G) (ci := 6) (v := .ref (ta 17)) (C := RX6) (T := TX6) (N := 20) hx hb hT ku_6 hown hK hP 0 rfl rfl 16 (by decide) (hT _ kw_7_15) (fun _ h9 => h9) rfl dX6_takeAway_71 ?_
  refine lv_iload hx hb dX6_takeAway_74 (lv_at hl 3 rfl) ?_
  refine lv_dup2_11 hx hb dX6_takeAway_76 rfl rfl ?_
  obtain ⟨g9, h⟩ := tx_ck h
  refine va_iald (i := x4) hx hb hK hP 9 0 rfl rfl (tx_in g9) dX6_takeAway_77 ?_
  refine lv_iconst (v := 1) hx hb dX6_takeAway_78 (by decide) ?_
  refine lv_isub hx hb dX6_takeAway_79 ?_
  refine va_iast (i := x4) hx hb hK hP hD hS 9 0 rfl rfl (tx_in g9) dX6_takeAway_80 (fun H locs hP hD hS => ?_)
  obtain ⟨T_10, eT_10, h⟩ := tx_lt h
  rw [sTP_ta_a16, eT_10] at hP hD
  refine lv_aload_n hx hb dX6_takeAway_81 rfl (lv_at hl 0 rfl) ?_
  refine va_get (D := G) (ci := 6) (v := .ref (ta 18)) (C := RX6) (T := TX6) (N := 20) hx hb hT ku_6 hown hK hP 0 rfl rfl 17 (by decide) (hT _ kw_7_16) (fun _ h9 => h9) rfl dX6_takeAway_82 ?_
  refine lv_iload hx hb dX6_takeAway_85 (lv_at hl 3 rfl) ?_
  refine lv_dup2_11 hx hb dX6_takeAway_87 rfl rfl ?_
  refine va_iald (i := x4) hx hb hK hP 10 0 rfl rfl (tx_in g9) dX6_takeAway_88 ?_
  refine lv_aload_n hx hb dX6_takeAway_89 rfl (lv_at hl 0 rfl) ?_
  refine va_get (D := G) (ci := 6) (v := .ref (pa 0)) (C := RX6) (T := TX6) (N := 20) hx hb hT ku_6 hown hK hP 0 rfl rfl 19 (by decide) (hT _ kw_8_1) (fun _ h9 => h9) rfl dX6_takeAway_90 ?_
  refine va_get (D := G) (ci := 2) (v := .ref (pa 15)) (C := RX2) (T := TX2) (N := 19) hx hb hT ku_2 hown hK hP 12 rfl rfl 14 (by decide) (hT _ kw_33_16) (fun _ h9 => h9) rfl dX6_takeAway_93 ?_
  refine lv_iload_n hx hb dX6_takeAway_96 rfl (lv_at hl 1 rfl) ?_
  obtain ⟨g11, h⟩ := tx_ck h
  refine va_iald (i := x1) hx hb hK hP 20 0 rfl rfl (tx_in g11) dX6_takeAway_97 ?_
  refine lv_isub hx hb dX6_takeAway_98 ?_
  refine va_iast (i := x4) hx hb hK hP hD hS 10 0 rfl rfl (tx_in g9) dX6_takeAway_99 (fun H locs hP hD hS => ?_)
  obtain ⟨T_12, eT_12, h⟩ := tx_lt h
  rw [sTP_ta_a17, eT_12] at hP hD
  refine lv_aload_n hx hb dX6_takeAway_100 rfl (lv_at hl 0 rfl) ?_
  refine va_get (D := G) (ci := 6) (v := .ref (ta 15)) (C := RX6) (T := TX6) (N := 20) hx hb hT ku_6 hown hK hP 0 rfl rfl 14 (by decide) (hT _ kw_7_13) (fun _ h9 => h9) rfl dX6_takeAway_101 ?_
  refine lv_iload_n hx hb dX6_takeAway_104 rfl (lv_at hl 1 rfl) ?_
  refine lv_iconst (v := (-1)) hx hb dX6_takeAway_105 (by decide) ?_
  refine va_iast (i := x1) hx hb hK hP hD hS 7 0 rfl rfl (tx_in g11) dX6_takeAway_106 (fun H locs hP hD hS => ?_)
  obtain ⟨T_13, eT_13, h⟩ := tx_lt h
  rw [sTP_ta_a14, eT_13] at hP hD
  refine lv_aload_n hx hb dX6_takeAway_107 rfl (lv_at hl 0 rfl) ?_
  refine va_get (D := G) (ci := 6) (v := .ref (ta 14)) (C := RX6) (T := TX6) (N := 20) hx hb hT ku_6 hown hK hP 0 rfl rfl 13 (by decide) (hT _ kw_7_12) (fun _ h9 => h9) rfl dX6_takeAway_108 ?_
  refine lv_iload_n hx hb dX6_takeAway_111 rfl (lv_at hl 1 rfl) ?_
  refine lv_iload_n hx hb dX6_takeAway_112 rfl (lv_at hl 2 rfl) ?_
  refine va_iast (i := x1) hx hb hK hP hD hS 6 0 rfl rfl (tx_in g11) dX6_takeAway_113 (fun H locs hP hD hS => ?_)
  obtain ⟨T_14, eT_14, h⟩ := tx_lt h
  rw [sTP_ta_a13, eT_14] at hP hD
  obtain rfl := tx_1 h
  exact W.vret hx hb hr (fun t ht hW => ⟨⟨(), rfl, trivial, by rw [ht]; exact hP, hD⟩, hS.F ht⟩) hS.2.2 dX6_takeAway_114
set_option maxHeartbeats 4000000 in
set_option maxRecDepth 100000 in
theorem w_X6_takeAway_L22 {p : Program} {l : Launch} {e : Env} {s : State} {m : MethodId} {below : List Frame} {meth : Method} {c : Code} {G : va_G} {cA : Nat → ClassId} {A : Nat → Prop} {ta : Nat → Nat} {pa : Nat → Nat} {P : Tr} {L : Lo} {x1₀ : Int32} {x2₀ : Int32} {T' : Tr} {x1 : Int32} {x2 : Int32} {x4 : Int32} (F : tF p s m ([.ref (ta 0), .int x1₀, .int x2₀] : List Value).toArray meth c G cA A RX6 cX6_takeAway 6 none)    (N : Nat) : ∀ (x5 : Int32) (T : Tr) (H : Heap) (locs : List Loc) (ls : Array Slot), lpF (fun _ _ => none) (fB_X6_takeAway_L22 P x1 x2 x4) N x5 T = some T' → va_P G vwCl (wTP cA ta pa T P L) H → va_D A (wTP cA ta pa T P L) → va_S A s.heap H locs → lv_has ls 6 [(0, .ref (ta 0)), (1, .int x1), (2, .int x2), (4, .int x4), (5, .int x5)] → G_X6_takeAway p l e s m below meth c G cA A ta pa P L x1₀ x2₀ T' H locs (F0 m 22 ls []) := by
  obtain ⟨hx, hb, hr, hml, hT, hown, hlocks, hK, hN, hA⟩ := id F
  induction N with
  | zero =>
    intro x5 T H locs ls h
    have h : (none : Option (Tr)) = some T' := h
    cases h
  | succ N hk22 =>
    intro x5 T H locs ls h hP hD hS hl
    have h : fB_X6_takeAway_L22 P x1 x2 x4 (lpF (fun _ _ => none) (fB_X6_takeAway_L22 P x1 x2 x4) N) x5 T = some T' := h
    generalize hk22e : lpF (fun _ _ => none) (fB_X6_takeAway_L22 P x1 x2 x4) N = k22 at h hk22
    unfold fB_X6_takeAway_L22 at h
    refine lv_iload hx hb dX6_takeAway_22 (lv_at hl 4 rfl) ?_
    refine lv_iconst (v := 1) hx hb dX6_takeAway_24 (by decide) ?_
    refine lv_iadd hx hb dX6_takeAway_25 ?_
    refine lv_aload_n hx hb dX6_takeAway_26 rfl (lv_at hl 0 rfl) ?_
    refine va_get (D := G) (ci := 6) (v := .ref (ta 17)) (C := RX6) (T := TX6) (N := 20) hx hb hT ku_6 hown hK hP 0 rfl rfl 16 (by decide) (hT _ kw_7_15) (fun _ h9 => h9) rfl dX6_takeAway_27 ?_
    refine lv_iload hx hb dX6_takeAway_30 (lv_at hl 3 rfl) ?_
    obtain ⟨g7, h⟩ := tx_ck h
    refine va_iald (i := x4) hx hb hK hP 9 0 rfl rfl (tx_in g7) dX6_takeAway_32 ?_
    refine lv_icmp_ge (tgt := 70) hx hb dX6_takeAway_33 (by decide) (fun c8 => ?_) (fun c8 => ?_)
    · have h := tx_pos c8 h
      exact w_X6_takeAway_J70 F x1 x2 x4 T H locs ls h hP hD hS (lv_sub hl [0, 1, 2, 3] rfl)
    · have h := tx_neg c8 h
      refine lv_aload_n hx hb dX6_takeAway_36 rfl (lv_at hl 0 rfl) ?_
      refine va_get (D := G) (ci := 6) (v := .ref (ta 16)) (C := RX6) (T := TX6) (N := 20) hx hb hT ku_6 hown hK hP 0 rfl rfl 15 (by decide) (hT _ kw_7_14) (fun _ h9 => h9) rfl dX6_takeAway_37 ?_
      refine lv_iload hx hb dX6_takeAway_40 (lv_at hl 3 rfl) ?_
      refine lv_bipush (v := 10) hx hb dX6_takeAway_42 (by decide) ?_
      refine lv_imul hx hb dX6_takeAway_44 ?_
      refine lv_iload hx hb dX6_takeAway_45 (lv_at hl 4 rfl) ?_
      refine lv_iadd hx hb dX6_takeAway_47 ?_
      refine lv_aload_n hx hb dX6_takeAway_48 rfl (lv_at hl 0 rfl) ?_
      refine va_get (D := G) (ci := 6) (v := .ref (ta 16)) (C := RX6) (T := TX6) (N := 20) hx hb hT ku_6 hown hK hP 0 rfl rfl 15 (by decide) (hT _ kw_7_14) (fun _ h9 => h9) rfl dX6_takeAway_49 ?_
      refine lv_iload hx hb dX6_takeAway_52 (lv_at hl 3 rfl) ?_
      refine lv_bipush (v := 10) hx hb dX6_takeAway_54 (by decide) ?_
      refine lv_imul hx hb dX6_takeAway_56 ?_
      refine lv_iload hx hb dX6_takeAway_57 (lv_at hl 4 rfl) ?_
      refine lv_iadd hx hb dX6_takeAway_59 ?_
      refine lv_iconst (v := 1) hx hb dX6_takeAway_60 (by decide) ?_
      refine lv_iadd hx hb dX6_takeAway_61 ?_
      obtain ⟨g15, h⟩ := tx_ck h
      refine va_iald (i := (((x4 * 10) + x5) + 1)) hx hb hK hP 8 0 rfl rfl (tx_in g15) dX6_takeAway_62 ?_
      obtain ⟨g16, h⟩ := tx_ck h
      refine va_iast (i := ((x4 * 10) + x5)) hx hb hK hP hD hS 8 0 rfl rfl (tx_in g16) dX6_takeAway_63 (fun H locs hP hD hS => ?_)
      obtain ⟨T_17, eT_17, h⟩ := tx_lt h
      rw [sTP_ta_a15, eT_17] at hP hD
      obtain ⟨y18, ey18, h⟩ := tx_lt h
      refine lv_iinc (v := y18) (lv' := [(5, .int y18), (0, .ref (ta 0)), (1, .int x1), (2, .int x2), (4, .int x4)]) hx hb dX6_takeAway_64 hl (k := 4) rfl ey18 (by decide) rfl (fun ls hl => ?_)
      refine lv_goto (tgt := 22) hx hb dX6_takeAway_67 (by decide) ?_
      exact hk22 y18 T_17 H locs ls h hP hD hS (lv_sub hl [1, 2, 3, 4, 0] rfl)
set_option maxHeartbeats 4000000 in
set_option maxRecDepth 100000 in
theorem c_X6_takeAway (l : Launch) (G : va_G) (cA : Nat → ClassId) (sz : Nat) (ta : Nat → Nat) (pa : Nat → Nat) (T : Tr) (P : Tr) (L : Lo) (x1 : Int32) (x2 : Int32)  (T' : Tr) (h : f_X6_takeAway T P x1 x2 = some T') : Met l yX6_takeAway (.code yX6_takeAway cX6_takeAway 6 none :: T0) ({ frames := 1, cells := 0, slots := 0, locals := 23 } : Room) (tqP G cA [.ref (ta 0), .int x1, .int x2] (wTP cA ta pa T P L) sz) (tqQv G cA (fun (_ : Unit) => True) (fun (_ : Unit) => wTP cA ta pa (T') P L) (va_A (wTP cA ta pa T P L) sz)) 0 0 (va_A (wTP cA ta pa T P L) sz) := by
  refine Met.ofW (cc := cX6_takeAway) (maxL := 6) (ret := none) (by decide) rfl ?_
  intro p e s m args below meth c s₁ B hml hv
  obtain ⟨rfl, hsz, hP, hK, hD0, hN⟩ := hv
  have hx := B.exec
  have hb := B.bytes
  have hr := B.returns
  have hts := atoms_spec (ws := .code yX6_takeAway cX6_takeAway 6 none :: T0) B.pre
  have hT : ∀ w ∈ T0, w.before _ s = true := fun w h => hts w (List.mem_cons_of_mem _ h)
  have hown : s.vm.findClass RX6 = some m.cls := findClass_of_methodNamed B.named
  have hlocks := B.notSynchronized
  subst hsz
  have hD := hD0.self (sz := s.heap.size)
  generalize hAe : va_A (wTP cA ta pa T P L) s.heap.size = A at hD ⊢
  have hA : ∀ q : Nat, s.heap.size ≤ q → A q := fun q h => by rw [← hAe]; exact Or.inr h
  have hS : va_S A s.heap s.heap [] := va_S.rf
  have hl := lv_entry ([.ref (ta 0), .int x1, .int x2]) (n := 6) (Nat.le_of_ble_eq_true rfl)
  rw [lg_entry_eq]
  generalize (lg_sl ([.ref (ta 0), .int x1, .int x2]) ++ List.replicate (6 - (lg_sl ([.ref (ta 0), .int x1, .int x2])).length) Slot.unset).toArray = ls at hl ⊢
  have hl : lv_has ls 6 [(0, .ref (ta 0)), (1, .int x1), (2, .int x2)] := hl
  have F : tF p s m ([.ref (ta 0), .int x1, .int x2] : List Value).toArray meth c G cA A RX6 cX6_takeAway 6 none := ⟨hx, hb, hr, hml, hT, hown, hlocks, hK, hN, hA⟩
  obtain ⟨H, hH⟩ : ∃ z, z = s.heap := ⟨_, rfl⟩
  rw [← hH] at hP
  have hS : va_S A s.heap H [] := by rw [hH]; exact hS
  suffices hgo : G_X6_takeAway p l e s m below meth c G cA A ta pa P L x1 x2 T' H [] (F0 m 0 ls []) by rw [hH] at hgo; exact hgo
  generalize ([] : List Loc) = locs at hS ⊢
  unfold f_X6_takeAway at h
  refine lv_aload_n hx hb dX6_takeAway_0 rfl (lv_at hl 0 rfl) ?_
  refine lv_iload_n hx hb dX6_takeAway_1 rfl (lv_at hl 1 rfl) ?_
  obtain ⟨r1, hc2, h⟩ := tx_bd h
  refine tz_i (As := [.int x1]) (rest := []) ⟨hx, hb, hml, hown, hT⟩ hP hD hS hA hK hN (c_X6_level l G cA H.size ta pa T P L x1  r1 hc2) (tq_gV kw_30_14 kw_30_15 kw_30_16 kw_1_23 kw_30_17) rfl rfl dkdV_yX6_level_1 (Nat.le_of_ble_eq_true rfl) (Nat.le_of_ble_eq_true rfl) (ci := 6) (q0 := 0) rfl rfl rfl hl.1 rfl (Nat.le_of_ble_eq_true rfl) dX6_takeAway_2 ⟨Nat.le_of_ble_eq_true rfl, Nat.le_of_ble_eq_true rfl⟩ (fun _ _ H locs z3 hP hD hS => ?_)
  have z3 := z3.symm
  subst z3
  have hP : va_P G vwCl (wTP cA ta pa T P L) H := hP
  have hD : va_D A (wTP cA ta pa T P L) := hD
  refine lv_istore_n (lv' := [(3, .int r1), (0, .ref (ta 0)), (1, .int x1), (2, .int x2)]) hx hb dX6_takeAway_5 rfl hl (by decide) rfl (fun ls hl => ?_)
  refine lv_iload_n hx hb dX6_takeAway_6 rfl (lv_at hl 0 rfl) ?_
  refine lv_if_ge (tgt := 11) hx hb dX6_takeAway_7 (by decide) (fun c4 => ?_) (fun c4 => ?_)
  · have h := tx_pos c4 h
    refine lv_aload_n hx hb dX6_takeAway_11 rfl (lv_at hl 1 rfl) ?_
    refine va_get (D := G) (ci := 6) (v := .ref (ta 15)) (C := RX6) (T := TX6) (N := 20) hx hb hT ku_6 hown hK hP 0 rfl rfl 14 (by decide) (hT _ kw_7_13) (fun _ h9 => h9) rfl dX6_takeAway_12 ?_
    refine lv_iload_n hx hb dX6_takeAway_15 rfl (lv_at hl 2 rfl) ?_
    obtain ⟨g5, h⟩ := tx_ck h
    refine va_iald (i := x1) hx hb hK hP 7 0 rfl rfl (tx_in g5) dX6_takeAway_16 ?_
    refine lv_topi (fun y6 ey6 => ?_)
    have h := tx_let ey6 h
    refine lv_istore (lv' := [(4, .int y6), (3, .int r1), (0, .ref (ta 0)), (1, .int x1), (2, .int x2)]) hx hb dX6_takeAway_17 hl (by decide) rfl (fun ls hl => ?_)
    refine lv_iload_n hx hb dX6_takeAway_19 rfl (lv_at hl 1 rfl) ?_
    refine lv_istore (lv' := [(5, .int r1), (4, .int y6), (3, .int r1), (0, .ref (ta 0)), (1, .int x1), (2, .int x2)]) hx hb dX6_takeAway_20 hl (by decide) rfl (fun ls hl => ?_)
    exact w_X6_takeAway_L22 F 2000 r1 T H locs ls h hP hD hS (lv_sub hl [3, 4, 5, 1, 0] rfl)
  · have h := tx_neg c4 h
    obtain rfl := tx_1 h
    exact W.vret hx hb hr (fun t ht hW => ⟨⟨(), rfl, trivial, by rw [ht]; exact hP, hD⟩, hS.F ht⟩) hS.2.2 dX6_takeAway_10
abbrev G_X6_fallOff (p : Program) (l : Launch) (e : Env) (s : State) (m : MethodId) (below : List Frame) (meth : Method) (c : Code) (G : va_G) (cA : Nat → ClassId) (A : Nat → Prop) (ta : Nat → Nat) (pa : Nat → Nat) (P : Tr) (r0 : Int32) (T' : Tr) (L' : Lo) (H : Heap) (locs : List Loc) (g : JFrame) : Prop := W p l e (headSpec (.code yX6_fallOff cX6_fallOff 4 (some .int) :: T0) ({ frames := 4, cells := 0, slots := 0, locals := 101 } : Room)).room s m ([.ref (ta 0)] : List Value).toArray below meth c H locs 0 0 (MQ below (tqQi G cA (fun (r : Int32) (_ : Unit) => r = r0) (fun (_ : Unit) => wTP cA ta pa (T') P (L')) A) ([.ref (ta 0)] : List Value).toArray s 0 0 A) g
set_option maxHeartbeats 4000000 in
set_option maxRecDepth 100000 in
theorem w_X6_fallOff_L4 {p : Program} {l : Launch} {e : Env} {s : State} {m : MethodId} {below : List Frame} {meth : Method} {c : Code} {G : va_G} {cA : Nat → ClassId} {A : Nat → Prop} {ta : Nat → Nat} {pa : Nat → Nat} {P : Tr} {r0 : Int32} {T' : Tr} {L' : Lo} (F : tF p s m ([.ref (ta 0)] : List Value).toArray meth c G cA A RX6 cX6_fallOff 4 (some .int))    (N : Nat) : ∀ (x1 : Int32) (x2 : Int32) (T : Tr) (L : Lo) (H : Heap) (locs : List Loc) (ls : Array Slot), lpF (fun _ _ _ _ => none) (fB_X6_fallOff_L4 P) N x1 x2 T L = some (r0, T', L') → va_P G vwCl (wTP cA ta pa T P L) H → va_D A (wTP cA ta pa T P L) → va_S A s.heap H locs → lv_has ls 4 [(0, .ref (ta 0)), (1, .int x1), (2, .int x2)] → G_X6_fallOff p l e s m below meth c G cA A ta pa P r0 T' L' H locs (F0 m 4 ls []) := by
  obtain ⟨hx, hb, hr, hml, hT, hown, hlocks, hK, hN, hA⟩ := id F
  induction N with
  | zero =>
    intro x1 x2 T L H locs ls h
    have h : (none : Option (Int32 × Tr × Lo)) = some (r0, T', L') := h
    cases h
  | succ N hk4 =>
    intro x1 x2 T L H locs ls h hP hD hS hl
    have h : fB_X6_fallOff_L4 P (lpF (fun _ _ _ _ => none) (fB_X6_fallOff_L4 P) N) x1 x2 T L = some (r0, T', L') := h
    generalize hk4e : lpF (fun _ _ _ _ => none) (fB_X6_fallOff_L4 P) N = k4 at h hk4
    unfold fB_X6_fallOff_L4 at h
    refine lv_iload_n hx hb dX6_fallOff_4 rfl (lv_at hl 2 rfl) ?_
    refine lv_aload_n hx hb dX6_fallOff_5 rfl (lv_at hl 0 rfl) ?_
    refine va_get (D := G) (ci := 6) (v := .ref (pa 0)) (C := RX6) (T := TX6) (N := 20) hx hb hT ku_6 hown hK hP 0 rfl rfl 19 (by decide) (hT _ kw_8_1) (fun _ h9 => h9) rfl dX6_fallOff_6 ?_
    refine va_get (D := G) (ci := 2) (v := .int (P 0 0)) (C := RX2) (T := TX2) (N := 19) hx hb hT ku_2 hown hK hP 12 rfl rfl 0 (by decide) (hT _ kw_42_0) (fun _ h9 => h9) rfl dX6_fallOff_9 ?_
    refine lv_icmp_ge (tgt := 70) hx hb dX6_fallOff_12 (by decide) (fun c1 => ?_) (fun c1 => ?_)
    · have h := tx_pos c1 h
      refine lv_iload_n hx hb dX6_fallOff_70 rfl (lv_at hl 1 rfl) ?_
      obtain ⟨rfl, rfl, rfl⟩ := tx_3 h
      exact W.iret hx hb hr (fun t ht hW => ⟨⟨_, (), rfl, rfl, by rw [ht]; exact hP, hD⟩, hS.F ht⟩) hS.2.2 dX6_fallOff_71
    · have h := tx_neg c1 h
      refine lv_aload_n hx hb dX6_fallOff_15 rfl (lv_at hl 0 rfl) ?_
      refine va_get (D := G) (ci := 6) (v := .int (T 0 6)) (C := RX6) (T := TX6) (N := 20) hx hb hT ku_6 hown hK hP 0 rfl rfl 6 (by decide) (hT _ kw_7_19) (fun _ h9 => h9) rfl dX6_fallOff_16 ?_
      refine lv_if_eq (tgt := 70) hx hb dX6_fallOff_19 (by decide) (fun c2 => ?_) (fun c2 => ?_)
      · have h := tx_pos c2 h
        refine lv_iload_n hx hb dX6_fallOff_70 rfl (lv_at hl 1 rfl) ?_
        obtain ⟨rfl, rfl, rfl⟩ := tx_3 h
        exact W.iret hx hb hr (fun t ht hW => ⟨⟨_, (), rfl, rfl, by rw [ht]; exact hP, hD⟩, hS.F ht⟩) hS.2.2 dX6_fallOff_71
      · have h := tx_neg c2 h
        refine lv_aload_n hx hb dX6_fallOff_22 rfl (lv_at hl 0 rfl) ?_
        refine lv_iload_n hx hb dX6_fallOff_23 rfl (lv_at hl 2 rfl) ?_
        obtain ⟨r3, hc4, h⟩ := tx_bd h
        refine tz_i (As := [.int x2]) (rest := []) ⟨hx, hb, hml, hown, hT⟩ hP hD hS hA hK hN (c_X6_top l G cA H.size ta pa T P L x2  r3 hc4) (tq_gV kw_42_11 kw_32_4 kw_32_5 kw_1_23 kw_32_6) rfl rfl dkdV_yX6_top_1 (Nat.le_of_ble_eq_true rfl) (Nat.le_of_ble_eq_true rfl) (ci := 6) (q0 := 0) rfl rfl rfl hl.1 rfl (Nat.le_of_ble_eq_true rfl) dX6_fallOff_24 ⟨Nat.le_of_ble_eq_true rfl, Nat.le_of_ble_eq_true rfl⟩ (fun _ _ H locs z5 hP hD hS => ?_)
        have z5 := z5.symm
        subst z5
        have hP : va_P G vwCl (wTP cA ta pa T P L) H := hP
        have hD : va_D A (wTP cA ta pa T P L) := hD
        refine lv_istore_n (lv' := [(3, .int r3), (0, .ref (ta 0)), (1, .int x1), (2, .int x2)]) hx hb dX6_fallOff_27 rfl hl (by decide) rfl (fun ls hl => ?_)
        refine lv_iload_n hx hb dX6_fallOff_28 rfl (lv_at hl 0 rfl) ?_
        refine lv_if_lt (tgt := 64) hx hb dX6_fallOff_29 (by decide) (fun c6 => ?_) (fun c6 => ?_)
        · have h := tx_pos c6 h
          obtain ⟨y7, ey7, h⟩ := tx_lt h
          refine lv_iinc (v := y7) (lv' := [(2, .int y7), (3, .int r3), (0, .ref (ta 0)), (1, .int x1)]) hx hb dX6_fallOff_64 hl (k := 3) rfl ey7 (by decide) rfl (fun ls hl => ?_)
          refine lv_goto (tgt := 4) hx hb dX6_fallOff_67 (by decide) ?_
          exact hk4 x1 y7 T L H locs ls h hP hD hS (lv_sub hl [2, 3, 0] rfl)
        · have h := tx_neg c6 h
          refine lv_aload_n hx hb dX6_fallOff_32 rfl (lv_at hl 1 rfl) ?_
          refine lv_iload_n hx hb dX6_fallOff_33 rfl (lv_at hl 3 rfl) ?_
          obtain ⟨r8, hc9, h⟩ := tx_bd h
          refine tz_i (As := [.int x2]) (rest := []) ⟨hx, hb, hml, hown, hT⟩ hP hD hS hA hK hN (c_X6_isRack l G cA H.size ta pa T P L x2  r8 hc9) (tq_gV kw_42_12 kw_42_13 kw_42_14 kw_1_23 kw_42_15) rfl rfl dkdV_yX6_isRack_1 (Nat.le_of_ble_eq_true rfl) (Nat.le_of_ble_eq_true rfl) (ci := 6) (q0 := 0) rfl rfl rfl hl.1 rfl (Nat.le_of_ble_eq_true rfl) dX6_fallOff_34 ⟨Nat.le_of_ble_eq_true rfl, Nat.le_of_ble_eq_true rfl⟩ (fun _ _ H locs z10 hP hD hS => ?_)
          have z10 := z10.symm
          subst z10
          have hP : va_P G vwCl (wTP cA ta pa T P L) H := hP
          have hD : va_D A (wTP cA ta pa T P L) := hD
          refine lv_if_eq (tgt := 64) hx hb dX6_fallOff_37 (by decide) (fun c11 => ?_) (fun c11 => ?_)
          · have h := tx_pos c11 h
            obtain ⟨y12, ey12, h⟩ := tx_lt h
            refine lv_iinc (v := y12) (lv' := [(2, .int y12), (3, .int r3), (0, .ref (ta 0)), (1, .int x1)]) hx hb dX6_fallOff_64 hl (k := 3) rfl ey12 (by decide) rfl (fun ls hl => ?_)
            refine lv_goto (tgt := 4) hx hb dX6_fallOff_67 (by decide) ?_
            exact hk4 x1 y12 T L H locs ls h hP hD hS (lv_sub hl [2, 3, 0] rfl)
          · have h := tx_neg c11 h
            refine lv_aload_n hx hb dX6_fallOff_40 rfl (lv_at hl 1 rfl) ?_
            refine lv_aload_n hx hb dX6_fallOff_41 rfl (lv_at hl 1 rfl) ?_
            refine lv_iload_n hx hb dX6_fallOff_42 rfl (lv_at hl 0 rfl) ?_
            obtain ⟨⟨r13, T_14, L_15⟩, hc16, h⟩ := tx_bd h
            replace h := tx_let (y := r13) rfl h
            replace h := tx_let (y := T_14) rfl h
            replace h := tx_let (y := L_15) rfl h
            refine tz_i (As := [.int r3]) (rest := [.ref (ta 0)]) ⟨hx, hb, hml, hown, hT⟩ hP hD hS hA hK hN (c_X6_fallPercent l G cA H.size ta pa T P L r3  r13 T_14 L_15 hc16) (tq_gV kw_42_16 kw_42_17 kw_42_18 kw_1_23 kw_42_19) rfl rfl dkdV_yX6_fallPercent_1 (Nat.le_of_ble_eq_true rfl) (Nat.le_of_ble_eq_true rfl) (ci := 6) (q0 := 0) rfl rfl rfl hl.1 rfl (Nat.le_of_ble_eq_true rfl) dX6_fallOff_43 ⟨Nat.le_of_ble_eq_true rfl, Nat.le_of_ble_eq_true rfl⟩ (fun _ _ H locs z17 hP hD hS => ?_)
            have z17 := z17.symm
            subst z17
            have hP : va_P G vwCl (wTP cA ta pa T_14 P L_15) H := hP
            have hD : va_D A (wTP cA ta pa T_14 P L_15) := hD
            obtain ⟨⟨r18, T_19⟩, hc20, h⟩ := tx_bd h
            replace h := tx_let (y := r18) rfl h
            replace h := tx_let (y := T_19) rfl h
            refine tz_i (As := [.int r13]) (rest := []) ⟨hx, hb, hml, hown, hT⟩ hP hD hS hA hK hN (c_X6_happens l G cA H.size ta pa T_14 P L_15 r13  r18 T_19 hc20) (tq_gV kw_42_20 kw_42_21 kw_42_22 kw_1_23 kw_42_23) rfl rfl dkdV_yX6_happens_1 (Nat.le_of_ble_eq_true rfl) (Nat.le_of_ble_eq_true rfl) (ci := 6) (q0 := 0) rfl rfl rfl hl.1 rfl (Nat.le_of_ble_eq_true rfl) dX6_fallOff_46 ⟨Nat.le_of_ble_eq_true rfl, Nat.le_of_ble_eq_true rfl⟩ (fun _ _ H locs z21 hP hD hS => ?_)
            have z21 := z21.symm
            subst z21
            have hP : va_P G vwCl (wTP cA ta pa T_19 P L_15) H := hP
            have hD : va_D A (wTP cA ta pa T_19 P L_15) := hD
            refine lv_if_eq (tgt := 64) hx hb dX6_fallOff_49 (by decide) (fun c22 => ?_) (fun c22 => ?_)
            · have h := tx_pos c22 h
              obtain ⟨y23, ey23, h⟩ := tx_lt h
              refine lv_iinc (v := y23) (lv' := [(2, .int y23), (3, .int r3), (0, .ref (ta 0)), (1, .int x1)]) hx hb dX6_fallOff_64 hl (k := 3) rfl ey23 (by decide) rfl (fun ls hl => ?_)
              refine lv_goto (tgt := 4) hx hb dX6_fallOff_67 (by decide) ?_
              exact hk4 x1 y23 T_19 L_15 H locs ls h hP hD hS (lv_sub hl [2, 3, 0] rfl)
            · have h := tx_neg c22 h
              refine lv_aload_n hx hb dX6_fallOff_52 rfl (lv_at hl 1 rfl) ?_
              refine lv_iload_n hx hb dX6_fallOff_53 rfl (lv_at hl 0 rfl) ?_
              refine lv_iconst (v := 3) hx hb dX6_fallOff_54 (by decide) ?_
              obtain ⟨T_24, hc25, h⟩ := tx_bd h
              refine tz_v (As := [.int r3, .int 3]) (rest := []) ⟨hx, hb, hml, hown, hT⟩ hP hD hS hA hK hN (c_X6_takeAway l G cA H.size ta pa T_19 P L_15 r3 (3 : Int32)  T_24 hc25) (tq_gV kw_41_3 kw_36_19 kw_36_20 kw_1_23 kw_36_21) rfl rfl dkdV_yX6_takeAway_2 (Nat.le_of_ble_eq_true rfl) (Nat.le_of_ble_eq_true rfl) (ci := 6) (q0 := 0) rfl rfl rfl hl.1 rfl (Nat.le_of_ble_eq_true rfl) dX6_fallOff_55 ⟨Nat.le_of_ble_eq_true rfl, Nat.le_of_ble_eq_true rfl⟩ (fun _ H locs z26 hP hD hS => ?_)
              have hP : va_P G vwCl (wTP cA ta pa T_24 P L_15) H := hP
              have hD : va_D A (wTP cA ta pa T_24 P L_15) := hD
              refine lv_iload_n hx hb dX6_fallOff_58 rfl (lv_at hl 2 rfl) ?_
              refine lv_iconst (v := 1) hx hb dX6_fallOff_59 (by decide) ?_
              refine lv_iload_n hx hb dX6_fallOff_60 rfl (lv_at hl 0 rfl) ?_
              refine lv_ishl hx hb dX6_fallOff_61 ?_
              refine lv_ior hx hb dX6_fallOff_62 ?_
              refine lv_topi (fun y27 ey27 => ?_)
              have h := tx_let ey27 h
              refine lv_istore_n (lv' := [(1, .int y27), (3, .int r3), (0, .ref (ta 0)), (2, .int x2)]) hx hb dX6_fallOff_63 rfl hl (by decide) rfl (fun ls hl => ?_)
              obtain ⟨y28, ey28, h⟩ := tx_lt h
              refine lv_iinc (v := y28) (lv' := [(2, .int y28), (1, .int y27), (3, .int r3), (0, .ref (ta 0))]) hx hb dX6_fallOff_64 hl (k := 3) rfl ey28 (by decide) rfl (fun ls hl => ?_)
              refine lv_goto (tgt := 4) hx hb dX6_fallOff_67 (by decide) ?_
              exact hk4 y27 y28 T_24 L_15 H locs ls h hP hD hS (lv_sub hl [3, 1, 0] rfl)
set_option maxHeartbeats 4000000 in
set_option maxRecDepth 100000 in
theorem c_X6_fallOff (l : Launch) (G : va_G) (cA : Nat → ClassId) (sz : Nat) (ta : Nat → Nat) (pa : Nat → Nat) (T : Tr) (P : Tr) (L : Lo)  (r0 : Int32) (T' : Tr) (L' : Lo) (h : f_X6_fallOff T P L = some (r0, T', L')) : Met l yX6_fallOff (.code yX6_fallOff cX6_fallOff 4 (some .int) :: T0) ({ frames := 4, cells := 0, slots := 0, locals := 101 } : Room) (tqP G cA [.ref (ta 0)] (wTP cA ta pa T P L) sz) (tqQi G cA (fun (r : Int32) (_ : Unit) => r = r0) (fun (_ : Unit) => wTP cA ta pa (T') P (L')) (va_A (wTP cA ta pa T P L) sz)) 0 0 (va_A (wTP cA ta pa T P L) sz) := by
  refine Met.ofW (cc := cX6_fallOff) (maxL := 4) (ret := (some .int)) (by decide) rfl ?_
  intro p e s m args below meth c s₁ B hml hv
  obtain ⟨rfl, hsz, hP, hK, hD0, hN⟩ := hv
  have hx := B.exec
  have hb := B.bytes
  have hr := B.returns
  have hts := atoms_spec (ws := .code yX6_fallOff cX6_fallOff 4 (some .int) :: T0) B.pre
  have hT : ∀ w ∈ T0, w.before _ s = true := fun w h => hts w (List.mem_cons_of_mem _ h)
  have hown : s.vm.findClass RX6 = some m.cls := findClass_of_methodNamed B.named
  have hlocks := B.notSynchronized
  subst hsz
  have hD := hD0.self (sz := s.heap.size)
  generalize hAe : va_A (wTP cA ta pa T P L) s.heap.size = A at hD ⊢
  have hA : ∀ q : Nat, s.heap.size ≤ q → A q := fun q h => by rw [← hAe]; exact Or.inr h
  have hS : va_S A s.heap s.heap [] := va_S.rf
  have hl := lv_entry ([.ref (ta 0)]) (n := 4) (Nat.le_of_ble_eq_true rfl)
  rw [lg_entry_eq]
  generalize (lg_sl ([.ref (ta 0)]) ++ List.replicate (4 - (lg_sl ([.ref (ta 0)])).length) Slot.unset).toArray = ls at hl ⊢
  have hl : lv_has ls 4 [(0, .ref (ta 0))] := hl
  have F : tF p s m ([.ref (ta 0)] : List Value).toArray meth c G cA A RX6 cX6_fallOff 4 (some .int) := ⟨hx, hb, hr, hml, hT, hown, hlocks, hK, hN, hA⟩
  obtain ⟨H, hH⟩ : ∃ z, z = s.heap := ⟨_, rfl⟩
  rw [← hH] at hP
  have hS : va_S A s.heap H [] := by rw [hH]; exact hS
  suffices hgo : G_X6_fallOff p l e s m below meth c G cA A ta pa P r0 T' L' H [] (F0 m 0 ls []) by rw [hH] at hgo; exact hgo
  generalize ([] : List Loc) = locs at hS ⊢
  unfold f_X6_fallOff at h
  refine lv_iconst (v := 0) hx hb dX6_fallOff_0 (by decide) ?_
  refine lv_istore_n (lv' := [(1, .int 0), (0, .ref (ta 0))]) hx hb dX6_fallOff_1 rfl hl (by decide) rfl (fun ls hl => ?_)
  refine lv_iconst (v := 0) hx hb dX6_fallOff_2 (by decide) ?_
  refine lv_istore_n (lv' := [(2, .int 0), (1, .int 0), (0, .ref (ta 0))]) hx hb dX6_fallOff_3 rfl hl (by decide) rfl (fun ls hl => ?_)
  exact w_X6_fallOff_L4 F 2000 0 0 T L H locs ls h hP hD hS (lv_sub hl [2, 1, 0] rfl)
abbrev G_X6_firstLate (p : Program) (l : Launch) (e : Env) (s : State) (m : MethodId) (below : List Frame) (meth : Method) (c : Code) (G : va_G) (cA : Nat → ClassId) (A : Nat → Prop) (ta : Nat → Nat) (pa : Nat → Nat) (T : Tr) (P : Tr) (L : Lo) (r0 : Int32) (H : Heap) (locs : List Loc) (g : JFrame) : Prop := W p l e (headSpec (.code yX6_firstLate cX6_firstLate 2 (some .int) :: T0) ({ frames := 0, cells := 0, slots := 0, locals := 0 } : Room)).room s m ([.ref (ta 0)] : List Value).toArray below meth c H locs 0 0 (MQ below (tqQi G cA (fun (r : Int32) (_ : Unit) => r = r0) (fun (_ : Unit) => wTP cA ta pa T P L) A) ([.ref (ta 0)] : List Value).toArray s 0 0 A) g
set_option maxHeartbeats 4000000 in
set_option maxRecDepth 100000 in
theorem w_X6_firstLate_L2 {p : Program} {l : Launch} {e : Env} {s : State} {m : MethodId} {below : List Frame} {meth : Method} {c : Code} {G : va_G} {cA : Nat → ClassId} {A : Nat → Prop} {ta : Nat → Nat} {pa : Nat → Nat} {T : Tr} {P : Tr} {L : Lo} {r0 : Int32} (F : tF p s m ([.ref (ta 0)] : List Value).toArray meth c G cA A RX6 cX6_firstLate 2 (some .int))    (N : Nat) : ∀ (x1 : Int32) (H : Heap) (locs : List Loc) (ls : Array Slot), lpF (fun _ => none) (fB_X6_firstLate_L2 T P) N x1 = some r0 → va_P G vwCl (wTP cA ta pa T P L) H → va_D A (wTP cA ta pa T P L) → va_S A s.heap H locs → lv_has ls 2 [(0, .ref (ta 0)), (1, .int x1)] → G_X6_firstLate p l e s m below meth c G cA A ta pa T P L r0 H locs (F0 m 2 ls []) := by
  obtain ⟨hx, hb, hr, hml, hT, hown, hlocks, hK, hN, hA⟩ := id F
  induction N with
  | zero =>
    intro x1 H locs ls h
    have h : (none : Option (Int32)) = some r0 := h
    cases h
  | succ N hk2 =>
    intro x1 H locs ls h hP hD hS hl
    have h : fB_X6_firstLate_L2 T P (lpF (fun _ => none) (fB_X6_firstLate_L2 T P) N) x1 = some r0 := h
    generalize hk2e : lpF (fun _ => none) (fB_X6_firstLate_L2 T P) N = k2 at h hk2
    unfold fB_X6_firstLate_L2 at h
    refine lv_iload_n hx hb dX6_firstLate_2 rfl (lv_at hl 1 rfl) ?_
    refine lv_aload_n hx hb dX6_firstLate_3 rfl (lv_at hl 0 rfl) ?_
    refine va_get (D := G) (ci := 6) (v := .ref (pa 0)) (C := RX6) (T := TX6) (N := 20) hx hb hT ku_6 hown hK hP 0 rfl rfl 19 (by decide) (hT _ kw_8_1) (fun _ h9 => h9) rfl dX6_firstLate_4 ?_
    refine va_get (D := G) (ci := 2) (v := .int (P 0 1)) (C := RX2) (T := TX2) (N := 19) hx hb hT ku_2 hown hK hP 12 rfl rfl 1 (by decide) (hT _ kw_40_16) (fun _ h9 => h9) rfl dX6_firstLate_7 ?_
    refine lv_icmp_ge (tgt := 47) hx hb dX6_firstLate_10 (by decide) (fun c1 => ?_) (fun c1 => ?_)
    · have h := tx_pos c1 h
      refine lv_iconst (v := (-1)) hx hb dX6_firstLate_47 (by decide) ?_
      obtain rfl := tx_1 h
      exact W.iret hx hb hr (fun t ht hW => ⟨⟨_, (), rfl, rfl, by rw [ht]; exact hP, hD⟩, hS.F ht⟩) hS.2.2 dX6_firstLate_48
    · have h := tx_neg c1 h
      refine lv_aload_n hx hb dX6_firstLate_13 rfl (lv_at hl 0 rfl) ?_
      refine va_get (D := G) (ci := 6) (v := .ref (ta 11)) (C := RX6) (T := TX6) (N := 20) hx hb hT ku_6 hown hK hP 0 rfl rfl 10 (by decide) (hT _ kw_7_9) (fun _ h9 => h9) rfl dX6_firstLate_14 ?_
      refine lv_iload_n hx hb dX6_firstLate_17 rfl (lv_at hl 1 rfl) ?_
      obtain ⟨g2, h⟩ := tx_ck h
      refine va_iald (i := x1) hx hb hK hP 3 0 rfl rfl (tx_in g2) dX6_firstLate_18 ?_
      refine lv_iconst (v := 1) hx hb dX6_firstLate_19 (by decide) ?_
      refine lv_icmp_ne (tgt := 41) hx hb dX6_firstLate_20 (by decide) (fun c3 => ?_) (fun c3 => ?_)
      · have h := tx_neg c3 h
        obtain ⟨y4, ey4, h⟩ := tx_lt h
        refine lv_iinc (v := y4) (lv' := [(1, .int y4), (0, .ref (ta 0))]) hx hb dX6_firstLate_41 hl (k := 1) rfl ey4 (by decide) rfl (fun ls hl => ?_)
        refine lv_goto (tgt := 2) hx hb dX6_firstLate_44 (by decide) ?_
        exact hk2 y4 H locs ls h hP hD hS (lv_sub hl [1, 0] rfl)
      · have h := tx_pos c3 h
        refine lv_aload_n hx hb dX6_firstLate_23 rfl (lv_at hl 0 rfl) ?_
        refine va_get (D := G) (ci := 6) (v := .ref (pa 0)) (C := RX6) (T := TX6) (N := 20) hx hb hT ku_6 hown hK hP 0 rfl rfl 19 (by decide) (hT _ kw_8_1) (fun _ h9 => h9) rfl dX6_firstLate_24 ?_
        refine va_get (D := G) (ci := 2) (v := .ref (pa 12)) (C := RX2) (T := TX2) (N := 19) hx hb hT ku_2 hown hK hP 12 rfl rfl 11 (by decide) (hT _ kw_38_23) (fun _ h9 => h9) rfl dX6_firstLate_27 ?_
        refine lv_iload_n hx hb dX6_firstLate_30 rfl (lv_at hl 1 rfl) ?_
        refine va_iald (i := x1) hx hb hK hP 17 0 rfl rfl (tx_in g2) dX6_firstLate_31 ?_
        refine lv_aload_n hx hb dX6_firstLate_32 rfl (lv_at hl 0 rfl) ?_
        refine va_get (D := G) (ci := 6) (v := .int (T 0 0)) (C := RX6) (T := TX6) (N := 20) hx hb hT ku_6 hown hK hP 0 rfl rfl 0 (by decide) (hT _ kw_8_2) (fun _ h9 => h9) rfl dX6_firstLate_33 ?_
        refine lv_icmp_ne (tgt := 41) hx hb dX6_firstLate_36 (by decide) (fun c5 => ?_) (fun c5 => ?_)
        · have h := tx_neg c5 h
          obtain ⟨y6, ey6, h⟩ := tx_lt h
          refine lv_iinc (v := y6) (lv' := [(1, .int y6), (0, .ref (ta 0))]) hx hb dX6_firstLate_41 hl (k := 1) rfl ey6 (by decide) rfl (fun ls hl => ?_)
          refine lv_goto (tgt := 2) hx hb dX6_firstLate_44 (by decide) ?_
          exact hk2 y6 H locs ls h hP hD hS (lv_sub hl [1, 0] rfl)
        · have h := tx_pos c5 h
          refine lv_iload_n hx hb dX6_firstLate_39 rfl (lv_at hl 1 rfl) ?_
          obtain rfl := tx_1 h
          exact W.iret hx hb hr (fun t ht hW => ⟨⟨_, (), rfl, rfl, by rw [ht]; exact hP, hD⟩, hS.F ht⟩) hS.2.2 dX6_firstLate_40
set_option maxHeartbeats 4000000 in
set_option maxRecDepth 100000 in
theorem c_X6_firstLate (l : Launch) (G : va_G) (cA : Nat → ClassId) (sz : Nat) (ta : Nat → Nat) (pa : Nat → Nat) (T : Tr) (P : Tr) (L : Lo)  (r0 : Int32) (h : f_X6_firstLate T P = some r0) : Met l yX6_firstLate (.code yX6_firstLate cX6_firstLate 2 (some .int) :: T0) ({ frames := 0, cells := 0, slots := 0, locals := 0 } : Room) (tqP G cA [.ref (ta 0)] (wTP cA ta pa T P L) sz) (tqQi G cA (fun (r : Int32) (_ : Unit) => r = r0) (fun (_ : Unit) => wTP cA ta pa T P L) (va_A (wTP cA ta pa T P L) sz)) 0 0 (va_A (wTP cA ta pa T P L) sz) := by
  refine Met.ofW (cc := cX6_firstLate) (maxL := 2) (ret := (some .int)) (by decide) rfl ?_
  intro p e s m args below meth c s₁ B hml hv
  obtain ⟨rfl, hsz, hP, hK, hD0, hN⟩ := hv
  have hx := B.exec
  have hb := B.bytes
  have hr := B.returns
  have hts := atoms_spec (ws := .code yX6_firstLate cX6_firstLate 2 (some .int) :: T0) B.pre
  have hT : ∀ w ∈ T0, w.before _ s = true := fun w h => hts w (List.mem_cons_of_mem _ h)
  have hown : s.vm.findClass RX6 = some m.cls := findClass_of_methodNamed B.named
  have hlocks := B.notSynchronized
  subst hsz
  have hD := hD0.self (sz := s.heap.size)
  generalize hAe : va_A (wTP cA ta pa T P L) s.heap.size = A at hD ⊢
  have hA : ∀ q : Nat, s.heap.size ≤ q → A q := fun q h => by rw [← hAe]; exact Or.inr h
  have hS : va_S A s.heap s.heap [] := va_S.rf
  have hl := lv_entry ([.ref (ta 0)]) (n := 2) (Nat.le_of_ble_eq_true rfl)
  rw [lg_entry_eq]
  generalize (lg_sl ([.ref (ta 0)]) ++ List.replicate (2 - (lg_sl ([.ref (ta 0)])).length) Slot.unset).toArray = ls at hl ⊢
  have hl : lv_has ls 2 [(0, .ref (ta 0))] := hl
  have F : tF p s m ([.ref (ta 0)] : List Value).toArray meth c G cA A RX6 cX6_firstLate 2 (some .int) := ⟨hx, hb, hr, hml, hT, hown, hlocks, hK, hN, hA⟩
  obtain ⟨H, hH⟩ : ∃ z, z = s.heap := ⟨_, rfl⟩
  rw [← hH] at hP
  have hS : va_S A s.heap H [] := by rw [hH]; exact hS
  suffices hgo : G_X6_firstLate p l e s m below meth c G cA A ta pa T P L r0 H [] (F0 m 0 ls []) by rw [hH] at hgo; exact hgo
  generalize ([] : List Loc) = locs at hS ⊢
  unfold f_X6_firstLate at h
  refine lv_iconst (v := 0) hx hb dX6_firstLate_0 (by decide) ?_
  refine lv_istore_n (lv' := [(1, .int 0), (0, .ref (ta 0))]) hx hb dX6_firstLate_1 rfl hl (by decide) rfl (fun ls hl => ?_)
  exact w_X6_firstLate_L2 F 2000 0 H locs ls h hP hD hS (lv_sub hl [1, 0] rfl)
abbrev G_X6_hasRoom (p : Program) (l : Launch) (e : Env) (s : State) (m : MethodId) (below : List Frame) (meth : Method) (c : Code) (G : va_G) (cA : Nat → ClassId) (A : Nat → Prop) (ta : Nat → Nat) (pa : Nat → Nat) (T : Tr) (P : Tr) (L : Lo) (x1 : Int32) (x2 : Int32) (r0 : Int32) (H : Heap) (locs : List Loc) (g : JFrame) : Prop := W p l e (headSpec (.code yX6_hasRoom cX6_hasRoom 3 (some .boolean) :: T0) ({ frames := 0, cells := 0, slots := 0, locals := 0 } : Room)).room s m ([.ref (ta 0), .int x1, .int x2] : List Value).toArray below meth c H locs 0 0 (MQ below (tqQi G cA (fun (r : Int32) (_ : Unit) => r = r0) (fun (_ : Unit) => wTP cA ta pa T P L) A) ([.ref (ta 0), .int x1, .int x2] : List Value).toArray s 0 0 A) g
set_option maxHeartbeats 4000000 in
set_option maxRecDepth 100000 in
theorem c_X6_hasRoom (l : Launch) (G : va_G) (cA : Nat → ClassId) (sz : Nat) (ta : Nat → Nat) (pa : Nat → Nat) (T : Tr) (P : Tr) (L : Lo) (x1 : Int32) (x2 : Int32)  (r0 : Int32) (h : f_X6_hasRoom T P x1 x2 = some r0) : Met l yX6_hasRoom (.code yX6_hasRoom cX6_hasRoom 3 (some .boolean) :: T0) ({ frames := 0, cells := 0, slots := 0, locals := 0 } : Room) (tqP G cA [.ref (ta 0), .int x1, .int x2] (wTP cA ta pa T P L) sz) (tqQi G cA (fun (r : Int32) (_ : Unit) => r = r0) (fun (_ : Unit) => wTP cA ta pa T P L) (va_A (wTP cA ta pa T P L) sz)) 0 0 (va_A (wTP cA ta pa T P L) sz) := by
  refine Met.ofW (cc := cX6_hasRoom) (maxL := 3) (ret := (some .boolean)) (by decide) rfl ?_
  intro p e s m args below meth c s₁ B hml hv
  obtain ⟨rfl, hsz, hP, hK, hD0, hN⟩ := hv
  have hx := B.exec
  have hb := B.bytes
  have hr := B.returns
  have hts := atoms_spec (ws := .code yX6_hasRoom cX6_hasRoom 3 (some .boolean) :: T0) B.pre
  have hT : ∀ w ∈ T0, w.before _ s = true := fun w h => hts w (List.mem_cons_of_mem _ h)
  have hown : s.vm.findClass RX6 = some m.cls := findClass_of_methodNamed B.named
  have hlocks := B.notSynchronized
  subst hsz
  have hD := hD0.self (sz := s.heap.size)
  generalize hAe : va_A (wTP cA ta pa T P L) s.heap.size = A at hD ⊢
  have hA : ∀ q : Nat, s.heap.size ≤ q → A q := fun q h => by rw [← hAe]; exact Or.inr h
  have hS : va_S A s.heap s.heap [] := va_S.rf
  have hl := lv_entry ([.ref (ta 0), .int x1, .int x2]) (n := 3) (Nat.le_of_ble_eq_true rfl)
  rw [lg_entry_eq]
  generalize (lg_sl ([.ref (ta 0), .int x1, .int x2]) ++ List.replicate (3 - (lg_sl ([.ref (ta 0), .int x1, .int x2])).length) Slot.unset).toArray = ls at hl ⊢
  have hl : lv_has ls 3 [(0, .ref (ta 0)), (1, .int x1), (2, .int x2)] := hl
  have F : tF p s m ([.ref (ta 0), .int x1, .int x2] : List Value).toArray meth c G cA A RX6 cX6_hasRoom 3 (some .boolean) := ⟨hx, hb, hr, hml, hT, hown, hlocks, hK, hN, hA⟩
  obtain ⟨H, hH⟩ : ∃ z, z = s.heap := ⟨_, rfl⟩
  rw [← hH] at hP
  have hS : va_S A s.heap H [] := by rw [hH]; exact hS
  suffices hgo : G_X6_hasRoom p l e s m below meth c G cA A ta pa T P L x1 x2 r0 H [] (F0 m 0 ls []) by rw [hH] at hgo; exact hgo
  generalize ([] : List Loc) = locs at hS ⊢
  unfold f_X6_hasRoom at h
  refine lv_aload_n hx hb dX6_hasRoom_0 rfl (lv_at hl 0 rfl) ?_
  refine va_get (D := G) (ci := 6) (v := .ref (ta 18)) (C := RX6) (T := TX6) (N := 20) hx hb hT ku_6 hown hK hP 0 rfl rfl 17 (by decide) (hT _ kw_7_16) (fun _ h9 => h9) rfl dX6_hasRoom_1 ?_
  refine lv_iload_n hx hb dX6_hasRoom_4 rfl (lv_at hl 1 rfl) ?_
  obtain ⟨g1, h⟩ := tx_ck h
  refine va_iald (i := x1) hx hb hK hP 10 0 rfl rfl (tx_in g1) dX6_hasRoom_5 ?_
  refine lv_aload_n hx hb dX6_hasRoom_6 rfl (lv_at hl 0 rfl) ?_
  refine va_get (D := G) (ci := 6) (v := .ref (pa 0)) (C := RX6) (T := TX6) (N := 20) hx hb hT ku_6 hown hK hP 0 rfl rfl 19 (by decide) (hT _ kw_8_1) (fun _ h9 => h9) rfl dX6_hasRoom_7 ?_
  refine va_get (D := G) (ci := 2) (v := .ref (pa 15)) (C := RX2) (T := TX2) (N := 19) hx hb hT ku_2 hown hK hP 12 rfl rfl 14 (by decide) (hT _ kw_33_16) (fun _ h9 => h9) rfl dX6_hasRoom_10 ?_
  refine lv_iload_n hx hb dX6_hasRoom_13 rfl (lv_at hl 2 rfl) ?_
  obtain ⟨g2, h⟩ := tx_ck h
  refine va_iald (i := x2) hx hb hK hP 20 0 rfl rfl (tx_in g2) dX6_hasRoom_14 ?_
  refine lv_iadd hx hb dX6_hasRoom_15 ?_
  refine lv_aload_n hx hb dX6_hasRoom_16 rfl (lv_at hl 0 rfl) ?_
  refine va_get (D := G) (ci := 6) (v := .ref (pa 0)) (C := RX6) (T := TX6) (N := 20) hx hb hT ku_6 hown hK hP 0 rfl rfl 19 (by decide) (hT _ kw_8_1) (fun _ h9 => h9) rfl dX6_hasRoom_17 ?_
  refine va_get (D := G) (ci := 2) (v := .ref (pa 9)) (C := RX2) (T := TX2) (N := 19) hx hb hT ku_2 hown hK hP 12 rfl rfl 8 (by decide) (hT _ kw_36_0) (fun _ h9 => h9) rfl dX6_hasRoom_20 ?_
  refine lv_iload_n hx hb dX6_hasRoom_23 rfl (lv_at hl 1 rfl) ?_
  refine va_iald (i := x1) hx hb hK hP 14 0 rfl rfl (tx_in g1) dX6_hasRoom_24 ?_
  refine lv_icmp_gt (tgt := 32) hx hb dX6_hasRoom_25 (by decide) (fun c3 => ?_) (fun c3 => ?_)
  · have h := tx_pos c3 h
    refine lv_iconst (v := 0) hx hb dX6_hasRoom_32 (by decide) ?_
    obtain rfl := tx_1 h
    exact W.zret (ty := .boolean) hx hb hr rfl (fun t ht hW => ⟨⟨_, (), rfl, rfl, by rw [ht]; exact hP, hD⟩, hS.F ht⟩) hS.2.2 dX6_hasRoom_33
  · have h := tx_neg c3 h
    refine lv_iconst (v := 1) hx hb dX6_hasRoom_28 (by decide) ?_
    refine lv_goto (tgt := 33) hx hb dX6_hasRoom_29 (by decide) ?_
    obtain rfl := tx_1 h
    exact W.zret (ty := .boolean) hx hb hr rfl (fun t ht hW => ⟨⟨_, (), rfl, rfl, by rw [ht]; exact hP, hD⟩, hS.F ht⟩) hS.2.2 dX6_hasRoom_33
abbrev G_X6_placeByRule (p : Program) (l : Launch) (e : Env) (s : State) (m : MethodId) (below : List Frame) (meth : Method) (c : Code) (G : va_G) (cA : Nat → ClassId) (A : Nat → Prop) (ta : Nat → Nat) (pa : Nat → Nat) (T : Tr) (P : Tr) (L : Lo) (x1 : Int32) (r0 : Int32) (H : Heap) (locs : List Loc) (g : JFrame) : Prop := W p l e (headSpec (.code yX6_placeByRule cX6_placeByRule 5 (some .int) :: T0) ({ frames := 1, cells := 0, slots := 0, locals := 22 } : Room)).room s m ([.ref (ta 0), .int x1] : List Value).toArray below meth c H locs 0 0 (MQ below (tqQi G cA (fun (r : Int32) (_ : Unit) => r = r0) (fun (_ : Unit) => wTP cA ta pa T P L) A) ([.ref (ta 0), .int x1] : List Value).toArray s 0 0 A) g
set_option maxHeartbeats 4000000 in
set_option maxRecDepth 100000 in
theorem w_X6_placeByRule_J75 {p : Program} {l : Launch} {e : Env} {s : State} {m : MethodId} {below : List Frame} {meth : Method} {c : Code} {G : va_G} {cA : Nat → ClassId} {A : Nat → Prop} {ta : Nat → Nat} {pa : Nat → Nat} {T : Tr} {P : Tr} {L : Lo} {x1₀ : Int32} {r0 : Int32} {x1 : Int32} (F : tF p s m ([.ref (ta 0), .int x1₀] : List Value).toArray meth c G cA A RX6 cX6_placeByRule 5 (some .int))  (k4 : Int32 → Int32 → Option (Int32)) (hk4 : ∀ (x2 : Int32) (x3 : Int32) (H : Heap) (locs : List Loc) (ls : Array Slot), k4 x2 x3 = some r0 → va_P G vwCl (wTP cA ta pa T P L) H → va_D A (wTP cA ta pa T P L) → va_S A s.heap H locs → lv_has ls 5 [(0, .ref (ta 0)), (1, .int x1), (2, .int x2), (3, .int x3)] → G_X6_placeByRule p l e s m below meth c G cA A ta pa T P L x1₀ r0 H locs (F0 m 4 ls [])) (x2 : Int32) (x3 : Int32) (s0 : Int32) (H : Heap) (locs : List Loc) (ls : Array Slot) (h : fJ_X6_placeByRule_J75 k4 T P x1 x2 x3 s0 = some r0) (hP : va_P G vwCl (wTP cA ta pa T P L) H) (hD : va_D A (wTP cA ta pa T P L)) (hS : va_S A s.heap H locs) (hl : lv_has ls 5 [(0, .ref (ta 0)), (1, .int x1), (2, .int x2), (3, .int x3)]) : G_X6_placeByRule p l e s m below meth c G cA A ta pa T P L x1₀ r0 H locs (F0 m 75 ls [.int s0]) := by
  obtain ⟨hx, hb, hr, hml, hT, hown, hlocks, hK, hN, hA⟩ := id F
  unfold fJ_X6_placeByRule_J75 at h
  refine lv_istore (lv' := [(4, .int s0), (0, .ref (ta 0)), (1, .int x1), (2, .int x2), (3, .int x3)]) hx hb dX6_placeByRule_75 hl (by decide) rfl (fun ls hl => ?_)
  refine lv_iload hx hb dX6_placeByRule_77 (lv_at hl 0 rfl) ?_
  refine lv_if_eq (tgt := 86) hx hb dX6_placeByRule_79 (by decide) (fun c9 => ?_) (fun c9 => ?_)
  · have h := tx_pos c9 h
    refine lv_iload_n hx hb dX6_placeByRule_86 rfl (lv_at hl 3 rfl) ?_
    refine lv_istore_n (lv' := [(2, .int x2), (4, .int s0), (0, .ref (ta 0)), (1, .int x1), (3, .int x3)]) hx hb dX6_placeByRule_87 rfl hl (by decide) rfl (fun ls hl => ?_)
    obtain ⟨y10, ey10, h⟩ := tx_lt h
    refine lv_iinc (v := y10) (lv' := [(3, .int y10), (2, .int x2), (4, .int s0), (0, .ref (ta 0)), (1, .int x1)]) hx hb dX6_placeByRule_88 hl (k := 4) rfl ey10 (by decide) rfl (fun ls hl => ?_)
    refine lv_goto (tgt := 4) hx hb dX6_placeByRule_91 (by decide) ?_
    exact hk4 x2 y10 H locs ls h hP hD hS (lv_sub hl [3, 4, 1, 0] rfl)
  · have h := tx_neg c9 h
    refine lv_iload_n hx hb dX6_placeByRule_82 rfl (lv_at hl 4 rfl) ?_
    refine lv_goto (tgt := 87) hx hb dX6_placeByRule_83 (by decide) ?_
    refine lv_istore_n (lv' := [(2, .int x3), (4, .int s0), (0, .ref (ta 0)), (1, .int x1), (3, .int x3)]) hx hb dX6_placeByRule_87 rfl hl (by decide) rfl (fun ls hl => ?_)
    obtain ⟨y11, ey11, h⟩ := tx_lt h
    refine lv_iinc (v := y11) (lv' := [(3, .int y11), (2, .int x3), (4, .int s0), (0, .ref (ta 0)), (1, .int x1)]) hx hb dX6_placeByRule_88 hl (k := 4) rfl ey11 (by decide) rfl (fun ls hl => ?_)
    refine lv_goto (tgt := 4) hx hb dX6_placeByRule_91 (by decide) ?_
    exact hk4 x3 y11 H locs ls h hP hD hS (lv_sub hl [3, 4, 1, 0] rfl)
set_option maxHeartbeats 4000000 in
set_option maxRecDepth 100000 in
theorem w_X6_placeByRule_J70 {p : Program} {l : Launch} {e : Env} {s : State} {m : MethodId} {below : List Frame} {meth : Method} {c : Code} {G : va_G} {cA : Nat → ClassId} {A : Nat → Prop} {ta : Nat → Nat} {pa : Nat → Nat} {T : Tr} {P : Tr} {L : Lo} {x1₀ : Int32} {r0 : Int32} {x1 : Int32} (F : tF p s m ([.ref (ta 0), .int x1₀] : List Value).toArray meth c G cA A RX6 cX6_placeByRule 5 (some .int))  (k4 : Int32 → Int32 → Option (Int32)) (hk4 : ∀ (x2 : Int32) (x3 : Int32) (H : Heap) (locs : List Loc) (ls : Array Slot), k4 x2 x3 = some r0 → va_P G vwCl (wTP cA ta pa T P L) H → va_D A (wTP cA ta pa T P L) → va_S A s.heap H locs → lv_has ls 5 [(0, .ref (ta 0)), (1, .int x1), (2, .int x2), (3, .int x3)] → G_X6_placeByRule p l e s m below meth c G cA A ta pa T P L x1₀ r0 H locs (F0 m 4 ls [])) (x2 : Int32) (x3 : Int32) (H : Heap) (locs : List Loc) (ls : Array Slot) (h : fJ_X6_placeByRule_J70 k4 T P x1 x2 x3 = some r0) (hP : va_P G vwCl (wTP cA ta pa T P L) H) (hD : va_D A (wTP cA ta pa T P L)) (hS : va_S A s.heap H locs) (hl : lv_has ls 5 [(0, .ref (ta 0)), (1, .int x1), (2, .int x2), (3, .int x3)]) : G_X6_placeByRule p l e s m below meth c G cA A ta pa T P L x1₀ r0 H locs (F0 m 70 ls []) := by
  obtain ⟨hx, hb, hr, hml, hT, hown, hlocks, hK, hN, hA⟩ := id F
  unfold fJ_X6_placeByRule_J70 at h
  refine lv_iconst (v := 1) hx hb dX6_placeByRule_70 (by decide) ?_
  refine lv_goto (tgt := 75) hx hb dX6_placeByRule_71 (by decide) ?_
  exact w_X6_placeByRule_J75 F k4 hk4 x2 x3 1 H locs ls h hP hD hS (lv_sub hl [0, 1, 2, 3] rfl)
set_option maxHeartbeats 4000000 in
set_option maxRecDepth 100000 in
theorem w_X6_placeByRule_L4 {p : Program} {l : Launch} {e : Env} {s : State} {m : MethodId} {below : List Frame} {meth : Method} {c : Code} {G : va_G} {cA : Nat → ClassId} {A : Nat → Prop} {ta : Nat → Nat} {pa : Nat → Nat} {T : Tr} {P : Tr} {L : Lo} {x1₀ : Int32} {r0 : Int32} {x1 : Int32} (F : tF p s m ([.ref (ta 0), .int x1₀] : List Value).toArray meth c G cA A RX6 cX6_placeByRule 5 (some .int))    (N : Nat) : ∀ (x2 : Int32) (x3 : Int32) (H : Heap) (locs : List Loc) (ls : Array Slot), lpF (fun _ _ => none) (fB_X6_placeByRule_L4 T P x1) N x2 x3 = some r0 → va_P G vwCl (wTP cA ta pa T P L) H → va_D A (wTP cA ta pa T P L) → va_S A s.heap H locs → lv_has ls 5 [(0, .ref (ta 0)), (1, .int x1), (2, .int x2), (3, .int x3)] → G_X6_placeByRule p l e s m below meth c G cA A ta pa T P L x1₀ r0 H locs (F0 m 4 ls []) := by
  obtain ⟨hx, hb, hr, hml, hT, hown, hlocks, hK, hN, hA⟩ := id F
  induction N with
  | zero =>
    intro x2 x3 H locs ls h
    have h : (none : Option (Int32)) = some r0 := h
    cases h
  | succ N hk4 =>
    intro x2 x3 H locs ls h hP hD hS hl
    have h : fB_X6_placeByRule_L4 T P x1 (lpF (fun _ _ => none) (fB_X6_placeByRule_L4 T P x1) N) x2 x3 = some r0 := h
    generalize hk4e : lpF (fun _ _ => none) (fB_X6_placeByRule_L4 T P x1) N = k4 at h hk4
    unfold fB_X6_placeByRule_L4 at h
    refine lv_iload_n hx hb dX6_placeByRule_4 rfl (lv_at hl 3 rfl) ?_
    refine lv_aload_n hx hb dX6_placeByRule_5 rfl (lv_at hl 0 rfl) ?_
    refine va_get (D := G) (ci := 6) (v := .ref (pa 0)) (C := RX6) (T := TX6) (N := 20) hx hb hT ku_6 hown hK hP 0 rfl rfl 19 (by decide) (hT _ kw_8_1) (fun _ h9 => h9) rfl dX6_placeByRule_6 ?_
    refine va_get (D := G) (ci := 2) (v := .int (P 0 0)) (C := RX2) (T := TX2) (N := 19) hx hb hT ku_2 hown hK hP 12 rfl rfl 0 (by decide) (hT _ kw_42_0) (fun _ h9 => h9) rfl dX6_placeByRule_9 ?_
    refine lv_icmp_ge (tgt := 94) hx hb dX6_placeByRule_12 (by decide) (fun c1 => ?_) (fun c1 => ?_)
    · have h := tx_pos c1 h
      refine lv_iload_n hx hb dX6_placeByRule_94 rfl (lv_at hl 2 rfl) ?_
      obtain rfl := tx_1 h
      exact W.iret hx hb hr (fun t ht hW => ⟨⟨_, (), rfl, rfl, by rw [ht]; exact hP, hD⟩, hS.F ht⟩) hS.2.2 dX6_placeByRule_95
    · have h := tx_neg c1 h
      refine lv_aload_n hx hb dX6_placeByRule_15 rfl (lv_at hl 0 rfl) ?_
      refine lv_iload_n hx hb dX6_placeByRule_16 rfl (lv_at hl 3 rfl) ?_
      refine lv_iload_n hx hb dX6_placeByRule_17 rfl (lv_at hl 1 rfl) ?_
      obtain ⟨r2, hc3, h⟩ := tx_bd h
      refine tz_i (As := [.int x3, .int x1]) (rest := []) ⟨hx, hb, hml, hown, hT⟩ hP hD hS hA hK hN (c_X6_hasRoom l G cA H.size ta pa T P L x3 x1  r2 hc3) (tq_gV kw_42_1 kw_35_21 kw_35_22 kw_1_23 kw_35_23) rfl rfl dkdV_yX6_hasRoom_2 (Nat.le_of_ble_eq_true rfl) (Nat.le_of_ble_eq_true rfl) (ci := 6) (q0 := 0) rfl rfl rfl hl.1 rfl (Nat.le_of_ble_eq_true rfl) dX6_placeByRule_18 ⟨Nat.le_of_ble_eq_true rfl, Nat.le_of_ble_eq_true rfl⟩ (fun _ _ H locs z4 hP hD hS => ?_)
      have z4 := z4.symm
      subst z4
      have hP : va_P G vwCl (wTP cA ta pa T P L) H := hP
      have hD : va_D A (wTP cA ta pa T P L) := hD
      refine lv_if_eq (tgt := 88) hx hb dX6_placeByRule_21 (by decide) (fun c5 => ?_) (fun c5 => ?_)
      · have h := tx_pos c5 h
        obtain ⟨y6, ey6, h⟩ := tx_lt h
        refine lv_iinc (v := y6) (lv' := [(3, .int y6), (0, .ref (ta 0)), (1, .int x1), (2, .int x2)]) hx hb dX6_placeByRule_88 hl (k := 3) rfl ey6 (by decide) rfl (fun ls hl => ?_)
        refine lv_goto (tgt := 4) hx hb dX6_placeByRule_91 (by decide) ?_
        exact hk4 x2 y6 H locs ls h hP hD hS (lv_sub hl [1, 2, 3, 0] rfl)
      · have h := tx_neg c5 h
        refine lv_aload_n hx hb dX6_placeByRule_24 rfl (lv_at hl 0 rfl) ?_
        refine va_get (D := G) (ci := 6) (v := .int (T 0 3)) (C := RX6) (T := TX6) (N := 20) hx hb hT ku_6 hown hK hP 0 rfl rfl 3 (by decide) (hT _ kw_8_7) (fun _ h9 => h9) rfl dX6_placeByRule_25 ?_
        refine lv_if_ne (tgt := 43) hx hb dX6_placeByRule_28 (by decide) (fun c7 => ?_) (fun c7 => ?_)
        · have h := tx_neg c7 h
          refine lv_aload_n hx hb dX6_placeByRule_43 rfl (lv_at hl 0 rfl) ?_
          refine va_get (D := G) (ci := 6) (v := .int (T 0 3)) (C := RX6) (T := TX6) (N := 20) hx hb hT ku_6 hown hK hP 0 rfl rfl 3 (by decide) (hT _ kw_8_7) (fun _ h9 => h9) rfl dX6_placeByRule_44 ?_
          refine lv_iconst (v := 1) hx hb dX6_placeByRule_47 (by decide) ?_
          refine lv_icmp_ne (tgt := 70) hx hb dX6_placeByRule_48 (by decide) (fun c8 => ?_) (fun c8 => ?_)
          · have h := tx_neg c8 h
            exact w_X6_placeByRule_J70 F k4 hk4 x2 x3 H locs ls h hP hD hS (lv_sub hl [0, 1, 2, 3] rfl)
          · have h := tx_pos c8 h
            refine lv_iload_n hx hb dX6_placeByRule_51 rfl (lv_at hl 2 rfl) ?_
            refine lv_if_lt (tgt := 70) hx hb dX6_placeByRule_52 (by decide) (fun c12 => ?_) (fun c12 => ?_)
            · have h := tx_pos c12 h
              exact w_X6_placeByRule_J70 F k4 hk4 x2 x3 H locs ls h hP hD hS (lv_sub hl [0, 1, 2, 3] rfl)
            · have h := tx_neg c12 h
              refine lv_aload_n hx hb dX6_placeByRule_55 rfl (lv_at hl 0 rfl) ?_
              refine va_get (D := G) (ci := 6) (v := .ref (ta 18)) (C := RX6) (T := TX6) (N := 20) hx hb hT ku_6 hown hK hP 0 rfl rfl 17 (by decide) (hT _ kw_7_16) (fun _ h9 => h9) rfl dX6_placeByRule_56 ?_
              refine lv_iload_n hx hb dX6_placeByRule_59 rfl (lv_at hl 3 rfl) ?_
              obtain ⟨g13, h⟩ := tx_ck h
              refine va_iald (i := x3) hx hb hK hP 10 0 rfl rfl (tx_in g13) dX6_placeByRule_60 ?_
              refine lv_aload_n hx hb dX6_placeByRule_61 rfl (lv_at hl 0 rfl) ?_
              refine va_get (D := G) (ci := 6) (v := .ref (ta 18)) (C := RX6) (T := TX6) (N := 20) hx hb hT ku_6 hown hK hP 0 rfl rfl 17 (by decide) (hT _ kw_7_16) (fun _ h9 => h9) rfl dX6_placeByRule_62 ?_
              refine lv_iload_n hx hb dX6_placeByRule_65 rfl (lv_at hl 2 rfl) ?_
              obtain ⟨g14, h⟩ := tx_ck h
              refine va_iald (i := x2) hx hb hK hP 10 0 rfl rfl (tx_in g14) dX6_placeByRule_66 ?_
              refine lv_icmp_ge (tgt := 74) hx hb dX6_placeByRule_67 (by decide) (fun c15 => ?_) (fun c15 => ?_)
              · have h := tx_pos c15 h
                refine lv_iconst (v := 0) hx hb dX6_placeByRule_74 (by decide) ?_
                exact w_X6_placeByRule_J75 F k4 hk4 x2 x3 0 H locs ls h hP hD hS (lv_sub hl [0, 1, 2, 3] rfl)
              · have h := tx_neg c15 h
                exact w_X6_placeByRule_J70 F k4 hk4 x2 x3 H locs ls h hP hD hS (lv_sub hl [0, 1, 2, 3] rfl)
        · have h := tx_pos c7 h
          refine lv_iload_n hx hb dX6_placeByRule_31 rfl (lv_at hl 2 rfl) ?_
          refine lv_if_ge (tgt := 39) hx hb dX6_placeByRule_32 (by decide) (fun c16 => ?_) (fun c16 => ?_)
          · have h := tx_pos c16 h
            refine lv_iconst (v := 0) hx hb dX6_placeByRule_39 (by decide) ?_
            refine lv_goto (tgt := 75) hx hb dX6_placeByRule_40 (by decide) ?_
            exact w_X6_placeByRule_J75 F k4 hk4 x2 x3 0 H locs ls h hP hD hS (lv_sub hl [0, 1, 2, 3] rfl)
          · have h := tx_neg c16 h
            refine lv_iconst (v := 1) hx hb dX6_placeByRule_35 (by decide) ?_
            refine lv_goto (tgt := 75) hx hb dX6_placeByRule_36 (by decide) ?_
            exact w_X6_placeByRule_J75 F k4 hk4 x2 x3 1 H locs ls h hP hD hS (lv_sub hl [0, 1, 2, 3] rfl)
set_option maxHeartbeats 4000000 in
set_option maxRecDepth 100000 in
theorem c_X6_placeByRule (l : Launch) (G : va_G) (cA : Nat → ClassId) (sz : Nat) (ta : Nat → Nat) (pa : Nat → Nat) (T : Tr) (P : Tr) (L : Lo) (x1 : Int32)  (r0 : Int32) (h : f_X6_placeByRule T P x1 = some r0) : Met l yX6_placeByRule (.code yX6_placeByRule cX6_placeByRule 5 (some .int) :: T0) ({ frames := 1, cells := 0, slots := 0, locals := 22 } : Room) (tqP G cA [.ref (ta 0), .int x1] (wTP cA ta pa T P L) sz) (tqQi G cA (fun (r : Int32) (_ : Unit) => r = r0) (fun (_ : Unit) => wTP cA ta pa T P L) (va_A (wTP cA ta pa T P L) sz)) 0 0 (va_A (wTP cA ta pa T P L) sz) := by
  refine Met.ofW (cc := cX6_placeByRule) (maxL := 5) (ret := (some .int)) (by decide) rfl ?_
  intro p e s m args below meth c s₁ B hml hv
  obtain ⟨rfl, hsz, hP, hK, hD0, hN⟩ := hv
  have hx := B.exec
  have hb := B.bytes
  have hr := B.returns
  have hts := atoms_spec (ws := .code yX6_placeByRule cX6_placeByRule 5 (some .int) :: T0) B.pre
  have hT : ∀ w ∈ T0, w.before _ s = true := fun w h => hts w (List.mem_cons_of_mem _ h)
  have hown : s.vm.findClass RX6 = some m.cls := findClass_of_methodNamed B.named
  have hlocks := B.notSynchronized
  subst hsz
  have hD := hD0.self (sz := s.heap.size)
  generalize hAe : va_A (wTP cA ta pa T P L) s.heap.size = A at hD ⊢
  have hA : ∀ q : Nat, s.heap.size ≤ q → A q := fun q h => by rw [← hAe]; exact Or.inr h
  have hS : va_S A s.heap s.heap [] := va_S.rf
  have hl := lv_entry ([.ref (ta 0), .int x1]) (n := 5) (Nat.le_of_ble_eq_true rfl)
  rw [lg_entry_eq]
  generalize (lg_sl ([.ref (ta 0), .int x1]) ++ List.replicate (5 - (lg_sl ([.ref (ta 0), .int x1])).length) Slot.unset).toArray = ls at hl ⊢
  have hl : lv_has ls 5 [(0, .ref (ta 0)), (1, .int x1)] := hl
  have F : tF p s m ([.ref (ta 0), .int x1] : List Value).toArray meth c G cA A RX6 cX6_placeByRule 5 (some .int) := ⟨hx, hb, hr, hml, hT, hown, hlocks, hK, hN, hA⟩
  obtain ⟨H, hH⟩ : ∃ z, z = s.heap := ⟨_, rfl⟩
  rw [← hH] at hP
  have hS : va_S A s.heap H [] := by rw [hH]; exact hS
  suffices hgo : G_X6_placeByRule p l e s m below meth c G cA A ta pa T P L x1 r0 H [] (F0 m 0 ls []) by rw [hH] at hgo; exact hgo
  generalize ([] : List Loc) = locs at hS ⊢
  unfold f_X6_placeByRule at h
  refine lv_iconst (v := (-1)) hx hb dX6_placeByRule_0 (by decide) ?_
  refine lv_istore_n (lv' := [(2, .int (-1)), (0, .ref (ta 0)), (1, .int x1)]) hx hb dX6_placeByRule_1 rfl hl (by decide) rfl (fun ls hl => ?_)
  refine lv_iconst (v := 0) hx hb dX6_placeByRule_2 (by decide) ?_
  refine lv_istore_n (lv' := [(3, .int 0), (2, .int (-1)), (0, .ref (ta 0)), (1, .int x1)]) hx hb dX6_placeByRule_3 rfl hl (by decide) rfl (fun ls hl => ?_)
  exact w_X6_placeByRule_L4 F 2000 (-1) 0 H locs ls h hP hD hS (lv_sub hl [2, 3, 1, 0] rfl)
abbrev G_X6_putOn (p : Program) (l : Launch) (e : Env) (s : State) (m : MethodId) (below : List Frame) (meth : Method) (c : Code) (G : va_G) (cA : Nat → ClassId) (A : Nat → Prop) (ta : Nat → Nat) (pa : Nat → Nat) (P : Tr) (L : Lo) (x1 : Int32) (x2 : Int32) (T' : Tr) (H : Heap) (locs : List Loc) (g : JFrame) : Prop := W p l e (headSpec (.code yX6_putOn cX6_putOn 4 none :: T0) ({ frames := 0, cells := 0, slots := 0, locals := 0 } : Room)).room s m ([.ref (ta 0), .int x1, .int x2] : List Value).toArray below meth c H locs 0 0 (MQ below (tqQv G cA (fun (_ : Unit) => True) (fun (_ : Unit) => wTP cA ta pa (T') P L) A) ([.ref (ta 0), .int x1, .int x2] : List Value).toArray s 0 0 A) g
set_option maxHeartbeats 4000000 in
set_option maxRecDepth 100000 in
theorem c_X6_putOn (l : Launch) (G : va_G) (cA : Nat → ClassId) (sz : Nat) (ta : Nat → Nat) (pa : Nat → Nat) (T : Tr) (P : Tr) (L : Lo) (x1 : Int32) (x2 : Int32)  (T' : Tr) (h : f_X6_putOn T P x1 x2 = some T') : Met l yX6_putOn (.code yX6_putOn cX6_putOn 4 none :: T0) ({ frames := 0, cells := 0, slots := 0, locals := 0 } : Room) (tqP G cA [.ref (ta 0), .int x1, .int x2] (wTP cA ta pa T P L) sz) (tqQv G cA (fun (_ : Unit) => True) (fun (_ : Unit) => wTP cA ta pa (T') P L) (va_A (wTP cA ta pa T P L) sz)) 0 0 (va_A (wTP cA ta pa T P L) sz) := by
  refine Met.ofW (cc := cX6_putOn) (maxL := 4) (ret := none) (by decide) rfl ?_
  intro p e s m args below meth c s₁ B hml hv
  obtain ⟨rfl, hsz, hP, hK, hD0, hN⟩ := hv
  have hx := B.exec
  have hb := B.bytes
  have hr := B.returns
  have hts := atoms_spec (ws := .code yX6_putOn cX6_putOn 4 none :: T0) B.pre
  have hT : ∀ w ∈ T0, w.before _ s = true := fun w h => hts w (List.mem_cons_of_mem _ h)
  have hown : s.vm.findClass RX6 = some m.cls := findClass_of_methodNamed B.named
  have hlocks := B.notSynchronized
  subst hsz
  have hD := hD0.self (sz := s.heap.size)
  generalize hAe : va_A (wTP cA ta pa T P L) s.heap.size = A at hD ⊢
  have hA : ∀ q : Nat, s.heap.size ≤ q → A q := fun q h => by rw [← hAe]; exact Or.inr h
  have hS : va_S A s.heap s.heap [] := va_S.rf
  have hl := lv_entry ([.ref (ta 0), .int x1, .int x2]) (n := 4) (Nat.le_of_ble_eq_true rfl)
  rw [lg_entry_eq]
  generalize (lg_sl ([.ref (ta 0), .int x1, .int x2]) ++ List.replicate (4 - (lg_sl ([.ref (ta 0), .int x1, .int x2])).length) Slot.unset).toArray = ls at hl ⊢
  have hl : lv_has ls 4 [(0, .ref (ta 0)), (1, .int x1), (2, .int x2)] := hl
  have F : tF p s m ([.ref (ta 0), .int x1, .int x2] : List Value).toArray meth c G cA A RX6 cX6_putOn 4 none := ⟨hx, hb, hr, hml, hT, hown, hlocks, hK, hN, hA⟩
  obtain ⟨H, hH⟩ : ∃ z, z = s.heap := ⟨_, rfl⟩
  rw [← hH] at hP
  have hS : va_S A s.heap H [] := by rw [hH]; exact hS
  suffices hgo : G_X6_putOn p l e s m below meth c G cA A ta pa P L x1 x2 T' H [] (F0 m 0 ls []) by rw [hH] at hgo; exact hgo
  generalize ([] : List Loc) = locs at hS ⊢
  unfold f_X6_putOn at h
  refine lv_aload_n hx hb dX6_putOn_0 rfl (lv_at hl 0 rfl) ?_
  refine va_get (D := G) (ci := 6) (v := .ref (ta 17)) (C := RX6) (T := TX6) (N := 20) hx hb hT ku_6 hown hK hP 0 rfl rfl 16 (by decide) (hT _ kw_7_15) (fun _ h9 => h9) rfl dX6_putOn_1 ?_
  refine lv_iload_n hx hb dX6_putOn_4 rfl (lv_at hl 1 rfl) ?_
  obtain ⟨g1, h⟩ := tx_ck h
  refine va_iald (i := x1) hx hb hK hP 9 0 rfl rfl (tx_in g1) dX6_putOn_5 ?_
  refine lv_topi (fun y2 ey2 => ?_)
  have h := tx_let ey2 h
  refine lv_istore_n (lv' := [(3, .int y2), (0, .ref (ta 0)), (1, .int x1), (2, .int x2)]) hx hb dX6_putOn_6 rfl hl (by decide) rfl (fun ls hl => ?_)
  refine lv_iload_n hx hb dX6_putOn_7 rfl (lv_at hl 0 rfl) ?_
  refine lv_bipush (v := 10) hx hb dX6_putOn_8 (by decide) ?_
  refine lv_icmp_ge (tgt := 66) hx hb dX6_putOn_10 (by decide) (fun c3 => ?_) (fun c3 => ?_)
  · have h := tx_pos c3 h
    obtain rfl := tx_1 h
    exact W.vret hx hb hr (fun t ht hW => ⟨⟨(), rfl, trivial, by rw [ht]; exact hP, hD⟩, hS.F ht⟩) hS.2.2 dX6_putOn_66
  · have h := tx_neg c3 h
    refine lv_aload_n hx hb dX6_putOn_13 rfl (lv_at hl 1 rfl) ?_
    refine va_get (D := G) (ci := 6) (v := .ref (ta 16)) (C := RX6) (T := TX6) (N := 20) hx hb hT ku_6 hown hK hP 0 rfl rfl 15 (by decide) (hT _ kw_7_14) (fun _ h9 => h9) rfl dX6_putOn_14 ?_
    refine lv_iload_n hx hb dX6_putOn_17 rfl (lv_at hl 2 rfl) ?_
    refine lv_bipush (v := 10) hx hb dX6_putOn_18 (by decide) ?_
    refine lv_imul hx hb dX6_putOn_20 ?_
    refine lv_iload_n hx hb dX6_putOn_21 rfl (lv_at hl 0 rfl) ?_
    refine lv_iadd hx hb dX6_putOn_22 ?_
    refine lv_iload_n hx hb dX6_putOn_23 rfl (lv_at hl 3 rfl) ?_
    obtain ⟨g4, h⟩ := tx_ck h
    refine va_iast (i := ((x1 * 10) + y2)) hx hb hK hP hD hS 8 0 rfl rfl (tx_in g4) dX6_putOn_24 (fun H locs hP hD hS => ?_)
    obtain ⟨T_5, eT_5, h⟩ := tx_lt h
    rw [sTP_ta_a15, eT_5] at hP hD
    refine lv_aload_n hx hb dX6_putOn_25 rfl (lv_at hl 1 rfl) ?_
    refine va_get (D := G) (ci := 6) (v := .ref (ta 17)) (C := RX6) (T := TX6) (N := 20) hx hb hT ku_6 hown hK hP 0 rfl rfl 16 (by decide) (hT _ kw_7_15) (fun _ h9 => h9) rfl dX6_putOn_26 ?_
    refine lv_iload_n hx hb dX6_putOn_29 rfl (lv_at hl 2 rfl) ?_
    refine lv_iload_n hx hb dX6_putOn_30 rfl (lv_at hl 0 rfl) ?_
    refine lv_iconst (v := 1) hx hb dX6_putOn_31 (by decide) ?_
    refine lv_iadd hx hb dX6_putOn_32 ?_
    refine va_iast (i := x1) hx hb hK hP hD hS 9 0 rfl rfl (tx_in g1) dX6_putOn_33 (fun H locs hP hD hS => ?_)
    obtain ⟨T_6, eT_6, h⟩ := tx_lt h
    rw [sTP_ta_a16, eT_6] at hP hD
    refine lv_aload_n hx hb dX6_putOn_34 rfl (lv_at hl 1 rfl) ?_
    refine va_get (D := G) (ci := 6) (v := .ref (ta 18)) (C := RX6) (T := TX6) (N := 20) hx hb hT ku_6 hown hK hP 0 rfl rfl 17 (by decide) (hT _ kw_7_16) (fun _ h9 => h9) rfl dX6_putOn_35 ?_
    refine lv_iload_n hx hb dX6_putOn_38 rfl (lv_at hl 2 rfl) ?_
    refine lv_dup2_11 hx hb dX6_putOn_39 rfl rfl ?_
    refine va_iald (i := x1) hx hb hK hP 10 0 rfl rfl (tx_in g1) dX6_putOn_40 ?_
    refine lv_aload_n hx hb dX6_putOn_41 rfl (lv_at hl 1 rfl) ?_
    refine va_get (D := G) (ci := 6) (v := .ref (pa 0)) (C := RX6) (T := TX6) (N := 20) hx hb hT ku_6 hown hK hP 0 rfl rfl 19 (by decide) (hT _ kw_8_1) (fun _ h9 => h9) rfl dX6_putOn_42 ?_
    refine va_get (D := G) (ci := 2) (v := .ref (pa 15)) (C := RX2) (T := TX2) (N := 19) hx hb hT ku_2 hown hK hP 12 rfl rfl 14 (by decide) (hT _ kw_33_16) (fun _ h9 => h9) rfl dX6_putOn_45 ?_
    refine lv_iload_n hx hb dX6_putOn_48 rfl (lv_at hl 3 rfl) ?_
    obtain ⟨g7, h⟩ := tx_ck h
    refine va_iald (i := x2) hx hb hK hP 20 0 rfl rfl (tx_in g7) dX6_putOn_49 ?_
    refine lv_iadd hx hb dX6_putOn_50 ?_
    refine va_iast (i := x1) hx hb hK hP hD hS 10 0 rfl rfl (tx_in g1) dX6_putOn_51 (fun H locs hP hD hS => ?_)
    obtain ⟨T_8, eT_8, h⟩ := tx_lt h
    rw [sTP_ta_a17, eT_8] at hP hD
    refine lv_aload_n hx hb dX6_putOn_52 rfl (lv_at hl 1 rfl) ?_
    refine va_get (D := G) (ci := 6) (v := .ref (ta 15)) (C := RX6) (T := TX6) (N := 20) hx hb hT ku_6 hown hK hP 0 rfl rfl 14 (by decide) (hT _ kw_7_13) (fun _ h9 => h9) rfl dX6_putOn_53 ?_
    refine lv_iload_n hx hb dX6_putOn_56 rfl (lv_at hl 3 rfl) ?_
    refine lv_iload_n hx hb dX6_putOn_57 rfl (lv_at hl 2 rfl) ?_
    refine va_iast (i := x2) hx hb hK hP hD hS 7 0 rfl rfl (tx_in g7) dX6_putOn_58 (fun H locs hP hD hS => ?_)
    obtain ⟨T_9, eT_9, h⟩ := tx_lt h
    rw [sTP_ta_a14, eT_9] at hP hD
    refine lv_aload_n hx hb dX6_putOn_59 rfl (lv_at hl 1 rfl) ?_
    refine va_get (D := G) (ci := 6) (v := .ref (ta 14)) (C := RX6) (T := TX6) (N := 20) hx hb hT ku_6 hown hK hP 0 rfl rfl 13 (by decide) (hT _ kw_7_12) (fun _ h9 => h9) rfl dX6_putOn_60 ?_
    refine lv_iload_n hx hb dX6_putOn_63 rfl (lv_at hl 3 rfl) ?_
    refine lv_iconst (v := 1) hx hb dX6_putOn_64 (by decide) ?_
    refine va_iast (i := x2) hx hb hK hP hD hS 6 0 rfl rfl (tx_in g7) dX6_putOn_65 (fun H locs hP hD hS => ?_)
    obtain ⟨T_10, eT_10, h⟩ := tx_lt h
    rw [sTP_ta_a13, eT_10] at hP hD
    obtain rfl := tx_1 h
    exact W.vret hx hb hr (fun t ht hW => ⟨⟨(), rfl, trivial, by rw [ht]; exact hP, hD⟩, hS.F ht⟩) hS.2.2 dX6_putOn_66
abbrev G_X6_stow (p : Program) (l : Launch) (e : Env) (s : State) (m : MethodId) (below : List Frame) (meth : Method) (c : Code) (G : va_G) (cA : Nat → ClassId) (A : Nat → Prop) (ta : Nat → Nat) (pa : Nat → Nat) (P : Tr) (L : Lo) (x1 : Int32) (T' : Tr) (H : Heap) (locs : List Loc) (g : JFrame) : Prop := W p l e (headSpec (.code yX6_stow cX6_stow 3 none :: T0) ({ frames := 2, cells := 0, slots := 0, locals := 46 } : Room)).room s m ([.ref (ta 0), .int x1] : List Value).toArray below meth c H locs 0 0 (MQ below (tqQv G cA (fun (_ : Unit) => True) (fun (_ : Unit) => wTP cA ta pa (T') P L) A) ([.ref (ta 0), .int x1] : List Value).toArray s 0 0 A) g
set_option maxHeartbeats 4000000 in
set_option maxRecDepth 100000 in
theorem w_X6_stow_J31 {p : Program} {l : Launch} {e : Env} {s : State} {m : MethodId} {below : List Frame} {meth : Method} {c : Code} {G : va_G} {cA : Nat → ClassId} {A : Nat → Prop} {ta : Nat → Nat} {pa : Nat → Nat} {P : Tr} {L : Lo} {x1₀ : Int32} {T' : Tr} (F : tF p s m ([.ref (ta 0), .int x1₀] : List Value).toArray meth c G cA A RX6 cX6_stow 3 none)    (x1 : Int32) (x2 : Int32) (T : Tr) (H : Heap) (locs : List Loc) (ls : Array Slot) (h : fJ_X6_stow_J31 P x1 x2 T = some T') (hP : va_P G vwCl (wTP cA ta pa T P L) H) (hD : va_D A (wTP cA ta pa T P L)) (hS : va_S A s.heap H locs) (hl : lv_has ls 3 [(0, .ref (ta 0)), (1, .int x1), (2, .int x2)]) : G_X6_stow p l e s m below meth c G cA A ta pa P L x1₀ T' H locs (F0 m 31 ls []) := by
  obtain ⟨hx, hb, hr, hml, hT, hown, hlocks, hK, hN, hA⟩ := id F
  unfold fJ_X6_stow_J31 at h
  refine lv_iload_n hx hb dX6_stow_31 rfl (lv_at hl 2 rfl) ?_
  refine lv_if_ge (tgt := 45) hx hb dX6_stow_32 (by decide) (fun c8 => ?_) (fun c8 => ?_)
  · have h := tx_pos c8 h
    refine lv_aload_n hx hb dX6_stow_45 rfl (lv_at hl 0 rfl) ?_
    refine lv_iload_n hx hb dX6_stow_46 rfl (lv_at hl 2 rfl) ?_
    refine lv_iload_n hx hb dX6_stow_47 rfl (lv_at hl 1 rfl) ?_
    obtain ⟨T_9, hc10, h⟩ := tx_bd h
    refine tz_v (As := [.int x2, .int x1]) (rest := []) ⟨hx, hb, hml, hown, hT⟩ hP hD hS hA hK hN (c_X6_putOn l G cA H.size ta pa T P L x2 x1  T_9 hc10) (tq_gV kw_42_2 kw_36_23 kw_37_0 kw_1_23 kw_37_1) rfl rfl dkdV_yX6_putOn_2 (Nat.le_of_ble_eq_true rfl) (Nat.le_of_ble_eq_true rfl) (ci := 6) (q0 := 0) rfl rfl rfl hl.1 rfl (Nat.le_of_ble_eq_true rfl) dX6_stow_48 ⟨Nat.le_of_ble_eq_true rfl, Nat.le_of_ble_eq_true rfl⟩ (fun _ H locs z11 hP hD hS => ?_)
    have hP : va_P G vwCl (wTP cA ta pa T_9 P L) H := hP
    have hD : va_D A (wTP cA ta pa T_9 P L) := hD
    obtain rfl := tx_1 h
    exact W.vret hx hb hr (fun t ht hW => ⟨⟨(), rfl, trivial, by rw [ht]; exact hP, hD⟩, hS.F ht⟩) hS.2.2 dX6_stow_51
  · have h := tx_neg c8 h
    refine lv_aload_n hx hb dX6_stow_35 rfl (lv_at hl 0 rfl) ?_
    refine va_get (D := G) (ci := 6) (v := .ref (ta 14)) (C := RX6) (T := TX6) (N := 20) hx hb hT ku_6 hown hK hP 0 rfl rfl 13 (by decide) (hT _ kw_7_12) (fun _ h9 => h9) rfl dX6_stow_36 ?_
    refine lv_iload_n hx hb dX6_stow_39 rfl (lv_at hl 1 rfl) ?_
    refine lv_iconst (v := 5) hx hb dX6_stow_40 (by decide) ?_
    obtain ⟨g12, h⟩ := tx_ck h
    refine va_iast (i := x1) hx hb hK hP hD hS 6 0 rfl rfl (tx_in g12) dX6_stow_41 (fun H locs hP hD hS => ?_)
    obtain ⟨T_13, eT_13, h⟩ := tx_lt h
    rw [sTP_ta_a13, eT_13] at hP hD
    refine lv_goto (tgt := 51) hx hb dX6_stow_42 (by decide) ?_
    obtain rfl := tx_1 h
    exact W.vret hx hb hr (fun t ht hW => ⟨⟨(), rfl, trivial, by rw [ht]; exact hP, hD⟩, hS.F ht⟩) hS.2.2 dX6_stow_51
set_option maxHeartbeats 4000000 in
set_option maxRecDepth 100000 in
theorem c_X6_stow (l : Launch) (G : va_G) (cA : Nat → ClassId) (sz : Nat) (ta : Nat → Nat) (pa : Nat → Nat) (T : Tr) (P : Tr) (L : Lo) (x1 : Int32)  (T' : Tr) (h : f_X6_stow T P x1 = some T') : Met l yX6_stow (.code yX6_stow cX6_stow 3 none :: T0) ({ frames := 2, cells := 0, slots := 0, locals := 46 } : Room) (tqP G cA [.ref (ta 0), .int x1] (wTP cA ta pa T P L) sz) (tqQv G cA (fun (_ : Unit) => True) (fun (_ : Unit) => wTP cA ta pa (T') P L) (va_A (wTP cA ta pa T P L) sz)) 0 0 (va_A (wTP cA ta pa T P L) sz) := by
  refine Met.ofW (cc := cX6_stow) (maxL := 3) (ret := none) (by decide) rfl ?_
  intro p e s m args below meth c s₁ B hml hv
  obtain ⟨rfl, hsz, hP, hK, hD0, hN⟩ := hv
  have hx := B.exec
  have hb := B.bytes
  have hr := B.returns
  have hts := atoms_spec (ws := .code yX6_stow cX6_stow 3 none :: T0) B.pre
  have hT : ∀ w ∈ T0, w.before _ s = true := fun w h => hts w (List.mem_cons_of_mem _ h)
  have hown : s.vm.findClass RX6 = some m.cls := findClass_of_methodNamed B.named
  have hlocks := B.notSynchronized
  subst hsz
  have hD := hD0.self (sz := s.heap.size)
  generalize hAe : va_A (wTP cA ta pa T P L) s.heap.size = A at hD ⊢
  have hA : ∀ q : Nat, s.heap.size ≤ q → A q := fun q h => by rw [← hAe]; exact Or.inr h
  have hS : va_S A s.heap s.heap [] := va_S.rf
  have hl := lv_entry ([.ref (ta 0), .int x1]) (n := 3) (Nat.le_of_ble_eq_true rfl)
  rw [lg_entry_eq]
  generalize (lg_sl ([.ref (ta 0), .int x1]) ++ List.replicate (3 - (lg_sl ([.ref (ta 0), .int x1])).length) Slot.unset).toArray = ls at hl ⊢
  have hl : lv_has ls 3 [(0, .ref (ta 0)), (1, .int x1)] := hl
  have F : tF p s m ([.ref (ta 0), .int x1] : List Value).toArray meth c G cA A RX6 cX6_stow 3 none := ⟨hx, hb, hr, hml, hT, hown, hlocks, hK, hN, hA⟩
  obtain ⟨H, hH⟩ : ∃ z, z = s.heap := ⟨_, rfl⟩
  rw [← hH] at hP
  have hS : va_S A s.heap H [] := by rw [hH]; exact hS
  suffices hgo : G_X6_stow p l e s m below meth c G cA A ta pa P L x1 T' H [] (F0 m 0 ls []) by rw [hH] at hgo; exact hgo
  generalize ([] : List Loc) = locs at hS ⊢
  unfold f_X6_stow at h
  refine lv_aload_n hx hb dX6_stow_0 rfl (lv_at hl 0 rfl) ?_
  refine va_get (D := G) (ci := 6) (v := .ref (ta 13)) (C := RX6) (T := TX6) (N := 20) hx hb hT ku_6 hown hK hP 0 rfl rfl 12 (by decide) (hT _ kw_7_11) (fun _ h9 => h9) rfl dX6_stow_1 ?_
  refine lv_iload_n hx hb dX6_stow_4 rfl (lv_at hl 1 rfl) ?_
  obtain ⟨g1, h⟩ := tx_ck h
  refine va_iald (i := x1) hx hb hK hP 5 0 rfl rfl (tx_in g1) dX6_stow_5 ?_
  refine lv_topi (fun y2 ey2 => ?_)
  have h := tx_let ey2 h
  refine lv_istore_n (lv' := [(2, .int y2), (0, .ref (ta 0)), (1, .int x1)]) hx hb dX6_stow_6 rfl hl (by decide) rfl (fun ls hl => ?_)
  refine lv_iload_n hx hb dX6_stow_7 rfl (lv_at hl 0 rfl) ?_
  refine lv_if_ge (tgt := 20) hx hb dX6_stow_8 (by decide) (fun c3 => ?_) (fun c3 => ?_)
  · have h := tx_pos c3 h
    refine lv_aload_n hx hb dX6_stow_20 rfl (lv_at hl 1 rfl) ?_
    refine lv_iload_n hx hb dX6_stow_21 rfl (lv_at hl 0 rfl) ?_
    refine lv_iload_n hx hb dX6_stow_22 rfl (lv_at hl 2 rfl) ?_
    obtain ⟨r4, hc5, h⟩ := tx_bd h
    refine tz_i (As := [.int y2, .int x1]) (rest := []) ⟨hx, hb, hml, hown, hT⟩ hP hD hS hA hK hN (c_X6_hasRoom l G cA H.size ta pa T P L y2 x1  r4 hc5) (tq_gV kw_42_1 kw_35_21 kw_35_22 kw_1_23 kw_35_23) rfl rfl dkdV_yX6_hasRoom_2 (Nat.le_of_ble_eq_true rfl) (Nat.le_of_ble_eq_true rfl) (ci := 6) (q0 := 0) rfl rfl rfl hl.1 rfl (Nat.le_of_ble_eq_true rfl) dX6_stow_23 ⟨Nat.le_of_ble_eq_true rfl, Nat.le_of_ble_eq_true rfl⟩ (fun _ _ H locs z6 hP hD hS => ?_)
    have z6 := z6.symm
    subst z6
    have hP : va_P G vwCl (wTP cA ta pa T P L) H := hP
    have hD : va_D A (wTP cA ta pa T P L) := hD
    refine lv_if_ne (tgt := 31) hx hb dX6_stow_26 (by decide) (fun c7 => ?_) (fun c7 => ?_)
    · have h := tx_neg c7 h
      exact w_X6_stow_J31 F x1 y2 T H locs ls h hP hD hS (lv_sub hl [1, 2, 0] rfl)
    · have h := tx_pos c7 h
      refine lv_iconst (v := (-1)) hx hb dX6_stow_29 (by decide) ?_
      refine lv_istore_n (lv' := [(2, .int (-1)), (0, .ref (ta 0)), (1, .int x1)]) hx hb dX6_stow_30 rfl hl (by decide) rfl (fun ls hl => ?_)
      exact w_X6_stow_J31 F x1 (-1) T H locs ls h hP hD hS (lv_sub hl [1, 2, 0] rfl)
  · have h := tx_neg c3 h
    refine lv_aload_n hx hb dX6_stow_11 rfl (lv_at hl 1 rfl) ?_
    refine lv_iload_n hx hb dX6_stow_12 rfl (lv_at hl 2 rfl) ?_
    obtain ⟨r14, hc15, h⟩ := tx_bd h
    refine tz_i (As := [.int x1]) (rest := []) ⟨hx, hb, hml, hown, hT⟩ hP hD hS hA hK hN (c_X6_placeByRule l G cA H.size ta pa T P L x1  r14 hc15) (tq_gV kw_41_20 kw_41_21 kw_41_22 kw_1_23 kw_41_23) rfl rfl dkdV_yX6_placeByRule_1 (Nat.le_of_ble_eq_true rfl) (Nat.le_of_ble_eq_true rfl) (ci := 6) (q0 := 0) rfl rfl rfl hl.1 rfl (Nat.le_of_ble_eq_true rfl) dX6_stow_13 ⟨Nat.le_of_ble_eq_true rfl, Nat.le_of_ble_eq_true rfl⟩ (fun _ _ H locs z16 hP hD hS => ?_)
    have z16 := z16.symm
    subst z16
    have hP : va_P G vwCl (wTP cA ta pa T P L) H := hP
    have hD : va_D A (wTP cA ta pa T P L) := hD
    refine lv_istore_n (lv' := [(2, .int r14), (0, .ref (ta 0)), (1, .int x1)]) hx hb dX6_stow_16 rfl hl (by decide) rfl (fun ls hl => ?_)
    refine lv_goto (tgt := 31) hx hb dX6_stow_17 (by decide) ?_
    exact w_X6_stow_J31 F x1 r14 T H locs ls h hP hD hS (lv_sub hl [1, 2, 0] rfl)
abbrev G_X6_getIn (p : Program) (l : Launch) (e : Env) (s : State) (m : MethodId) (below : List Frame) (meth : Method) (c : Code) (G : va_G) (cA : Nat → ClassId) (A : Nat → Prop) (ta : Nat → Nat) (pa : Nat → Nat) (P : Tr) (L : Lo) (T' : Tr) (H : Heap) (locs : List Loc) (g : JFrame) : Prop := W p l e (headSpec (.code yX6_getIn cX6_getIn 3 none :: T0) ({ frames := 3, cells := 0, slots := 0, locals := 68 } : Room)).room s m ([.ref (ta 0)] : List Value).toArray below meth c H locs 0 0 (MQ below (tqQv G cA (fun (_ : Unit) => True) (fun (_ : Unit) => wTP cA ta pa (T') P L) A) ([.ref (ta 0)] : List Value).toArray s 0 0 A) g
set_option maxHeartbeats 4000000 in
set_option maxRecDepth 100000 in
theorem w_X6_getIn_L47 {p : Program} {l : Launch} {e : Env} {s : State} {m : MethodId} {below : List Frame} {meth : Method} {c : Code} {G : va_G} {cA : Nat → ClassId} {A : Nat → Prop} {ta : Nat → Nat} {pa : Nat → Nat} {P : Tr} {L : Lo} {T' : Tr} {x1 : Int32} (F : tF p s m ([.ref (ta 0)] : List Value).toArray meth c G cA A RX6 cX6_getIn 3 none)  (k2 : Int32 → Tr → Option (Tr)) (hk2 : ∀ (x1 : Int32) (T : Tr) (H : Heap) (locs : List Loc) (ls : Array Slot), k2 x1 T = some T' → va_P G vwCl (wTP cA ta pa T P L) H → va_D A (wTP cA ta pa T P L) → va_S A s.heap H locs → lv_has ls 3 [(0, .ref (ta 0)), (1, .int x1)] → G_X6_getIn p l e s m below meth c G cA A ta pa P L T' H locs (F0 m 2 ls [])) (N : Nat) : ∀ (x2 : Int32) (T : Tr) (H : Heap) (locs : List Loc) (ls : Array Slot), lpF (fun _ _ => none) (fB_X6_getIn_L47 k2 P x1) N x2 T = some T' → va_P G vwCl (wTP cA ta pa T P L) H → va_D A (wTP cA ta pa T P L) → va_S A s.heap H locs → lv_has ls 3 [(0, .ref (ta 0)), (1, .int x1), (2, .int x2)] → G_X6_getIn p l e s m below meth c G cA A ta pa P L T' H locs (F0 m 47 ls []) := by
  obtain ⟨hx, hb, hr, hml, hT, hown, hlocks, hK, hN, hA⟩ := id F
  induction N with
  | zero =>
    intro x2 T H locs ls h
    have h : (none : Option (Tr)) = some T' := h
    cases h
  | succ N hk47 =>
    intro x2 T H locs ls h hP hD hS hl
    have h : fB_X6_getIn_L47 k2 P x1 (lpF (fun _ _ => none) (fB_X6_getIn_L47 k2 P x1) N) x2 T = some T' := h
    generalize hk47e : lpF (fun _ _ => none) (fB_X6_getIn_L47 k2 P x1) N = k47 at h hk47
    unfold fB_X6_getIn_L47 at h
    refine lv_iload_n hx hb dX6_getIn_47 rfl (lv_at hl 2 rfl) ?_
    refine lv_aload_n hx hb dX6_getIn_48 rfl (lv_at hl 0 rfl) ?_
    refine va_get (D := G) (ci := 6) (v := .ref (pa 0)) (C := RX6) (T := TX6) (N := 20) hx hb hT ku_6 hown hK hP 0 rfl rfl 19 (by decide) (hT _ kw_8_1) (fun _ h9 => h9) rfl dX6_getIn_49 ?_
    refine va_get (D := G) (ci := 2) (v := .int (P 0 2)) (C := RX2) (T := TX2) (N := 19) hx hb hT ku_2 hown hK hP 12 rfl rfl 2 (by decide) (hT _ kw_40_17) (fun _ h9 => h9) rfl dX6_getIn_52 ?_
    refine lv_icmp_ge (tgt := 82) hx hb dX6_getIn_55 (by decide) (fun c7 => ?_) (fun c7 => ?_)
    · have h := tx_pos c7 h
      obtain ⟨y8, ey8, h⟩ := tx_lt h
      refine lv_iinc (v := y8) (lv' := [(1, .int y8), (0, .ref (ta 0)), (2, .int x2)]) hx hb dX6_getIn_82 hl (k := 1) rfl ey8 (by decide) rfl (fun ls hl => ?_)
      refine lv_goto (tgt := 2) hx hb dX6_getIn_85 (by decide) ?_
      exact hk2 y8 T H locs ls h hP hD hS (lv_sub hl [1, 0] rfl)
    · have h := tx_neg c7 h
      refine lv_aload_n hx hb dX6_getIn_58 rfl (lv_at hl 0 rfl) ?_
      refine va_get (D := G) (ci := 6) (v := .ref (pa 0)) (C := RX6) (T := TX6) (N := 20) hx hb hT ku_6 hown hK hP 0 rfl rfl 19 (by decide) (hT _ kw_8_1) (fun _ h9 => h9) rfl dX6_getIn_59 ?_
      refine va_get (D := G) (ci := 2) (v := .ref (pa 14)) (C := RX2) (T := TX2) (N := 19) hx hb hT ku_2 hown hK hP 12 rfl rfl 13 (by decide) (hT _ kw_39_0) (fun _ h9 => h9) rfl dX6_getIn_62 ?_
      refine lv_iload_n hx hb dX6_getIn_65 rfl (lv_at hl 2 rfl) ?_
      obtain ⟨g9, h⟩ := tx_ck h
      refine va_iald (i := x2) hx hb hK hP 19 0 rfl rfl (tx_in g9) dX6_getIn_66 ?_
      refine lv_iload_n hx hb dX6_getIn_67 rfl (lv_at hl 1 rfl) ?_
      refine lv_icmp_ne (tgt := 76) hx hb dX6_getIn_68 (by decide) (fun c10 => ?_) (fun c10 => ?_)
      · have h := tx_neg c10 h
        obtain ⟨y11, ey11, h⟩ := tx_lt h
        refine lv_iinc (v := y11) (lv' := [(2, .int y11), (0, .ref (ta 0)), (1, .int x1)]) hx hb dX6_getIn_76 hl (k := 2) rfl ey11 (by decide) rfl (fun ls hl => ?_)
        refine lv_goto (tgt := 47) hx hb dX6_getIn_79 (by decide) ?_
        exact hk47 y11 T H locs ls h hP hD hS (lv_sub hl [1, 2, 0] rfl)
      · have h := tx_pos c10 h
        refine lv_aload_n hx hb dX6_getIn_71 rfl (lv_at hl 0 rfl) ?_
        refine lv_iload_n hx hb dX6_getIn_72 rfl (lv_at hl 2 rfl) ?_
        obtain ⟨T_12, hc13, h⟩ := tx_bd h
        refine tz_v (As := [.int x2]) (rest := []) ⟨hx, hb, hml, hown, hT⟩ hP hD hS hA hK hN (c_X6_stow l G cA H.size ta pa T P L x2  T_12 hc13) (tq_gV kw_41_16 kw_41_17 kw_41_18 kw_1_23 kw_41_19) rfl rfl dkdV_yX6_stow_1 (Nat.le_of_ble_eq_true rfl) (Nat.le_of_ble_eq_true rfl) (ci := 6) (q0 := 0) rfl rfl rfl hl.1 rfl (Nat.le_of_ble_eq_true rfl) dX6_getIn_73 ⟨Nat.le_of_ble_eq_true rfl, Nat.le_of_ble_eq_true rfl⟩ (fun _ H locs z14 hP hD hS => ?_)
        have hP : va_P G vwCl (wTP cA ta pa T_12 P L) H := hP
        have hD : va_D A (wTP cA ta pa T_12 P L) := hD
        obtain ⟨y15, ey15, h⟩ := tx_lt h
        refine lv_iinc (v := y15) (lv' := [(2, .int y15), (0, .ref (ta 0)), (1, .int x1)]) hx hb dX6_getIn_76 hl (k := 2) rfl ey15 (by decide) rfl (fun ls hl => ?_)
        refine lv_goto (tgt := 47) hx hb dX6_getIn_79 (by decide) ?_
        exact hk47 y15 T_12 H locs ls h hP hD hS (lv_sub hl [1, 2, 0] rfl)
set_option maxHeartbeats 4000000 in
set_option maxRecDepth 100000 in
theorem w_X6_getIn_L2 {p : Program} {l : Launch} {e : Env} {s : State} {m : MethodId} {below : List Frame} {meth : Method} {c : Code} {G : va_G} {cA : Nat → ClassId} {A : Nat → Prop} {ta : Nat → Nat} {pa : Nat → Nat} {P : Tr} {L : Lo} {T' : Tr} (F : tF p s m ([.ref (ta 0)] : List Value).toArray meth c G cA A RX6 cX6_getIn 3 none)    (N : Nat) : ∀ (x1 : Int32) (T : Tr) (H : Heap) (locs : List Loc) (ls : Array Slot), lpF (fun _ _ => none) (fB_X6_getIn_L2 P) N x1 T = some T' → va_P G vwCl (wTP cA ta pa T P L) H → va_D A (wTP cA ta pa T P L) → va_S A s.heap H locs → lv_has ls 3 [(0, .ref (ta 0)), (1, .int x1)] → G_X6_getIn p l e s m below meth c G cA A ta pa P L T' H locs (F0 m 2 ls []) := by
  obtain ⟨hx, hb, hr, hml, hT, hown, hlocks, hK, hN, hA⟩ := id F
  induction N with
  | zero =>
    intro x1 T H locs ls h
    have h : (none : Option (Tr)) = some T' := h
    cases h
  | succ N hk2 =>
    intro x1 T H locs ls h hP hD hS hl
    have h : fB_X6_getIn_L2 P (lpF (fun _ _ => none) (fB_X6_getIn_L2 P) N) x1 T = some T' := h
    generalize hk2e : lpF (fun _ _ => none) (fB_X6_getIn_L2 P) N = k2 at h hk2
    unfold fB_X6_getIn_L2 at h
    refine lv_iload_n hx hb dX6_getIn_2 rfl (lv_at hl 1 rfl) ?_
    refine lv_aload_n hx hb dX6_getIn_3 rfl (lv_at hl 0 rfl) ?_
    refine va_get (D := G) (ci := 6) (v := .ref (pa 0)) (C := RX6) (T := TX6) (N := 20) hx hb hT ku_6 hown hK hP 0 rfl rfl 19 (by decide) (hT _ kw_8_1) (fun _ h9 => h9) rfl dX6_getIn_4 ?_
    refine va_get (D := G) (ci := 2) (v := .int (P 0 1)) (C := RX2) (T := TX2) (N := 19) hx hb hT ku_2 hown hK hP 12 rfl rfl 1 (by decide) (hT _ kw_40_16) (fun _ h9 => h9) rfl dX6_getIn_7 ?_
    refine lv_icmp_ge (tgt := 88) hx hb dX6_getIn_10 (by decide) (fun c1 => ?_) (fun c1 => ?_)
    · have h := tx_pos c1 h
      obtain rfl := tx_1 h
      exact W.vret hx hb hr (fun t ht hW => ⟨⟨(), rfl, trivial, by rw [ht]; exact hP, hD⟩, hS.F ht⟩) hS.2.2 dX6_getIn_88
    · have h := tx_neg c1 h
      refine lv_aload_n hx hb dX6_getIn_13 rfl (lv_at hl 0 rfl) ?_
      refine va_get (D := G) (ci := 6) (v := .ref (ta 11)) (C := RX6) (T := TX6) (N := 20) hx hb hT ku_6 hown hK hP 0 rfl rfl 10 (by decide) (hT _ kw_7_9) (fun _ h9 => h9) rfl dX6_getIn_14 ?_
      refine lv_iload_n hx hb dX6_getIn_17 rfl (lv_at hl 1 rfl) ?_
      obtain ⟨g2, h⟩ := tx_ck h
      refine va_iald (i := x1) hx hb hK hP 3 0 rfl rfl (tx_in g2) dX6_getIn_18 ?_
      refine lv_if_ne (tgt := 82) hx hb dX6_getIn_19 (by decide) (fun c3 => ?_) (fun c3 => ?_)
      · have h := tx_neg c3 h
        obtain ⟨y4, ey4, h⟩ := tx_lt h
        refine lv_iinc (v := y4) (lv' := [(1, .int y4), (0, .ref (ta 0))]) hx hb dX6_getIn_82 hl (k := 1) rfl ey4 (by decide) rfl (fun ls hl => ?_)
        refine lv_goto (tgt := 2) hx hb dX6_getIn_85 (by decide) ?_
        exact hk2 y4 T H locs ls h hP hD hS (lv_sub hl [1, 0] rfl)
      · have h := tx_pos c3 h
        refine lv_aload_n hx hb dX6_getIn_22 rfl (lv_at hl 0 rfl) ?_
        refine va_get (D := G) (ci := 6) (v := .ref (ta 9)) (C := RX6) (T := TX6) (N := 20) hx hb hT ku_6 hown hK hP 0 rfl rfl 8 (by decide) (hT _ kw_7_7) (fun _ h9 => h9) rfl dX6_getIn_23 ?_
        refine lv_iload_n hx hb dX6_getIn_26 rfl (lv_at hl 1 rfl) ?_
        refine va_iald (i := x1) hx hb hK hP 1 0 rfl rfl (tx_in g2) dX6_getIn_27 ?_
        refine lv_aload_n hx hb dX6_getIn_28 rfl (lv_at hl 0 rfl) ?_
        refine va_get (D := G) (ci := 6) (v := .int (T 0 0)) (C := RX6) (T := TX6) (N := 20) hx hb hT ku_6 hown hK hP 0 rfl rfl 0 (by decide) (hT _ kw_8_2) (fun _ h9 => h9) rfl dX6_getIn_29 ?_
        refine lv_icmp_eq (tgt := 38) hx hb dX6_getIn_32 (by decide) (fun c5 => ?_) (fun c5 => ?_)
        · have h := tx_pos c5 h
          refine lv_aload_n hx hb dX6_getIn_38 rfl (lv_at hl 0 rfl) ?_
          refine va_get (D := G) (ci := 6) (v := .ref (ta 11)) (C := RX6) (T := TX6) (N := 20) hx hb hT ku_6 hown hK hP 0 rfl rfl 10 (by decide) (hT _ kw_7_9) (fun _ h9 => h9) rfl dX6_getIn_39 ?_
          refine lv_iload_n hx hb dX6_getIn_42 rfl (lv_at hl 1 rfl) ?_
          refine lv_iconst (v := 1) hx hb dX6_getIn_43 (by decide) ?_
          refine va_iast (i := x1) hx hb hK hP hD hS 3 0 rfl rfl (tx_in g2) dX6_getIn_44 (fun H locs hP hD hS => ?_)
          obtain ⟨T_6, eT_6, h⟩ := tx_lt h
          rw [sTP_ta_a10, eT_6] at hP hD
          refine lv_iconst (v := 0) hx hb dX6_getIn_45 (by decide) ?_
          refine lv_istore_n (lv' := [(2, .int 0), (0, .ref (ta 0)), (1, .int x1)]) hx hb dX6_getIn_46 rfl hl (by decide) rfl (fun ls hl => ?_)
          exact w_X6_getIn_L47 F k2 hk2 2000 0 T_6 H locs ls h hP hD hS (lv_sub hl [1, 2, 0] rfl)
        · have h := tx_neg c5 h
          refine lv_goto (tgt := 82) hx hb dX6_getIn_35 (by decide) ?_
          obtain ⟨y16, ey16, h⟩ := tx_lt h
          refine lv_iinc (v := y16) (lv' := [(1, .int y16), (0, .ref (ta 0))]) hx hb dX6_getIn_82 hl (k := 1) rfl ey16 (by decide) rfl (fun ls hl => ?_)
          refine lv_goto (tgt := 2) hx hb dX6_getIn_85 (by decide) ?_
          exact hk2 y16 T H locs ls h hP hD hS (lv_sub hl [1, 0] rfl)
set_option maxHeartbeats 4000000 in
set_option maxRecDepth 100000 in
theorem c_X6_getIn (l : Launch) (G : va_G) (cA : Nat → ClassId) (sz : Nat) (ta : Nat → Nat) (pa : Nat → Nat) (T : Tr) (P : Tr) (L : Lo)  (T' : Tr) (h : f_X6_getIn T P = some T') : Met l yX6_getIn (.code yX6_getIn cX6_getIn 3 none :: T0) ({ frames := 3, cells := 0, slots := 0, locals := 68 } : Room) (tqP G cA [.ref (ta 0)] (wTP cA ta pa T P L) sz) (tqQv G cA (fun (_ : Unit) => True) (fun (_ : Unit) => wTP cA ta pa (T') P L) (va_A (wTP cA ta pa T P L) sz)) 0 0 (va_A (wTP cA ta pa T P L) sz) := by
  refine Met.ofW (cc := cX6_getIn) (maxL := 3) (ret := none) (by decide) rfl ?_
  intro p e s m args below meth c s₁ B hml hv
  obtain ⟨rfl, hsz, hP, hK, hD0, hN⟩ := hv
  have hx := B.exec
  have hb := B.bytes
  have hr := B.returns
  have hts := atoms_spec (ws := .code yX6_getIn cX6_getIn 3 none :: T0) B.pre
  have hT : ∀ w ∈ T0, w.before _ s = true := fun w h => hts w (List.mem_cons_of_mem _ h)
  have hown : s.vm.findClass RX6 = some m.cls := findClass_of_methodNamed B.named
  have hlocks := B.notSynchronized
  subst hsz
  have hD := hD0.self (sz := s.heap.size)
  generalize hAe : va_A (wTP cA ta pa T P L) s.heap.size = A at hD ⊢
  have hA : ∀ q : Nat, s.heap.size ≤ q → A q := fun q h => by rw [← hAe]; exact Or.inr h
  have hS : va_S A s.heap s.heap [] := va_S.rf
  have hl := lv_entry ([.ref (ta 0)]) (n := 3) (Nat.le_of_ble_eq_true rfl)
  rw [lg_entry_eq]
  generalize (lg_sl ([.ref (ta 0)]) ++ List.replicate (3 - (lg_sl ([.ref (ta 0)])).length) Slot.unset).toArray = ls at hl ⊢
  have hl : lv_has ls 3 [(0, .ref (ta 0))] := hl
  have F : tF p s m ([.ref (ta 0)] : List Value).toArray meth c G cA A RX6 cX6_getIn 3 none := ⟨hx, hb, hr, hml, hT, hown, hlocks, hK, hN, hA⟩
  obtain ⟨H, hH⟩ : ∃ z, z = s.heap := ⟨_, rfl⟩
  rw [← hH] at hP
  have hS : va_S A s.heap H [] := by rw [hH]; exact hS
  suffices hgo : G_X6_getIn p l e s m below meth c G cA A ta pa P L T' H [] (F0 m 0 ls []) by rw [hH] at hgo; exact hgo
  generalize ([] : List Loc) = locs at hS ⊢
  unfold f_X6_getIn at h
  refine lv_iconst (v := 0) hx hb dX6_getIn_0 (by decide) ?_
  refine lv_istore_n (lv' := [(1, .int 0), (0, .ref (ta 0))]) hx hb dX6_getIn_1 rfl hl (by decide) rfl (fun ls hl => ?_)
  exact w_X6_getIn_L2 F 2000 0 T H locs ls h hP hD hS (lv_sub hl [1, 0] rfl)
abbrev G_X6_goesAbove (p : Program) (l : Launch) (e : Env) (s : State) (m : MethodId) (below : List Frame) (meth : Method) (c : Code) (G : va_G) (cA : Nat → ClassId) (A : Nat → Prop) (ta : Nat → Nat) (pa : Nat → Nat) (T : Tr) (P : Tr) (L : Lo) (x1 : Int32) (x2 : Int32) (r0 : Int32) (H : Heap) (locs : List Loc) (g : JFrame) : Prop := W p l e (headSpec (.code yX6_goesAbove cX6_goesAbove 5 (some .boolean) :: T0) ({ frames := 0, cells := 0, slots := 0, locals := 0 } : Room)).room s m ([.ref (ta 0), .int x1, .int x2] : List Value).toArray below meth c H locs 0 0 (MQ below (tqQi G cA (fun (r : Int32) (_ : Unit) => r = r0) (fun (_ : Unit) => wTP cA ta pa T P L) A) ([.ref (ta 0), .int x1, .int x2] : List Value).toArray s 0 0 A) g
set_option maxHeartbeats 4000000 in
set_option maxRecDepth 100000 in
theorem c_X6_goesAbove (l : Launch) (G : va_G) (cA : Nat → ClassId) (sz : Nat) (ta : Nat → Nat) (pa : Nat → Nat) (T : Tr) (P : Tr) (L : Lo) (x1 : Int32) (x2 : Int32)  (r0 : Int32) (h : f_X6_goesAbove P x1 x2 = some r0) : Met l yX6_goesAbove (.code yX6_goesAbove cX6_goesAbove 5 (some .boolean) :: T0) ({ frames := 0, cells := 0, slots := 0, locals := 0 } : Room) (tqP G cA [.ref (ta 0), .int x1, .int x2] (wTP cA ta pa T P L) sz) (tqQi G cA (fun (r : Int32) (_ : Unit) => r = r0) (fun (_ : Unit) => wTP cA ta pa T P L) (va_A (wTP cA ta pa T P L) sz)) 0 0 (va_A (wTP cA ta pa T P L) sz) := by
  refine Met.ofW (cc := cX6_goesAbove) (maxL := 5) (ret := (some .boolean)) (by decide) rfl ?_
  intro p e s m args below meth c s₁ B hml hv
  obtain ⟨rfl, hsz, hP, hK, hD0, hN⟩ := hv
  have hx := B.exec
  have hb := B.bytes
  have hr := B.returns
  have hts := atoms_spec (ws := .code yX6_goesAbove cX6_goesAbove 5 (some .boolean) :: T0) B.pre
  have hT : ∀ w ∈ T0, w.before _ s = true := fun w h => hts w (List.mem_cons_of_mem _ h)
  have hown : s.vm.findClass RX6 = some m.cls := findClass_of_methodNamed B.named
  have hlocks := B.notSynchronized
  subst hsz
  have hD := hD0.self (sz := s.heap.size)
  generalize hAe : va_A (wTP cA ta pa T P L) s.heap.size = A at hD ⊢
  have hA : ∀ q : Nat, s.heap.size ≤ q → A q := fun q h => by rw [← hAe]; exact Or.inr h
  have hS : va_S A s.heap s.heap [] := va_S.rf
  have hl := lv_entry ([.ref (ta 0), .int x1, .int x2]) (n := 5) (Nat.le_of_ble_eq_true rfl)
  rw [lg_entry_eq]
  generalize (lg_sl ([.ref (ta 0), .int x1, .int x2]) ++ List.replicate (5 - (lg_sl ([.ref (ta 0), .int x1, .int x2])).length) Slot.unset).toArray = ls at hl ⊢
  have hl : lv_has ls 5 [(0, .ref (ta 0)), (1, .int x1), (2, .int x2)] := hl
  have F : tF p s m ([.ref (ta 0), .int x1, .int x2] : List Value).toArray meth c G cA A RX6 cX6_goesAbove 5 (some .boolean) := ⟨hx, hb, hr, hml, hT, hown, hlocks, hK, hN, hA⟩
  obtain ⟨H, hH⟩ : ∃ z, z = s.heap := ⟨_, rfl⟩
  rw [← hH] at hP
  have hS : va_S A s.heap H [] := by rw [hH]; exact hS
  suffices hgo : G_X6_goesAbove p l e s m below meth c G cA A ta pa T P L x1 x2 r0 H [] (F0 m 0 ls []) by rw [hH] at hgo; exact hgo
  generalize ([] : List Loc) = locs at hS ⊢
  unfold f_X6_goesAbove at h
  refine lv_aload_n hx hb dX6_goesAbove_0 rfl (lv_at hl 0 rfl) ?_
  refine va_get (D := G) (ci := 6) (v := .ref (pa 0)) (C := RX6) (T := TX6) (N := 20) hx hb hT ku_6 hown hK hP 0 rfl rfl 19 (by decide) (hT _ kw_8_1) (fun _ h9 => h9) rfl dX6_goesAbove_1 ?_
  refine va_get (D := G) (ci := 2) (v := .ref (pa 12)) (C := RX2) (T := TX2) (N := 19) hx hb hT ku_2 hown hK hP 12 rfl rfl 11 (by decide) (hT _ kw_38_23) (fun _ h9 => h9) rfl dX6_goesAbove_4 ?_
  refine lv_aload_n hx hb dX6_goesAbove_7 rfl (lv_at hl 0 rfl) ?_
  refine va_get (D := G) (ci := 6) (v := .ref (pa 0)) (C := RX6) (T := TX6) (N := 20) hx hb hT ku_6 hown hK hP 0 rfl rfl 19 (by decide) (hT _ kw_8_1) (fun _ h9 => h9) rfl dX6_goesAbove_8 ?_
  refine va_get (D := G) (ci := 2) (v := .ref (pa 14)) (C := RX2) (T := TX2) (N := 19) hx hb hT ku_2 hown hK hP 12 rfl rfl 13 (by decide) (hT _ kw_39_0) (fun _ h9 => h9) rfl dX6_goesAbove_11 ?_
  refine lv_iload_n hx hb dX6_goesAbove_14 rfl (lv_at hl 1 rfl) ?_
  obtain ⟨g1, h⟩ := tx_ck h
  refine va_iald (i := x1) hx hb hK hP 19 0 rfl rfl (tx_in g1) dX6_goesAbove_15 ?_
  obtain ⟨g2, h⟩ := tx_ck h
  refine va_iald (i := (P 14 x1.toNatClampNeg)) hx hb hK hP 17 0 rfl rfl (tx_in g2) dX6_goesAbove_16 ?_
  refine lv_topi (fun y3 ey3 => ?_)
  have h := tx_let ey3 h
  refine lv_istore_n (lv' := [(3, .int y3), (0, .ref (ta 0)), (1, .int x1), (2, .int x2)]) hx hb dX6_goesAbove_17 rfl hl (by decide) rfl (fun ls hl => ?_)
  refine lv_aload_n hx hb dX6_goesAbove_18 rfl (lv_at hl 1 rfl) ?_
  refine va_get (D := G) (ci := 6) (v := .ref (pa 0)) (C := RX6) (T := TX6) (N := 20) hx hb hT ku_6 hown hK hP 0 rfl rfl 19 (by decide) (hT _ kw_8_1) (fun _ h9 => h9) rfl dX6_goesAbove_19 ?_
  refine va_get (D := G) (ci := 2) (v := .ref (pa 12)) (C := RX2) (T := TX2) (N := 19) hx hb hT ku_2 hown hK hP 12 rfl rfl 11 (by decide) (hT _ kw_38_23) (fun _ h9 => h9) rfl dX6_goesAbove_22 ?_
  refine lv_aload_n hx hb dX6_goesAbove_25 rfl (lv_at hl 1 rfl) ?_
  refine va_get (D := G) (ci := 6) (v := .ref (pa 0)) (C := RX6) (T := TX6) (N := 20) hx hb hT ku_6 hown hK hP 0 rfl rfl 19 (by decide) (hT _ kw_8_1) (fun _ h9 => h9) rfl dX6_goesAbove_26 ?_
  refine va_get (D := G) (ci := 2) (v := .ref (pa 14)) (C := RX2) (T := TX2) (N := 19) hx hb hT ku_2 hown hK hP 12 rfl rfl 13 (by decide) (hT _ kw_39_0) (fun _ h9 => h9) rfl dX6_goesAbove_29 ?_
  refine lv_iload_n hx hb dX6_goesAbove_32 rfl (lv_at hl 3 rfl) ?_
  obtain ⟨g4, h⟩ := tx_ck h
  refine va_iald (i := x2) hx hb hK hP 19 0 rfl rfl (tx_in g4) dX6_goesAbove_33 ?_
  obtain ⟨g5, h⟩ := tx_ck h
  refine va_iald (i := (P 14 x2.toNatClampNeg)) hx hb hK hP 17 0 rfl rfl (tx_in g5) dX6_goesAbove_34 ?_
  refine lv_topi (fun y6 ey6 => ?_)
  have h := tx_let ey6 h
  refine lv_istore (lv' := [(4, .int y6), (3, .int y3), (0, .ref (ta 0)), (1, .int x1), (2, .int x2)]) hx hb dX6_goesAbove_35 hl (by decide) rfl (fun ls hl => ?_)
  refine lv_iload_n hx hb dX6_goesAbove_37 rfl (lv_at hl 1 rfl) ?_
  refine lv_iload hx hb dX6_goesAbove_38 (lv_at hl 0 rfl) ?_
  refine lv_icmp_eq (tgt := 57) hx hb dX6_goesAbove_40 (by decide) (fun c7 => ?_) (fun c7 => ?_)
  · have h := tx_pos c7 h
    refine lv_iload_n hx hb dX6_goesAbove_57 rfl (lv_at hl 3 rfl) ?_
    refine lv_iload_n hx hb dX6_goesAbove_58 rfl (lv_at hl 4 rfl) ?_
    refine lv_icmp_ge (tgt := 66) hx hb dX6_goesAbove_59 (by decide) (fun c8 => ?_) (fun c8 => ?_)
    · have h := tx_pos c8 h
      refine lv_iconst (v := 0) hx hb dX6_goesAbove_66 (by decide) ?_
      obtain rfl := tx_1 h
      exact W.zret (ty := .boolean) hx hb hr rfl (fun t ht hW => ⟨⟨_, (), rfl, rfl, by rw [ht]; exact hP, hD⟩, hS.F ht⟩) hS.2.2 dX6_goesAbove_67
    · have h := tx_neg c8 h
      refine lv_iconst (v := 1) hx hb dX6_goesAbove_62 (by decide) ?_
      refine lv_goto (tgt := 67) hx hb dX6_goesAbove_63 (by decide) ?_
      obtain rfl := tx_1 h
      exact W.zret (ty := .boolean) hx hb hr rfl (fun t ht hW => ⟨⟨_, (), rfl, rfl, by rw [ht]; exact hP, hD⟩, hS.F ht⟩) hS.2.2 dX6_goesAbove_67
  · have h := tx_neg c7 h
    refine lv_iload_n hx hb dX6_goesAbove_43 rfl (lv_at hl 1 rfl) ?_
    refine lv_iload hx hb dX6_goesAbove_44 (lv_at hl 0 rfl) ?_
    refine lv_icmp_ge (tgt := 53) hx hb dX6_goesAbove_46 (by decide) (fun c9 => ?_) (fun c9 => ?_)
    · have h := tx_pos c9 h
      refine lv_iconst (v := 0) hx hb dX6_goesAbove_53 (by decide) ?_
      refine lv_goto (tgt := 67) hx hb dX6_goesAbove_54 (by decide) ?_
      obtain rfl := tx_1 h
      exact W.zret (ty := .boolean) hx hb hr rfl (fun t ht hW => ⟨⟨_, (), rfl, rfl, by rw [ht]; exact hP, hD⟩, hS.F ht⟩) hS.2.2 dX6_goesAbove_67
    · have h := tx_neg c9 h
      refine lv_iconst (v := 1) hx hb dX6_goesAbove_49 (by decide) ?_
      refine lv_goto (tgt := 67) hx hb dX6_goesAbove_50 (by decide) ?_
      obtain rfl := tx_1 h
      exact W.zret (ty := .boolean) hx hb hr rfl (fun t ht hW => ⟨⟨_, (), rfl, rfl, by rw [ht]; exact hP, hD⟩, hS.F ht⟩) hS.2.2 dX6_goesAbove_67
abbrev G_X6_hasPlaced (p : Program) (l : Launch) (e : Env) (s : State) (m : MethodId) (below : List Frame) (meth : Method) (c : Code) (G : va_G) (cA : Nat → ClassId) (A : Nat → Prop) (ta : Nat → Nat) (pa : Nat → Nat) (T : Tr) (P : Tr) (L : Lo) (x1 : Int32) (r0 : Int32) (H : Heap) (locs : List Loc) (g : JFrame) : Prop := W p l e (headSpec (.code yX6_hasPlaced cX6_hasPlaced 3 (some .boolean) :: T0) ({ frames := 0, cells := 0, slots := 0, locals := 0 } : Room)).room s m ([.ref (ta 0), .int x1] : List Value).toArray below meth c H locs 0 0 (MQ below (tqQi G cA (fun (r : Int32) (_ : Unit) => r = r0) (fun (_ : Unit) => wTP cA ta pa T P L) A) ([.ref (ta 0), .int x1] : List Value).toArray s 0 0 A) g
set_option maxHeartbeats 4000000 in
set_option maxRecDepth 100000 in
theorem w_X6_hasPlaced_L2 {p : Program} {l : Launch} {e : Env} {s : State} {m : MethodId} {below : List Frame} {meth : Method} {c : Code} {G : va_G} {cA : Nat → ClassId} {A : Nat → Prop} {ta : Nat → Nat} {pa : Nat → Nat} {T : Tr} {P : Tr} {L : Lo} {x1₀ : Int32} {r0 : Int32} {x1 : Int32} (F : tF p s m ([.ref (ta 0), .int x1₀] : List Value).toArray meth c G cA A RX6 cX6_hasPlaced 3 (some .boolean))    (N : Nat) : ∀ (x2 : Int32) (H : Heap) (locs : List Loc) (ls : Array Slot), lpF (fun _ => none) (fB_X6_hasPlaced_L2 T P x1) N x2 = some r0 → va_P G vwCl (wTP cA ta pa T P L) H → va_D A (wTP cA ta pa T P L) → va_S A s.heap H locs → lv_has ls 3 [(0, .ref (ta 0)), (1, .int x1), (2, .int x2)] → G_X6_hasPlaced p l e s m below meth c G cA A ta pa T P L x1₀ r0 H locs (F0 m 2 ls []) := by
  obtain ⟨hx, hb, hr, hml, hT, hown, hlocks, hK, hN, hA⟩ := id F
  induction N with
  | zero =>
    intro x2 H locs ls h
    have h : (none : Option (Int32)) = some r0 := h
    cases h
  | succ N hk2 =>
    intro x2 H locs ls h hP hD hS hl
    have h : fB_X6_hasPlaced_L2 T P x1 (lpF (fun _ => none) (fB_X6_hasPlaced_L2 T P x1) N) x2 = some r0 := h
    generalize hk2e : lpF (fun _ => none) (fB_X6_hasPlaced_L2 T P x1) N = k2 at h hk2
    unfold fB_X6_hasPlaced_L2 at h
    refine lv_iload_n hx hb dX6_hasPlaced_2 rfl (lv_at hl 2 rfl) ?_
    refine lv_aload_n hx hb dX6_hasPlaced_3 rfl (lv_at hl 0 rfl) ?_
    refine va_get (D := G) (ci := 6) (v := .ref (pa 0)) (C := RX6) (T := TX6) (N := 20) hx hb hT ku_6 hown hK hP 0 rfl rfl 19 (by decide) (hT _ kw_8_1) (fun _ h9 => h9) rfl dX6_hasPlaced_4 ?_
    refine va_get (D := G) (ci := 2) (v := .int (P 0 2)) (C := RX2) (T := TX2) (N := 19) hx hb hT ku_2 hown hK hP 12 rfl rfl 2 (by decide) (hT _ kw_40_17) (fun _ h9 => h9) rfl dX6_hasPlaced_7 ?_
    refine lv_icmp_ge (tgt := 44) hx hb dX6_hasPlaced_10 (by decide) (fun c1 => ?_) (fun c1 => ?_)
    · have h := tx_pos c1 h
      refine lv_iconst (v := 0) hx hb dX6_hasPlaced_44 (by decide) ?_
      obtain rfl := tx_1 h
      exact W.zret (ty := .boolean) hx hb hr rfl (fun t ht hW => ⟨⟨_, (), rfl, rfl, by rw [ht]; exact hP, hD⟩, hS.F ht⟩) hS.2.2 dX6_hasPlaced_45
    · have h := tx_neg c1 h
      refine lv_aload_n hx hb dX6_hasPlaced_13 rfl (lv_at hl 0 rfl) ?_
      refine va_get (D := G) (ci := 6) (v := .ref (pa 0)) (C := RX6) (T := TX6) (N := 20) hx hb hT ku_6 hown hK hP 0 rfl rfl 19 (by decide) (hT _ kw_8_1) (fun _ h9 => h9) rfl dX6_hasPlaced_14 ?_
      refine va_get (D := G) (ci := 2) (v := .ref (pa 14)) (C := RX2) (T := TX2) (N := 19) hx hb hT ku_2 hown hK hP 12 rfl rfl 13 (by decide) (hT _ kw_39_0) (fun _ h9 => h9) rfl dX6_hasPlaced_17 ?_
      refine lv_iload_n hx hb dX6_hasPlaced_20 rfl (lv_at hl 2 rfl) ?_
      obtain ⟨g2, h⟩ := tx_ck h
      refine va_iald (i := x2) hx hb hK hP 19 0 rfl rfl (tx_in g2) dX6_hasPlaced_21 ?_
      refine lv_iload_n hx hb dX6_hasPlaced_22 rfl (lv_at hl 1 rfl) ?_
      refine lv_icmp_ne (tgt := 38) hx hb dX6_hasPlaced_23 (by decide) (fun c3 => ?_) (fun c3 => ?_)
      · have h := tx_neg c3 h
        obtain ⟨y4, ey4, h⟩ := tx_lt h
        refine lv_iinc (v := y4) (lv' := [(2, .int y4), (0, .ref (ta 0)), (1, .int x1)]) hx hb dX6_hasPlaced_38 hl (k := 2) rfl ey4 (by decide) rfl (fun ls hl => ?_)
        refine lv_goto (tgt := 2) hx hb dX6_hasPlaced_41 (by decide) ?_
        exact hk2 y4 H locs ls h hP hD hS (lv_sub hl [1, 2, 0] rfl)
      · have h := tx_pos c3 h
        refine lv_aload_n hx hb dX6_hasPlaced_26 rfl (lv_at hl 0 rfl) ?_
        refine va_get (D := G) (ci := 6) (v := .ref (ta 14)) (C := RX6) (T := TX6) (N := 20) hx hb hT ku_6 hown hK hP 0 rfl rfl 13 (by decide) (hT _ kw_7_12) (fun _ h9 => h9) rfl dX6_hasPlaced_27 ?_
        refine lv_iload_n hx hb dX6_hasPlaced_30 rfl (lv_at hl 2 rfl) ?_
        refine va_iald (i := x2) hx hb hK hP 6 0 rfl rfl (tx_in g2) dX6_hasPlaced_31 ?_
        refine lv_iconst (v := 1) hx hb dX6_hasPlaced_32 (by decide) ?_
        refine lv_icmp_ne (tgt := 38) hx hb dX6_hasPlaced_33 (by decide) (fun c5 => ?_) (fun c5 => ?_)
        · have h := tx_neg c5 h
          obtain ⟨y6, ey6, h⟩ := tx_lt h
          refine lv_iinc (v := y6) (lv' := [(2, .int y6), (0, .ref (ta 0)), (1, .int x1)]) hx hb dX6_hasPlaced_38 hl (k := 2) rfl ey6 (by decide) rfl (fun ls hl => ?_)
          refine lv_goto (tgt := 2) hx hb dX6_hasPlaced_41 (by decide) ?_
          exact hk2 y6 H locs ls h hP hD hS (lv_sub hl [1, 2, 0] rfl)
        · have h := tx_pos c5 h
          refine lv_iconst (v := 1) hx hb dX6_hasPlaced_36 (by decide) ?_
          obtain rfl := tx_1 h
          exact W.zret (ty := .boolean) hx hb hr rfl (fun t ht hW => ⟨⟨_, (), rfl, rfl, by rw [ht]; exact hP, hD⟩, hS.F ht⟩) hS.2.2 dX6_hasPlaced_37
set_option maxHeartbeats 4000000 in
set_option maxRecDepth 100000 in
theorem c_X6_hasPlaced (l : Launch) (G : va_G) (cA : Nat → ClassId) (sz : Nat) (ta : Nat → Nat) (pa : Nat → Nat) (T : Tr) (P : Tr) (L : Lo) (x1 : Int32)  (r0 : Int32) (h : f_X6_hasPlaced T P x1 = some r0) : Met l yX6_hasPlaced (.code yX6_hasPlaced cX6_hasPlaced 3 (some .boolean) :: T0) ({ frames := 0, cells := 0, slots := 0, locals := 0 } : Room) (tqP G cA [.ref (ta 0), .int x1] (wTP cA ta pa T P L) sz) (tqQi G cA (fun (r : Int32) (_ : Unit) => r = r0) (fun (_ : Unit) => wTP cA ta pa T P L) (va_A (wTP cA ta pa T P L) sz)) 0 0 (va_A (wTP cA ta pa T P L) sz) := by
  refine Met.ofW (cc := cX6_hasPlaced) (maxL := 3) (ret := (some .boolean)) (by decide) rfl ?_
  intro p e s m args below meth c s₁ B hml hv
  obtain ⟨rfl, hsz, hP, hK, hD0, hN⟩ := hv
  have hx := B.exec
  have hb := B.bytes
  have hr := B.returns
  have hts := atoms_spec (ws := .code yX6_hasPlaced cX6_hasPlaced 3 (some .boolean) :: T0) B.pre
  have hT : ∀ w ∈ T0, w.before _ s = true := fun w h => hts w (List.mem_cons_of_mem _ h)
  have hown : s.vm.findClass RX6 = some m.cls := findClass_of_methodNamed B.named
  have hlocks := B.notSynchronized
  subst hsz
  have hD := hD0.self (sz := s.heap.size)
  generalize hAe : va_A (wTP cA ta pa T P L) s.heap.size = A at hD ⊢
  have hA : ∀ q : Nat, s.heap.size ≤ q → A q := fun q h => by rw [← hAe]; exact Or.inr h
  have hS : va_S A s.heap s.heap [] := va_S.rf
  have hl := lv_entry ([.ref (ta 0), .int x1]) (n := 3) (Nat.le_of_ble_eq_true rfl)
  rw [lg_entry_eq]
  generalize (lg_sl ([.ref (ta 0), .int x1]) ++ List.replicate (3 - (lg_sl ([.ref (ta 0), .int x1])).length) Slot.unset).toArray = ls at hl ⊢
  have hl : lv_has ls 3 [(0, .ref (ta 0)), (1, .int x1)] := hl
  have F : tF p s m ([.ref (ta 0), .int x1] : List Value).toArray meth c G cA A RX6 cX6_hasPlaced 3 (some .boolean) := ⟨hx, hb, hr, hml, hT, hown, hlocks, hK, hN, hA⟩
  obtain ⟨H, hH⟩ : ∃ z, z = s.heap := ⟨_, rfl⟩
  rw [← hH] at hP
  have hS : va_S A s.heap H [] := by rw [hH]; exact hS
  suffices hgo : G_X6_hasPlaced p l e s m below meth c G cA A ta pa T P L x1 r0 H [] (F0 m 0 ls []) by rw [hH] at hgo; exact hgo
  generalize ([] : List Loc) = locs at hS ⊢
  unfold f_X6_hasPlaced at h
  refine lv_iconst (v := 0) hx hb dX6_hasPlaced_0 (by decide) ?_
  refine lv_istore_n (lv' := [(2, .int 0), (0, .ref (ta 0)), (1, .int x1)]) hx hb dX6_hasPlaced_1 rfl hl (by decide) rfl (fun ls hl => ?_)
  exact w_X6_hasPlaced_L2 F 2000 0 H locs ls h hP hD hS (lv_sub hl [1, 2, 0] rfl)
abbrev G_X6_isBusy (p : Program) (l : Launch) (e : Env) (s : State) (m : MethodId) (below : List Frame) (meth : Method) (c : Code) (G : va_G) (cA : Nat → ClassId) (A : Nat → Prop) (ta : Nat → Nat) (pa : Nat → Nat) (T : Tr) (P : Tr) (L : Lo) (r0 : Int32) (H : Heap) (locs : List Loc) (g : JFrame) : Prop := W p l e (headSpec (.code yX6_isBusy cX6_isBusy 2 (some .boolean) :: T0) ({ frames := 0, cells := 0, slots := 0, locals := 0 } : Room)).room s m ([.ref (ta 0)] : List Value).toArray below meth c H locs 0 0 (MQ below (tqQi G cA (fun (r : Int32) (_ : Unit) => r = r0) (fun (_ : Unit) => wTP cA ta pa T P L) A) ([.ref (ta 0)] : List Value).toArray s 0 0 A) g
set_option maxHeartbeats 4000000 in
set_option maxRecDepth 100000 in
theorem w_X6_isBusy_L2 {p : Program} {l : Launch} {e : Env} {s : State} {m : MethodId} {below : List Frame} {meth : Method} {c : Code} {G : va_G} {cA : Nat → ClassId} {A : Nat → Prop} {ta : Nat → Nat} {pa : Nat → Nat} {T : Tr} {P : Tr} {L : Lo} {r0 : Int32} (F : tF p s m ([.ref (ta 0)] : List Value).toArray meth c G cA A RX6 cX6_isBusy 2 (some .boolean))    (N : Nat) : ∀ (x1 : Int32) (H : Heap) (locs : List Loc) (ls : Array Slot), lpF (fun _ => none) (fB_X6_isBusy_L2 T P) N x1 = some r0 → va_P G vwCl (wTP cA ta pa T P L) H → va_D A (wTP cA ta pa T P L) → va_S A s.heap H locs → lv_has ls 2 [(0, .ref (ta 0)), (1, .int x1)] → G_X6_isBusy p l e s m below meth c G cA A ta pa T P L r0 H locs (F0 m 2 ls []) := by
  obtain ⟨hx, hb, hr, hml, hT, hown, hlocks, hK, hN, hA⟩ := id F
  induction N with
  | zero =>
    intro x1 H locs ls h
    have h : (none : Option (Int32)) = some r0 := h
    cases h
  | succ N hk2 =>
    intro x1 H locs ls h hP hD hS hl
    have h : fB_X6_isBusy_L2 T P (lpF (fun _ => none) (fB_X6_isBusy_L2 T P) N) x1 = some r0 := h
    generalize hk2e : lpF (fun _ => none) (fB_X6_isBusy_L2 T P) N = k2 at h hk2
    unfold fB_X6_isBusy_L2 at h
    refine lv_iload_n hx hb dX6_isBusy_2 rfl (lv_at hl 1 rfl) ?_
    refine lv_aload_n hx hb dX6_isBusy_3 rfl (lv_at hl 0 rfl) ?_
    refine va_get (D := G) (ci := 6) (v := .ref (pa 0)) (C := RX6) (T := TX6) (N := 20) hx hb hT ku_6 hown hK hP 0 rfl rfl 19 (by decide) (hT _ kw_8_1) (fun _ h9 => h9) rfl dX6_isBusy_4 ?_
    refine va_get (D := G) (ci := 2) (v := .int (P 0 1)) (C := RX2) (T := TX2) (N := 19) hx hb hT ku_2 hown hK hP 12 rfl rfl 1 (by decide) (hT _ kw_40_16) (fun _ h9 => h9) rfl dX6_isBusy_7 ?_
    refine lv_icmp_ge (tgt := 31) hx hb dX6_isBusy_10 (by decide) (fun c1 => ?_) (fun c1 => ?_)
    · have h := tx_pos c1 h
      refine lv_iconst (v := 0) hx hb dX6_isBusy_31 (by decide) ?_
      obtain rfl := tx_1 h
      exact W.zret (ty := .boolean) hx hb hr rfl (fun t ht hW => ⟨⟨_, (), rfl, rfl, by rw [ht]; exact hP, hD⟩, hS.F ht⟩) hS.2.2 dX6_isBusy_32
    · have h := tx_neg c1 h
      refine lv_aload_n hx hb dX6_isBusy_13 rfl (lv_at hl 0 rfl) ?_
      refine va_get (D := G) (ci := 6) (v := .ref (ta 11)) (C := RX6) (T := TX6) (N := 20) hx hb hT ku_6 hown hK hP 0 rfl rfl 10 (by decide) (hT _ kw_7_9) (fun _ h9 => h9) rfl dX6_isBusy_14 ?_
      refine lv_iload_n hx hb dX6_isBusy_17 rfl (lv_at hl 1 rfl) ?_
      obtain ⟨g2, h⟩ := tx_ck h
      refine va_iald (i := x1) hx hb hK hP 3 0 rfl rfl (tx_in g2) dX6_isBusy_18 ?_
      refine lv_iconst (v := 2) hx hb dX6_isBusy_19 (by decide) ?_
      refine lv_icmp_eq (tgt := 25) hx hb dX6_isBusy_20 (by decide) (fun c3 => ?_) (fun c3 => ?_)
      · have h := tx_pos c3 h
        obtain ⟨y4, ey4, h⟩ := tx_lt h
        refine lv_iinc (v := y4) (lv' := [(1, .int y4), (0, .ref (ta 0))]) hx hb dX6_isBusy_25 hl (k := 1) rfl ey4 (by decide) rfl (fun ls hl => ?_)
        refine lv_goto (tgt := 2) hx hb dX6_isBusy_28 (by decide) ?_
        exact hk2 y4 H locs ls h hP hD hS (lv_sub hl [1, 0] rfl)
      · have h := tx_neg c3 h
        refine lv_iconst (v := 1) hx hb dX6_isBusy_23 (by decide) ?_
        obtain rfl := tx_1 h
        exact W.zret (ty := .boolean) hx hb hr rfl (fun t ht hW => ⟨⟨_, (), rfl, rfl, by rw [ht]; exact hP, hD⟩, hS.F ht⟩) hS.2.2 dX6_isBusy_24
set_option maxHeartbeats 4000000 in
set_option maxRecDepth 100000 in
theorem c_X6_isBusy (l : Launch) (G : va_G) (cA : Nat → ClassId) (sz : Nat) (ta : Nat → Nat) (pa : Nat → Nat) (T : Tr) (P : Tr) (L : Lo)  (r0 : Int32) (h : f_X6_isBusy T P = some r0) : Met l yX6_isBusy (.code yX6_isBusy cX6_isBusy 2 (some .boolean) :: T0) ({ frames := 0, cells := 0, slots := 0, locals := 0 } : Room) (tqP G cA [.ref (ta 0)] (wTP cA ta pa T P L) sz) (tqQi G cA (fun (r : Int32) (_ : Unit) => r = r0) (fun (_ : Unit) => wTP cA ta pa T P L) (va_A (wTP cA ta pa T P L) sz)) 0 0 (va_A (wTP cA ta pa T P L) sz) := by
  refine Met.ofW (cc := cX6_isBusy) (maxL := 2) (ret := (some .boolean)) (by decide) rfl ?_
  intro p e s m args below meth c s₁ B hml hv
  obtain ⟨rfl, hsz, hP, hK, hD0, hN⟩ := hv
  have hx := B.exec
  have hb := B.bytes
  have hr := B.returns
  have hts := atoms_spec (ws := .code yX6_isBusy cX6_isBusy 2 (some .boolean) :: T0) B.pre
  have hT : ∀ w ∈ T0, w.before _ s = true := fun w h => hts w (List.mem_cons_of_mem _ h)
  have hown : s.vm.findClass RX6 = some m.cls := findClass_of_methodNamed B.named
  have hlocks := B.notSynchronized
  subst hsz
  have hD := hD0.self (sz := s.heap.size)
  generalize hAe : va_A (wTP cA ta pa T P L) s.heap.size = A at hD ⊢
  have hA : ∀ q : Nat, s.heap.size ≤ q → A q := fun q h => by rw [← hAe]; exact Or.inr h
  have hS : va_S A s.heap s.heap [] := va_S.rf
  have hl := lv_entry ([.ref (ta 0)]) (n := 2) (Nat.le_of_ble_eq_true rfl)
  rw [lg_entry_eq]
  generalize (lg_sl ([.ref (ta 0)]) ++ List.replicate (2 - (lg_sl ([.ref (ta 0)])).length) Slot.unset).toArray = ls at hl ⊢
  have hl : lv_has ls 2 [(0, .ref (ta 0))] := hl
  have F : tF p s m ([.ref (ta 0)] : List Value).toArray meth c G cA A RX6 cX6_isBusy 2 (some .boolean) := ⟨hx, hb, hr, hml, hT, hown, hlocks, hK, hN, hA⟩
  obtain ⟨H, hH⟩ : ∃ z, z = s.heap := ⟨_, rfl⟩
  rw [← hH] at hP
  have hS : va_S A s.heap H [] := by rw [hH]; exact hS
  suffices hgo : G_X6_isBusy p l e s m below meth c G cA A ta pa T P L r0 H [] (F0 m 0 ls []) by rw [hH] at hgo; exact hgo
  generalize ([] : List Loc) = locs at hS ⊢
  unfold f_X6_isBusy at h
  refine lv_iconst (v := 0) hx hb dX6_isBusy_0 (by decide) ?_
  refine lv_istore_n (lv' := [(1, .int 0), (0, .ref (ta 0))]) hx hb dX6_isBusy_1 rfl hl (by decide) rfl (fun ls hl => ?_)
  exact w_X6_isBusy_L2 F 2000 0 H locs ls h hP hD hS (lv_sub hl [1, 0] rfl)
abbrev G_X6_secondsFor (p : Program) (l : Launch) (e : Env) (s : State) (m : MethodId) (below : List Frame) (meth : Method) (c : Code) (G : va_G) (cA : Nat → ClassId) (A : Nat → Prop) (ta : Nat → Nat) (pa : Nat → Nat) (P : Tr) (x1 : Int32) (x2 : Int32) (r0 : Int32) (T' : Tr) (L' : Lo) (H : Heap) (locs : List Loc) (g : JFrame) : Prop := W p l e (headSpec (.code yX6_secondsFor cX6_secondsFor 10 (some .int) :: T0) ({ frames := 3, cells := 0, slots := 0, locals := 78 } : Room)).room s m ([.ref (ta 0), .int x1, .int x2] : List Value).toArray below meth c H locs 0 0 (MQ below (tqQi G cA (fun (r : Int32) (_ : Unit) => r = r0) (fun (_ : Unit) => wTP cA ta pa (T') P (L')) A) ([.ref (ta 0), .int x1, .int x2] : List Value).toArray s 0 0 A) g
set_option maxHeartbeats 4000000 in
set_option maxRecDepth 100000 in
theorem w_X6_secondsFor_L26 {p : Program} {l : Launch} {e : Env} {s : State} {m : MethodId} {below : List Frame} {meth : Method} {c : Code} {G : va_G} {cA : Nat → ClassId} {A : Nat → Prop} {ta : Nat → Nat} {pa : Nat → Nat} {P : Tr} {x1₀ : Int32} {x2₀ : Int32} {r0 : Int32} {T' : Tr} {L' : Lo} {x2 : Int32} {x4 : Int32} (F : tF p s m ([.ref (ta 0), .int x1₀, .int x2₀] : List Value).toArray meth c G cA A RX6 cX6_secondsFor 10 (some .int))    (N : Nat) : ∀ (x5 : Int32) (x6 : Int32) (T : Tr) (L : Lo) (H : Heap) (locs : List Loc) (ls : Array Slot), lpF (fun _ _ _ _ => none) (fB_X6_secondsFor_L26 P x2 x4) N x5 x6 T L = some (r0, T', L') → va_P G vwCl (wTP cA ta pa T P L) H → va_D A (wTP cA ta pa T P L) → va_S A s.heap H locs → lv_has ls 10 [(0, .ref (ta 0)), (2, .int x2), (4, .int x4), (5, .int x5), (6, .int x6)] → G_X6_secondsFor p l e s m below meth c G cA A ta pa P x1₀ x2₀ r0 T' L' H locs (F0 m 26 ls []) := by
  obtain ⟨hx, hb, hr, hml, hT, hown, hlocks, hK, hN, hA⟩ := id F
  induction N with
  | zero =>
    intro x5 x6 T L H locs ls h
    have h : (none : Option (Int32 × Tr × Lo)) = some (r0, T', L') := h
    cases h
  | succ N hk26 =>
    intro x5 x6 T L H locs ls h hP hD hS hl
    have h : fB_X6_secondsFor_L26 P x2 x4 (lpF (fun _ _ _ _ => none) (fB_X6_secondsFor_L26 P x2 x4) N) x5 x6 T L = some (r0, T', L') := h
    generalize hk26e : lpF (fun _ _ _ _ => none) (fB_X6_secondsFor_L26 P x2 x4) N = k26 at h hk26
    unfold fB_X6_secondsFor_L26 at h
    refine lv_iload hx hb dX6_secondsFor_26 (lv_at hl 4 rfl) ?_
    refine lv_aload_n hx hb dX6_secondsFor_28 rfl (lv_at hl 0 rfl) ?_
    refine va_get (D := G) (ci := 6) (v := .ref (ta 17)) (C := RX6) (T := TX6) (N := 20) hx hb hT ku_6 hown hK hP 0 rfl rfl 16 (by decide) (hT _ kw_7_15) (fun _ h9 => h9) rfl dX6_secondsFor_29 ?_
    refine lv_iload hx hb dX6_secondsFor_32 (lv_at hl 2 rfl) ?_
    obtain ⟨g7, h⟩ := tx_ck h
    refine va_iald (i := x4) hx hb hK hP 9 0 rfl rfl (tx_in g7) dX6_secondsFor_34 ?_
    refine lv_icmp_ge (tgt := 116) hx hb dX6_secondsFor_35 (by decide) (fun c8 => ?_) (fun c8 => ?_)
    · have h := tx_pos c8 h
      refine lv_iload hx hb dX6_secondsFor_116 (lv_at hl 3 rfl) ?_
      obtain ⟨rfl, rfl, rfl⟩ := tx_3 h
      exact W.iret hx hb hr (fun t ht hW => ⟨⟨_, (), rfl, rfl, by rw [ht]; exact hP, hD⟩, hS.F ht⟩) hS.2.2 dX6_secondsFor_118
    · have h := tx_neg c8 h
      refine lv_aload_n hx hb dX6_secondsFor_38 rfl (lv_at hl 0 rfl) ?_
      refine va_get (D := G) (ci := 6) (v := .ref (ta 16)) (C := RX6) (T := TX6) (N := 20) hx hb hT ku_6 hown hK hP 0 rfl rfl 15 (by decide) (hT _ kw_7_14) (fun _ h9 => h9) rfl dX6_secondsFor_39 ?_
      refine lv_iload hx hb dX6_secondsFor_42 (lv_at hl 2 rfl) ?_
      refine lv_bipush (v := 10) hx hb dX6_secondsFor_44 (by decide) ?_
      refine lv_imul hx hb dX6_secondsFor_46 ?_
      refine lv_iload hx hb dX6_secondsFor_47 (lv_at hl 4 rfl) ?_
      refine lv_iadd hx hb dX6_secondsFor_49 ?_
      obtain ⟨g9, h⟩ := tx_ck h
      refine va_iald (i := ((x4 * 10) + x6)) hx hb hK hP 8 0 rfl rfl (tx_in g9) dX6_secondsFor_50 ?_
      refine lv_topi (fun y10 ey10 => ?_)
      have h := tx_let ey10 h
      refine lv_istore (lv' := [(7, .int y10), (0, .ref (ta 0)), (2, .int x2), (4, .int x4), (5, .int x5), (6, .int x6)]) hx hb dX6_secondsFor_51 hl (by decide) rfl (fun ls hl => ?_)
      refine lv_aload_n hx hb dX6_secondsFor_53 rfl (lv_at hl 1 rfl) ?_
      refine lv_iconst (v := 0) hx hb dX6_secondsFor_54 (by decide) ?_
      refine lv_iload hx hb dX6_secondsFor_55 (lv_at hl 0 rfl) ?_
      refine lv_iload_n hx hb dX6_secondsFor_57 rfl (lv_at hl 2 rfl) ?_
      obtain ⟨⟨r11, T_12, L_13⟩, hc14, h⟩ := tx_bd h
      replace h := tx_let (y := r11) rfl h
      replace h := tx_let (y := T_12) rfl h
      replace h := tx_let (y := L_13) rfl h
      refine tz_l (As := [.int 0, .int y10, .int x2]) (rest := []) ⟨hx, hb, hml, hown, hT⟩ hP hD hS hA hK hN (c_X6_worked l G cA H.size ta pa T P L (0 : Int32) y10 x2  r11 T_12 L_13 hc14) (tq_gV kw_40_22 kw_33_10 kw_33_11 kw_1_23 kw_33_12) rfl rfl dkdV_yX6_worked_3 (Nat.le_of_ble_eq_true rfl) (Nat.le_of_ble_eq_true rfl) (ci := 6) (q0 := 0) rfl rfl rfl hl.1 rfl (Nat.le_of_ble_eq_true rfl) dX6_secondsFor_58 ⟨Nat.le_of_ble_eq_true rfl, Nat.le_of_ble_eq_true rfl⟩ (fun _ _ H locs z15 hP hD hS => ?_)
      have z15 := z15.symm
      subst z15
      have hP : va_P G vwCl (wTP cA ta pa T_12 P L_13) H := hP
      have hD : va_D A (wTP cA ta pa T_12 P L_13) := hD
      refine lv_lstore (lv' := [(8, .long r11), (7, .int y10), (0, .ref (ta 0)), (2, .int x2), (4, .int x4), (5, .int x5), (6, .int x6)]) hx hb dX6_secondsFor_61 hl (by decide) rfl (fun ls hl => ?_)
      refine lv_lload hx hb dX6_secondsFor_63 (lv_at hl 0 rfl) ?_
      refine lv_ldc2 (v := (-9223372036854775808)) hx hb hown (hT _ kw_33_15) dX6_secondsFor_65 ?_
      refine W.lcmp hx hb dX6_secondsFor_68 ?_
      refine lv_if_eq (tgt := 87) hx hb dX6_secondsFor_69 (by decide) (fun c16 => ?_) (fun c16 => ?_)
      · have h := tx_pos c16 h
        refine lv_iload_n hx hb dX6_secondsFor_87 rfl (lv_at hl 3 rfl) ?_
        refine lv_if_le (tgt := 110) hx hb dX6_secondsFor_88 (by decide) (fun c17 => ?_) (fun c17 => ?_)
        · have h := tx_pos c17 h
          obtain ⟨y18, ey18, h⟩ := tx_lt h
          refine lv_iinc (v := y18) (lv' := [(6, .int y18), (8, .long r11), (7, .int y10), (0, .ref (ta 0)), (2, .int x2), (4, .int x4), (5, .int x5)]) hx hb dX6_secondsFor_110 hl (k := 6) rfl ey18 (by decide) rfl (fun ls hl => ?_)
          refine lv_goto (tgt := 26) hx hb dX6_secondsFor_113 (by decide) ?_
          exact hk26 x5 y18 T_12 L_13 H locs ls h hP hD hS (lv_sub hl [3, 4, 5, 6, 0] rfl)
        · have h := tx_neg c17 h
          refine lv_iload hx hb dX6_secondsFor_91 (lv_at hl 5 rfl) ?_
          refine lv_aload_n hx hb dX6_secondsFor_93 rfl (lv_at hl 2 rfl) ?_
          refine va_get (D := G) (ci := 6) (v := .ref (pa 0)) (C := RX6) (T := TX6) (N := 20) hx hb hT ku_6 hown hK hP 0 rfl rfl 19 (by decide) (hT _ kw_8_1) (fun _ h9 => h9) rfl dX6_secondsFor_94 ?_
          refine va_get (D := G) (ci := 2) (v := .ref (pa 15)) (C := RX2) (T := TX2) (N := 19) hx hb hT ku_2 hown hK hP 12 rfl rfl 14 (by decide) (hT _ kw_33_16) (fun _ h9 => h9) rfl dX6_secondsFor_97 ?_
          refine lv_iload hx hb dX6_secondsFor_100 (lv_at hl 1 rfl) ?_
          obtain ⟨g19, h⟩ := tx_ck h
          refine va_iald (i := y10) hx hb hK hP 20 0 rfl rfl (tx_in g19) dX6_secondsFor_102 ?_
          refine lv_iload_n hx hb dX6_secondsFor_103 rfl (lv_at hl 3 rfl) ?_
          obtain ⟨g20, h⟩ := tx_ck h
          refine lv_idiv hx hb dX6_secondsFor_104 (tx_nz g20) ?_
          refine lv_iconst (v := 1) hx hb dX6_secondsFor_105 (by decide) ?_
          refine lv_iadd hx hb dX6_secondsFor_106 ?_
          refine lv_iadd hx hb dX6_secondsFor_107 ?_
          refine lv_topi (fun y21 ey21 => ?_)
          have h := tx_let ey21 h
          refine lv_istore (lv' := [(5, .int y21), (8, .long r11), (7, .int y10), (0, .ref (ta 0)), (2, .int x2), (4, .int x4), (6, .int x6)]) hx hb dX6_secondsFor_108 hl (by decide) rfl (fun ls hl => ?_)
          obtain ⟨y22, ey22, h⟩ := tx_lt h
          refine lv_iinc (v := y22) (lv' := [(6, .int y22), (5, .int y21), (8, .long r11), (7, .int y10), (0, .ref (ta 0)), (2, .int x2), (4, .int x4)]) hx hb dX6_secondsFor_110 hl (k := 6) rfl ey22 (by decide) rfl (fun ls hl => ?_)
          refine lv_goto (tgt := 26) hx hb dX6_secondsFor_113 (by decide) ?_
          exact hk26 y21 y22 T_12 L_13 H locs ls h hP hD hS (lv_sub hl [4, 5, 6, 1, 0] rfl)
      · have h := tx_neg c16 h
        refine lv_iload hx hb dX6_secondsFor_72 (lv_at hl 5 rfl) ?_
        refine lv_lload hx hb dX6_secondsFor_74 (lv_at hl 0 rfl) ?_
        refine lv_bipush (v := 99) hx hb dX6_secondsFor_76 (by decide) ?_
        obtain ⟨r23, hc24, h⟩ := tx_bd h
        refine tw_ci (tw_none (ws := wTP cA ta pa T_12 P L_13)) hP hD hS hA (va_runS (As := [.long r11, .int 99]) (rest := [.int x5]) ⟨hx, hb, hml, hown, hT⟩ (c_X6_within l G cA H.size r11 (99 : Int32)  r23 hc24) (va_cwS 2 hT (tq_gS kw_40_23 kw_41_0 kw_1_23 kw_41_1) rfl rfl rfl dkdS_yX6_within_2 ⟨Nat.le_of_ble_eq_true rfl, Nat.le_of_ble_eq_true rfl⟩) (tw_pre (tw_none (ws := wTP cA ta pa T_12 P L_13)) hP hD hK hN) rfl rfl hl.1 rfl (lv_room (Nat.le_of_ble_eq_true rfl)) dX6_secondsFor_78 ⟨Nat.le_of_ble_eq_true rfl, Nat.le_of_ble_eq_true rfl⟩) (fun _ _ H locs z25 hP hD hS => ?_)
        have z25 := z25.symm
        subst z25
        have hP : va_P G vwCl (wTP cA ta pa T_12 P L_13) H := hP
        have hD : va_D A (wTP cA ta pa T_12 P L_13) := hD
        refine lv_iadd hx hb dX6_secondsFor_81 ?_
        refine lv_topi (fun y26 ey26 => ?_)
        have h := tx_let ey26 h
        refine lv_istore (lv' := [(5, .int y26), (8, .long r11), (7, .int y10), (0, .ref (ta 0)), (2, .int x2), (4, .int x4), (6, .int x6)]) hx hb dX6_secondsFor_82 hl (by decide) rfl (fun ls hl => ?_)
        refine lv_goto (tgt := 110) hx hb dX6_secondsFor_84 (by decide) ?_
        obtain ⟨y27, ey27, h⟩ := tx_lt h
        refine lv_iinc (v := y27) (lv' := [(6, .int y27), (5, .int y26), (8, .long r11), (7, .int y10), (0, .ref (ta 0)), (2, .int x2), (4, .int x4)]) hx hb dX6_secondsFor_110 hl (k := 6) rfl ey27 (by decide) rfl (fun ls hl => ?_)
        refine lv_goto (tgt := 26) hx hb dX6_secondsFor_113 (by decide) ?_
        exact hk26 y26 y27 T_12 L_13 H locs ls h hP hD hS (lv_sub hl [4, 5, 6, 1, 0] rfl)
set_option maxHeartbeats 4000000 in
set_option maxRecDepth 100000 in
theorem c_X6_secondsFor (l : Launch) (G : va_G) (cA : Nat → ClassId) (sz : Nat) (ta : Nat → Nat) (pa : Nat → Nat) (T : Tr) (P : Tr) (L : Lo) (x1 : Int32) (x2 : Int32)  (r0 : Int32) (T' : Tr) (L' : Lo) (h : f_X6_secondsFor T P L x1 x2 = some (r0, T', L')) : Met l yX6_secondsFor (.code yX6_secondsFor cX6_secondsFor 10 (some .int) :: T0) ({ frames := 3, cells := 0, slots := 0, locals := 78 } : Room) (tqP G cA [.ref (ta 0), .int x1, .int x2] (wTP cA ta pa T P L) sz) (tqQi G cA (fun (r : Int32) (_ : Unit) => r = r0) (fun (_ : Unit) => wTP cA ta pa (T') P (L')) (va_A (wTP cA ta pa T P L) sz)) 0 0 (va_A (wTP cA ta pa T P L) sz) := by
  refine Met.ofW (cc := cX6_secondsFor) (maxL := 10) (ret := (some .int)) (by decide) rfl ?_
  intro p e s m args below meth c s₁ B hml hv
  obtain ⟨rfl, hsz, hP, hK, hD0, hN⟩ := hv
  have hx := B.exec
  have hb := B.bytes
  have hr := B.returns
  have hts := atoms_spec (ws := .code yX6_secondsFor cX6_secondsFor 10 (some .int) :: T0) B.pre
  have hT : ∀ w ∈ T0, w.before _ s = true := fun w h => hts w (List.mem_cons_of_mem _ h)
  have hown : s.vm.findClass RX6 = some m.cls := findClass_of_methodNamed B.named
  have hlocks := B.notSynchronized
  subst hsz
  have hD := hD0.self (sz := s.heap.size)
  generalize hAe : va_A (wTP cA ta pa T P L) s.heap.size = A at hD ⊢
  have hA : ∀ q : Nat, s.heap.size ≤ q → A q := fun q h => by rw [← hAe]; exact Or.inr h
  have hS : va_S A s.heap s.heap [] := va_S.rf
  have hl := lv_entry ([.ref (ta 0), .int x1, .int x2]) (n := 10) (Nat.le_of_ble_eq_true rfl)
  rw [lg_entry_eq]
  generalize (lg_sl ([.ref (ta 0), .int x1, .int x2]) ++ List.replicate (10 - (lg_sl ([.ref (ta 0), .int x1, .int x2])).length) Slot.unset).toArray = ls at hl ⊢
  have hl : lv_has ls 10 [(0, .ref (ta 0)), (1, .int x1), (2, .int x2)] := hl
  have F : tF p s m ([.ref (ta 0), .int x1, .int x2] : List Value).toArray meth c G cA A RX6 cX6_secondsFor 10 (some .int) := ⟨hx, hb, hr, hml, hT, hown, hlocks, hK, hN, hA⟩
  obtain ⟨H, hH⟩ : ∃ z, z = s.heap := ⟨_, rfl⟩
  rw [← hH] at hP
  have hS : va_S A s.heap H [] := by rw [hH]; exact hS
  suffices hgo : G_X6_secondsFor p l e s m below meth c G cA A ta pa P x1 x2 r0 T' L' H [] (F0 m 0 ls []) by rw [hH] at hgo; exact hgo
  generalize ([] : List Loc) = locs at hS ⊢
  unfold f_X6_secondsFor at h
  refine lv_aload_n hx hb dX6_secondsFor_0 rfl (lv_at hl 0 rfl) ?_
  refine lv_iload_n hx hb dX6_secondsFor_1 rfl (lv_at hl 1 rfl) ?_
  obtain ⟨r1, hc2, h⟩ := tx_bd h
  refine tz_i (As := [.int x1]) (rest := []) ⟨hx, hb, hml, hown, hT⟩ hP hD hS hA hK hN (c_X6_level l G cA H.size ta pa T P L x1  r1 hc2) (tq_gV kw_30_14 kw_30_15 kw_30_16 kw_1_23 kw_30_17) rfl rfl dkdV_yX6_level_1 (Nat.le_of_ble_eq_true rfl) (Nat.le_of_ble_eq_true rfl) (ci := 6) (q0 := 0) rfl rfl rfl hl.1 rfl (Nat.le_of_ble_eq_true rfl) dX6_secondsFor_2 ⟨Nat.le_of_ble_eq_true rfl, Nat.le_of_ble_eq_true rfl⟩ (fun _ _ H locs z3 hP hD hS => ?_)
  have z3 := z3.symm
  subst z3
  have hP : va_P G vwCl (wTP cA ta pa T P L) H := hP
  have hD : va_D A (wTP cA ta pa T P L) := hD
  refine lv_istore_n (lv' := [(3, .int r1), (0, .ref (ta 0)), (1, .int x1), (2, .int x2)]) hx hb dX6_secondsFor_5 rfl hl (by decide) rfl (fun ls hl => ?_)
  refine lv_iload_n hx hb dX6_secondsFor_6 rfl (lv_at hl 0 rfl) ?_
  refine lv_if_ge (tgt := 12) hx hb dX6_secondsFor_7 (by decide) (fun c4 => ?_) (fun c4 => ?_)
  · have h := tx_pos c4 h
    refine lv_aload_n hx hb dX6_secondsFor_12 rfl (lv_at hl 1 rfl) ?_
    refine va_get (D := G) (ci := 6) (v := .ref (ta 15)) (C := RX6) (T := TX6) (N := 20) hx hb hT ku_6 hown hK hP 0 rfl rfl 14 (by decide) (hT _ kw_7_13) (fun _ h9 => h9) rfl dX6_secondsFor_13 ?_
    refine lv_iload_n hx hb dX6_secondsFor_16 rfl (lv_at hl 2 rfl) ?_
    obtain ⟨g5, h⟩ := tx_ck h
    refine va_iald (i := x1) hx hb hK hP 7 0 rfl rfl (tx_in g5) dX6_secondsFor_17 ?_
    refine lv_topi (fun y6 ey6 => ?_)
    have h := tx_let ey6 h
    refine lv_istore (lv' := [(4, .int y6), (3, .int r1), (0, .ref (ta 0)), (1, .int x1), (2, .int x2)]) hx hb dX6_secondsFor_18 hl (by decide) rfl (fun ls hl => ?_)
    refine lv_iconst (v := 0) hx hb dX6_secondsFor_20 (by decide) ?_
    refine lv_istore (lv' := [(5, .int 0), (4, .int y6), (3, .int r1), (0, .ref (ta 0)), (1, .int x1), (2, .int x2)]) hx hb dX6_secondsFor_21 hl (by decide) rfl (fun ls hl => ?_)
    refine lv_iload_n hx hb dX6_secondsFor_23 rfl (lv_at hl 2 rfl) ?_
    refine lv_istore (lv' := [(6, .int r1), (5, .int 0), (4, .int y6), (3, .int r1), (0, .ref (ta 0)), (1, .int x1), (2, .int x2)]) hx hb dX6_secondsFor_24 hl (by decide) rfl (fun ls hl => ?_)
    exact w_X6_secondsFor_L26 F 2000 0 r1 T L H locs ls h hP hD hS (lv_sub hl [4, 6, 2, 1, 0] rfl)
  · have h := tx_neg c4 h
    refine lv_iconst (v := 0) hx hb dX6_secondsFor_10 (by decide) ?_
    obtain ⟨rfl, rfl, rfl⟩ := tx_3 h
    exact W.iret hx hb hr (fun t ht hW => ⟨⟨_, (), rfl, rfl, by rw [ht]; exact hP, hD⟩, hS.F ht⟩) hS.2.2 dX6_secondsFor_11
abbrev G_X6_setFree (p : Program) (l : Launch) (e : Env) (s : State) (m : MethodId) (below : List Frame) (meth : Method) (c : Code) (G : va_G) (cA : Nat → ClassId) (A : Nat → Prop) (ta : Nat → Nat) (pa : Nat → Nat) (P : Tr) (L : Lo) (x1 : Int32) (x2 : Int32) (T' : Tr) (H : Heap) (locs : List Loc) (g : JFrame) : Prop := W p l e (headSpec (.code yX6_setFree cX6_setFree 4 none :: T0) ({ frames := 2, cells := 0, slots := 0, locals := 48 } : Room)).room s m ([.ref (ta 0), .int x1, .int x2] : List Value).toArray below meth c H locs 0 0 (MQ below (tqQv G cA (fun (_ : Unit) => True) (fun (_ : Unit) => wTP cA ta pa (T') P L) A) ([.ref (ta 0), .int x1, .int x2] : List Value).toArray s 0 0 A) g
set_option maxHeartbeats 4000000 in
set_option maxRecDepth 100000 in
theorem w_X6_setFree_L2 {p : Program} {l : Launch} {e : Env} {s : State} {m : MethodId} {below : List Frame} {meth : Method} {c : Code} {G : va_G} {cA : Nat → ClassId} {A : Nat → Prop} {ta : Nat → Nat} {pa : Nat → Nat} {P : Tr} {L : Lo} {x1₀ : Int32} {x2₀ : Int32} {T' : Tr} {x1 : Int32} {x2 : Int32} (F : tF p s m ([.ref (ta 0), .int x1₀, .int x2₀] : List Value).toArray meth c G cA A RX6 cX6_setFree 4 none)    (N : Nat) : ∀ (x3 : Int32) (T : Tr) (H : Heap) (locs : List Loc) (ls : Array Slot), lpF (fun _ _ => none) (fB_X6_setFree_L2 P x1 x2) N x3 T = some T' → va_P G vwCl (wTP cA ta pa T P L) H → va_D A (wTP cA ta pa T P L) → va_S A s.heap H locs → lv_has ls 4 [(0, .ref (ta 0)), (1, .int x1), (2, .int x2), (3, .int x3)] → G_X6_setFree p l e s m below meth c G cA A ta pa P L x1₀ x2₀ T' H locs (F0 m 2 ls []) := by
  obtain ⟨hx, hb, hr, hml, hT, hown, hlocks, hK, hN, hA⟩ := id F
  induction N with
  | zero =>
    intro x3 T H locs ls h
    have h : (none : Option (Tr)) = some T' := h
    cases h
  | succ N hk2 =>
    intro x3 T H locs ls h hP hD hS hl
    have h : fB_X6_setFree_L2 P x1 x2 (lpF (fun _ _ => none) (fB_X6_setFree_L2 P x1 x2) N) x3 T = some T' := h
    generalize hk2e : lpF (fun _ _ => none) (fB_X6_setFree_L2 P x1 x2) N = k2 at h hk2
    unfold fB_X6_setFree_L2 at h
    refine lv_iload_n hx hb dX6_setFree_2 rfl (lv_at hl 3 rfl) ?_
    refine lv_aload_n hx hb dX6_setFree_3 rfl (lv_at hl 0 rfl) ?_
    refine va_get (D := G) (ci := 6) (v := .ref (pa 0)) (C := RX6) (T := TX6) (N := 20) hx hb hT ku_6 hown hK hP 0 rfl rfl 19 (by decide) (hT _ kw_8_1) (fun _ h9 => h9) rfl dX6_setFree_4 ?_
    refine va_get (D := G) (ci := 2) (v := .int (P 0 2)) (C := RX2) (T := TX2) (N := 19) hx hb hT ku_2 hown hK hP 12 rfl rfl 2 (by decide) (hT _ kw_40_17) (fun _ h9 => h9) rfl dX6_setFree_7 ?_
    refine lv_icmp_ge (tgt := 48) hx hb dX6_setFree_10 (by decide) (fun c1 => ?_) (fun c1 => ?_)
    · have h := tx_pos c1 h
      obtain rfl := tx_1 h
      exact W.vret hx hb hr (fun t ht hW => ⟨⟨(), rfl, trivial, by rw [ht]; exact hP, hD⟩, hS.F ht⟩) hS.2.2 dX6_setFree_48
    · have h := tx_neg c1 h
      refine lv_aload_n hx hb dX6_setFree_13 rfl (lv_at hl 0 rfl) ?_
      refine va_get (D := G) (ci := 6) (v := .ref (pa 0)) (C := RX6) (T := TX6) (N := 20) hx hb hT ku_6 hown hK hP 0 rfl rfl 19 (by decide) (hT _ kw_8_1) (fun _ h9 => h9) rfl dX6_setFree_14 ?_
      refine va_get (D := G) (ci := 2) (v := .ref (pa 14)) (C := RX2) (T := TX2) (N := 19) hx hb hT ku_2 hown hK hP 12 rfl rfl 13 (by decide) (hT _ kw_39_0) (fun _ h9 => h9) rfl dX6_setFree_17 ?_
      refine lv_iload_n hx hb dX6_setFree_20 rfl (lv_at hl 3 rfl) ?_
      obtain ⟨g2, h⟩ := tx_ck h
      refine va_iald (i := x3) hx hb hK hP 19 0 rfl rfl (tx_in g2) dX6_setFree_21 ?_
      refine lv_iload_n hx hb dX6_setFree_22 rfl (lv_at hl 1 rfl) ?_
      refine lv_icmp_ne (tgt := 42) hx hb dX6_setFree_23 (by decide) (fun c3 => ?_) (fun c3 => ?_)
      · have h := tx_neg c3 h
        obtain ⟨y4, ey4, h⟩ := tx_lt h
        refine lv_iinc (v := y4) (lv' := [(3, .int y4), (0, .ref (ta 0)), (1, .int x1), (2, .int x2)]) hx hb dX6_setFree_42 hl (k := 3) rfl ey4 (by decide) rfl (fun ls hl => ?_)
        refine lv_goto (tgt := 2) hx hb dX6_setFree_45 (by decide) ?_
        exact hk2 y4 T H locs ls h hP hD hS (lv_sub hl [1, 2, 3, 0] rfl)
      · have h := tx_pos c3 h
        refine lv_aload_n hx hb dX6_setFree_26 rfl (lv_at hl 0 rfl) ?_
        refine va_get (D := G) (ci := 6) (v := .ref (ta 14)) (C := RX6) (T := TX6) (N := 20) hx hb hT ku_6 hown hK hP 0 rfl rfl 13 (by decide) (hT _ kw_7_12) (fun _ h9 => h9) rfl dX6_setFree_27 ?_
        refine lv_iload_n hx hb dX6_setFree_30 rfl (lv_at hl 3 rfl) ?_
        refine va_iald (i := x3) hx hb hK hP 6 0 rfl rfl (tx_in g2) dX6_setFree_31 ?_
        refine lv_iconst (v := 1) hx hb dX6_setFree_32 (by decide) ?_
        refine lv_icmp_ne (tgt := 42) hx hb dX6_setFree_33 (by decide) (fun c5 => ?_) (fun c5 => ?_)
        · have h := tx_neg c5 h
          obtain ⟨y6, ey6, h⟩ := tx_lt h
          refine lv_iinc (v := y6) (lv' := [(3, .int y6), (0, .ref (ta 0)), (1, .int x1), (2, .int x2)]) hx hb dX6_setFree_42 hl (k := 3) rfl ey6 (by decide) rfl (fun ls hl => ?_)
          refine lv_goto (tgt := 2) hx hb dX6_setFree_45 (by decide) ?_
          exact hk2 y6 T H locs ls h hP hD hS (lv_sub hl [1, 2, 3, 0] rfl)
        · have h := tx_pos c5 h
          refine lv_aload_n hx hb dX6_setFree_36 rfl (lv_at hl 0 rfl) ?_
          refine lv_iload_n hx hb dX6_setFree_37 rfl (lv_at hl 3 rfl) ?_
          refine lv_iload_n hx hb dX6_setFree_38 rfl (lv_at hl 2 rfl) ?_
          obtain ⟨T_7, hc8, h⟩ := tx_bd h
          refine tz_v (As := [.int x3, .int x2]) (rest := []) ⟨hx, hb, hml, hown, hT⟩ hP hD hS hA hK hN (c_X6_takeAway l G cA H.size ta pa T P L x3 x2  T_7 hc8) (tq_gV kw_41_3 kw_36_19 kw_36_20 kw_1_23 kw_36_21) rfl rfl dkdV_yX6_takeAway_2 (Nat.le_of_ble_eq_true rfl) (Nat.le_of_ble_eq_true rfl) (ci := 6) (q0 := 0) rfl rfl rfl hl.1 rfl (Nat.le_of_ble_eq_true rfl) dX6_setFree_39 ⟨Nat.le_of_ble_eq_true rfl, Nat.le_of_ble_eq_true rfl⟩ (fun _ H locs z9 hP hD hS => ?_)
          have hP : va_P G vwCl (wTP cA ta pa T_7 P L) H := hP
          have hD : va_D A (wTP cA ta pa T_7 P L) := hD
          obtain ⟨y10, ey10, h⟩ := tx_lt h
          refine lv_iinc (v := y10) (lv' := [(3, .int y10), (0, .ref (ta 0)), (1, .int x1), (2, .int x2)]) hx hb dX6_setFree_42 hl (k := 3) rfl ey10 (by decide) rfl (fun ls hl => ?_)
          refine lv_goto (tgt := 2) hx hb dX6_setFree_45 (by decide) ?_
          exact hk2 y10 T_7 H locs ls h hP hD hS (lv_sub hl [1, 2, 3, 0] rfl)
set_option maxHeartbeats 4000000 in
set_option maxRecDepth 100000 in
theorem c_X6_setFree (l : Launch) (G : va_G) (cA : Nat → ClassId) (sz : Nat) (ta : Nat → Nat) (pa : Nat → Nat) (T : Tr) (P : Tr) (L : Lo) (x1 : Int32) (x2 : Int32)  (T' : Tr) (h : f_X6_setFree T P x1 x2 = some T') : Met l yX6_setFree (.code yX6_setFree cX6_setFree 4 none :: T0) ({ frames := 2, cells := 0, slots := 0, locals := 48 } : Room) (tqP G cA [.ref (ta 0), .int x1, .int x2] (wTP cA ta pa T P L) sz) (tqQv G cA (fun (_ : Unit) => True) (fun (_ : Unit) => wTP cA ta pa (T') P L) (va_A (wTP cA ta pa T P L) sz)) 0 0 (va_A (wTP cA ta pa T P L) sz) := by
  refine Met.ofW (cc := cX6_setFree) (maxL := 4) (ret := none) (by decide) rfl ?_
  intro p e s m args below meth c s₁ B hml hv
  obtain ⟨rfl, hsz, hP, hK, hD0, hN⟩ := hv
  have hx := B.exec
  have hb := B.bytes
  have hr := B.returns
  have hts := atoms_spec (ws := .code yX6_setFree cX6_setFree 4 none :: T0) B.pre
  have hT : ∀ w ∈ T0, w.before _ s = true := fun w h => hts w (List.mem_cons_of_mem _ h)
  have hown : s.vm.findClass RX6 = some m.cls := findClass_of_methodNamed B.named
  have hlocks := B.notSynchronized
  subst hsz
  have hD := hD0.self (sz := s.heap.size)
  generalize hAe : va_A (wTP cA ta pa T P L) s.heap.size = A at hD ⊢
  have hA : ∀ q : Nat, s.heap.size ≤ q → A q := fun q h => by rw [← hAe]; exact Or.inr h
  have hS : va_S A s.heap s.heap [] := va_S.rf
  have hl := lv_entry ([.ref (ta 0), .int x1, .int x2]) (n := 4) (Nat.le_of_ble_eq_true rfl)
  rw [lg_entry_eq]
  generalize (lg_sl ([.ref (ta 0), .int x1, .int x2]) ++ List.replicate (4 - (lg_sl ([.ref (ta 0), .int x1, .int x2])).length) Slot.unset).toArray = ls at hl ⊢
  have hl : lv_has ls 4 [(0, .ref (ta 0)), (1, .int x1), (2, .int x2)] := hl
  have F : tF p s m ([.ref (ta 0), .int x1, .int x2] : List Value).toArray meth c G cA A RX6 cX6_setFree 4 none := ⟨hx, hb, hr, hml, hT, hown, hlocks, hK, hN, hA⟩
  obtain ⟨H, hH⟩ : ∃ z, z = s.heap := ⟨_, rfl⟩
  rw [← hH] at hP
  have hS : va_S A s.heap H [] := by rw [hH]; exact hS
  suffices hgo : G_X6_setFree p l e s m below meth c G cA A ta pa P L x1 x2 T' H [] (F0 m 0 ls []) by rw [hH] at hgo; exact hgo
  generalize ([] : List Loc) = locs at hS ⊢
  unfold f_X6_setFree at h
  refine lv_iconst (v := 0) hx hb dX6_setFree_0 (by decide) ?_
  refine lv_istore_n (lv' := [(3, .int 0), (0, .ref (ta 0)), (1, .int x1), (2, .int x2)]) hx hb dX6_setFree_1 rfl hl (by decide) rfl (fun ls hl => ?_)
  exact w_X6_setFree_L2 F 2000 0 T H locs ls h hP hD hS (lv_sub hl [1, 2, 3, 0] rfl)
abbrev G_X6_takeDown (p : Program) (l : Launch) (e : Env) (s : State) (m : MethodId) (below : List Frame) (meth : Method) (c : Code) (G : va_G) (cA : Nat → ClassId) (A : Nat → Prop) (ta : Nat → Nat) (pa : Nat → Nat) (P : Tr) (x1 : Int32) (r0 : Int32) (T' : Tr) (L' : Lo) (H : Heap) (locs : List Loc) (g : JFrame) : Prop := W p l e (headSpec (.code yX6_takeDown cX6_takeDown 7 (some .int) :: T0) ({ frames := 4, cells := 0, slots := 0, locals := 107 } : Room)).room s m ([.ref (ta 0), .int x1] : List Value).toArray below meth c H locs 0 0 (MQ below (tqQi G cA (fun (r : Int32) (_ : Unit) => r = r0) (fun (_ : Unit) => wTP cA ta pa (T') P (L')) A) ([.ref (ta 0), .int x1] : List Value).toArray s 0 0 A) g
set_option maxHeartbeats 4000000 in
set_option maxRecDepth 100000 in
theorem w_X6_takeDown_J192 {p : Program} {l : Launch} {e : Env} {s : State} {m : MethodId} {below : List Frame} {meth : Method} {c : Code} {G : va_G} {cA : Nat → ClassId} {A : Nat → Prop} {ta : Nat → Nat} {pa : Nat → Nat} {P : Tr} {x1₀ : Int32} {r0 : Int32} {T' : Tr} {L' : Lo} {x1 : Int32} (F : tF p s m ([.ref (ta 0), .int x1₀] : List Value).toArray meth c G cA A RX6 cX6_takeDown 7 (some .int))  (k7 : Int32 → Int32 → Int32 → Tr → Lo → Option (Int32 × Tr × Lo)) (hk7 : ∀ (x2 : Int32) (x3 : Int32) (x4 : Int32) (T : Tr) (L : Lo) (H : Heap) (locs : List Loc) (ls : Array Slot), k7 x2 x3 x4 T L = some (r0, T', L') → va_P G vwCl (wTP cA ta pa T P L) H → va_D A (wTP cA ta pa T P L) → va_S A s.heap H locs → lv_has ls 7 [(0, .ref (ta 0)), (1, .int x1), (2, .int x2), (3, .int x3), (4, .int x4)] → G_X6_takeDown p l e s m below meth c G cA A ta pa P x1₀ r0 T' L' H locs (F0 m 7 ls [])) (x2 : Int32) (x3 : Int32) (x4 : Int32) (T : Tr) (L : Lo) (H : Heap) (locs : List Loc) (ls : Array Slot) (h : fJ_X6_takeDown_J192 k7 P x1 x2 x3 x4 T L = some (r0, T', L')) (hP : va_P G vwCl (wTP cA ta pa T P L) H) (hD : va_D A (wTP cA ta pa T P L)) (hS : va_S A s.heap H locs) (hl : lv_has ls 7 [(0, .ref (ta 0)), (1, .int x1), (2, .int x2), (3, .int x3), (4, .int x4)]) : G_X6_takeDown p l e s m below meth c G cA A ta pa P x1₀ r0 T' L' H locs (F0 m 192 ls []) := by
  obtain ⟨hx, hb, hr, hml, hT, hown, hlocks, hK, hN, hA⟩ := id F
  unfold fJ_X6_takeDown_J192 at h
  refine lv_aload_n hx hb dX6_takeDown_192 rfl (lv_at hl 0 rfl) ?_
  refine lv_iload hx hb dX6_takeDown_193 (lv_at hl 4 rfl) ?_
  obtain ⟨r8, hc9, h⟩ := tx_bd h
  refine tz_i (As := [.int x4]) (rest := []) ⟨hx, hb, hml, hown, hT⟩ hP hD hS hA hK hN (c_X6_hasPlaced l G cA H.size ta pa T P L x4  r8 hc9) (tq_gV kw_41_8 kw_41_9 kw_41_10 kw_1_23 kw_41_11) rfl rfl dkdV_yX6_hasPlaced_1 (Nat.le_of_ble_eq_true rfl) (Nat.le_of_ble_eq_true rfl) (ci := 6) (q0 := 0) rfl rfl rfl hl.1 rfl (Nat.le_of_ble_eq_true rfl) dX6_takeDown_195 ⟨Nat.le_of_ble_eq_true rfl, Nat.le_of_ble_eq_true rfl⟩ (fun _ _ H locs z10 hP hD hS => ?_)
  have z10 := z10.symm
  subst z10
  have hP : va_P G vwCl (wTP cA ta pa T P L) H := hP
  have hD : va_D A (wTP cA ta pa T P L) := hD
  refine lv_if_ne (tgt := 209) hx hb dX6_takeDown_198 (by decide) (fun c11 => ?_) (fun c11 => ?_)
  · have h := tx_neg c11 h
    obtain ⟨y12, ey12, h⟩ := tx_lt h
    refine lv_iinc (v := y12) (lv' := [(4, .int y12), (0, .ref (ta 0)), (1, .int x1), (2, .int x2), (3, .int x3)]) hx hb dX6_takeDown_209 hl (k := 4) rfl ey12 (by decide) rfl (fun ls hl => ?_)
    refine lv_goto (tgt := 7) hx hb dX6_takeDown_212 (by decide) ?_
    exact hk7 x2 x3 y12 T L H locs ls h hP hD hS (lv_sub hl [1, 2, 3, 4, 0] rfl)
  · have h := tx_pos c11 h
    refine lv_aload_n hx hb dX6_takeDown_201 rfl (lv_at hl 0 rfl) ?_
    refine va_get (D := G) (ci := 6) (v := .ref (ta 11)) (C := RX6) (T := TX6) (N := 20) hx hb hT ku_6 hown hK hP 0 rfl rfl 10 (by decide) (hT _ kw_7_9) (fun _ h9 => h9) rfl dX6_takeDown_202 ?_
    refine lv_iload hx hb dX6_takeDown_205 (lv_at hl 4 rfl) ?_
    refine lv_iconst (v := 2) hx hb dX6_takeDown_207 (by decide) ?_
    obtain ⟨g13, h⟩ := tx_ck h
    refine va_iast (i := x4) hx hb hK hP hD hS 3 0 rfl rfl (tx_in g13) dX6_takeDown_208 (fun H locs hP hD hS => ?_)
    obtain ⟨T_14, eT_14, h⟩ := tx_lt h
    rw [sTP_ta_a10, eT_14] at hP hD
    obtain ⟨y15, ey15, h⟩ := tx_lt h
    refine lv_iinc (v := y15) (lv' := [(4, .int y15), (0, .ref (ta 0)), (1, .int x1), (2, .int x2), (3, .int x3)]) hx hb dX6_takeDown_209 hl (k := 4) rfl ey15 (by decide) rfl (fun ls hl => ?_)
    refine lv_goto (tgt := 7) hx hb dX6_takeDown_212 (by decide) ?_
    exact hk7 x2 x3 y15 T_14 L H locs ls h hP hD hS (lv_sub hl [1, 2, 3, 4, 0] rfl)
set_option maxHeartbeats 4000000 in
set_option maxRecDepth 100000 in
theorem w_X6_takeDown_J176 {p : Program} {l : Launch} {e : Env} {s : State} {m : MethodId} {below : List Frame} {meth : Method} {c : Code} {G : va_G} {cA : Nat → ClassId} {A : Nat → Prop} {ta : Nat → Nat} {pa : Nat → Nat} {P : Tr} {x1₀ : Int32} {r0 : Int32} {T' : Tr} {L' : Lo} {x1 : Int32} (F : tF p s m ([.ref (ta 0), .int x1₀] : List Value).toArray meth c G cA A RX6 cX6_takeDown 7 (some .int))  (k7 : Int32 → Int32 → Int32 → Tr → Lo → Option (Int32 × Tr × Lo)) (hk7 : ∀ (x2 : Int32) (x3 : Int32) (x4 : Int32) (T : Tr) (L : Lo) (H : Heap) (locs : List Loc) (ls : Array Slot), k7 x2 x3 x4 T L = some (r0, T', L') → va_P G vwCl (wTP cA ta pa T P L) H → va_D A (wTP cA ta pa T P L) → va_S A s.heap H locs → lv_has ls 7 [(0, .ref (ta 0)), (1, .int x1), (2, .int x2), (3, .int x3), (4, .int x4)] → G_X6_takeDown p l e s m below meth c G cA A ta pa P x1₀ r0 T' L' H locs (F0 m 7 ls [])) (x2 : Int32) (x3 : Int32) (x4 : Int32) (T : Tr) (L : Lo) (H : Heap) (locs : List Loc) (ls : Array Slot) (h : fJ_X6_takeDown_J176 k7 P x1 x2 x3 x4 T L = some (r0, T', L')) (hP : va_P G vwCl (wTP cA ta pa T P L) H) (hD : va_D A (wTP cA ta pa T P L)) (hS : va_S A s.heap H locs) (hl : lv_has ls 7 [(0, .ref (ta 0)), (1, .int x1), (2, .int x2), (3, .int x3), (4, .int x4)]) : G_X6_takeDown p l e s m below meth c G cA A ta pa P x1₀ r0 T' L' H locs (F0 m 176 ls []) := by
  obtain ⟨hx, hb, hr, hml, hT, hown, hlocks, hK, hN, hA⟩ := id F
  unfold fJ_X6_takeDown_J176 at h
  refine lv_aload_n hx hb dX6_takeDown_176 rfl (lv_at hl 0 rfl) ?_
  refine va_get (D := G) (ci := 6) (v := .int (T 0 0)) (C := RX6) (T := TX6) (N := 20) hx hb hT ku_6 hown hK hP 0 rfl rfl 0 (by decide) (hT _ kw_8_2) (fun _ h9 => h9) rfl dX6_takeDown_177 ?_
  refine lv_bipush (v := 20) hx hb dX6_takeDown_180 (by decide) ?_
  refine lv_icmp_ne (tgt := 192) hx hb dX6_takeDown_182 (by decide) (fun c7 => ?_) (fun c7 => ?_)
  · have h := tx_neg c7 h
    exact w_X6_takeDown_J192 F k7 hk7 x2 x3 x4 T L H locs ls h hP hD hS (lv_sub hl [0, 1, 2, 3, 4] rfl)
  · have h := tx_pos c7 h
    refine lv_aload_n hx hb dX6_takeDown_185 rfl (lv_at hl 0 rfl) ?_
    refine lv_iload hx hb dX6_takeDown_186 (lv_at hl 4 rfl) ?_
    refine lv_iconst (v := 5) hx hb dX6_takeDown_188 (by decide) ?_
    obtain ⟨T_16, hc17, h⟩ := tx_bd h
    refine tz_v (As := [.int x4, .int 5]) (rest := []) ⟨hx, hb, hml, hown, hT⟩ hP hD hS hA hK hN (c_X6_setFree l G cA H.size ta pa T P L x4 (5 : Int32)  T_16 hc17) (tq_gV kw_41_4 kw_41_5 kw_41_6 kw_1_23 kw_41_7) rfl rfl dkdV_yX6_setFree_2 (Nat.le_of_ble_eq_true rfl) (Nat.le_of_ble_eq_true rfl) (ci := 6) (q0 := 0) rfl rfl rfl hl.1 rfl (Nat.le_of_ble_eq_true rfl) dX6_takeDown_189 ⟨Nat.le_of_ble_eq_true rfl, Nat.le_of_ble_eq_true rfl⟩ (fun _ H locs z18 hP hD hS => ?_)
    have hP : va_P G vwCl (wTP cA ta pa T_16 P L) H := hP
    have hD : va_D A (wTP cA ta pa T_16 P L) := hD
    exact w_X6_takeDown_J192 F k7 hk7 x2 x3 x4 T_16 L H locs ls h hP hD hS (lv_sub hl [0, 1, 2, 3, 4] rfl)
set_option maxHeartbeats 4000000 in
set_option maxRecDepth 100000 in
theorem w_X6_takeDown_J126 {p : Program} {l : Launch} {e : Env} {s : State} {m : MethodId} {below : List Frame} {meth : Method} {c : Code} {G : va_G} {cA : Nat → ClassId} {A : Nat → Prop} {ta : Nat → Nat} {pa : Nat → Nat} {P : Tr} {x1₀ : Int32} {r0 : Int32} {T' : Tr} {L' : Lo} {x1 : Int32} {x4 : Int32} (F : tF p s m ([.ref (ta 0), .int x1₀] : List Value).toArray meth c G cA A RX6 cX6_takeDown 7 (some .int))  (k7 : Int32 → Int32 → Int32 → Tr → Lo → Option (Int32 × Tr × Lo)) (k53 : Int32 → Int32 → Int32 → Tr → Lo → Option (Int32 × Tr × Lo)) (hk7 : ∀ (x2 : Int32) (x3 : Int32) (x4 : Int32) (T : Tr) (L : Lo) (H : Heap) (locs : List Loc) (ls : Array Slot), k7 x2 x3 x4 T L = some (r0, T', L') → va_P G vwCl (wTP cA ta pa T P L) H → va_D A (wTP cA ta pa T P L) → va_S A s.heap H locs → lv_has ls 7 [(0, .ref (ta 0)), (1, .int x1), (2, .int x2), (3, .int x3), (4, .int x4)] → G_X6_takeDown p l e s m below meth c G cA A ta pa P x1₀ r0 T' L' H locs (F0 m 7 ls [])) (hk53 : ∀ (x2 : Int32) (x3 : Int32) (x5 : Int32) (T : Tr) (L : Lo) (H : Heap) (locs : List Loc) (ls : Array Slot), k53 x2 x3 x5 T L = some (r0, T', L') → va_P G vwCl (wTP cA ta pa T P L) H → va_D A (wTP cA ta pa T P L) → va_S A s.heap H locs → lv_has ls 7 [(0, .ref (ta 0)), (1, .int x1), (2, .int x2), (3, .int x3), (4, .int x4), (5, .int x5)] → G_X6_takeDown p l e s m below meth c G cA A ta pa P x1₀ r0 T' L' H locs (F0 m 53 ls [])) (x2 : Int32) (x5 : Int32) (x6 : Int32) (s0 : Int32) (T : Tr) (L : Lo) (H : Heap) (locs : List Loc) (ls : Array Slot) (h : fJ_X6_takeDown_J126 k7 k53 P x1 x4 x2 x5 x6 s0 T L = some (r0, T', L')) (hP : va_P G vwCl (wTP cA ta pa T P L) H) (hD : va_D A (wTP cA ta pa T P L)) (hS : va_S A s.heap H locs) (hl : lv_has ls 7 [(0, .ref (ta 0)), (1, .int x1), (2, .int x2), (4, .int x4), (5, .int x5), (6, .int x6)]) : G_X6_takeDown p l e s m below meth c G cA A ta pa P x1₀ r0 T' L' H locs (F0 m 126 ls [.int s0]) := by
  obtain ⟨hx, hb, hr, hml, hT, hown, hlocks, hK, hN, hA⟩ := id F
  unfold fJ_X6_takeDown_J126 at h
  refine lv_istore_n (lv' := [(3, .int s0), (0, .ref (ta 0)), (1, .int x1), (2, .int x2), (4, .int x4), (5, .int x5), (6, .int x6)]) hx hb dX6_takeDown_126 rfl hl (by decide) rfl (fun ls hl => ?_)
  refine lv_iload_n hx hb dX6_takeDown_127 rfl (lv_at hl 0 rfl) ?_
  refine lv_if_eq (tgt := 170) hx hb dX6_takeDown_128 (by decide) (fun c31 => ?_) (fun c31 => ?_)
  · have h := tx_pos c31 h
    obtain ⟨y32, ey32, h⟩ := tx_lt h
    refine lv_iinc (v := y32) (lv' := [(5, .int y32), (3, .int s0), (0, .ref (ta 0)), (1, .int x1), (2, .int x2), (4, .int x4), (6, .int x6)]) hx hb dX6_takeDown_170 hl (k := 5) rfl ey32 (by decide) rfl (fun ls hl => ?_)
    refine lv_goto (tgt := 53) hx hb dX6_takeDown_173 (by decide) ?_
    exact hk53 x2 s0 y32 T L H locs ls h hP hD hS (lv_sub hl [2, 3, 4, 1, 5, 0] rfl)
  · have h := tx_neg c31 h
    refine lv_iload_n hx hb dX6_takeDown_131 rfl (lv_at hl 3 rfl) ?_
    refine lv_iload hx hb dX6_takeDown_132 (lv_at hl 6 rfl) ?_
    refine lv_iadd hx hb dX6_takeDown_134 ?_
    refine lv_topi (fun y33 ey33 => ?_)
    have h := tx_let ey33 h
    refine lv_istore_n (lv' := [(2, .int y33), (3, .int s0), (0, .ref (ta 0)), (1, .int x1), (4, .int x4), (5, .int x5), (6, .int x6)]) hx hb dX6_takeDown_135 rfl hl (by decide) rfl (fun ls hl => ?_)
    refine lv_aload_n hx hb dX6_takeDown_136 rfl (lv_at hl 2 rfl) ?_
    refine va_get (D := G) (ci := 6) (v := .ref (ta 12)) (C := RX6) (T := TX6) (N := 20) hx hb hT ku_6 hown hK hP 0 rfl rfl 11 (by decide) (hT _ kw_7_10) (fun _ h9 => h9) rfl dX6_takeDown_137 ?_
    refine lv_iload hx hb dX6_takeDown_140 (lv_at hl 4 rfl) ?_
    refine lv_dup2_11 hx hb dX6_takeDown_142 rfl rfl ?_
    obtain ⟨g34, h⟩ := tx_ck h
    refine va_iald (i := x4) hx hb hK hP 4 0 rfl rfl (tx_in g34) dX6_takeDown_143 ?_
    refine lv_iload hx hb dX6_takeDown_144 (lv_at hl 6 rfl) ?_
    refine lv_iadd hx hb dX6_takeDown_146 ?_
    refine va_iast (i := x4) hx hb hK hP hD hS 4 0 rfl rfl (tx_in g34) dX6_takeDown_147 (fun H locs hP hD hS => ?_)
    obtain ⟨T_35, eT_35, h⟩ := tx_lt h
    rw [sTP_ta_a11, eT_35] at hP hD
    refine lv_aload_n hx hb dX6_takeDown_148 rfl (lv_at hl 2 rfl) ?_
    refine lv_dup hx hb dX6_takeDown_149 rfl ?_
    refine va_get (D := G) (ci := 6) (v := .int (T_35 0 1)) (C := RX6) (T := TX6) (N := 20) hx hb hT ku_6 hown hK hP 0 rfl rfl 1 (by decide) (hT _ kw_8_3) (fun _ h9 => h9) rfl dX6_takeDown_150 ?_
    refine lv_aload_n hx hb dX6_takeDown_153 rfl (lv_at hl 2 rfl) ?_
    refine lv_iload hx hb dX6_takeDown_154 (lv_at hl 5 rfl) ?_
    obtain ⟨r36, hc37, h⟩ := tx_bd h
    refine tz_i (As := [.int x5]) (rest := [.int (T_35 0 1), .ref (ta 0)]) ⟨hx, hb, hml, hown, hT⟩ hP hD hS hA hK hN (c_X6_above l G cA H.size ta pa T_35 P L x5  r36 hc37) (tq_gV kw_41_2 kw_30_11 kw_30_12 kw_1_23 kw_30_13) rfl rfl dkdV_yX6_above_1 (Nat.le_of_ble_eq_true rfl) (Nat.le_of_ble_eq_true rfl) (ci := 6) (q0 := 0) rfl rfl rfl hl.1 rfl (Nat.le_of_ble_eq_true rfl) dX6_takeDown_156 ⟨Nat.le_of_ble_eq_true rfl, Nat.le_of_ble_eq_true rfl⟩ (fun _ _ H locs z38 hP hD hS => ?_)
    have z38 := z38.symm
    subst z38
    have hP : va_P G vwCl (wTP cA ta pa T_35 P L) H := hP
    have hD : va_D A (wTP cA ta pa T_35 P L) := hD
    refine lv_iadd hx hb dX6_takeDown_159 ?_
    refine va_put (D := G) (ci := 6) (v := .int ((T_35 0 1) + r36)) (ty := .int) (C := RX6) (T := TX6) (N := 20) hx hb hT ku_6 tyX6 tyX6_ok nmX6 hown hK hP hD hS 0 rfl rfl 1 (by decide) (hT _ kw_8_3) (fun _ h9 => h9) rfl (by decide +kernel) rfl rfl (Nat.le_of_ble_eq_true rfl) dX6_takeDown_160 (fun H locs hP hD hS => ?_)
    obtain ⟨T_39, eT_39, h⟩ := tx_lt h
    rw [sTP_ta_f1, eT_39] at hP hD
    refine lv_aload_n hx hb dX6_takeDown_163 rfl (lv_at hl 2 rfl) ?_
    refine lv_iload hx hb dX6_takeDown_164 (lv_at hl 5 rfl) ?_
    refine lv_iconst (v := 2) hx hb dX6_takeDown_166 (by decide) ?_
    obtain ⟨T_40, hc41, h⟩ := tx_bd h
    refine tz_v (As := [.int x5, .int 2]) (rest := []) ⟨hx, hb, hml, hown, hT⟩ hP hD hS hA hK hN (c_X6_takeAway l G cA H.size ta pa T_39 P L x5 (2 : Int32)  T_40 hc41) (tq_gV kw_41_3 kw_36_19 kw_36_20 kw_1_23 kw_36_21) rfl rfl dkdV_yX6_takeAway_2 (Nat.le_of_ble_eq_true rfl) (Nat.le_of_ble_eq_true rfl) (ci := 6) (q0 := 0) rfl rfl rfl hl.1 rfl (Nat.le_of_ble_eq_true rfl) dX6_takeDown_167 ⟨Nat.le_of_ble_eq_true rfl, Nat.le_of_ble_eq_true rfl⟩ (fun _ H locs z42 hP hD hS => ?_)
    have hP : va_P G vwCl (wTP cA ta pa T_40 P L) H := hP
    have hD : va_D A (wTP cA ta pa T_40 P L) := hD
    obtain ⟨y43, ey43, h⟩ := tx_lt h
    refine lv_iinc (v := y43) (lv' := [(5, .int y43), (2, .int y33), (3, .int s0), (0, .ref (ta 0)), (1, .int x1), (4, .int x4), (6, .int x6)]) hx hb dX6_takeDown_170 hl (k := 5) rfl ey43 (by decide) rfl (fun ls hl => ?_)
    refine lv_goto (tgt := 53) hx hb dX6_takeDown_173 (by decide) ?_
    exact hk53 y33 s0 y43 T_40 L H locs ls h hP hD hS (lv_sub hl [3, 4, 1, 2, 5, 0] rfl)
set_option maxHeartbeats 4000000 in
set_option maxRecDepth 100000 in
theorem w_X6_takeDown_L53 {p : Program} {l : Launch} {e : Env} {s : State} {m : MethodId} {below : List Frame} {meth : Method} {c : Code} {G : va_G} {cA : Nat → ClassId} {A : Nat → Prop} {ta : Nat → Nat} {pa : Nat → Nat} {P : Tr} {x1₀ : Int32} {r0 : Int32} {T' : Tr} {L' : Lo} {x1 : Int32} {x4 : Int32} (F : tF p s m ([.ref (ta 0), .int x1₀] : List Value).toArray meth c G cA A RX6 cX6_takeDown 7 (some .int))  (k7 : Int32 → Int32 → Int32 → Tr → Lo → Option (Int32 × Tr × Lo)) (hk7 : ∀ (x2 : Int32) (x3 : Int32) (x4 : Int32) (T : Tr) (L : Lo) (H : Heap) (locs : List Loc) (ls : Array Slot), k7 x2 x3 x4 T L = some (r0, T', L') → va_P G vwCl (wTP cA ta pa T P L) H → va_D A (wTP cA ta pa T P L) → va_S A s.heap H locs → lv_has ls 7 [(0, .ref (ta 0)), (1, .int x1), (2, .int x2), (3, .int x3), (4, .int x4)] → G_X6_takeDown p l e s m below meth c G cA A ta pa P x1₀ r0 T' L' H locs (F0 m 7 ls [])) (N : Nat) : ∀ (x2 : Int32) (x3 : Int32) (x5 : Int32) (T : Tr) (L : Lo) (H : Heap) (locs : List Loc) (ls : Array Slot), lpF (fun _ _ _ _ _ => none) (fB_X6_takeDown_L53 k7 P x1 x4) N x2 x3 x5 T L = some (r0, T', L') → va_P G vwCl (wTP cA ta pa T P L) H → va_D A (wTP cA ta pa T P L) → va_S A s.heap H locs → lv_has ls 7 [(0, .ref (ta 0)), (1, .int x1), (2, .int x2), (3, .int x3), (4, .int x4), (5, .int x5)] → G_X6_takeDown p l e s m below meth c G cA A ta pa P x1₀ r0 T' L' H locs (F0 m 53 ls []) := by
  obtain ⟨hx, hb, hr, hml, hT, hown, hlocks, hK, hN, hA⟩ := id F
  induction N with
  | zero =>
    intro x2 x3 x5 T L H locs ls h
    have h : (none : Option (Int32 × Tr × Lo)) = some (r0, T', L') := h
    cases h
  | succ N hk53 =>
    intro x2 x3 x5 T L H locs ls h hP hD hS hl
    have h : fB_X6_takeDown_L53 k7 P x1 x4 (lpF (fun _ _ _ _ _ => none) (fB_X6_takeDown_L53 k7 P x1 x4) N) x2 x3 x5 T L = some (r0, T', L') := h
    generalize hk53e : lpF (fun _ _ _ _ _ => none) (fB_X6_takeDown_L53 k7 P x1 x4) N = k53 at h hk53
    unfold fB_X6_takeDown_L53 at h
    refine lv_iload hx hb dX6_takeDown_53 (lv_at hl 5 rfl) ?_
    refine lv_aload_n hx hb dX6_takeDown_55 rfl (lv_at hl 0 rfl) ?_
    refine va_get (D := G) (ci := 6) (v := .ref (pa 0)) (C := RX6) (T := TX6) (N := 20) hx hb hT ku_6 hown hK hP 0 rfl rfl 19 (by decide) (hT _ kw_8_1) (fun _ h9 => h9) rfl dX6_takeDown_56 ?_
    refine va_get (D := G) (ci := 2) (v := .int (P 0 2)) (C := RX2) (T := TX2) (N := 19) hx hb hT ku_2 hown hK hP 12 rfl rfl 2 (by decide) (hT _ kw_40_17) (fun _ h9 => h9) rfl dX6_takeDown_59 ?_
    refine lv_icmp_ge (tgt := 176) hx hb dX6_takeDown_62 (by decide) (fun c6 => ?_) (fun c6 => ?_)
    · have h := tx_pos c6 h
      exact w_X6_takeDown_J176 F k7 hk7 x2 x3 x4 T L H locs ls h hP hD hS (lv_sub hl [0, 1, 2, 3, 4] rfl)
    · have h := tx_neg c6 h
      refine lv_iload_n hx hb dX6_takeDown_65 rfl (lv_at hl 3 rfl) ?_
      refine lv_if_eq (tgt := 176) hx hb dX6_takeDown_66 (by decide) (fun c19 => ?_) (fun c19 => ?_)
      · have h := tx_pos c19 h
        exact w_X6_takeDown_J176 F k7 hk7 x2 x3 x4 T L H locs ls h hP hD hS (lv_sub hl [0, 1, 2, 3, 4] rfl)
      · have h := tx_neg c19 h
        refine lv_aload_n hx hb dX6_takeDown_69 rfl (lv_at hl 0 rfl) ?_
        refine va_get (D := G) (ci := 6) (v := .ref (pa 0)) (C := RX6) (T := TX6) (N := 20) hx hb hT ku_6 hown hK hP 0 rfl rfl 19 (by decide) (hT _ kw_8_1) (fun _ h9 => h9) rfl dX6_takeDown_70 ?_
        refine va_get (D := G) (ci := 2) (v := .ref (pa 14)) (C := RX2) (T := TX2) (N := 19) hx hb hT ku_2 hown hK hP 12 rfl rfl 13 (by decide) (hT _ kw_39_0) (fun _ h9 => h9) rfl dX6_takeDown_73 ?_
        refine lv_iload hx hb dX6_takeDown_76 (lv_at hl 5 rfl) ?_
        obtain ⟨g20, h⟩ := tx_ck h
        refine va_iald (i := x5) hx hb hK hP 19 0 rfl rfl (tx_in g20) dX6_takeDown_78 ?_
        refine lv_iload hx hb dX6_takeDown_79 (lv_at hl 4 rfl) ?_
        refine lv_icmp_ne (tgt := 170) hx hb dX6_takeDown_81 (by decide) (fun c21 => ?_) (fun c21 => ?_)
        · have h := tx_neg c21 h
          obtain ⟨y22, ey22, h⟩ := tx_lt h
          refine lv_iinc (v := y22) (lv' := [(5, .int y22), (0, .ref (ta 0)), (1, .int x1), (2, .int x2), (3, .int x3), (4, .int x4)]) hx hb dX6_takeDown_170 hl (k := 5) rfl ey22 (by decide) rfl (fun ls hl => ?_)
          refine lv_goto (tgt := 53) hx hb dX6_takeDown_173 (by decide) ?_
          exact hk53 x2 x3 y22 T L H locs ls h hP hD hS (lv_sub hl [1, 2, 3, 4, 5, 0] rfl)
        · have h := tx_pos c21 h
          refine lv_aload_n hx hb dX6_takeDown_84 rfl (lv_at hl 0 rfl) ?_
          refine va_get (D := G) (ci := 6) (v := .ref (ta 14)) (C := RX6) (T := TX6) (N := 20) hx hb hT ku_6 hown hK hP 0 rfl rfl 13 (by decide) (hT _ kw_7_12) (fun _ h9 => h9) rfl dX6_takeDown_85 ?_
          refine lv_iload hx hb dX6_takeDown_88 (lv_at hl 5 rfl) ?_
          refine va_iald (i := x5) hx hb hK hP 6 0 rfl rfl (tx_in g20) dX6_takeDown_90 ?_
          refine lv_iconst (v := 1) hx hb dX6_takeDown_91 (by decide) ?_
          refine lv_icmp_eq (tgt := 98) hx hb dX6_takeDown_92 (by decide) (fun c23 => ?_) (fun c23 => ?_)
          · have h := tx_pos c23 h
            refine lv_aload_n hx hb dX6_takeDown_98 rfl (lv_at hl 0 rfl) ?_
            refine lv_iload hx hb dX6_takeDown_99 (lv_at hl 5 rfl) ?_
            refine lv_aload_n hx hb dX6_takeDown_101 rfl (lv_at hl 0 rfl) ?_
            refine va_get (D := G) (ci := 6) (v := .ref (ta 10)) (C := RX6) (T := TX6) (N := 20) hx hb hT ku_6 hown hK hP 0 rfl rfl 9 (by decide) (hT _ kw_7_8) (fun _ h9 => h9) rfl dX6_takeDown_102 ?_
            refine lv_iload hx hb dX6_takeDown_105 (lv_at hl 4 rfl) ?_
            obtain ⟨g24, h⟩ := tx_ck h
            refine va_iald (i := x4) hx hb hK hP 2 0 rfl rfl (tx_in g24) dX6_takeDown_107 ?_
            obtain ⟨⟨r25, T_26, L_27⟩, hc28, h⟩ := tx_bd h
            replace h := tx_let (y := r25) rfl h
            replace h := tx_let (y := T_26) rfl h
            replace h := tx_let (y := L_27) rfl h
            refine tz_i (As := [.int x5, .int (T 10 x4.toNatClampNeg)]) (rest := []) ⟨hx, hb, hml, hown, hT⟩ hP hD hS hA hK hN (c_X6_secondsFor l G cA H.size ta pa T P L x5 (T 10 x4.toNatClampNeg)  r25 T_26 L_27 hc28) (tq_gV kw_40_18 kw_40_19 kw_40_20 kw_1_23 kw_40_21) rfl rfl dkdV_yX6_secondsFor_2 (Nat.le_of_ble_eq_true rfl) (Nat.le_of_ble_eq_true rfl) (ci := 6) (q0 := 0) rfl rfl rfl hl.1 rfl (Nat.le_of_ble_eq_true rfl) dX6_takeDown_108 ⟨Nat.le_of_ble_eq_true rfl, Nat.le_of_ble_eq_true rfl⟩ (fun _ _ H locs z29 hP hD hS => ?_)
            have z29 := z29.symm
            subst z29
            have hP : va_P G vwCl (wTP cA ta pa T_26 P L_27) H := hP
            have hD : va_D A (wTP cA ta pa T_26 P L_27) := hD
            refine lv_istore (lv' := [(6, .int r25), (0, .ref (ta 0)), (1, .int x1), (2, .int x2), (3, .int x3), (4, .int x4), (5, .int x5)]) hx hb dX6_takeDown_111 hl (by decide) rfl (fun ls hl => ?_)
            refine lv_iload_n hx hb dX6_takeDown_113 rfl (lv_at hl 3 rfl) ?_
            refine lv_iload hx hb dX6_takeDown_114 (lv_at hl 0 rfl) ?_
            refine lv_iadd hx hb dX6_takeDown_116 ?_
            refine lv_iload_n hx hb dX6_takeDown_117 rfl (lv_at hl 2 rfl) ?_
            refine lv_icmp_gt (tgt := 125) hx hb dX6_takeDown_118 (by decide) (fun c30 => ?_) (fun c30 => ?_)
            · have h := tx_pos c30 h
              refine lv_iconst (v := 0) hx hb dX6_takeDown_125 (by decide) ?_
              exact w_X6_takeDown_J126 F k7 k53 hk7 hk53 x2 x5 r25 0 T_26 L_27 H locs ls h hP hD hS (lv_sub hl [1, 2, 3, 5, 6, 0] rfl)
            · have h := tx_neg c30 h
              refine lv_iconst (v := 1) hx hb dX6_takeDown_121 (by decide) ?_
              refine lv_goto (tgt := 126) hx hb dX6_takeDown_122 (by decide) ?_
              exact w_X6_takeDown_J126 F k7 k53 hk7 hk53 x2 x5 r25 1 T_26 L_27 H locs ls h hP hD hS (lv_sub hl [1, 2, 3, 5, 6, 0] rfl)
          · have h := tx_neg c23 h
            refine lv_goto (tgt := 170) hx hb dX6_takeDown_95 (by decide) ?_
            obtain ⟨y44, ey44, h⟩ := tx_lt h
            refine lv_iinc (v := y44) (lv' := [(5, .int y44), (0, .ref (ta 0)), (1, .int x1), (2, .int x2), (3, .int x3), (4, .int x4)]) hx hb dX6_takeDown_170 hl (k := 5) rfl ey44 (by decide) rfl (fun ls hl => ?_)
            refine lv_goto (tgt := 53) hx hb dX6_takeDown_173 (by decide) ?_
            exact hk53 x2 x3 y44 T L H locs ls h hP hD hS (lv_sub hl [1, 2, 3, 4, 5, 0] rfl)
set_option maxHeartbeats 4000000 in
set_option maxRecDepth 100000 in
theorem w_X6_takeDown_L7 {p : Program} {l : Launch} {e : Env} {s : State} {m : MethodId} {below : List Frame} {meth : Method} {c : Code} {G : va_G} {cA : Nat → ClassId} {A : Nat → Prop} {ta : Nat → Nat} {pa : Nat → Nat} {P : Tr} {x1₀ : Int32} {r0 : Int32} {T' : Tr} {L' : Lo} {x1 : Int32} (F : tF p s m ([.ref (ta 0), .int x1₀] : List Value).toArray meth c G cA A RX6 cX6_takeDown 7 (some .int))    (N : Nat) : ∀ (x2 : Int32) (x3 : Int32) (x4 : Int32) (T : Tr) (L : Lo) (H : Heap) (locs : List Loc) (ls : Array Slot), lpF (fun _ _ _ _ _ => none) (fB_X6_takeDown_L7 P x1) N x2 x3 x4 T L = some (r0, T', L') → va_P G vwCl (wTP cA ta pa T P L) H → va_D A (wTP cA ta pa T P L) → va_S A s.heap H locs → lv_has ls 7 [(0, .ref (ta 0)), (1, .int x1), (2, .int x2), (3, .int x3), (4, .int x4)] → G_X6_takeDown p l e s m below meth c G cA A ta pa P x1₀ r0 T' L' H locs (F0 m 7 ls []) := by
  obtain ⟨hx, hb, hr, hml, hT, hown, hlocks, hK, hN, hA⟩ := id F
  induction N with
  | zero =>
    intro x2 x3 x4 T L H locs ls h
    have h : (none : Option (Int32 × Tr × Lo)) = some (r0, T', L') := h
    cases h
  | succ N hk7 =>
    intro x2 x3 x4 T L H locs ls h hP hD hS hl
    have h : fB_X6_takeDown_L7 P x1 (lpF (fun _ _ _ _ _ => none) (fB_X6_takeDown_L7 P x1) N) x2 x3 x4 T L = some (r0, T', L') := h
    generalize hk7e : lpF (fun _ _ _ _ _ => none) (fB_X6_takeDown_L7 P x1) N = k7 at h hk7
    unfold fB_X6_takeDown_L7 at h
    refine lv_iload hx hb dX6_takeDown_7 (lv_at hl 4 rfl) ?_
    refine lv_aload_n hx hb dX6_takeDown_9 rfl (lv_at hl 0 rfl) ?_
    refine va_get (D := G) (ci := 6) (v := .ref (pa 0)) (C := RX6) (T := TX6) (N := 20) hx hb hT ku_6 hown hK hP 0 rfl rfl 19 (by decide) (hT _ kw_8_1) (fun _ h9 => h9) rfl dX6_takeDown_10 ?_
    refine va_get (D := G) (ci := 2) (v := .int (P 0 1)) (C := RX2) (T := TX2) (N := 19) hx hb hT ku_2 hown hK hP 12 rfl rfl 1 (by decide) (hT _ kw_40_16) (fun _ h9 => h9) rfl dX6_takeDown_13 ?_
    refine lv_icmp_ge (tgt := 215) hx hb dX6_takeDown_16 (by decide) (fun c1 => ?_) (fun c1 => ?_)
    · have h := tx_pos c1 h
      refine lv_iload_n hx hb dX6_takeDown_215 rfl (lv_at hl 2 rfl) ?_
      obtain ⟨rfl, rfl, rfl⟩ := tx_3 h
      exact W.iret hx hb hr (fun t ht hW => ⟨⟨_, (), rfl, rfl, by rw [ht]; exact hP, hD⟩, hS.F ht⟩) hS.2.2 dX6_takeDown_216
    · have h := tx_neg c1 h
      refine lv_aload_n hx hb dX6_takeDown_19 rfl (lv_at hl 0 rfl) ?_
      refine va_get (D := G) (ci := 6) (v := .ref (ta 11)) (C := RX6) (T := TX6) (N := 20) hx hb hT ku_6 hown hK hP 0 rfl rfl 10 (by decide) (hT _ kw_7_9) (fun _ h9 => h9) rfl dX6_takeDown_20 ?_
      refine lv_iload hx hb dX6_takeDown_23 (lv_at hl 4 rfl) ?_
      obtain ⟨g2, h⟩ := tx_ck h
      refine va_iald (i := x4) hx hb hK hP 3 0 rfl rfl (tx_in g2) dX6_takeDown_25 ?_
      refine lv_iconst (v := 1) hx hb dX6_takeDown_26 (by decide) ?_
      refine lv_icmp_ne (tgt := 209) hx hb dX6_takeDown_27 (by decide) (fun c3 => ?_) (fun c3 => ?_)
      · have h := tx_neg c3 h
        obtain ⟨y4, ey4, h⟩ := tx_lt h
        refine lv_iinc (v := y4) (lv' := [(4, .int y4), (0, .ref (ta 0)), (1, .int x1), (2, .int x2), (3, .int x3)]) hx hb dX6_takeDown_209 hl (k := 4) rfl ey4 (by decide) rfl (fun ls hl => ?_)
        refine lv_goto (tgt := 7) hx hb dX6_takeDown_212 (by decide) ?_
        exact hk7 x2 x3 y4 T L H locs ls h hP hD hS (lv_sub hl [1, 2, 3, 4, 0] rfl)
      · have h := tx_pos c3 h
        refine lv_aload_n hx hb dX6_takeDown_30 rfl (lv_at hl 0 rfl) ?_
        refine va_get (D := G) (ci := 6) (v := .ref (pa 0)) (C := RX6) (T := TX6) (N := 20) hx hb hT ku_6 hown hK hP 0 rfl rfl 19 (by decide) (hT _ kw_8_1) (fun _ h9 => h9) rfl dX6_takeDown_31 ?_
        refine va_get (D := G) (ci := 2) (v := .ref (pa 12)) (C := RX2) (T := TX2) (N := 19) hx hb hT ku_2 hown hK hP 12 rfl rfl 11 (by decide) (hT _ kw_38_23) (fun _ h9 => h9) rfl dX6_takeDown_34 ?_
        refine lv_iload hx hb dX6_takeDown_37 (lv_at hl 4 rfl) ?_
        refine va_iald (i := x4) hx hb hK hP 17 0 rfl rfl (tx_in g2) dX6_takeDown_39 ?_
        refine lv_aload_n hx hb dX6_takeDown_40 rfl (lv_at hl 0 rfl) ?_
        refine va_get (D := G) (ci := 6) (v := .int (T 0 0)) (C := RX6) (T := TX6) (N := 20) hx hb hT ku_6 hown hK hP 0 rfl rfl 0 (by decide) (hT _ kw_8_2) (fun _ h9 => h9) rfl dX6_takeDown_41 ?_
        refine lv_icmp_le (tgt := 50) hx hb dX6_takeDown_44 (by decide) (fun c5 => ?_) (fun c5 => ?_)
        · have h := tx_pos c5 h
          refine lv_iconst (v := 0) hx hb dX6_takeDown_50 (by decide) ?_
          refine lv_istore (lv' := [(5, .int 0), (0, .ref (ta 0)), (1, .int x1), (2, .int x2), (3, .int x3), (4, .int x4)]) hx hb dX6_takeDown_51 hl (by decide) rfl (fun ls hl => ?_)
          exact w_X6_takeDown_L53 F k7 hk7 2000 x2 x3 0 T L H locs ls h hP hD hS (lv_sub hl [1, 2, 3, 4, 5, 0] rfl)
        · have h := tx_neg c5 h
          refine lv_goto (tgt := 209) hx hb dX6_takeDown_47 (by decide) ?_
          obtain ⟨y45, ey45, h⟩ := tx_lt h
          refine lv_iinc (v := y45) (lv' := [(4, .int y45), (0, .ref (ta 0)), (1, .int x1), (2, .int x2), (3, .int x3)]) hx hb dX6_takeDown_209 hl (k := 4) rfl ey45 (by decide) rfl (fun ls hl => ?_)
          refine lv_goto (tgt := 7) hx hb dX6_takeDown_212 (by decide) ?_
          exact hk7 x2 x3 y45 T L H locs ls h hP hD hS (lv_sub hl [1, 2, 3, 4, 0] rfl)
set_option maxHeartbeats 4000000 in
set_option maxRecDepth 100000 in
theorem c_X6_takeDown (l : Launch) (G : va_G) (cA : Nat → ClassId) (sz : Nat) (ta : Nat → Nat) (pa : Nat → Nat) (T : Tr) (P : Tr) (L : Lo) (x1 : Int32)  (r0 : Int32) (T' : Tr) (L' : Lo) (h : f_X6_takeDown T P L x1 = some (r0, T', L')) : Met l yX6_takeDown (.code yX6_takeDown cX6_takeDown 7 (some .int) :: T0) ({ frames := 4, cells := 0, slots := 0, locals := 107 } : Room) (tqP G cA [.ref (ta 0), .int x1] (wTP cA ta pa T P L) sz) (tqQi G cA (fun (r : Int32) (_ : Unit) => r = r0) (fun (_ : Unit) => wTP cA ta pa (T') P (L')) (va_A (wTP cA ta pa T P L) sz)) 0 0 (va_A (wTP cA ta pa T P L) sz) := by
  refine Met.ofW (cc := cX6_takeDown) (maxL := 7) (ret := (some .int)) (by decide) rfl ?_
  intro p e s m args below meth c s₁ B hml hv
  obtain ⟨rfl, hsz, hP, hK, hD0, hN⟩ := hv
  have hx := B.exec
  have hb := B.bytes
  have hr := B.returns
  have hts := atoms_spec (ws := .code yX6_takeDown cX6_takeDown 7 (some .int) :: T0) B.pre
  have hT : ∀ w ∈ T0, w.before _ s = true := fun w h => hts w (List.mem_cons_of_mem _ h)
  have hown : s.vm.findClass RX6 = some m.cls := findClass_of_methodNamed B.named
  have hlocks := B.notSynchronized
  subst hsz
  have hD := hD0.self (sz := s.heap.size)
  generalize hAe : va_A (wTP cA ta pa T P L) s.heap.size = A at hD ⊢
  have hA : ∀ q : Nat, s.heap.size ≤ q → A q := fun q h => by rw [← hAe]; exact Or.inr h
  have hS : va_S A s.heap s.heap [] := va_S.rf
  have hl := lv_entry ([.ref (ta 0), .int x1]) (n := 7) (Nat.le_of_ble_eq_true rfl)
  rw [lg_entry_eq]
  generalize (lg_sl ([.ref (ta 0), .int x1]) ++ List.replicate (7 - (lg_sl ([.ref (ta 0), .int x1])).length) Slot.unset).toArray = ls at hl ⊢
  have hl : lv_has ls 7 [(0, .ref (ta 0)), (1, .int x1)] := hl
  have F : tF p s m ([.ref (ta 0), .int x1] : List Value).toArray meth c G cA A RX6 cX6_takeDown 7 (some .int) := ⟨hx, hb, hr, hml, hT, hown, hlocks, hK, hN, hA⟩
  obtain ⟨H, hH⟩ : ∃ z, z = s.heap := ⟨_, rfl⟩
  rw [← hH] at hP
  have hS : va_S A s.heap H [] := by rw [hH]; exact hS
  suffices hgo : G_X6_takeDown p l e s m below meth c G cA A ta pa P x1 r0 T' L' H [] (F0 m 0 ls []) by rw [hH] at hgo; exact hgo
  generalize ([] : List Loc) = locs at hS ⊢
  unfold f_X6_takeDown at h
  refine lv_iconst (v := 0) hx hb dX6_takeDown_0 (by decide) ?_
  refine lv_istore_n (lv' := [(2, .int 0), (0, .ref (ta 0)), (1, .int x1)]) hx hb dX6_takeDown_1 rfl hl (by decide) rfl (fun ls hl => ?_)
  refine lv_iconst (v := 1) hx hb dX6_takeDown_2 (by decide) ?_
  refine lv_istore_n (lv' := [(3, .int 1), (2, .int 0), (0, .ref (ta 0)), (1, .int x1)]) hx hb dX6_takeDown_3 rfl hl (by decide) rfl (fun ls hl => ?_)
  refine lv_iconst (v := 0) hx hb dX6_takeDown_4 (by decide) ?_
  refine lv_istore (lv' := [(4, .int 0), (3, .int 1), (2, .int 0), (0, .ref (ta 0)), (1, .int x1)]) hx hb dX6_takeDown_5 hl (by decide) rfl (fun ls hl => ?_)
  exact w_X6_takeDown_L7 F 2000 0 1 0 T L H locs ls h hP hD hS (lv_sub hl [3, 4, 2, 1, 0] rfl)
abbrev G_X6_stealPercent (p : Program) (l : Launch) (e : Env) (s : State) (m : MethodId) (below : List Frame) (meth : Method) (c : Code) (G : va_G) (cA : Nat → ClassId) (A : Nat → Prop) (ta : Nat → Nat) (pa : Nat → Nat) (P : Tr) (x1 : Int32) (r0 : Int32) (T' : Tr) (L' : Lo) (H : Heap) (locs : List Loc) (g : JFrame) : Prop := W p l e (headSpec (.code yX6_stealPercent cX6_stealPercent 4 (some .int) :: T0) ({ frames := 3, cells := 0, slots := 0, locals := 78 } : Room)).room s m ([.ref (ta 0), .int x1] : List Value).toArray below meth c H locs 0 0 (MQ below (tqQi G cA (fun (r : Int32) (_ : Unit) => r = r0) (fun (_ : Unit) => wTP cA ta pa (T') P (L')) A) ([.ref (ta 0), .int x1] : List Value).toArray s 0 0 A) g
set_option maxHeartbeats 4000000 in
set_option maxRecDepth 100000 in
theorem c_X6_stealPercent (l : Launch) (G : va_G) (cA : Nat → ClassId) (sz : Nat) (ta : Nat → Nat) (pa : Nat → Nat) (T : Tr) (P : Tr) (L : Lo) (x1 : Int32)  (r0 : Int32) (T' : Tr) (L' : Lo) (h : f_X6_stealPercent T P L x1 = some (r0, T', L')) : Met l yX6_stealPercent (.code yX6_stealPercent cX6_stealPercent 4 (some .int) :: T0) ({ frames := 3, cells := 0, slots := 0, locals := 78 } : Room) (tqP G cA [.ref (ta 0), .int x1] (wTP cA ta pa T P L) sz) (tqQi G cA (fun (r : Int32) (_ : Unit) => r = r0) (fun (_ : Unit) => wTP cA ta pa (T') P (L')) (va_A (wTP cA ta pa T P L) sz)) 0 0 (va_A (wTP cA ta pa T P L) sz) := by
  refine Met.ofW (cc := cX6_stealPercent) (maxL := 4) (ret := (some .int)) (by decide) rfl ?_
  intro p e s m args below meth c s₁ B hml hv
  obtain ⟨rfl, hsz, hP, hK, hD0, hN⟩ := hv
  have hx := B.exec
  have hb := B.bytes
  have hr := B.returns
  have hts := atoms_spec (ws := .code yX6_stealPercent cX6_stealPercent 4 (some .int) :: T0) B.pre
  have hT : ∀ w ∈ T0, w.before _ s = true := fun w h => hts w (List.mem_cons_of_mem _ h)
  have hown : s.vm.findClass RX6 = some m.cls := findClass_of_methodNamed B.named
  have hlocks := B.notSynchronized
  subst hsz
  have hD := hD0.self (sz := s.heap.size)
  generalize hAe : va_A (wTP cA ta pa T P L) s.heap.size = A at hD ⊢
  have hA : ∀ q : Nat, s.heap.size ≤ q → A q := fun q h => by rw [← hAe]; exact Or.inr h
  have hS : va_S A s.heap s.heap [] := va_S.rf
  have hl := lv_entry ([.ref (ta 0), .int x1]) (n := 4) (Nat.le_of_ble_eq_true rfl)
  rw [lg_entry_eq]
  generalize (lg_sl ([.ref (ta 0), .int x1]) ++ List.replicate (4 - (lg_sl ([.ref (ta 0), .int x1])).length) Slot.unset).toArray = ls at hl ⊢
  have hl : lv_has ls 4 [(0, .ref (ta 0)), (1, .int x1)] := hl
  have F : tF p s m ([.ref (ta 0), .int x1] : List Value).toArray meth c G cA A RX6 cX6_stealPercent 4 (some .int) := ⟨hx, hb, hr, hml, hT, hown, hlocks, hK, hN, hA⟩
  obtain ⟨H, hH⟩ : ∃ z, z = s.heap := ⟨_, rfl⟩
  rw [← hH] at hP
  have hS : va_S A s.heap H [] := by rw [hH]; exact hS
  suffices hgo : G_X6_stealPercent p l e s m below meth c G cA A ta pa P x1 r0 T' L' H [] (F0 m 0 ls []) by rw [hH] at hgo; exact hgo
  generalize ([] : List Loc) = locs at hS ⊢
  unfold f_X6_stealPercent at h
  refine lv_aload_n hx hb dX6_stealPercent_0 rfl (lv_at hl 0 rfl) ?_
  refine lv_iconst (v := 2) hx hb dX6_stealPercent_1 (by decide) ?_
  refine lv_iload_n hx hb dX6_stealPercent_2 rfl (lv_at hl 1 rfl) ?_
  refine lv_aload_n hx hb dX6_stealPercent_3 rfl (lv_at hl 0 rfl) ?_
  refine va_get (D := G) (ci := 6) (v := .ref (ta 10)) (C := RX6) (T := TX6) (N := 20) hx hb hT ku_6 hown hK hP 0 rfl rfl 9 (by decide) (hT _ kw_7_8) (fun _ h9 => h9) rfl dX6_stealPercent_4 ?_
  refine lv_aload_n hx hb dX6_stealPercent_7 rfl (lv_at hl 0 rfl) ?_
  refine va_get (D := G) (ci := 6) (v := .ref (pa 0)) (C := RX6) (T := TX6) (N := 20) hx hb hT ku_6 hown hK hP 0 rfl rfl 19 (by decide) (hT _ kw_8_1) (fun _ h9 => h9) rfl dX6_stealPercent_8 ?_
  refine va_get (D := G) (ci := 2) (v := .ref (pa 14)) (C := RX2) (T := TX2) (N := 19) hx hb hT ku_2 hown hK hP 12 rfl rfl 13 (by decide) (hT _ kw_39_0) (fun _ h9 => h9) rfl dX6_stealPercent_11 ?_
  refine lv_iload_n hx hb dX6_stealPercent_14 rfl (lv_at hl 1 rfl) ?_
  obtain ⟨g1, h⟩ := tx_ck h
  refine va_iald (i := x1) hx hb hK hP 19 0 rfl rfl (tx_in g1) dX6_stealPercent_15 ?_
  obtain ⟨g2, h⟩ := tx_ck h
  refine va_iald (i := (P 14 x1.toNatClampNeg)) hx hb hK hP 2 0 rfl rfl (tx_in g2) dX6_stealPercent_16 ?_
  obtain ⟨⟨r3, T_4, L_5⟩, hc6, h⟩ := tx_bd h
  replace h := tx_let (y := r3) rfl h
  replace h := tx_let (y := T_4) rfl h
  replace h := tx_let (y := L_5) rfl h
  refine tz_l (As := [.int 2, .int x1, .int (T 10 (P 14 x1.toNatClampNeg).toNatClampNeg)]) (rest := []) ⟨hx, hb, hml, hown, hT⟩ hP hD hS hA hK hN (c_X6_worked l G cA H.size ta pa T P L (2 : Int32) x1 (T 10 (P 14 x1.toNatClampNeg).toNatClampNeg)  r3 T_4 L_5 hc6) (tq_gV kw_40_22 kw_33_10 kw_33_11 kw_1_23 kw_33_12) rfl rfl dkdV_yX6_worked_3 (Nat.le_of_ble_eq_true rfl) (Nat.le_of_ble_eq_true rfl) (ci := 6) (q0 := 0) rfl rfl rfl hl.1 rfl (Nat.le_of_ble_eq_true rfl) dX6_stealPercent_17 ⟨Nat.le_of_ble_eq_true rfl, Nat.le_of_ble_eq_true rfl⟩ (fun _ _ H locs z7 hP hD hS => ?_)
  have z7 := z7.symm
  subst z7
  have hP : va_P G vwCl (wTP cA ta pa T_4 P L_5) H := hP
  have hD : va_D A (wTP cA ta pa T_4 P L_5) := hD
  refine lv_lstore_n (lv' := [(2, .long r3), (0, .ref (ta 0)), (1, .int x1)]) hx hb dX6_stealPercent_20 rfl hl (by decide) rfl (fun ls hl => ?_)
  refine lv_lload_n hx hb dX6_stealPercent_21 rfl (lv_at hl 0 rfl) ?_
  refine lv_ldc2 (v := (-9223372036854775808)) hx hb hown (hT _ kw_33_15) dX6_stealPercent_22 ?_
  refine W.lcmp hx hb dX6_stealPercent_25 ?_
  refine lv_if_eq (tgt := 38) hx hb dX6_stealPercent_26 (by decide) (fun c8 => ?_) (fun c8 => ?_)
  · have h := tx_pos c8 h
    refine lv_bipush (v := 10) hx hb dX6_stealPercent_38 (by decide) ?_
    obtain ⟨rfl, rfl, rfl⟩ := tx_3 h
    exact W.iret hx hb hr (fun t ht hW => ⟨⟨_, (), rfl, rfl, by rw [ht]; exact hP, hD⟩, hS.F ht⟩) hS.2.2 dX6_stealPercent_40
  · have h := tx_neg c8 h
    refine lv_lload_n hx hb dX6_stealPercent_29 rfl (lv_at hl 0 rfl) ?_
    refine lv_bipush (v := 100) hx hb dX6_stealPercent_30 (by decide) ?_
    obtain ⟨r9, hc10, h⟩ := tx_bd h
    refine tw_ci (tw_none (ws := wTP cA ta pa T_4 P L_5)) hP hD hS hA (va_runS (As := [.long r3, .int 100]) (rest := []) ⟨hx, hb, hml, hown, hT⟩ (c_X6_within l G cA H.size r3 (100 : Int32)  r9 hc10) (va_cwS 2 hT (tq_gS kw_40_23 kw_41_0 kw_1_23 kw_41_1) rfl rfl rfl dkdS_yX6_within_2 ⟨Nat.le_of_ble_eq_true rfl, Nat.le_of_ble_eq_true rfl⟩) (tw_pre (tw_none (ws := wTP cA ta pa T_4 P L_5)) hP hD hK hN) rfl rfl hl.1 rfl (lv_room (Nat.le_of_ble_eq_true rfl)) dX6_stealPercent_32 ⟨Nat.le_of_ble_eq_true rfl, Nat.le_of_ble_eq_true rfl⟩) (fun _ _ H locs z11 hP hD hS => ?_)
    have z11 := z11.symm
    subst z11
    have hP : va_P G vwCl (wTP cA ta pa T_4 P L_5) H := hP
    have hD : va_D A (wTP cA ta pa T_4 P L_5) := hD
    refine lv_goto (tgt := 40) hx hb dX6_stealPercent_35 (by decide) ?_
    obtain ⟨rfl, rfl, rfl⟩ := tx_3 h
    exact W.iret hx hb hr (fun t ht hW => ⟨⟨_, (), rfl, rfl, by rw [ht]; exact hP, hD⟩, hS.F ht⟩) hS.2.2 dX6_stealPercent_40
abbrev G_X6_stealAway (p : Program) (l : Launch) (e : Env) (s : State) (m : MethodId) (below : List Frame) (meth : Method) (c : Code) (G : va_G) (cA : Nat → ClassId) (A : Nat → Prop) (ta : Nat → Nat) (pa : Nat → Nat) (P : Tr) (T' : Tr) (L' : Lo) (H : Heap) (locs : List Loc) (g : JFrame) : Prop := W p l e (headSpec (.code yX6_stealAway cX6_stealAway 3 none :: T0) ({ frames := 4, cells := 0, slots := 0, locals := 101 } : Room)).room s m ([.ref (ta 0)] : List Value).toArray below meth c H locs 0 0 (MQ below (tqQv G cA (fun (_ : Unit) => True) (fun (_ : Unit) => wTP cA ta pa (T') P (L')) A) ([.ref (ta 0)] : List Value).toArray s 0 0 A) g
set_option maxHeartbeats 4000000 in
set_option maxRecDepth 100000 in
theorem w_X6_stealAway_L2 {p : Program} {l : Launch} {e : Env} {s : State} {m : MethodId} {below : List Frame} {meth : Method} {c : Code} {G : va_G} {cA : Nat → ClassId} {A : Nat → Prop} {ta : Nat → Nat} {pa : Nat → Nat} {P : Tr} {T' : Tr} {L' : Lo} (F : tF p s m ([.ref (ta 0)] : List Value).toArray meth c G cA A RX6 cX6_stealAway 3 none)    (N : Nat) : ∀ (x1 : Int32) (T : Tr) (L : Lo) (H : Heap) (locs : List Loc) (ls : Array Slot), lpF (fun _ _ _ => none) (fB_X6_stealAway_L2 P) N x1 T L = some (T', L') → va_P G vwCl (wTP cA ta pa T P L) H → va_D A (wTP cA ta pa T P L) → va_S A s.heap H locs → lv_has ls 3 [(0, .ref (ta 0)), (1, .int x1)] → G_X6_stealAway p l e s m below meth c G cA A ta pa P T' L' H locs (F0 m 2 ls []) := by
  obtain ⟨hx, hb, hr, hml, hT, hown, hlocks, hK, hN, hA⟩ := id F
  induction N with
  | zero =>
    intro x1 T L H locs ls h
    have h : (none : Option (Tr × Lo)) = some (T', L') := h
    cases h
  | succ N hk2 =>
    intro x1 T L H locs ls h hP hD hS hl
    have h : fB_X6_stealAway_L2 P (lpF (fun _ _ _ => none) (fB_X6_stealAway_L2 P) N) x1 T L = some (T', L') := h
    generalize hk2e : lpF (fun _ _ _ => none) (fB_X6_stealAway_L2 P) N = k2 at h hk2
    unfold fB_X6_stealAway_L2 at h
    refine lv_iload_n hx hb dX6_stealAway_2 rfl (lv_at hl 1 rfl) ?_
    refine lv_aload_n hx hb dX6_stealAway_3 rfl (lv_at hl 0 rfl) ?_
    refine va_get (D := G) (ci := 6) (v := .ref (pa 0)) (C := RX6) (T := TX6) (N := 20) hx hb hT ku_6 hown hK hP 0 rfl rfl 19 (by decide) (hT _ kw_8_1) (fun _ h9 => h9) rfl dX6_stealAway_4 ?_
    refine va_get (D := G) (ci := 2) (v := .int (P 0 2)) (C := RX2) (T := TX2) (N := 19) hx hb hT ku_2 hown hK hP 12 rfl rfl 2 (by decide) (hT _ kw_40_17) (fun _ h9 => h9) rfl dX6_stealAway_7 ?_
    refine lv_icmp_ge (tgt := 68) hx hb dX6_stealAway_10 (by decide) (fun c1 => ?_) (fun c1 => ?_)
    · have h := tx_pos c1 h
      obtain ⟨rfl, rfl⟩ := tx_2 h
      exact W.vret hx hb hr (fun t ht hW => ⟨⟨(), rfl, trivial, by rw [ht]; exact hP, hD⟩, hS.F ht⟩) hS.2.2 dX6_stealAway_68
    · have h := tx_neg c1 h
      refine lv_aload_n hx hb dX6_stealAway_13 rfl (lv_at hl 0 rfl) ?_
      refine va_get (D := G) (ci := 6) (v := .int (T 0 7)) (C := RX6) (T := TX6) (N := 20) hx hb hT ku_6 hown hK hP 0 rfl rfl 7 (by decide) (hT _ kw_7_20) (fun _ h9 => h9) rfl dX6_stealAway_14 ?_
      refine lv_if_eq (tgt := 68) hx hb dX6_stealAway_17 (by decide) (fun c2 => ?_) (fun c2 => ?_)
      · have h := tx_pos c2 h
        obtain ⟨rfl, rfl⟩ := tx_2 h
        exact W.vret hx hb hr (fun t ht hW => ⟨⟨(), rfl, trivial, by rw [ht]; exact hP, hD⟩, hS.F ht⟩) hS.2.2 dX6_stealAway_68
      · have h := tx_neg c2 h
        refine lv_aload_n hx hb dX6_stealAway_20 rfl (lv_at hl 0 rfl) ?_
        refine va_get (D := G) (ci := 6) (v := .ref (ta 15)) (C := RX6) (T := TX6) (N := 20) hx hb hT ku_6 hown hK hP 0 rfl rfl 14 (by decide) (hT _ kw_7_13) (fun _ h9 => h9) rfl dX6_stealAway_21 ?_
        refine lv_iload_n hx hb dX6_stealAway_24 rfl (lv_at hl 1 rfl) ?_
        obtain ⟨g3, h⟩ := tx_ck h
        refine va_iald (i := x1) hx hb hK hP 7 0 rfl rfl (tx_in g3) dX6_stealAway_25 ?_
        refine lv_topi (fun y4 ey4 => ?_)
        have h := tx_let ey4 h
        refine lv_istore_n (lv' := [(2, .int y4), (0, .ref (ta 0)), (1, .int x1)]) hx hb dX6_stealAway_26 rfl hl (by decide) rfl (fun ls hl => ?_)
        refine lv_iload_n hx hb dX6_stealAway_27 rfl (lv_at hl 0 rfl) ?_
        refine lv_if_lt (tgt := 62) hx hb dX6_stealAway_28 (by decide) (fun c5 => ?_) (fun c5 => ?_)
        · have h := tx_pos c5 h
          obtain ⟨y6, ey6, h⟩ := tx_lt h
          refine lv_iinc (v := y6) (lv' := [(1, .int y6), (2, .int y4), (0, .ref (ta 0))]) hx hb dX6_stealAway_62 hl (k := 2) rfl ey6 (by decide) rfl (fun ls hl => ?_)
          refine lv_goto (tgt := 2) hx hb dX6_stealAway_65 (by decide) ?_
          exact hk2 y6 T L H locs ls h hP hD hS (lv_sub hl [2, 0] rfl)
        · have h := tx_neg c5 h
          refine lv_aload_n hx hb dX6_stealAway_31 rfl (lv_at hl 1 rfl) ?_
          refine va_get (D := G) (ci := 6) (v := .ref (pa 0)) (C := RX6) (T := TX6) (N := 20) hx hb hT ku_6 hown hK hP 0 rfl rfl 19 (by decide) (hT _ kw_8_1) (fun _ h9 => h9) rfl dX6_stealAway_32 ?_
          refine va_get (D := G) (ci := 2) (v := .ref (pa 8)) (C := RX2) (T := TX2) (N := 19) hx hb hT ku_2 hown hK hP 12 rfl rfl 7 (by decide) (hT _ kw_33_18) (fun _ h9 => h9) rfl dX6_stealAway_35 ?_
          refine lv_iload_n hx hb dX6_stealAway_38 rfl (lv_at hl 0 rfl) ?_
          obtain ⟨g7, h⟩ := tx_ck h
          refine va_iald (i := y4) hx hb hK hP 13 0 rfl rfl (tx_in g7) dX6_stealAway_39 ?_
          refine lv_iconst (v := 4) hx hb dX6_stealAway_40 (by decide) ?_
          refine lv_icmp_ne (tgt := 62) hx hb dX6_stealAway_41 (by decide) (fun c8 => ?_) (fun c8 => ?_)
          · have h := tx_neg c8 h
            obtain ⟨y9, ey9, h⟩ := tx_lt h
            refine lv_iinc (v := y9) (lv' := [(1, .int y9), (2, .int y4), (0, .ref (ta 0))]) hx hb dX6_stealAway_62 hl (k := 2) rfl ey9 (by decide) rfl (fun ls hl => ?_)
            refine lv_goto (tgt := 2) hx hb dX6_stealAway_65 (by decide) ?_
            exact hk2 y9 T L H locs ls h hP hD hS (lv_sub hl [2, 0] rfl)
          · have h := tx_pos c8 h
            refine lv_aload_n hx hb dX6_stealAway_44 rfl (lv_at hl 1 rfl) ?_
            refine lv_aload_n hx hb dX6_stealAway_45 rfl (lv_at hl 1 rfl) ?_
            refine lv_iload_n hx hb dX6_stealAway_46 rfl (lv_at hl 2 rfl) ?_
            obtain ⟨⟨r10, T_11, L_12⟩, hc13, h⟩ := tx_bd h
            replace h := tx_let (y := r10) rfl h
            replace h := tx_let (y := T_11) rfl h
            replace h := tx_let (y := L_12) rfl h
            refine tz_i (As := [.int x1]) (rest := [.ref (ta 0)]) ⟨hx, hb, hml, hown, hT⟩ hP hD hS hA hK hN (c_X6_stealPercent l G cA H.size ta pa T P L x1  r10 T_11 L_12 hc13) (tq_gV kw_43_6 kw_43_7 kw_43_8 kw_1_23 kw_43_9) rfl rfl dkdV_yX6_stealPercent_1 (Nat.le_of_ble_eq_true rfl) (Nat.le_of_ble_eq_true rfl) (ci := 6) (q0 := 0) rfl rfl rfl hl.1 rfl (Nat.le_of_ble_eq_true rfl) dX6_stealAway_47 ⟨Nat.le_of_ble_eq_true rfl, Nat.le_of_ble_eq_true rfl⟩ (fun _ _ H locs z14 hP hD hS => ?_)
            have z14 := z14.symm
            subst z14
            have hP : va_P G vwCl (wTP cA ta pa T_11 P L_12) H := hP
            have hD : va_D A (wTP cA ta pa T_11 P L_12) := hD
            obtain ⟨⟨r15, T_16⟩, hc17, h⟩ := tx_bd h
            replace h := tx_let (y := r15) rfl h
            replace h := tx_let (y := T_16) rfl h
            refine tz_i (As := [.int r10]) (rest := []) ⟨hx, hb, hml, hown, hT⟩ hP hD hS hA hK hN (c_X6_happens l G cA H.size ta pa T_11 P L_12 r10  r15 T_16 hc17) (tq_gV kw_42_20 kw_42_21 kw_42_22 kw_1_23 kw_42_23) rfl rfl dkdV_yX6_happens_1 (Nat.le_of_ble_eq_true rfl) (Nat.le_of_ble_eq_true rfl) (ci := 6) (q0 := 0) rfl rfl rfl hl.1 rfl (Nat.le_of_ble_eq_true rfl) dX6_stealAway_50 ⟨Nat.le_of_ble_eq_true rfl, Nat.le_of_ble_eq_true rfl⟩ (fun _ _ H locs z18 hP hD hS => ?_)
            have z18 := z18.symm
            subst z18
            have hP : va_P G vwCl (wTP cA ta pa T_16 P L_12) H := hP
            have hD : va_D A (wTP cA ta pa T_16 P L_12) := hD
            refine lv_if_eq (tgt := 62) hx hb dX6_stealAway_53 (by decide) (fun c19 => ?_) (fun c19 => ?_)
            · have h := tx_pos c19 h
              obtain ⟨y20, ey20, h⟩ := tx_lt h
              refine lv_iinc (v := y20) (lv' := [(1, .int y20), (2, .int y4), (0, .ref (ta 0))]) hx hb dX6_stealAway_62 hl (k := 2) rfl ey20 (by decide) rfl (fun ls hl => ?_)
              refine lv_goto (tgt := 2) hx hb dX6_stealAway_65 (by decide) ?_
              exact hk2 y20 T_16 L_12 H locs ls h hP hD hS (lv_sub hl [2, 0] rfl)
            · have h := tx_neg c19 h
              refine lv_aload_n hx hb dX6_stealAway_56 rfl (lv_at hl 1 rfl) ?_
              refine lv_iload_n hx hb dX6_stealAway_57 rfl (lv_at hl 2 rfl) ?_
              refine lv_iconst (v := 4) hx hb dX6_stealAway_58 (by decide) ?_
              obtain ⟨T_21, hc22, h⟩ := tx_bd h
              refine tz_v (As := [.int x1, .int 4]) (rest := []) ⟨hx, hb, hml, hown, hT⟩ hP hD hS hA hK hN (c_X6_takeAway l G cA H.size ta pa T_16 P L_12 x1 (4 : Int32)  T_21 hc22) (tq_gV kw_41_3 kw_36_19 kw_36_20 kw_1_23 kw_36_21) rfl rfl dkdV_yX6_takeAway_2 (Nat.le_of_ble_eq_true rfl) (Nat.le_of_ble_eq_true rfl) (ci := 6) (q0 := 0) rfl rfl rfl hl.1 rfl (Nat.le_of_ble_eq_true rfl) dX6_stealAway_59 ⟨Nat.le_of_ble_eq_true rfl, Nat.le_of_ble_eq_true rfl⟩ (fun _ H locs z23 hP hD hS => ?_)
              have hP : va_P G vwCl (wTP cA ta pa T_21 P L_12) H := hP
              have hD : va_D A (wTP cA ta pa T_21 P L_12) := hD
              obtain ⟨y24, ey24, h⟩ := tx_lt h
              refine lv_iinc (v := y24) (lv' := [(1, .int y24), (2, .int y4), (0, .ref (ta 0))]) hx hb dX6_stealAway_62 hl (k := 2) rfl ey24 (by decide) rfl (fun ls hl => ?_)
              refine lv_goto (tgt := 2) hx hb dX6_stealAway_65 (by decide) ?_
              exact hk2 y24 T_21 L_12 H locs ls h hP hD hS (lv_sub hl [2, 0] rfl)
set_option maxHeartbeats 4000000 in
set_option maxRecDepth 100000 in
theorem c_X6_stealAway (l : Launch) (G : va_G) (cA : Nat → ClassId) (sz : Nat) (ta : Nat → Nat) (pa : Nat → Nat) (T : Tr) (P : Tr) (L : Lo)  (T' : Tr) (L' : Lo) (h : f_X6_stealAway T P L = some (T', L')) : Met l yX6_stealAway (.code yX6_stealAway cX6_stealAway 3 none :: T0) ({ frames := 4, cells := 0, slots := 0, locals := 101 } : Room) (tqP G cA [.ref (ta 0)] (wTP cA ta pa T P L) sz) (tqQv G cA (fun (_ : Unit) => True) (fun (_ : Unit) => wTP cA ta pa (T') P (L')) (va_A (wTP cA ta pa T P L) sz)) 0 0 (va_A (wTP cA ta pa T P L) sz) := by
  refine Met.ofW (cc := cX6_stealAway) (maxL := 3) (ret := none) (by decide) rfl ?_
  intro p e s m args below meth c s₁ B hml hv
  obtain ⟨rfl, hsz, hP, hK, hD0, hN⟩ := hv
  have hx := B.exec
  have hb := B.bytes
  have hr := B.returns
  have hts := atoms_spec (ws := .code yX6_stealAway cX6_stealAway 3 none :: T0) B.pre
  have hT : ∀ w ∈ T0, w.before _ s = true := fun w h => hts w (List.mem_cons_of_mem _ h)
  have hown : s.vm.findClass RX6 = some m.cls := findClass_of_methodNamed B.named
  have hlocks := B.notSynchronized
  subst hsz
  have hD := hD0.self (sz := s.heap.size)
  generalize hAe : va_A (wTP cA ta pa T P L) s.heap.size = A at hD ⊢
  have hA : ∀ q : Nat, s.heap.size ≤ q → A q := fun q h => by rw [← hAe]; exact Or.inr h
  have hS : va_S A s.heap s.heap [] := va_S.rf
  have hl := lv_entry ([.ref (ta 0)]) (n := 3) (Nat.le_of_ble_eq_true rfl)
  rw [lg_entry_eq]
  generalize (lg_sl ([.ref (ta 0)]) ++ List.replicate (3 - (lg_sl ([.ref (ta 0)])).length) Slot.unset).toArray = ls at hl ⊢
  have hl : lv_has ls 3 [(0, .ref (ta 0))] := hl
  have F : tF p s m ([.ref (ta 0)] : List Value).toArray meth c G cA A RX6 cX6_stealAway 3 none := ⟨hx, hb, hr, hml, hT, hown, hlocks, hK, hN, hA⟩
  obtain ⟨H, hH⟩ : ∃ z, z = s.heap := ⟨_, rfl⟩
  rw [← hH] at hP
  have hS : va_S A s.heap H [] := by rw [hH]; exact hS
  suffices hgo : G_X6_stealAway p l e s m below meth c G cA A ta pa P T' L' H [] (F0 m 0 ls []) by rw [hH] at hgo; exact hgo
  generalize ([] : List Loc) = locs at hS ⊢
  unfold f_X6_stealAway at h
  refine lv_iconst (v := 0) hx hb dX6_stealAway_0 (by decide) ?_
  refine lv_istore_n (lv' := [(1, .int 0), (0, .ref (ta 0))]) hx hb dX6_stealAway_1 rfl hl (by decide) rfl (fun ls hl => ?_)
  exact w_X6_stealAway_L2 F 2000 0 T L H locs ls h hP hD hS (lv_sub hl [1, 0] rfl)
abbrev G_X6_wayOn (p : Program) (l : Launch) (e : Env) (s : State) (m : MethodId) (below : List Frame) (meth : Method) (c : Code) (G : va_G) (cA : Nat → ClassId) (A : Nat → Prop) (ta : Nat → Nat) (pa : Nat → Nat) (P : Tr) (T' : Tr) (L' : Lo) (H : Heap) (locs : List Loc) (g : JFrame) : Prop := W p l e (headSpec (.code yX6_wayOn cX6_wayOn 1 none :: T0) ({ frames := 5, cells := 0, slots := 0, locals := 124 } : Room)).room s m ([.ref (ta 0)] : List Value).toArray below meth c H locs 0 0 (MQ below (tqQv G cA (fun (_ : Unit) => True) (fun (_ : Unit) => wTP cA ta pa (T') P (L')) A) ([.ref (ta 0)] : List Value).toArray s 0 0 A) g
set_option maxHeartbeats 4000000 in
set_option maxRecDepth 100000 in
theorem c_X6_wayOn (l : Launch) (G : va_G) (cA : Nat → ClassId) (sz : Nat) (ta : Nat → Nat) (pa : Nat → Nat) (T : Tr) (P : Tr) (L : Lo)  (T' : Tr) (L' : Lo) (h : f_X6_wayOn T P L = some (T', L')) : Met l yX6_wayOn (.code yX6_wayOn cX6_wayOn 1 none :: T0) ({ frames := 5, cells := 0, slots := 0, locals := 124 } : Room) (tqP G cA [.ref (ta 0)] (wTP cA ta pa T P L) sz) (tqQv G cA (fun (_ : Unit) => True) (fun (_ : Unit) => wTP cA ta pa (T') P (L')) (va_A (wTP cA ta pa T P L) sz)) 0 0 (va_A (wTP cA ta pa T P L) sz) := by
  refine Met.ofW (cc := cX6_wayOn) (maxL := 1) (ret := none) (by decide) rfl ?_
  intro p e s m args below meth c s₁ B hml hv
  obtain ⟨rfl, hsz, hP, hK, hD0, hN⟩ := hv
  have hx := B.exec
  have hb := B.bytes
  have hr := B.returns
  have hts := atoms_spec (ws := .code yX6_wayOn cX6_wayOn 1 none :: T0) B.pre
  have hT : ∀ w ∈ T0, w.before _ s = true := fun w h => hts w (List.mem_cons_of_mem _ h)
  have hown : s.vm.findClass RX6 = some m.cls := findClass_of_methodNamed B.named
  have hlocks := B.notSynchronized
  subst hsz
  have hD := hD0.self (sz := s.heap.size)
  generalize hAe : va_A (wTP cA ta pa T P L) s.heap.size = A at hD ⊢
  have hA : ∀ q : Nat, s.heap.size ≤ q → A q := fun q h => by rw [← hAe]; exact Or.inr h
  have hS : va_S A s.heap s.heap [] := va_S.rf
  have hl := lv_entry ([.ref (ta 0)]) (n := 1) (Nat.le_of_ble_eq_true rfl)
  rw [lg_entry_eq]
  generalize (lg_sl ([.ref (ta 0)]) ++ List.replicate (1 - (lg_sl ([.ref (ta 0)])).length) Slot.unset).toArray = ls at hl ⊢
  have hl : lv_has ls 1 [(0, .ref (ta 0))] := hl
  have F : tF p s m ([.ref (ta 0)] : List Value).toArray meth c G cA A RX6 cX6_wayOn 1 none := ⟨hx, hb, hr, hml, hT, hown, hlocks, hK, hN, hA⟩
  obtain ⟨H, hH⟩ : ∃ z, z = s.heap := ⟨_, rfl⟩
  rw [← hH] at hP
  have hS : va_S A s.heap H [] := by rw [hH]; exact hS
  suffices hgo : G_X6_wayOn p l e s m below meth c G cA A ta pa P T' L' H [] (F0 m 0 ls []) by rw [hH] at hgo; exact hgo
  generalize ([] : List Loc) = locs at hS ⊢
  unfold f_X6_wayOn at h
  refine lv_aload_n hx hb dX6_wayOn_0 rfl (lv_at hl 0 rfl) ?_
  obtain ⟨⟨r1, T_2, L_3⟩, hc4, h⟩ := tx_bd h
  replace h := tx_let (y := r1) rfl h
  replace h := tx_let (y := T_2) rfl h
  replace h := tx_let (y := L_3) rfl h
  refine tz_i (As := []) (rest := []) ⟨hx, hb, hml, hown, hT⟩ hP hD hS hA hK hN (c_X6_fallOff l G cA H.size ta pa T P L  r1 T_2 L_3 hc4) (tq_gV kw_42_7 kw_42_8 kw_42_9 kw_1_23 kw_42_10) rfl rfl dkdV_yX6_fallOff_0 (Nat.le_of_ble_eq_true rfl) (Nat.le_of_ble_eq_true rfl) (ci := 6) (q0 := 0) rfl rfl rfl hl.1 rfl (Nat.le_of_ble_eq_true rfl) dX6_wayOn_1 ⟨Nat.le_of_ble_eq_true rfl, Nat.le_of_ble_eq_true rfl⟩ (fun _ _ H locs z5 hP hD hS => ?_)
  have z5 := z5.symm
  subst z5
  have hP : va_P G vwCl (wTP cA ta pa T_2 P L_3) H := hP
  have hD : va_D A (wTP cA ta pa T_2 P L_3) := hD
  refine lv_pop hx hb dX6_wayOn_4 rfl ?_
  refine lv_aload_n hx hb dX6_wayOn_5 rfl (lv_at hl 0 rfl) ?_
  obtain ⟨⟨T_6, L_7⟩, hc8, h⟩ := tx_bd h
  replace h := tx_let (y := T_6) rfl h
  replace h := tx_let (y := L_7) rfl h
  refine tz_v (As := []) (rest := []) ⟨hx, hb, hml, hown, hT⟩ hP hD hS hA hK hN (c_X6_stealAway l G cA H.size ta pa T_2 P L_3  T_6 L_7 hc8) (tq_gV kw_43_2 kw_43_3 kw_43_4 kw_1_23 kw_43_5) rfl rfl dkdV_yX6_stealAway_0 (Nat.le_of_ble_eq_true rfl) (Nat.le_of_ble_eq_true rfl) (ci := 6) (q0 := 0) rfl rfl rfl hl.1 rfl (Nat.le_of_ble_eq_true rfl) dX6_wayOn_6 ⟨Nat.le_of_ble_eq_true rfl, Nat.le_of_ble_eq_true rfl⟩ (fun _ H locs z9 hP hD hS => ?_)
  have hP : va_P G vwCl (wTP cA ta pa T_6 P L_7) H := hP
  have hD : va_D A (wTP cA ta pa T_6 P L_7) := hD
  refine lv_aload_n hx hb dX6_wayOn_9 rfl (lv_at hl 0 rfl) ?_
  refine lv_dup hx hb dX6_wayOn_10 rfl ?_
  refine va_get (D := G) (ci := 6) (v := .int (T_6 0 0)) (C := RX6) (T := TX6) (N := 20) hx hb hT ku_6 hown hK hP 0 rfl rfl 0 (by decide) (hT _ kw_8_2) (fun _ h9 => h9) rfl dX6_wayOn_11 ?_
  refine lv_iconst (v := 1) hx hb dX6_wayOn_14 (by decide) ?_
  refine lv_iadd hx hb dX6_wayOn_15 ?_
  refine va_put (D := G) (ci := 6) (v := .int ((T_6 0 0) + 1)) (ty := .int) (C := RX6) (T := TX6) (N := 20) hx hb hT ku_6 tyX6 tyX6_ok nmX6 hown hK hP hD hS 0 rfl rfl 0 (by decide) (hT _ kw_8_2) (fun _ h9 => h9) rfl (by decide +kernel) rfl rfl (Nat.le_of_ble_eq_true rfl) dX6_wayOn_16 (fun H locs hP hD hS => ?_)
  obtain ⟨T_10, eT_10, h⟩ := tx_lt h
  rw [sTP_ta_f0, eT_10] at hP hD
  obtain ⟨rfl, rfl⟩ := tx_2 h
  exact W.vret hx hb hr (fun t ht hW => ⟨⟨(), rfl, trivial, by rw [ht]; exact hP, hD⟩, hS.F ht⟩) hS.2.2 dX6_wayOn_19
abbrev G_X6_passStop (p : Program) (l : Launch) (e : Env) (s : State) (m : MethodId) (below : List Frame) (meth : Method) (c : Code) (G : va_G) (cA : Nat → ClassId) (A : Nat → Prop) (ta : Nat → Nat) (pa : Nat → Nat) (P : Tr) (T' : Tr) (L' : Lo) (H : Heap) (locs : List Loc) (g : JFrame) : Prop := W p l e (headSpec (.code yX6_passStop cX6_passStop 1 none :: T0) ({ frames := 6, cells := 0, slots := 0, locals := 144 } : Room)).room s m ([.ref (ta 0)] : List Value).toArray below meth c H locs 0 0 (MQ below (tqQv G cA (fun (_ : Unit) => True) (fun (_ : Unit) => wTP cA ta pa (T') P (L')) A) ([.ref (ta 0)] : List Value).toArray s 0 0 A) g
set_option maxHeartbeats 4000000 in
set_option maxRecDepth 100000 in
theorem c_X6_passStop (l : Launch) (G : va_G) (cA : Nat → ClassId) (sz : Nat) (ta : Nat → Nat) (pa : Nat → Nat) (T : Tr) (P : Tr) (L : Lo)  (T' : Tr) (L' : Lo) (h : f_X6_passStop T P L = some (T', L')) : Met l yX6_passStop (.code yX6_passStop cX6_passStop 1 none :: T0) ({ frames := 6, cells := 0, slots := 0, locals := 144 } : Room) (tqP G cA [.ref (ta 0)] (wTP cA ta pa T P L) sz) (tqQv G cA (fun (_ : Unit) => True) (fun (_ : Unit) => wTP cA ta pa (T') P (L')) (va_A (wTP cA ta pa T P L) sz)) 0 0 (va_A (wTP cA ta pa T P L) sz) := by
  refine Met.ofW (cc := cX6_passStop) (maxL := 1) (ret := none) (by decide) rfl ?_
  intro p e s m args below meth c s₁ B hml hv
  obtain ⟨rfl, hsz, hP, hK, hD0, hN⟩ := hv
  have hx := B.exec
  have hb := B.bytes
  have hr := B.returns
  have hts := atoms_spec (ws := .code yX6_passStop cX6_passStop 1 none :: T0) B.pre
  have hT : ∀ w ∈ T0, w.before _ s = true := fun w h => hts w (List.mem_cons_of_mem _ h)
  have hown : s.vm.findClass RX6 = some m.cls := findClass_of_methodNamed B.named
  have hlocks := B.notSynchronized
  subst hsz
  have hD := hD0.self (sz := s.heap.size)
  generalize hAe : va_A (wTP cA ta pa T P L) s.heap.size = A at hD ⊢
  have hA : ∀ q : Nat, s.heap.size ≤ q → A q := fun q h => by rw [← hAe]; exact Or.inr h
  have hS : va_S A s.heap s.heap [] := va_S.rf
  have hl := lv_entry ([.ref (ta 0)]) (n := 1) (Nat.le_of_ble_eq_true rfl)
  rw [lg_entry_eq]
  generalize (lg_sl ([.ref (ta 0)]) ++ List.replicate (1 - (lg_sl ([.ref (ta 0)])).length) Slot.unset).toArray = ls at hl ⊢
  have hl : lv_has ls 1 [(0, .ref (ta 0))] := hl
  have F : tF p s m ([.ref (ta 0)] : List Value).toArray meth c G cA A RX6 cX6_passStop 1 none := ⟨hx, hb, hr, hml, hT, hown, hlocks, hK, hN, hA⟩
  obtain ⟨H, hH⟩ : ∃ z, z = s.heap := ⟨_, rfl⟩
  rw [← hH] at hP
  have hS : va_S A s.heap H [] := by rw [hH]; exact hS
  suffices hgo : G_X6_passStop p l e s m below meth c G cA A ta pa P T' L' H [] (F0 m 0 ls []) by rw [hH] at hgo; exact hgo
  generalize ([] : List Loc) = locs at hS ⊢
  unfold f_X6_passStop at h
  refine lv_aload_n hx hb dX6_passStop_0 rfl (lv_at hl 0 rfl) ?_
  refine va_get (D := G) (ci := 6) (v := .int (T 0 0)) (C := RX6) (T := TX6) (N := 20) hx hb hT ku_6 hown hK hP 0 rfl rfl 0 (by decide) (hT _ kw_8_2) (fun _ h9 => h9) rfl dX6_passStop_1 ?_
  refine lv_bipush (v := 20) hx hb dX6_passStop_4 (by decide) ?_
  refine lv_icmp_gt (tgt := 34) hx hb dX6_passStop_6 (by decide) (fun c1 => ?_) (fun c1 => ?_)
  · have h := tx_pos c1 h
    obtain ⟨rfl, rfl⟩ := tx_2 h
    exact W.vret hx hb hr (fun t ht hW => ⟨⟨(), rfl, trivial, by rw [ht]; exact hP, hD⟩, hS.F ht⟩) hS.2.2 dX6_passStop_34
  · have h := tx_neg c1 h
    refine lv_aload_n hx hb dX6_passStop_9 rfl (lv_at hl 0 rfl) ?_
    refine lv_aload_n hx hb dX6_passStop_10 rfl (lv_at hl 0 rfl) ?_
    refine va_get (D := G) (ci := 6) (v := .ref (pa 0)) (C := RX6) (T := TX6) (N := 20) hx hb hT ku_6 hown hK hP 0 rfl rfl 19 (by decide) (hT _ kw_8_1) (fun _ h9 => h9) rfl dX6_passStop_11 ?_
    refine va_get (D := G) (ci := 2) (v := .ref (pa 18)) (C := RX2) (T := TX2) (N := 19) hx hb hT ku_2 hown hK hP 12 rfl rfl 17 (by decide) (hT _ kw_40_11) (fun _ h9 => h9) rfl dX6_passStop_14 ?_
    refine lv_aload_n hx hb dX6_passStop_17 rfl (lv_at hl 0 rfl) ?_
    refine va_get (D := G) (ci := 6) (v := .int (T 0 0)) (C := RX6) (T := TX6) (N := 20) hx hb hT ku_6 hown hK hP 0 rfl rfl 0 (by decide) (hT _ kw_8_2) (fun _ h9 => h9) rfl dX6_passStop_18 ?_
    obtain ⟨g2, h⟩ := tx_ck h
    refine va_iald (i := (T 0 0)) hx hb hK hP 23 0 rfl rfl (tx_in g2) dX6_passStop_21 ?_
    obtain ⟨⟨r3, T_4, L_5⟩, hc6, h⟩ := tx_bd h
    replace h := tx_let (y := r3) rfl h
    replace h := tx_let (y := T_4) rfl h
    replace h := tx_let (y := L_5) rfl h
    refine tz_i (As := [.int (P 18 (T 0 0).toNatClampNeg)]) (rest := []) ⟨hx, hb, hml, hown, hT⟩ hP hD hS hA hK hN (c_X6_takeDown l G cA H.size ta pa T P L (P 18 (T 0 0).toNatClampNeg)  r3 T_4 L_5 hc6) (tq_gV kw_40_12 kw_40_13 kw_40_14 kw_1_23 kw_40_15) rfl rfl dkdV_yX6_takeDown_1 (Nat.le_of_ble_eq_true rfl) (Nat.le_of_ble_eq_true rfl) (ci := 6) (q0 := 0) rfl rfl rfl hl.1 rfl (Nat.le_of_ble_eq_true rfl) dX6_passStop_22 ⟨Nat.le_of_ble_eq_true rfl, Nat.le_of_ble_eq_true rfl⟩ (fun _ _ H locs z7 hP hD hS => ?_)
    have z7 := z7.symm
    subst z7
    have hP : va_P G vwCl (wTP cA ta pa T_4 P L_5) H := hP
    have hD : va_D A (wTP cA ta pa T_4 P L_5) := hD
    refine lv_pop hx hb dX6_passStop_25 rfl ?_
    refine lv_aload_n hx hb dX6_passStop_26 rfl (lv_at hl 0 rfl) ?_
    obtain ⟨T_8, hc9, h⟩ := tx_bd h
    refine tz_v (As := []) (rest := []) ⟨hx, hb, hml, hown, hT⟩ hP hD hS hA hK hN (c_X6_getIn l G cA H.size ta pa T_4 P L_5  T_8 hc9) (tq_gV kw_41_12 kw_41_13 kw_41_14 kw_1_23 kw_41_15) rfl rfl dkdV_yX6_getIn_0 (Nat.le_of_ble_eq_true rfl) (Nat.le_of_ble_eq_true rfl) (ci := 6) (q0 := 0) rfl rfl rfl hl.1 rfl (Nat.le_of_ble_eq_true rfl) dX6_passStop_27 ⟨Nat.le_of_ble_eq_true rfl, Nat.le_of_ble_eq_true rfl⟩ (fun _ H locs z10 hP hD hS => ?_)
    have hP : va_P G vwCl (wTP cA ta pa T_8 P L_5) H := hP
    have hD : va_D A (wTP cA ta pa T_8 P L_5) := hD
    refine lv_aload_n hx hb dX6_passStop_30 rfl (lv_at hl 0 rfl) ?_
    obtain ⟨⟨T_11, L_12⟩, hc13, h⟩ := tx_bd h
    replace h := tx_let (y := T_11) rfl h
    replace h := tx_let (y := L_12) rfl h
    refine tz_v (As := []) (rest := []) ⟨hx, hb, hml, hown, hT⟩ hP hD hS hA hK hN (c_X6_wayOn l G cA H.size ta pa T_8 P L_5  T_11 L_12 hc13) (tq_gV kw_42_3 kw_42_4 kw_42_5 kw_1_23 kw_42_6) rfl rfl dkdV_yX6_wayOn_0 (Nat.le_of_ble_eq_true rfl) (Nat.le_of_ble_eq_true rfl) (ci := 6) (q0 := 0) rfl rfl rfl hl.1 rfl (Nat.le_of_ble_eq_true rfl) dX6_passStop_31 ⟨Nat.le_of_ble_eq_true rfl, Nat.le_of_ble_eq_true rfl⟩ (fun _ H locs z14 hP hD hS => ?_)
    have hP : va_P G vwCl (wTP cA ta pa T_11 P L_12) H := hP
    have hD : va_D A (wTP cA ta pa T_11 P L_12) := hD
    obtain ⟨rfl, rfl⟩ := tx_2 h
    exact W.vret hx hb hr (fun t ht hW => ⟨⟨(), rfl, trivial, by rw [ht]; exact hP, hD⟩, hS.F ht⟩) hS.2.2 dX6_passStop_34
abbrev G_X6_personsAboard (p : Program) (l : Launch) (e : Env) (s : State) (m : MethodId) (below : List Frame) (meth : Method) (c : Code) (G : va_G) (cA : Nat → ClassId) (A : Nat → Prop) (ta : Nat → Nat) (pa : Nat → Nat) (T : Tr) (P : Tr) (L : Lo) (r0 : Int32) (H : Heap) (locs : List Loc) (g : JFrame) : Prop := W p l e (headSpec (.code yX6_personsAboard cX6_personsAboard 3 (some .int) :: T0) ({ frames := 0, cells := 0, slots := 0, locals := 0 } : Room)).room s m ([.ref (ta 0)] : List Value).toArray below meth c H locs 0 0 (MQ below (tqQi G cA (fun (r : Int32) (_ : Unit) => r = r0) (fun (_ : Unit) => wTP cA ta pa T P L) A) ([.ref (ta 0)] : List Value).toArray s 0 0 A) g
set_option maxHeartbeats 4000000 in
set_option maxRecDepth 100000 in
theorem w_X6_personsAboard_L4 {p : Program} {l : Launch} {e : Env} {s : State} {m : MethodId} {below : List Frame} {meth : Method} {c : Code} {G : va_G} {cA : Nat → ClassId} {A : Nat → Prop} {ta : Nat → Nat} {pa : Nat → Nat} {T : Tr} {P : Tr} {L : Lo} {r0 : Int32} (F : tF p s m ([.ref (ta 0)] : List Value).toArray meth c G cA A RX6 cX6_personsAboard 3 (some .int))    (N : Nat) : ∀ (x1 : Int32) (x2 : Int32) (H : Heap) (locs : List Loc) (ls : Array Slot), lpF (fun _ _ => none) (fB_X6_personsAboard_L4 T P) N x1 x2 = some r0 → va_P G vwCl (wTP cA ta pa T P L) H → va_D A (wTP cA ta pa T P L) → va_S A s.heap H locs → lv_has ls 3 [(0, .ref (ta 0)), (1, .int x1), (2, .int x2)] → G_X6_personsAboard p l e s m below meth c G cA A ta pa T P L r0 H locs (F0 m 4 ls []) := by
  obtain ⟨hx, hb, hr, hml, hT, hown, hlocks, hK, hN, hA⟩ := id F
  induction N with
  | zero =>
    intro x1 x2 H locs ls h
    have h : (none : Option (Int32)) = some r0 := h
    cases h
  | succ N hk4 =>
    intro x1 x2 H locs ls h hP hD hS hl
    have h : fB_X6_personsAboard_L4 T P (lpF (fun _ _ => none) (fB_X6_personsAboard_L4 T P) N) x1 x2 = some r0 := h
    generalize hk4e : lpF (fun _ _ => none) (fB_X6_personsAboard_L4 T P) N = k4 at h hk4
    unfold fB_X6_personsAboard_L4 at h
    refine lv_iload_n hx hb dX6_personsAboard_4 rfl (lv_at hl 2 rfl) ?_
    refine lv_aload_n hx hb dX6_personsAboard_5 rfl (lv_at hl 0 rfl) ?_
    refine va_get (D := G) (ci := 6) (v := .ref (pa 0)) (C := RX6) (T := TX6) (N := 20) hx hb hT ku_6 hown hK hP 0 rfl rfl 19 (by decide) (hT _ kw_8_1) (fun _ h9 => h9) rfl dX6_personsAboard_6 ?_
    refine va_get (D := G) (ci := 2) (v := .int (P 0 1)) (C := RX2) (T := TX2) (N := 19) hx hb hT ku_2 hown hK hP 12 rfl rfl 1 (by decide) (hT _ kw_40_16) (fun _ h9 => h9) rfl dX6_personsAboard_9 ?_
    refine lv_icmp_ge (tgt := 34) hx hb dX6_personsAboard_12 (by decide) (fun c1 => ?_) (fun c1 => ?_)
    · have h := tx_pos c1 h
      refine lv_iload_n hx hb dX6_personsAboard_34 rfl (lv_at hl 1 rfl) ?_
      obtain rfl := tx_1 h
      exact W.iret hx hb hr (fun t ht hW => ⟨⟨_, (), rfl, rfl, by rw [ht]; exact hP, hD⟩, hS.F ht⟩) hS.2.2 dX6_personsAboard_35
    · have h := tx_neg c1 h
      refine lv_aload_n hx hb dX6_personsAboard_15 rfl (lv_at hl 0 rfl) ?_
      refine va_get (D := G) (ci := 6) (v := .ref (ta 11)) (C := RX6) (T := TX6) (N := 20) hx hb hT ku_6 hown hK hP 0 rfl rfl 10 (by decide) (hT _ kw_7_9) (fun _ h9 => h9) rfl dX6_personsAboard_16 ?_
      refine lv_iload_n hx hb dX6_personsAboard_19 rfl (lv_at hl 2 rfl) ?_
      obtain ⟨g2, h⟩ := tx_ck h
      refine va_iald (i := x2) hx hb hK hP 3 0 rfl rfl (tx_in g2) dX6_personsAboard_20 ?_
      refine lv_iconst (v := 1) hx hb dX6_personsAboard_21 (by decide) ?_
      refine lv_icmp_ne (tgt := 28) hx hb dX6_personsAboard_22 (by decide) (fun c3 => ?_) (fun c3 => ?_)
      · have h := tx_neg c3 h
        obtain ⟨y4, ey4, h⟩ := tx_lt h
        refine lv_iinc (v := y4) (lv' := [(2, .int y4), (0, .ref (ta 0)), (1, .int x1)]) hx hb dX6_personsAboard_28 hl (k := 2) rfl ey4 (by decide) rfl (fun ls hl => ?_)
        refine lv_goto (tgt := 4) hx hb dX6_personsAboard_31 (by decide) ?_
        exact hk4 x1 y4 H locs ls h hP hD hS (lv_sub hl [1, 2, 0] rfl)
      · have h := tx_pos c3 h
        obtain ⟨y5, ey5, h⟩ := tx_lt h
        refine lv_iinc (v := y5) (lv' := [(1, .int y5), (0, .ref (ta 0)), (2, .int x2)]) hx hb dX6_personsAboard_25 hl (k := 1) rfl ey5 (by decide) rfl (fun ls hl => ?_)
        obtain ⟨y6, ey6, h⟩ := tx_lt h
        refine lv_iinc (v := y6) (lv' := [(2, .int y6), (1, .int y5), (0, .ref (ta 0))]) hx hb dX6_personsAboard_28 hl (k := 2) rfl ey6 (by decide) rfl (fun ls hl => ?_)
        refine lv_goto (tgt := 4) hx hb dX6_personsAboard_31 (by decide) ?_
        exact hk4 y5 y6 H locs ls h hP hD hS (lv_sub hl [2, 1, 0] rfl)
set_option maxHeartbeats 4000000 in
set_option maxRecDepth 100000 in
theorem c_X6_personsAboard (l : Launch) (G : va_G) (cA : Nat → ClassId) (sz : Nat) (ta : Nat → Nat) (pa : Nat → Nat) (T : Tr) (P : Tr) (L : Lo)  (r0 : Int32) (h : f_X6_personsAboard T P = some r0) : Met l yX6_personsAboard (.code yX6_personsAboard cX6_personsAboard 3 (some .int) :: T0) ({ frames := 0, cells := 0, slots := 0, locals := 0 } : Room) (tqP G cA [.ref (ta 0)] (wTP cA ta pa T P L) sz) (tqQi G cA (fun (r : Int32) (_ : Unit) => r = r0) (fun (_ : Unit) => wTP cA ta pa T P L) (va_A (wTP cA ta pa T P L) sz)) 0 0 (va_A (wTP cA ta pa T P L) sz) := by
  refine Met.ofW (cc := cX6_personsAboard) (maxL := 3) (ret := (some .int)) (by decide) rfl ?_
  intro p e s m args below meth c s₁ B hml hv
  obtain ⟨rfl, hsz, hP, hK, hD0, hN⟩ := hv
  have hx := B.exec
  have hb := B.bytes
  have hr := B.returns
  have hts := atoms_spec (ws := .code yX6_personsAboard cX6_personsAboard 3 (some .int) :: T0) B.pre
  have hT : ∀ w ∈ T0, w.before _ s = true := fun w h => hts w (List.mem_cons_of_mem _ h)
  have hown : s.vm.findClass RX6 = some m.cls := findClass_of_methodNamed B.named
  have hlocks := B.notSynchronized
  subst hsz
  have hD := hD0.self (sz := s.heap.size)
  generalize hAe : va_A (wTP cA ta pa T P L) s.heap.size = A at hD ⊢
  have hA : ∀ q : Nat, s.heap.size ≤ q → A q := fun q h => by rw [← hAe]; exact Or.inr h
  have hS : va_S A s.heap s.heap [] := va_S.rf
  have hl := lv_entry ([.ref (ta 0)]) (n := 3) (Nat.le_of_ble_eq_true rfl)
  rw [lg_entry_eq]
  generalize (lg_sl ([.ref (ta 0)]) ++ List.replicate (3 - (lg_sl ([.ref (ta 0)])).length) Slot.unset).toArray = ls at hl ⊢
  have hl : lv_has ls 3 [(0, .ref (ta 0))] := hl
  have F : tF p s m ([.ref (ta 0)] : List Value).toArray meth c G cA A RX6 cX6_personsAboard 3 (some .int) := ⟨hx, hb, hr, hml, hT, hown, hlocks, hK, hN, hA⟩
  obtain ⟨H, hH⟩ : ∃ z, z = s.heap := ⟨_, rfl⟩
  rw [← hH] at hP
  have hS : va_S A s.heap H [] := by rw [hH]; exact hS
  suffices hgo : G_X6_personsAboard p l e s m below meth c G cA A ta pa T P L r0 H [] (F0 m 0 ls []) by rw [hH] at hgo; exact hgo
  generalize ([] : List Loc) = locs at hS ⊢
  unfold f_X6_personsAboard at h
  refine lv_iconst (v := 0) hx hb dX6_personsAboard_0 (by decide) ?_
  refine lv_istore_n (lv' := [(1, .int 0), (0, .ref (ta 0))]) hx hb dX6_personsAboard_1 rfl hl (by decide) rfl (fun ls hl => ?_)
  refine lv_iconst (v := 0) hx hb dX6_personsAboard_2 (by decide) ?_
  refine lv_istore_n (lv' := [(2, .int 0), (1, .int 0), (0, .ref (ta 0))]) hx hb dX6_personsAboard_3 rfl hl (by decide) rfl (fun ls hl => ?_)
  exact w_X6_personsAboard_L4 F 2000 0 0 H locs ls h hP hD hS (lv_sub hl [2, 1, 0] rfl)
abbrev G_X6_piecesThatAre (p : Program) (l : Launch) (e : Env) (s : State) (m : MethodId) (below : List Frame) (meth : Method) (c : Code) (G : va_G) (cA : Nat → ClassId) (A : Nat → Prop) (ta : Nat → Nat) (pa : Nat → Nat) (T : Tr) (P : Tr) (L : Lo) (x1 : Int32) (r0 : Int32) (H : Heap) (locs : List Loc) (g : JFrame) : Prop := W p l e (headSpec (.code yX6_piecesThatAre cX6_piecesThatAre 4 (some .int) :: T0) ({ frames := 0, cells := 0, slots := 0, locals := 0 } : Room)).room s m ([.ref (ta 0), .int x1] : List Value).toArray below meth c H locs 0 0 (MQ below (tqQi G cA (fun (r : Int32) (_ : Unit) => r = r0) (fun (_ : Unit) => wTP cA ta pa T P L) A) ([.ref (ta 0), .int x1] : List Value).toArray s 0 0 A) g
set_option maxHeartbeats 4000000 in
set_option maxRecDepth 100000 in
theorem w_X6_piecesThatAre_L4 {p : Program} {l : Launch} {e : Env} {s : State} {m : MethodId} {below : List Frame} {meth : Method} {c : Code} {G : va_G} {cA : Nat → ClassId} {A : Nat → Prop} {ta : Nat → Nat} {pa : Nat → Nat} {T : Tr} {P : Tr} {L : Lo} {x1₀ : Int32} {r0 : Int32} {x1 : Int32} (F : tF p s m ([.ref (ta 0), .int x1₀] : List Value).toArray meth c G cA A RX6 cX6_piecesThatAre 4 (some .int))    (N : Nat) : ∀ (x2 : Int32) (x3 : Int32) (H : Heap) (locs : List Loc) (ls : Array Slot), lpF (fun _ _ => none) (fB_X6_piecesThatAre_L4 T P x1) N x2 x3 = some r0 → va_P G vwCl (wTP cA ta pa T P L) H → va_D A (wTP cA ta pa T P L) → va_S A s.heap H locs → lv_has ls 4 [(0, .ref (ta 0)), (1, .int x1), (2, .int x2), (3, .int x3)] → G_X6_piecesThatAre p l e s m below meth c G cA A ta pa T P L x1₀ r0 H locs (F0 m 4 ls []) := by
  obtain ⟨hx, hb, hr, hml, hT, hown, hlocks, hK, hN, hA⟩ := id F
  induction N with
  | zero =>
    intro x2 x3 H locs ls h
    have h : (none : Option (Int32)) = some r0 := h
    cases h
  | succ N hk4 =>
    intro x2 x3 H locs ls h hP hD hS hl
    have h : fB_X6_piecesThatAre_L4 T P x1 (lpF (fun _ _ => none) (fB_X6_piecesThatAre_L4 T P x1) N) x2 x3 = some r0 := h
    generalize hk4e : lpF (fun _ _ => none) (fB_X6_piecesThatAre_L4 T P x1) N = k4 at h hk4
    unfold fB_X6_piecesThatAre_L4 at h
    refine lv_iload_n hx hb dX6_piecesThatAre_4 rfl (lv_at hl 3 rfl) ?_
    refine lv_aload_n hx hb dX6_piecesThatAre_5 rfl (lv_at hl 0 rfl) ?_
    refine va_get (D := G) (ci := 6) (v := .ref (pa 0)) (C := RX6) (T := TX6) (N := 20) hx hb hT ku_6 hown hK hP 0 rfl rfl 19 (by decide) (hT _ kw_8_1) (fun _ h9 => h9) rfl dX6_piecesThatAre_6 ?_
    refine va_get (D := G) (ci := 2) (v := .int (P 0 2)) (C := RX2) (T := TX2) (N := 19) hx hb hT ku_2 hown hK hP 12 rfl rfl 2 (by decide) (hT _ kw_40_17) (fun _ h9 => h9) rfl dX6_piecesThatAre_9 ?_
    refine lv_icmp_ge (tgt := 34) hx hb dX6_piecesThatAre_12 (by decide) (fun c1 => ?_) (fun c1 => ?_)
    · have h := tx_pos c1 h
      refine lv_iload_n hx hb dX6_piecesThatAre_34 rfl (lv_at hl 2 rfl) ?_
      obtain rfl := tx_1 h
      exact W.iret hx hb hr (fun t ht hW => ⟨⟨_, (), rfl, rfl, by rw [ht]; exact hP, hD⟩, hS.F ht⟩) hS.2.2 dX6_piecesThatAre_35
    · have h := tx_neg c1 h
      refine lv_aload_n hx hb dX6_piecesThatAre_15 rfl (lv_at hl 0 rfl) ?_
      refine va_get (D := G) (ci := 6) (v := .ref (ta 14)) (C := RX6) (T := TX6) (N := 20) hx hb hT ku_6 hown hK hP 0 rfl rfl 13 (by decide) (hT _ kw_7_12) (fun _ h9 => h9) rfl dX6_piecesThatAre_16 ?_
      refine lv_iload_n hx hb dX6_piecesThatAre_19 rfl (lv_at hl 3 rfl) ?_
      obtain ⟨g2, h⟩ := tx_ck h
      refine va_iald (i := x3) hx hb hK hP 6 0 rfl rfl (tx_in g2) dX6_piecesThatAre_20 ?_
      refine lv_iload_n hx hb dX6_piecesThatAre_21 rfl (lv_at hl 1 rfl) ?_
      refine lv_icmp_ne (tgt := 28) hx hb dX6_piecesThatAre_22 (by decide) (fun c3 => ?_) (fun c3 => ?_)
      · have h := tx_neg c3 h
        obtain ⟨y4, ey4, h⟩ := tx_lt h
        refine lv_iinc (v := y4) (lv' := [(3, .int y4), (0, .ref (ta 0)), (1, .int x1), (2, .int x2)]) hx hb dX6_piecesThatAre_28 hl (k := 3) rfl ey4 (by decide) rfl (fun ls hl => ?_)
        refine lv_goto (tgt := 4) hx hb dX6_piecesThatAre_31 (by decide) ?_
        exact hk4 x2 y4 H locs ls h hP hD hS (lv_sub hl [1, 2, 3, 0] rfl)
      · have h := tx_pos c3 h
        obtain ⟨y5, ey5, h⟩ := tx_lt h
        refine lv_iinc (v := y5) (lv' := [(2, .int y5), (0, .ref (ta 0)), (1, .int x1), (3, .int x3)]) hx hb dX6_piecesThatAre_25 hl (k := 2) rfl ey5 (by decide) rfl (fun ls hl => ?_)
        obtain ⟨y6, ey6, h⟩ := tx_lt h
        refine lv_iinc (v := y6) (lv' := [(3, .int y6), (2, .int y5), (0, .ref (ta 0)), (1, .int x1)]) hx hb dX6_piecesThatAre_28 hl (k := 3) rfl ey6 (by decide) rfl (fun ls hl => ?_)
        refine lv_goto (tgt := 4) hx hb dX6_piecesThatAre_31 (by decide) ?_
        exact hk4 y5 y6 H locs ls h hP hD hS (lv_sub hl [2, 3, 1, 0] rfl)
set_option maxHeartbeats 4000000 in
set_option maxRecDepth 100000 in
theorem c_X6_piecesThatAre (l : Launch) (G : va_G) (cA : Nat → ClassId) (sz : Nat) (ta : Nat → Nat) (pa : Nat → Nat) (T : Tr) (P : Tr) (L : Lo) (x1 : Int32)  (r0 : Int32) (h : f_X6_piecesThatAre T P x1 = some r0) : Met l yX6_piecesThatAre (.code yX6_piecesThatAre cX6_piecesThatAre 4 (some .int) :: T0) ({ frames := 0, cells := 0, slots := 0, locals := 0 } : Room) (tqP G cA [.ref (ta 0), .int x1] (wTP cA ta pa T P L) sz) (tqQi G cA (fun (r : Int32) (_ : Unit) => r = r0) (fun (_ : Unit) => wTP cA ta pa T P L) (va_A (wTP cA ta pa T P L) sz)) 0 0 (va_A (wTP cA ta pa T P L) sz) := by
  refine Met.ofW (cc := cX6_piecesThatAre) (maxL := 4) (ret := (some .int)) (by decide) rfl ?_
  intro p e s m args below meth c s₁ B hml hv
  obtain ⟨rfl, hsz, hP, hK, hD0, hN⟩ := hv
  have hx := B.exec
  have hb := B.bytes
  have hr := B.returns
  have hts := atoms_spec (ws := .code yX6_piecesThatAre cX6_piecesThatAre 4 (some .int) :: T0) B.pre
  have hT : ∀ w ∈ T0, w.before _ s = true := fun w h => hts w (List.mem_cons_of_mem _ h)
  have hown : s.vm.findClass RX6 = some m.cls := findClass_of_methodNamed B.named
  have hlocks := B.notSynchronized
  subst hsz
  have hD := hD0.self (sz := s.heap.size)
  generalize hAe : va_A (wTP cA ta pa T P L) s.heap.size = A at hD ⊢
  have hA : ∀ q : Nat, s.heap.size ≤ q → A q := fun q h => by rw [← hAe]; exact Or.inr h
  have hS : va_S A s.heap s.heap [] := va_S.rf
  have hl := lv_entry ([.ref (ta 0), .int x1]) (n := 4) (Nat.le_of_ble_eq_true rfl)
  rw [lg_entry_eq]
  generalize (lg_sl ([.ref (ta 0), .int x1]) ++ List.replicate (4 - (lg_sl ([.ref (ta 0), .int x1])).length) Slot.unset).toArray = ls at hl ⊢
  have hl : lv_has ls 4 [(0, .ref (ta 0)), (1, .int x1)] := hl
  have F : tF p s m ([.ref (ta 0), .int x1] : List Value).toArray meth c G cA A RX6 cX6_piecesThatAre 4 (some .int) := ⟨hx, hb, hr, hml, hT, hown, hlocks, hK, hN, hA⟩
  obtain ⟨H, hH⟩ : ∃ z, z = s.heap := ⟨_, rfl⟩
  rw [← hH] at hP
  have hS : va_S A s.heap H [] := by rw [hH]; exact hS
  suffices hgo : G_X6_piecesThatAre p l e s m below meth c G cA A ta pa T P L x1 r0 H [] (F0 m 0 ls []) by rw [hH] at hgo; exact hgo
  generalize ([] : List Loc) = locs at hS ⊢
  unfold f_X6_piecesThatAre at h
  refine lv_iconst (v := 0) hx hb dX6_piecesThatAre_0 (by decide) ?_
  refine lv_istore_n (lv' := [(2, .int 0), (0, .ref (ta 0)), (1, .int x1)]) hx hb dX6_piecesThatAre_1 rfl hl (by decide) rfl (fun ls hl => ?_)
  refine lv_iconst (v := 0) hx hb dX6_piecesThatAre_2 (by decide) ?_
  refine lv_istore_n (lv' := [(3, .int 0), (2, .int 0), (0, .ref (ta 0)), (1, .int x1)]) hx hb dX6_piecesThatAre_3 rfl hl (by decide) rfl (fun ls hl => ?_)
  exact w_X6_piecesThatAre_L4 F 2000 0 0 H locs ls h hP hD hS (lv_sub hl [2, 3, 1, 0] rfl)
abbrev G_X6_runToEnd (p : Program) (l : Launch) (e : Env) (s : State) (m : MethodId) (below : List Frame) (meth : Method) (c : Code) (G : va_G) (cA : Nat → ClassId) (A : Nat → Prop) (ta : Nat → Nat) (pa : Nat → Nat) (P : Tr) (T' : Tr) (L' : Lo) (H : Heap) (locs : List Loc) (g : JFrame) : Prop := W p l e (headSpec (.code yX6_runToEnd cX6_runToEnd 1 none :: T0) ({ frames := 5, cells := 0, slots := 0, locals := 133 } : Room)).room s m ([.ref (ta 0)] : List Value).toArray below meth c H locs 0 0 (MQ below (tqQv G cA (fun (_ : Unit) => True) (fun (_ : Unit) => wTP cA ta pa (T') P (L')) A) ([.ref (ta 0)] : List Value).toArray s 0 0 A) g
set_option maxHeartbeats 4000000 in
set_option maxRecDepth 100000 in
theorem w_X6_runToEnd_L0 {p : Program} {l : Launch} {e : Env} {s : State} {m : MethodId} {below : List Frame} {meth : Method} {c : Code} {G : va_G} {cA : Nat → ClassId} {A : Nat → Prop} {ta : Nat → Nat} {pa : Nat → Nat} {P : Tr} {T' : Tr} {L' : Lo} (F : tF p s m ([.ref (ta 0)] : List Value).toArray meth c G cA A RX6 cX6_runToEnd 1 none)    (N : Nat) : ∀ (T : Tr) (L : Lo) (H : Heap) (locs : List Loc) (ls : Array Slot), lpF (fun _ _ => none) (fB_X6_runToEnd_L0 P) N T L = some (T', L') → va_P G vwCl (wTP cA ta pa T P L) H → va_D A (wTP cA ta pa T P L) → va_S A s.heap H locs → lv_has ls 1 [(0, .ref (ta 0))] → G_X6_runToEnd p l e s m below meth c G cA A ta pa P T' L' H locs (F0 m 0 ls []) := by
  obtain ⟨hx, hb, hr, hml, hT, hown, hlocks, hK, hN, hA⟩ := id F
  induction N with
  | zero =>
    intro T L H locs ls h
    have h : (none : Option (Tr × Lo)) = some (T', L') := h
    cases h
  | succ N hk0 =>
    intro T L H locs ls h hP hD hS hl
    have h : fB_X6_runToEnd_L0 P (lpF (fun _ _ => none) (fB_X6_runToEnd_L0 P) N) T L = some (T', L') := h
    generalize hk0e : lpF (fun _ _ => none) (fB_X6_runToEnd_L0 P) N = k0 at h hk0
    unfold fB_X6_runToEnd_L0 at h
    refine lv_aload_n hx hb dX6_runToEnd_0 rfl (lv_at hl 0 rfl) ?_
    refine va_get (D := G) (ci := 6) (v := .int (T 0 0)) (C := RX6) (T := TX6) (N := 20) hx hb hT ku_6 hown hK hP 0 rfl rfl 0 (by decide) (hT _ kw_8_2) (fun _ h9 => h9) rfl dX6_runToEnd_1 ?_
    refine lv_bipush (v := 20) hx hb dX6_runToEnd_4 (by decide) ?_
    refine lv_icmp_gt (tgt := 59) hx hb dX6_runToEnd_6 (by decide) (fun c1 => ?_) (fun c1 => ?_)
    · have h := tx_pos c1 h
      obtain ⟨rfl, rfl⟩ := tx_2 h
      exact W.vret hx hb hr (fun t ht hW => ⟨⟨(), rfl, trivial, by rw [ht]; exact hP, hD⟩, hS.F ht⟩) hS.2.2 dX6_runToEnd_59
    · have h := tx_neg c1 h
      refine lv_aload_n hx hb dX6_runToEnd_9 rfl (lv_at hl 0 rfl) ?_
      obtain ⟨r2, hc3, h⟩ := tx_bd h
      refine tz_i (As := []) (rest := []) ⟨hx, hb, hml, hown, hT⟩ hP hD hS hA hK hN (c_X6_isBusy l G cA H.size ta pa T P L  r2 hc3) (tq_gV kw_47_14 kw_47_15 kw_47_16 kw_1_23 kw_47_17) rfl rfl dkdV_yX6_isBusy_0 (Nat.le_of_ble_eq_true rfl) (Nat.le_of_ble_eq_true rfl) (ci := 6) (q0 := 0) rfl rfl rfl hl.1 rfl (Nat.le_of_ble_eq_true rfl) dX6_runToEnd_10 ⟨Nat.le_of_ble_eq_true rfl, Nat.le_of_ble_eq_true rfl⟩ (fun _ _ H locs z4 hP hD hS => ?_)
      have z4 := z4.symm
      subst z4
      have hP : va_P G vwCl (wTP cA ta pa T P L) H := hP
      have hD : va_D A (wTP cA ta pa T P L) := hD
      refine lv_if_eq (tgt := 59) hx hb dX6_runToEnd_13 (by decide) (fun c5 => ?_) (fun c5 => ?_)
      · have h := tx_pos c5 h
        obtain ⟨rfl, rfl⟩ := tx_2 h
        exact W.vret hx hb hr (fun t ht hW => ⟨⟨(), rfl, trivial, by rw [ht]; exact hP, hD⟩, hS.F ht⟩) hS.2.2 dX6_runToEnd_59
      · have h := tx_neg c5 h
        refine lv_aload_n hx hb dX6_runToEnd_16 rfl (lv_at hl 0 rfl) ?_
        refine lv_aload_n hx hb dX6_runToEnd_17 rfl (lv_at hl 0 rfl) ?_
        refine va_get (D := G) (ci := 6) (v := .ref (pa 0)) (C := RX6) (T := TX6) (N := 20) hx hb hT ku_6 hown hK hP 0 rfl rfl 19 (by decide) (hT _ kw_8_1) (fun _ h9 => h9) rfl dX6_runToEnd_18 ?_
        refine va_get (D := G) (ci := 2) (v := .ref (pa 18)) (C := RX2) (T := TX2) (N := 19) hx hb hT ku_2 hown hK hP 12 rfl rfl 17 (by decide) (hT _ kw_40_11) (fun _ h9 => h9) rfl dX6_runToEnd_21 ?_
        refine lv_aload_n hx hb dX6_runToEnd_24 rfl (lv_at hl 0 rfl) ?_
        refine va_get (D := G) (ci := 6) (v := .int (T 0 0)) (C := RX6) (T := TX6) (N := 20) hx hb hT ku_6 hown hK hP 0 rfl rfl 0 (by decide) (hT _ kw_8_2) (fun _ h9 => h9) rfl dX6_runToEnd_25 ?_
        obtain ⟨g6, h⟩ := tx_ck h
        refine va_iald (i := (T 0 0)) hx hb hK hP 23 0 rfl rfl (tx_in g6) dX6_runToEnd_28 ?_
        obtain ⟨⟨r7, T_8, L_9⟩, hc10, h⟩ := tx_bd h
        replace h := tx_let (y := r7) rfl h
        replace h := tx_let (y := T_8) rfl h
        replace h := tx_let (y := L_9) rfl h
        refine tz_i (As := [.int (P 18 (T 0 0).toNatClampNeg)]) (rest := []) ⟨hx, hb, hml, hown, hT⟩ hP hD hS hA hK hN (c_X6_takeDown l G cA H.size ta pa T P L (P 18 (T 0 0).toNatClampNeg)  r7 T_8 L_9 hc10) (tq_gV kw_40_12 kw_40_13 kw_40_14 kw_1_23 kw_40_15) rfl rfl dkdV_yX6_takeDown_1 (Nat.le_of_ble_eq_true rfl) (Nat.le_of_ble_eq_true rfl) (ci := 6) (q0 := 0) rfl rfl rfl hl.1 rfl (Nat.le_of_ble_eq_true rfl) dX6_runToEnd_29 ⟨Nat.le_of_ble_eq_true rfl, Nat.le_of_ble_eq_true rfl⟩ (fun _ _ H locs z11 hP hD hS => ?_)
        have z11 := z11.symm
        subst z11
        have hP : va_P G vwCl (wTP cA ta pa T_8 P L_9) H := hP
        have hD : va_D A (wTP cA ta pa T_8 P L_9) := hD
        refine lv_pop hx hb dX6_runToEnd_32 rfl ?_
        refine lv_aload_n hx hb dX6_runToEnd_33 rfl (lv_at hl 0 rfl) ?_
        obtain ⟨T_12, hc13, h⟩ := tx_bd h
        refine tz_v (As := []) (rest := []) ⟨hx, hb, hml, hown, hT⟩ hP hD hS hA hK hN (c_X6_getIn l G cA H.size ta pa T_8 P L_9  T_12 hc13) (tq_gV kw_41_12 kw_41_13 kw_41_14 kw_1_23 kw_41_15) rfl rfl dkdV_yX6_getIn_0 (Nat.le_of_ble_eq_true rfl) (Nat.le_of_ble_eq_true rfl) (ci := 6) (q0 := 0) rfl rfl rfl hl.1 rfl (Nat.le_of_ble_eq_true rfl) dX6_runToEnd_34 ⟨Nat.le_of_ble_eq_true rfl, Nat.le_of_ble_eq_true rfl⟩ (fun _ H locs z14 hP hD hS => ?_)
        have hP : va_P G vwCl (wTP cA ta pa T_12 P L_9) H := hP
        have hD : va_D A (wTP cA ta pa T_12 P L_9) := hD
        refine lv_aload_n hx hb dX6_runToEnd_37 rfl (lv_at hl 0 rfl) ?_
        obtain ⟨⟨r15, T_16, L_17⟩, hc18, h⟩ := tx_bd h
        replace h := tx_let (y := r15) rfl h
        replace h := tx_let (y := T_16) rfl h
        replace h := tx_let (y := L_17) rfl h
        refine tz_i (As := []) (rest := []) ⟨hx, hb, hml, hown, hT⟩ hP hD hS hA hK hN (c_X6_fallOff l G cA H.size ta pa T_12 P L_9  r15 T_16 L_17 hc18) (tq_gV kw_42_7 kw_42_8 kw_42_9 kw_1_23 kw_42_10) rfl rfl dkdV_yX6_fallOff_0 (Nat.le_of_ble_eq_true rfl) (Nat.le_of_ble_eq_true rfl) (ci := 6) (q0 := 0) rfl rfl rfl hl.1 rfl (Nat.le_of_ble_eq_true rfl) dX6_runToEnd_38 ⟨Nat.le_of_ble_eq_true rfl, Nat.le_of_ble_eq_true rfl⟩ (fun _ _ H locs z19 hP hD hS => ?_)
        have z19 := z19.symm
        subst z19
        have hP : va_P G vwCl (wTP cA ta pa T_16 P L_17) H := hP
        have hD : va_D A (wTP cA ta pa T_16 P L_17) := hD
        refine lv_pop hx hb dX6_runToEnd_41 rfl ?_
        refine lv_aload_n hx hb dX6_runToEnd_42 rfl (lv_at hl 0 rfl) ?_
        obtain ⟨⟨T_20, L_21⟩, hc22, h⟩ := tx_bd h
        replace h := tx_let (y := T_20) rfl h
        replace h := tx_let (y := L_21) rfl h
        refine tz_v (As := []) (rest := []) ⟨hx, hb, hml, hown, hT⟩ hP hD hS hA hK hN (c_X6_stealAway l G cA H.size ta pa T_16 P L_17  T_20 L_21 hc22) (tq_gV kw_43_2 kw_43_3 kw_43_4 kw_1_23 kw_43_5) rfl rfl dkdV_yX6_stealAway_0 (Nat.le_of_ble_eq_true rfl) (Nat.le_of_ble_eq_true rfl) (ci := 6) (q0 := 0) rfl rfl rfl hl.1 rfl (Nat.le_of_ble_eq_true rfl) dX6_runToEnd_43 ⟨Nat.le_of_ble_eq_true rfl, Nat.le_of_ble_eq_true rfl⟩ (fun _ H locs z23 hP hD hS => ?_)
        have hP : va_P G vwCl (wTP cA ta pa T_20 P L_21) H := hP
        have hD : va_D A (wTP cA ta pa T_20 P L_21) := hD
        refine lv_aload_n hx hb dX6_runToEnd_46 rfl (lv_at hl 0 rfl) ?_
        refine lv_dup hx hb dX6_runToEnd_47 rfl ?_
        refine va_get (D := G) (ci := 6) (v := .int (T_20 0 0)) (C := RX6) (T := TX6) (N := 20) hx hb hT ku_6 hown hK hP 0 rfl rfl 0 (by decide) (hT _ kw_8_2) (fun _ h9 => h9) rfl dX6_runToEnd_48 ?_
        refine lv_iconst (v := 1) hx hb dX6_runToEnd_51 (by decide) ?_
        refine lv_iadd hx hb dX6_runToEnd_52 ?_
        refine va_put (D := G) (ci := 6) (v := .int ((T_20 0 0) + 1)) (ty := .int) (C := RX6) (T := TX6) (N := 20) hx hb hT ku_6 tyX6 tyX6_ok nmX6 hown hK hP hD hS 0 rfl rfl 0 (by decide) (hT _ kw_8_2) (fun _ h9 => h9) rfl (by decide +kernel) rfl rfl (Nat.le_of_ble_eq_true rfl) dX6_runToEnd_53 (fun H locs hP hD hS => ?_)
        obtain ⟨T_24, eT_24, h⟩ := tx_lt h
        rw [sTP_ta_f0, eT_24] at hP hD
        refine lv_goto (tgt := 0) hx hb dX6_runToEnd_56 (by decide) ?_
        exact hk0 T_24 L_21 H locs ls h hP hD hS (lv_sub hl [0] rfl)
set_option maxHeartbeats 4000000 in
set_option maxRecDepth 100000 in
theorem c_X6_runToEnd (l : Launch) (G : va_G) (cA : Nat → ClassId) (sz : Nat) (ta : Nat → Nat) (pa : Nat → Nat) (T : Tr) (P : Tr) (L : Lo)  (T' : Tr) (L' : Lo) (h : f_X6_runToEnd T P L = some (T', L')) : Met l yX6_runToEnd (.code yX6_runToEnd cX6_runToEnd 1 none :: T0) ({ frames := 5, cells := 0, slots := 0, locals := 133 } : Room) (tqP G cA [.ref (ta 0)] (wTP cA ta pa T P L) sz) (tqQv G cA (fun (_ : Unit) => True) (fun (_ : Unit) => wTP cA ta pa (T') P (L')) (va_A (wTP cA ta pa T P L) sz)) 0 0 (va_A (wTP cA ta pa T P L) sz) := by
  refine Met.ofW (cc := cX6_runToEnd) (maxL := 1) (ret := none) (by decide) rfl ?_
  intro p e s m args below meth c s₁ B hml hv
  obtain ⟨rfl, hsz, hP, hK, hD0, hN⟩ := hv
  have hx := B.exec
  have hb := B.bytes
  have hr := B.returns
  have hts := atoms_spec (ws := .code yX6_runToEnd cX6_runToEnd 1 none :: T0) B.pre
  have hT : ∀ w ∈ T0, w.before _ s = true := fun w h => hts w (List.mem_cons_of_mem _ h)
  have hown : s.vm.findClass RX6 = some m.cls := findClass_of_methodNamed B.named
  have hlocks := B.notSynchronized
  subst hsz
  have hD := hD0.self (sz := s.heap.size)
  generalize hAe : va_A (wTP cA ta pa T P L) s.heap.size = A at hD ⊢
  have hA : ∀ q : Nat, s.heap.size ≤ q → A q := fun q h => by rw [← hAe]; exact Or.inr h
  have hS : va_S A s.heap s.heap [] := va_S.rf
  have hl := lv_entry ([.ref (ta 0)]) (n := 1) (Nat.le_of_ble_eq_true rfl)
  rw [lg_entry_eq]
  generalize (lg_sl ([.ref (ta 0)]) ++ List.replicate (1 - (lg_sl ([.ref (ta 0)])).length) Slot.unset).toArray = ls at hl ⊢
  have hl : lv_has ls 1 [(0, .ref (ta 0))] := hl
  have F : tF p s m ([.ref (ta 0)] : List Value).toArray meth c G cA A RX6 cX6_runToEnd 1 none := ⟨hx, hb, hr, hml, hT, hown, hlocks, hK, hN, hA⟩
  obtain ⟨H, hH⟩ : ∃ z, z = s.heap := ⟨_, rfl⟩
  rw [← hH] at hP
  have hS : va_S A s.heap H [] := by rw [hH]; exact hS
  suffices hgo : G_X6_runToEnd p l e s m below meth c G cA A ta pa P T' L' H [] (F0 m 0 ls []) by rw [hH] at hgo; exact hgo
  generalize ([] : List Loc) = locs at hS ⊢
  unfold f_X6_runToEnd at h
  exact w_X6_runToEnd_L0 F 2000 T L H locs ls h hP hD hS (lv_sub hl [0] rfl)
abbrev G_X6_sendAway (p : Program) (l : Launch) (e : Env) (s : State) (m : MethodId) (below : List Frame) (meth : Method) (c : Code) (G : va_G) (cA : Nat → ClassId) (A : Nat → Prop) (ta : Nat → Nat) (pa : Nat → Nat) (P : Tr) (L : Lo) (x1 : Int32) (T' : Tr) (H : Heap) (locs : List Loc) (g : JFrame) : Prop := W p l e (headSpec (.code yX6_sendAway cX6_sendAway 2 none :: T0) ({ frames := 3, cells := 0, slots := 0, locals := 71 } : Room)).room s m ([.ref (ta 0), .int x1] : List Value).toArray below meth c H locs 0 0 (MQ below (tqQv G cA (fun (_ : Unit) => True) (fun (_ : Unit) => wTP cA ta pa (T') P L) A) ([.ref (ta 0), .int x1] : List Value).toArray s 0 0 A) g
set_option maxHeartbeats 4000000 in
set_option maxRecDepth 100000 in
theorem w_X6_sendAway_J16 {p : Program} {l : Launch} {e : Env} {s : State} {m : MethodId} {below : List Frame} {meth : Method} {c : Code} {G : va_G} {cA : Nat → ClassId} {A : Nat → Prop} {ta : Nat → Nat} {pa : Nat → Nat} {P : Tr} {L : Lo} {x1₀ : Int32} {T' : Tr} (F : tF p s m ([.ref (ta 0), .int x1₀] : List Value).toArray meth c G cA A RX6 cX6_sendAway 2 none)    (x1 : Int32) (T : Tr) (H : Heap) (locs : List Loc) (ls : Array Slot) (h : fJ_X6_sendAway_J16 P x1 T = some T') (hP : va_P G vwCl (wTP cA ta pa T P L) H) (hD : va_D A (wTP cA ta pa T P L)) (hS : va_S A s.heap H locs) (hl : lv_has ls 2 [(0, .ref (ta 0)), (1, .int x1)]) : G_X6_sendAway p l e s m below meth c G cA A ta pa P L x1₀ T' H locs (F0 m 16 ls []) := by
  obtain ⟨hx, hb, hr, hml, hT, hown, hlocks, hK, hN, hA⟩ := id F
  unfold fJ_X6_sendAway_J16 at h
  refine lv_aload_n hx hb dX6_sendAway_16 rfl (lv_at hl 0 rfl) ?_
  refine va_get (D := G) (ci := 6) (v := .ref (ta 11)) (C := RX6) (T := TX6) (N := 20) hx hb hT ku_6 hown hK hP 0 rfl rfl 10 (by decide) (hT _ kw_7_9) (fun _ h9 => h9) rfl dX6_sendAway_17 ?_
  refine lv_iload_n hx hb dX6_sendAway_20 rfl (lv_at hl 1 rfl) ?_
  refine lv_iconst (v := 2) hx hb dX6_sendAway_21 (by decide) ?_
  obtain ⟨g3, h⟩ := tx_ck h
  refine va_iast (i := x1) hx hb hK hP hD hS 3 0 rfl rfl (tx_in g3) dX6_sendAway_22 (fun H locs hP hD hS => ?_)
  obtain ⟨T_4, eT_4, h⟩ := tx_lt h
  rw [sTP_ta_a10, eT_4] at hP hD
  obtain rfl := tx_1 h
  exact W.vret hx hb hr (fun t ht hW => ⟨⟨(), rfl, trivial, by rw [ht]; exact hP, hD⟩, hS.F ht⟩) hS.2.2 dX6_sendAway_23
set_option maxHeartbeats 4000000 in
set_option maxRecDepth 100000 in
theorem c_X6_sendAway (l : Launch) (G : va_G) (cA : Nat → ClassId) (sz : Nat) (ta : Nat → Nat) (pa : Nat → Nat) (T : Tr) (P : Tr) (L : Lo) (x1 : Int32)  (T' : Tr) (h : f_X6_sendAway T P x1 = some T') : Met l yX6_sendAway (.code yX6_sendAway cX6_sendAway 2 none :: T0) ({ frames := 3, cells := 0, slots := 0, locals := 71 } : Room) (tqP G cA [.ref (ta 0), .int x1] (wTP cA ta pa T P L) sz) (tqQv G cA (fun (_ : Unit) => True) (fun (_ : Unit) => wTP cA ta pa (T') P L) (va_A (wTP cA ta pa T P L) sz)) 0 0 (va_A (wTP cA ta pa T P L) sz) := by
  refine Met.ofW (cc := cX6_sendAway) (maxL := 2) (ret := none) (by decide) rfl ?_
  intro p e s m args below meth c s₁ B hml hv
  obtain ⟨rfl, hsz, hP, hK, hD0, hN⟩ := hv
  have hx := B.exec
  have hb := B.bytes
  have hr := B.returns
  have hts := atoms_spec (ws := .code yX6_sendAway cX6_sendAway 2 none :: T0) B.pre
  have hT : ∀ w ∈ T0, w.before _ s = true := fun w h => hts w (List.mem_cons_of_mem _ h)
  have hown : s.vm.findClass RX6 = some m.cls := findClass_of_methodNamed B.named
  have hlocks := B.notSynchronized
  subst hsz
  have hD := hD0.self (sz := s.heap.size)
  generalize hAe : va_A (wTP cA ta pa T P L) s.heap.size = A at hD ⊢
  have hA : ∀ q : Nat, s.heap.size ≤ q → A q := fun q h => by rw [← hAe]; exact Or.inr h
  have hS : va_S A s.heap s.heap [] := va_S.rf
  have hl := lv_entry ([.ref (ta 0), .int x1]) (n := 2) (Nat.le_of_ble_eq_true rfl)
  rw [lg_entry_eq]
  generalize (lg_sl ([.ref (ta 0), .int x1]) ++ List.replicate (2 - (lg_sl ([.ref (ta 0), .int x1])).length) Slot.unset).toArray = ls at hl ⊢
  have hl : lv_has ls 2 [(0, .ref (ta 0)), (1, .int x1)] := hl
  have F : tF p s m ([.ref (ta 0), .int x1] : List Value).toArray meth c G cA A RX6 cX6_sendAway 2 none := ⟨hx, hb, hr, hml, hT, hown, hlocks, hK, hN, hA⟩
  obtain ⟨H, hH⟩ : ∃ z, z = s.heap := ⟨_, rfl⟩
  rw [← hH] at hP
  have hS : va_S A s.heap H [] := by rw [hH]; exact hS
  suffices hgo : G_X6_sendAway p l e s m below meth c G cA A ta pa P L x1 T' H [] (F0 m 0 ls []) by rw [hH] at hgo; exact hgo
  generalize ([] : List Loc) = locs at hS ⊢
  unfold f_X6_sendAway at h
  refine lv_aload_n hx hb dX6_sendAway_0 rfl (lv_at hl 0 rfl) ?_
  refine va_get (D := G) (ci := 6) (v := .ref (ta 11)) (C := RX6) (T := TX6) (N := 20) hx hb hT ku_6 hown hK hP 0 rfl rfl 10 (by decide) (hT _ kw_7_9) (fun _ h9 => h9) rfl dX6_sendAway_1 ?_
  refine lv_iload_n hx hb dX6_sendAway_4 rfl (lv_at hl 1 rfl) ?_
  obtain ⟨g1, h⟩ := tx_ck h
  refine va_iald (i := x1) hx hb hK hP 3 0 rfl rfl (tx_in g1) dX6_sendAway_5 ?_
  refine lv_iconst (v := 1) hx hb dX6_sendAway_6 (by decide) ?_
  refine lv_icmp_ne (tgt := 16) hx hb dX6_sendAway_7 (by decide) (fun c2 => ?_) (fun c2 => ?_)
  · have h := tx_neg c2 h
    exact w_X6_sendAway_J16 F x1 T H locs ls h hP hD hS (lv_sub hl [0, 1] rfl)
  · have h := tx_pos c2 h
    refine lv_aload_n hx hb dX6_sendAway_10 rfl (lv_at hl 0 rfl) ?_
    refine lv_iload_n hx hb dX6_sendAway_11 rfl (lv_at hl 1 rfl) ?_
    refine lv_iconst (v := 2) hx hb dX6_sendAway_12 (by decide) ?_
    obtain ⟨T_5, hc6, h⟩ := tx_bd h
    refine tz_v (As := [.int x1, .int 2]) (rest := []) ⟨hx, hb, hml, hown, hT⟩ hP hD hS hA hK hN (c_X6_setFree l G cA H.size ta pa T P L x1 (2 : Int32)  T_5 hc6) (tq_gV kw_41_4 kw_41_5 kw_41_6 kw_1_23 kw_41_7) rfl rfl dkdV_yX6_setFree_2 (Nat.le_of_ble_eq_true rfl) (Nat.le_of_ble_eq_true rfl) (ci := 6) (q0 := 0) rfl rfl rfl hl.1 rfl (Nat.le_of_ble_eq_true rfl) dX6_sendAway_13 ⟨Nat.le_of_ble_eq_true rfl, Nat.le_of_ble_eq_true rfl⟩ (fun _ H locs z7 hP hD hS => ?_)
    have hP : va_P G vwCl (wTP cA ta pa T_5 P L) H := hP
    have hD : va_D A (wTP cA ta pa T_5 P L) := hD
    exact w_X6_sendAway_J16 F x1 T_5 H locs ls h hP hD hS (lv_sub hl [0, 1] rfl)
abbrev G_X6_strengthenAll (p : Program) (l : Launch) (e : Env) (s : State) (m : MethodId) (below : List Frame) (meth : Method) (c : Code) (G : va_G) (cA : Nat → ClassId) (A : Nat → Prop) (ta : Nat → Nat) (pa : Nat → Nat) (P : Tr) (L : Lo) (T' : Tr) (H : Heap) (locs : List Loc) (g : JFrame) : Prop := W p l e (headSpec (.code yX6_strengthenAll cX6_strengthenAll 2 none :: T0) ({ frames := 0, cells := 0, slots := 0, locals := 0 } : Room)).room s m ([.ref (ta 0)] : List Value).toArray below meth c H locs 0 0 (MQ below (tqQv G cA (fun (_ : Unit) => True) (fun (_ : Unit) => wTP cA ta pa (T') P L) A) ([.ref (ta 0)] : List Value).toArray s 0 0 A) g
set_option maxHeartbeats 4000000 in
set_option maxRecDepth 100000 in
theorem w_X6_strengthenAll_L2 {p : Program} {l : Launch} {e : Env} {s : State} {m : MethodId} {below : List Frame} {meth : Method} {c : Code} {G : va_G} {cA : Nat → ClassId} {A : Nat → Prop} {ta : Nat → Nat} {pa : Nat → Nat} {P : Tr} {L : Lo} {T' : Tr} (F : tF p s m ([.ref (ta 0)] : List Value).toArray meth c G cA A RX6 cX6_strengthenAll 2 none)    (N : Nat) : ∀ (x1 : Int32) (T : Tr) (H : Heap) (locs : List Loc) (ls : Array Slot), lpF (fun _ _ => none) (fB_X6_strengthenAll_L2 ) N x1 T = some T' → va_P G vwCl (wTP cA ta pa T P L) H → va_D A (wTP cA ta pa T P L) → va_S A s.heap H locs → lv_has ls 2 [(0, .ref (ta 0)), (1, .int x1)] → G_X6_strengthenAll p l e s m below meth c G cA A ta pa P L T' H locs (F0 m 2 ls []) := by
  obtain ⟨hx, hb, hr, hml, hT, hown, hlocks, hK, hN, hA⟩ := id F
  induction N with
  | zero =>
    intro x1 T H locs ls h
    have h : (none : Option (Tr)) = some T' := h
    cases h
  | succ N hk2 =>
    intro x1 T H locs ls h hP hD hS hl
    have h : fB_X6_strengthenAll_L2  (lpF (fun _ _ => none) (fB_X6_strengthenAll_L2 ) N) x1 T = some T' := h
    generalize hk2e : lpF (fun _ _ => none) (fB_X6_strengthenAll_L2 ) N = k2 at h hk2
    unfold fB_X6_strengthenAll_L2 at h
    refine lv_iload_n hx hb dX6_strengthenAll_2 rfl (lv_at hl 1 rfl) ?_
    refine lv_bipush (v := 6) hx hb dX6_strengthenAll_3 (by decide) ?_
    refine lv_icmp_ge (tgt := 22) hx hb dX6_strengthenAll_5 (by decide) (fun c1 => ?_) (fun c1 => ?_)
    · have h := tx_pos c1 h
      obtain rfl := tx_1 h
      exact W.vret hx hb hr (fun t ht hW => ⟨⟨(), rfl, trivial, by rw [ht]; exact hP, hD⟩, hS.F ht⟩) hS.2.2 dX6_strengthenAll_22
    · have h := tx_neg c1 h
      refine lv_aload_n hx hb dX6_strengthenAll_8 rfl (lv_at hl 0 rfl) ?_
      refine va_get (D := G) (ci := 6) (v := .ref (ta 10)) (C := RX6) (T := TX6) (N := 20) hx hb hT ku_6 hown hK hP 0 rfl rfl 9 (by decide) (hT _ kw_7_8) (fun _ h9 => h9) rfl dX6_strengthenAll_9 ?_
      refine lv_iload_n hx hb dX6_strengthenAll_12 rfl (lv_at hl 1 rfl) ?_
      refine lv_bipush (v := 99) hx hb dX6_strengthenAll_13 (by decide) ?_
      obtain ⟨g2, h⟩ := tx_ck h
      refine va_iast (i := x1) hx hb hK hP hD hS 2 0 rfl rfl (tx_in g2) dX6_strengthenAll_15 (fun H locs hP hD hS => ?_)
      obtain ⟨T_3, eT_3, h⟩ := tx_lt h
      rw [sTP_ta_a9, eT_3] at hP hD
      obtain ⟨y4, ey4, h⟩ := tx_lt h
      refine lv_iinc (v := y4) (lv' := [(1, .int y4), (0, .ref (ta 0))]) hx hb dX6_strengthenAll_16 hl (k := 1) rfl ey4 (by decide) rfl (fun ls hl => ?_)
      refine lv_goto (tgt := 2) hx hb dX6_strengthenAll_19 (by decide) ?_
      exact hk2 y4 T_3 H locs ls h hP hD hS (lv_sub hl [1, 0] rfl)
set_option maxHeartbeats 4000000 in
set_option maxRecDepth 100000 in
theorem c_X6_strengthenAll (l : Launch) (G : va_G) (cA : Nat → ClassId) (sz : Nat) (ta : Nat → Nat) (pa : Nat → Nat) (T : Tr) (P : Tr) (L : Lo)  (T' : Tr) (h : f_X6_strengthenAll T = some T') : Met l yX6_strengthenAll (.code yX6_strengthenAll cX6_strengthenAll 2 none :: T0) ({ frames := 0, cells := 0, slots := 0, locals := 0 } : Room) (tqP G cA [.ref (ta 0)] (wTP cA ta pa T P L) sz) (tqQv G cA (fun (_ : Unit) => True) (fun (_ : Unit) => wTP cA ta pa (T') P L) (va_A (wTP cA ta pa T P L) sz)) 0 0 (va_A (wTP cA ta pa T P L) sz) := by
  refine Met.ofW (cc := cX6_strengthenAll) (maxL := 2) (ret := none) (by decide) rfl ?_
  intro p e s m args below meth c s₁ B hml hv
  obtain ⟨rfl, hsz, hP, hK, hD0, hN⟩ := hv
  have hx := B.exec
  have hb := B.bytes
  have hr := B.returns
  have hts := atoms_spec (ws := .code yX6_strengthenAll cX6_strengthenAll 2 none :: T0) B.pre
  have hT : ∀ w ∈ T0, w.before _ s = true := fun w h => hts w (List.mem_cons_of_mem _ h)
  have hown : s.vm.findClass RX6 = some m.cls := findClass_of_methodNamed B.named
  have hlocks := B.notSynchronized
  subst hsz
  have hD := hD0.self (sz := s.heap.size)
  generalize hAe : va_A (wTP cA ta pa T P L) s.heap.size = A at hD ⊢
  have hA : ∀ q : Nat, s.heap.size ≤ q → A q := fun q h => by rw [← hAe]; exact Or.inr h
  have hS : va_S A s.heap s.heap [] := va_S.rf
  have hl := lv_entry ([.ref (ta 0)]) (n := 2) (Nat.le_of_ble_eq_true rfl)
  rw [lg_entry_eq]
  generalize (lg_sl ([.ref (ta 0)]) ++ List.replicate (2 - (lg_sl ([.ref (ta 0)])).length) Slot.unset).toArray = ls at hl ⊢
  have hl : lv_has ls 2 [(0, .ref (ta 0))] := hl
  have F : tF p s m ([.ref (ta 0)] : List Value).toArray meth c G cA A RX6 cX6_strengthenAll 2 none := ⟨hx, hb, hr, hml, hT, hown, hlocks, hK, hN, hA⟩
  obtain ⟨H, hH⟩ : ∃ z, z = s.heap := ⟨_, rfl⟩
  rw [← hH] at hP
  have hS : va_S A s.heap H [] := by rw [hH]; exact hS
  suffices hgo : G_X6_strengthenAll p l e s m below meth c G cA A ta pa P L T' H [] (F0 m 0 ls []) by rw [hH] at hgo; exact hgo
  generalize ([] : List Loc) = locs at hS ⊢
  unfold f_X6_strengthenAll at h
  refine lv_iconst (v := 0) hx hb dX6_strengthenAll_0 (by decide) ?_
  refine lv_istore_n (lv' := [(1, .int 0), (0, .ref (ta 0))]) hx hb dX6_strengthenAll_1 rfl hl (by decide) rfl (fun ls hl => ?_)
  exact w_X6_strengthenAll_L2 F 2000 0 T H locs ls h hP hD hS (lv_sub hl [1, 0] rfl)
abbrev G_X6_turnedLevel (p : Program) (l : Launch) (e : Env) (s : State) (m : MethodId) (below : List Frame) (meth : Method) (c : Code) (G : va_G) (cA : Nat → ClassId) (A : Nat → Prop) (ta : Nat → Nat) (pa : Nat → Nat) (T : Tr) (P : Tr) (L : Lo) (x1 : Int32) (x2 : Int32) (r0 : Int32) (H : Heap) (locs : List Loc) (g : JFrame) : Prop := W p l e (headSpec (.code yX6_turnedLevel cX6_turnedLevel 5 (some .int) :: T0) ({ frames := 1, cells := 0, slots := 0, locals := 24 } : Room)).room s m ([.ref (ta 0), .int x1, .int x2] : List Value).toArray below meth c H locs 0 0 (MQ below (tqQi G cA (fun (r : Int32) (_ : Unit) => r = r0) (fun (_ : Unit) => wTP cA ta pa T P L) A) ([.ref (ta 0), .int x1, .int x2] : List Value).toArray s 0 0 A) g
set_option maxHeartbeats 4000000 in
set_option maxRecDepth 100000 in
theorem w_X6_turnedLevel_L5 {p : Program} {l : Launch} {e : Env} {s : State} {m : MethodId} {below : List Frame} {meth : Method} {c : Code} {G : va_G} {cA : Nat → ClassId} {A : Nat → Prop} {ta : Nat → Nat} {pa : Nat → Nat} {T : Tr} {P : Tr} {L : Lo} {x1₀ : Int32} {x2₀ : Int32} {r0 : Int32} {x1 : Int32} {x2 : Int32} (F : tF p s m ([.ref (ta 0), .int x1₀, .int x2₀] : List Value).toArray meth c G cA A RX6 cX6_turnedLevel 5 (some .int))    (N : Nat) : ∀ (x3 : Int32) (x4 : Int32) (H : Heap) (locs : List Loc) (ls : Array Slot), lpF (fun _ _ => none) (fB_X6_turnedLevel_L5 T P x1 x2) N x3 x4 = some r0 → va_P G vwCl (wTP cA ta pa T P L) H → va_D A (wTP cA ta pa T P L) → va_S A s.heap H locs → lv_has ls 5 [(0, .ref (ta 0)), (1, .int x1), (2, .int x2), (3, .int x3), (4, .int x4)] → G_X6_turnedLevel p l e s m below meth c G cA A ta pa T P L x1₀ x2₀ r0 H locs (F0 m 5 ls []) := by
  obtain ⟨hx, hb, hr, hml, hT, hown, hlocks, hK, hN, hA⟩ := id F
  induction N with
  | zero =>
    intro x3 x4 H locs ls h
    have h : (none : Option (Int32)) = some r0 := h
    cases h
  | succ N hk5 =>
    intro x3 x4 H locs ls h hP hD hS hl
    have h : fB_X6_turnedLevel_L5 T P x1 x2 (lpF (fun _ _ => none) (fB_X6_turnedLevel_L5 T P x1 x2) N) x3 x4 = some r0 := h
    generalize hk5e : lpF (fun _ _ => none) (fB_X6_turnedLevel_L5 T P x1 x2) N = k5 at h hk5
    unfold fB_X6_turnedLevel_L5 at h
    refine lv_iload hx hb dX6_turnedLevel_5 (lv_at hl 4 rfl) ?_
    refine lv_aload_n hx hb dX6_turnedLevel_7 rfl (lv_at hl 0 rfl) ?_
    refine va_get (D := G) (ci := 6) (v := .ref (ta 17)) (C := RX6) (T := TX6) (N := 20) hx hb hT ku_6 hown hK hP 0 rfl rfl 16 (by decide) (hT _ kw_7_15) (fun _ h9 => h9) rfl dX6_turnedLevel_8 ?_
    refine lv_iload_n hx hb dX6_turnedLevel_11 rfl (lv_at hl 1 rfl) ?_
    obtain ⟨g1, h⟩ := tx_ck h
    refine va_iald (i := x1) hx hb hK hP 9 0 rfl rfl (tx_in g1) dX6_turnedLevel_12 ?_
    refine lv_icmp_ge (tgt := 45) hx hb dX6_turnedLevel_13 (by decide) (fun c2 => ?_) (fun c2 => ?_)
    · have h := tx_pos c2 h
      refine lv_iload_n hx hb dX6_turnedLevel_45 rfl (lv_at hl 3 rfl) ?_
      obtain rfl := tx_1 h
      exact W.iret hx hb hr (fun t ht hW => ⟨⟨_, (), rfl, rfl, by rw [ht]; exact hP, hD⟩, hS.F ht⟩) hS.2.2 dX6_turnedLevel_46
    · have h := tx_neg c2 h
      refine lv_aload_n hx hb dX6_turnedLevel_16 rfl (lv_at hl 0 rfl) ?_
      refine lv_iload_n hx hb dX6_turnedLevel_17 rfl (lv_at hl 2 rfl) ?_
      refine lv_aload_n hx hb dX6_turnedLevel_18 rfl (lv_at hl 0 rfl) ?_
      refine va_get (D := G) (ci := 6) (v := .ref (ta 16)) (C := RX6) (T := TX6) (N := 20) hx hb hT ku_6 hown hK hP 0 rfl rfl 15 (by decide) (hT _ kw_7_14) (fun _ h9 => h9) rfl dX6_turnedLevel_19 ?_
      refine lv_iload_n hx hb dX6_turnedLevel_22 rfl (lv_at hl 1 rfl) ?_
      refine lv_bipush (v := 10) hx hb dX6_turnedLevel_23 (by decide) ?_
      refine lv_imul hx hb dX6_turnedLevel_25 ?_
      refine lv_iload hx hb dX6_turnedLevel_26 (lv_at hl 4 rfl) ?_
      refine lv_iadd hx hb dX6_turnedLevel_28 ?_
      obtain ⟨g3, h⟩ := tx_ck h
      refine va_iald (i := ((x1 * 10) + x4)) hx hb hK hP 8 0 rfl rfl (tx_in g3) dX6_turnedLevel_29 ?_
      obtain ⟨r4, hc5, h⟩ := tx_bd h
      refine tz_i (As := [.int x2, .int (T 16 ((x1 * 10) + x4).toNatClampNeg)]) (rest := []) ⟨hx, hb, hml, hown, hT⟩ hP hD hS hA hK hN (c_X6_goesAbove l G cA H.size ta pa T P L x2 (T 16 ((x1 * 10) + x4).toNatClampNeg)  r4 hc5) (tq_gV kw_38_19 kw_38_20 kw_38_21 kw_1_23 kw_38_22) rfl rfl dkdV_yX6_goesAbove_2 (Nat.le_of_ble_eq_true rfl) (Nat.le_of_ble_eq_true rfl) (ci := 6) (q0 := 0) rfl rfl rfl hl.1 rfl (Nat.le_of_ble_eq_true rfl) dX6_turnedLevel_30 ⟨Nat.le_of_ble_eq_true rfl, Nat.le_of_ble_eq_true rfl⟩ (fun _ _ H locs z6 hP hD hS => ?_)
      have z6 := z6.symm
      subst z6
      have hP : va_P G vwCl (wTP cA ta pa T P L) H := hP
      have hD : va_D A (wTP cA ta pa T P L) := hD
      refine lv_if_eq (tgt := 39) hx hb dX6_turnedLevel_33 (by decide) (fun c7 => ?_) (fun c7 => ?_)
      · have h := tx_pos c7 h
        obtain ⟨y8, ey8, h⟩ := tx_lt h
        refine lv_iinc (v := y8) (lv' := [(4, .int y8), (0, .ref (ta 0)), (1, .int x1), (2, .int x2), (3, .int x3)]) hx hb dX6_turnedLevel_39 hl (k := 4) rfl ey8 (by decide) rfl (fun ls hl => ?_)
        refine lv_goto (tgt := 5) hx hb dX6_turnedLevel_42 (by decide) ?_
        exact hk5 x3 y8 H locs ls h hP hD hS (lv_sub hl [1, 2, 3, 4, 0] rfl)
      · have h := tx_neg c7 h
        obtain ⟨y9, ey9, h⟩ := tx_lt h
        refine lv_iinc (v := y9) (lv' := [(3, .int y9), (0, .ref (ta 0)), (1, .int x1), (2, .int x2), (4, .int x4)]) hx hb dX6_turnedLevel_36 hl (k := 3) rfl ey9 (by decide) rfl (fun ls hl => ?_)
        obtain ⟨y10, ey10, h⟩ := tx_lt h
        refine lv_iinc (v := y10) (lv' := [(4, .int y10), (3, .int y9), (0, .ref (ta 0)), (1, .int x1), (2, .int x2)]) hx hb dX6_turnedLevel_39 hl (k := 4) rfl ey10 (by decide) rfl (fun ls hl => ?_)
        refine lv_goto (tgt := 5) hx hb dX6_turnedLevel_42 (by decide) ?_
        exact hk5 y9 y10 H locs ls h hP hD hS (lv_sub hl [2, 3, 4, 1, 0] rfl)
set_option maxHeartbeats 4000000 in
set_option maxRecDepth 100000 in
theorem c_X6_turnedLevel (l : Launch) (G : va_G) (cA : Nat → ClassId) (sz : Nat) (ta : Nat → Nat) (pa : Nat → Nat) (T : Tr) (P : Tr) (L : Lo) (x1 : Int32) (x2 : Int32)  (r0 : Int32) (h : f_X6_turnedLevel T P x1 x2 = some r0) : Met l yX6_turnedLevel (.code yX6_turnedLevel cX6_turnedLevel 5 (some .int) :: T0) ({ frames := 1, cells := 0, slots := 0, locals := 24 } : Room) (tqP G cA [.ref (ta 0), .int x1, .int x2] (wTP cA ta pa T P L) sz) (tqQi G cA (fun (r : Int32) (_ : Unit) => r = r0) (fun (_ : Unit) => wTP cA ta pa T P L) (va_A (wTP cA ta pa T P L) sz)) 0 0 (va_A (wTP cA ta pa T P L) sz) := by
  refine Met.ofW (cc := cX6_turnedLevel) (maxL := 5) (ret := (some .int)) (by decide) rfl ?_
  intro p e s m args below meth c s₁ B hml hv
  obtain ⟨rfl, hsz, hP, hK, hD0, hN⟩ := hv
  have hx := B.exec
  have hb := B.bytes
  have hr := B.returns
  have hts := atoms_spec (ws := .code yX6_turnedLevel cX6_turnedLevel 5 (some .int) :: T0) B.pre
  have hT : ∀ w ∈ T0, w.before _ s = true := fun w h => hts w (List.mem_cons_of_mem _ h)
  have hown : s.vm.findClass RX6 = some m.cls := findClass_of_methodNamed B.named
  have hlocks := B.notSynchronized
  subst hsz
  have hD := hD0.self (sz := s.heap.size)
  generalize hAe : va_A (wTP cA ta pa T P L) s.heap.size = A at hD ⊢
  have hA : ∀ q : Nat, s.heap.size ≤ q → A q := fun q h => by rw [← hAe]; exact Or.inr h
  have hS : va_S A s.heap s.heap [] := va_S.rf
  have hl := lv_entry ([.ref (ta 0), .int x1, .int x2]) (n := 5) (Nat.le_of_ble_eq_true rfl)
  rw [lg_entry_eq]
  generalize (lg_sl ([.ref (ta 0), .int x1, .int x2]) ++ List.replicate (5 - (lg_sl ([.ref (ta 0), .int x1, .int x2])).length) Slot.unset).toArray = ls at hl ⊢
  have hl : lv_has ls 5 [(0, .ref (ta 0)), (1, .int x1), (2, .int x2)] := hl
  have F : tF p s m ([.ref (ta 0), .int x1, .int x2] : List Value).toArray meth c G cA A RX6 cX6_turnedLevel 5 (some .int) := ⟨hx, hb, hr, hml, hT, hown, hlocks, hK, hN, hA⟩
  obtain ⟨H, hH⟩ : ∃ z, z = s.heap := ⟨_, rfl⟩
  rw [← hH] at hP
  have hS : va_S A s.heap H [] := by rw [hH]; exact hS
  suffices hgo : G_X6_turnedLevel p l e s m below meth c G cA A ta pa T P L x1 x2 r0 H [] (F0 m 0 ls []) by rw [hH] at hgo; exact hgo
  generalize ([] : List Loc) = locs at hS ⊢
  unfold f_X6_turnedLevel at h
  refine lv_iconst (v := 0) hx hb dX6_turnedLevel_0 (by decide) ?_
  refine lv_istore_n (lv' := [(3, .int 0), (0, .ref (ta 0)), (1, .int x1), (2, .int x2)]) hx hb dX6_turnedLevel_1 rfl hl (by decide) rfl (fun ls hl => ?_)
  refine lv_iconst (v := 0) hx hb dX6_turnedLevel_2 (by decide) ?_
  refine lv_istore (lv' := [(4, .int 0), (3, .int 0), (0, .ref (ta 0)), (1, .int x1), (2, .int x2)]) hx hb dX6_turnedLevel_3 hl (by decide) rfl (fun ls hl => ?_)
  exact w_X6_turnedLevel_L5 F 2000 0 0 H locs ls h hP hD hS (lv_sub hl [2, 3, 4, 1, 0] rfl)
abbrev G_X6_turnOver (p : Program) (l : Launch) (e : Env) (s : State) (m : MethodId) (below : List Frame) (meth : Method) (c : Code) (G : va_G) (cA : Nat → ClassId) (A : Nat → Prop) (ta : Nat → Nat) (pa : Nat → Nat) (P : Tr) (L : Lo) (x1 : Int32) (r0 : Int32) (T' : Tr) (H : Heap) (locs : List Loc) (g : JFrame) : Prop := W p l e (headSpec (.code yX6_turnOver cX6_turnOver 7 (some .int) :: T0) ({ frames := 2, cells := 0, slots := 0, locals := 48 } : Room)).room s m ([.ref (ta 0), .int x1] : List Value).toArray below meth c H locs 0 0 (MQ below (tqQi G cA (fun (r : Int32) (_ : Unit) => r = r0) (fun (_ : Unit) => wTP cA ta pa (T') P L) A) ([.ref (ta 0), .int x1] : List Value).toArray s 0 0 A) g
set_option maxHeartbeats 4000000 in
set_option maxRecDepth 100000 in
theorem w_X6_turnOver_J129 {p : Program} {l : Launch} {e : Env} {s : State} {m : MethodId} {below : List Frame} {meth : Method} {c : Code} {G : va_G} {cA : Nat → ClassId} {A : Nat → Prop} {ta : Nat → Nat} {pa : Nat → Nat} {P : Tr} {L : Lo} {x1₀ : Int32} {r0 : Int32} {T' : Tr} {x1 : Int32} {x2 : Int32} {x3 : Int32} (F : tF p s m ([.ref (ta 0), .int x1₀] : List Value).toArray meth c G cA A RX6 cX6_turnOver 7 (some .int))  (k52 : Int32 → Tr → Option (Int32 × Tr)) (hk52 : ∀ (x4 : Int32) (T : Tr) (H : Heap) (locs : List Loc) (ls : Array Slot), k52 x4 T = some (r0, T') → va_P G vwCl (wTP cA ta pa T P L) H → va_D A (wTP cA ta pa T P L) → va_S A s.heap H locs → lv_has ls 7 [(0, .ref (ta 0)), (1, .int x1), (2, .int x2), (3, .int x3), (4, .int x4)] → G_X6_turnOver p l e s m below meth c G cA A ta pa P L x1₀ r0 T' H locs (F0 m 52 ls [])) (x4 : Int32) (x5 : Int32) (x6 : Int32) (T : Tr) (H : Heap) (locs : List Loc) (ls : Array Slot) (h : fJ_X6_turnOver_J129 k52 P x1 x2 x3 x4 x5 x6 T = some (r0, T')) (hP : va_P G vwCl (wTP cA ta pa T P L) H) (hD : va_D A (wTP cA ta pa T P L)) (hS : va_S A s.heap H locs) (hl : lv_has ls 7 [(0, .ref (ta 0)), (1, .int x1), (2, .int x2), (3, .int x3), (4, .int x4), (5, .int x5), (6, .int x6)]) : G_X6_turnOver p l e s m below meth c G cA A ta pa P L x1₀ r0 T' H locs (F0 m 129 ls []) := by
  obtain ⟨hx, hb, hr, hml, hT, hown, hlocks, hK, hN, hA⟩ := id F
  unfold fJ_X6_turnOver_J129 at h
  refine lv_aload_n hx hb dX6_turnOver_129 rfl (lv_at hl 0 rfl) ?_
  refine va_get (D := G) (ci := 6) (v := .ref (ta 16)) (C := RX6) (T := TX6) (N := 20) hx hb hT ku_6 hown hK hP 0 rfl rfl 15 (by decide) (hT _ kw_7_14) (fun _ h9 => h9) rfl dX6_turnOver_130 ?_
  refine lv_iload_n hx hb dX6_turnOver_133 rfl (lv_at hl 2 rfl) ?_
  refine lv_iload hx hb dX6_turnOver_134 (lv_at hl 6 rfl) ?_
  refine lv_iadd hx hb dX6_turnOver_136 ?_
  refine lv_iload hx hb dX6_turnOver_137 (lv_at hl 5 rfl) ?_
  obtain ⟨g9, h⟩ := tx_ck h
  refine va_iast (i := (x2 + x6)) hx hb hK hP hD hS 8 0 rfl rfl (tx_in g9) dX6_turnOver_139 (fun H locs hP hD hS => ?_)
  obtain ⟨T_10, eT_10, h⟩ := tx_lt h
  rw [sTP_ta_a15, eT_10] at hP hD
  obtain ⟨y11, ey11, h⟩ := tx_lt h
  refine lv_iinc (v := y11) (lv' := [(4, .int y11), (0, .ref (ta 0)), (1, .int x1), (2, .int x2), (3, .int x3), (5, .int x5), (6, .int x6)]) hx hb dX6_turnOver_140 hl (k := 4) rfl ey11 (by decide) rfl (fun ls hl => ?_)
  refine lv_goto (tgt := 52) hx hb dX6_turnOver_143 (by decide) ?_
  exact hk52 y11 T_10 H locs ls h hP hD hS (lv_sub hl [1, 2, 3, 4, 0] rfl)
set_option maxHeartbeats 4000000 in
set_option maxRecDepth 100000 in
theorem w_X6_turnOver_L78 {p : Program} {l : Launch} {e : Env} {s : State} {m : MethodId} {below : List Frame} {meth : Method} {c : Code} {G : va_G} {cA : Nat → ClassId} {A : Nat → Prop} {ta : Nat → Nat} {pa : Nat → Nat} {P : Tr} {L : Lo} {x1₀ : Int32} {r0 : Int32} {T' : Tr} {x1 : Int32} {x2 : Int32} {x3 : Int32} {x4 : Int32} {x5 : Int32} (F : tF p s m ([.ref (ta 0), .int x1₀] : List Value).toArray meth c G cA A RX6 cX6_turnOver 7 (some .int))  (k52 : Int32 → Tr → Option (Int32 × Tr)) (hk52 : ∀ (x4 : Int32) (T : Tr) (H : Heap) (locs : List Loc) (ls : Array Slot), k52 x4 T = some (r0, T') → va_P G vwCl (wTP cA ta pa T P L) H → va_D A (wTP cA ta pa T P L) → va_S A s.heap H locs → lv_has ls 7 [(0, .ref (ta 0)), (1, .int x1), (2, .int x2), (3, .int x3), (4, .int x4)] → G_X6_turnOver p l e s m below meth c G cA A ta pa P L x1₀ r0 T' H locs (F0 m 52 ls [])) (N : Nat) : ∀ (x6 : Int32) (T : Tr) (H : Heap) (locs : List Loc) (ls : Array Slot), lpF (fun _ _ => none) (fB_X6_turnOver_L78 k52 P x1 x2 x3 x4 x5) N x6 T = some (r0, T') → va_P G vwCl (wTP cA ta pa T P L) H → va_D A (wTP cA ta pa T P L) → va_S A s.heap H locs → lv_has ls 7 [(0, .ref (ta 0)), (1, .int x1), (2, .int x2), (3, .int x3), (4, .int x4), (5, .int x5), (6, .int x6)] → G_X6_turnOver p l e s m below meth c G cA A ta pa P L x1₀ r0 T' H locs (F0 m 78 ls []) := by
  obtain ⟨hx, hb, hr, hml, hT, hown, hlocks, hK, hN, hA⟩ := id F
  induction N with
  | zero =>
    intro x6 T H locs ls h
    have h : (none : Option (Int32 × Tr)) = some (r0, T') := h
    cases h
  | succ N hk78 =>
    intro x6 T H locs ls h hP hD hS hl
    have h : fB_X6_turnOver_L78 k52 P x1 x2 x3 x4 x5 (lpF (fun _ _ => none) (fB_X6_turnOver_L78 k52 P x1 x2 x3 x4 x5) N) x6 T = some (r0, T') := h
    generalize hk78e : lpF (fun _ _ => none) (fB_X6_turnOver_L78 k52 P x1 x2 x3 x4 x5) N = k78 at h hk78
    unfold fB_X6_turnOver_L78 at h
    refine lv_iload hx hb dX6_turnOver_78 (lv_at hl 6 rfl) ?_
    refine lv_if_le (tgt := 129) hx hb dX6_turnOver_80 (by decide) (fun c8 => ?_) (fun c8 => ?_)
    · have h := tx_pos c8 h
      exact w_X6_turnOver_J129 F k52 hk52 x4 x5 x6 T H locs ls h hP hD hS (lv_sub hl [0, 1, 2, 3, 4, 5, 6] rfl)
    · have h := tx_neg c8 h
      refine lv_aload_n hx hb dX6_turnOver_83 rfl (lv_at hl 0 rfl) ?_
      refine lv_aload_n hx hb dX6_turnOver_84 rfl (lv_at hl 0 rfl) ?_
      refine va_get (D := G) (ci := 6) (v := .ref (ta 16)) (C := RX6) (T := TX6) (N := 20) hx hb hT ku_6 hown hK hP 0 rfl rfl 15 (by decide) (hT _ kw_7_14) (fun _ h9 => h9) rfl dX6_turnOver_85 ?_
      refine lv_iload_n hx hb dX6_turnOver_88 rfl (lv_at hl 2 rfl) ?_
      refine lv_iload hx hb dX6_turnOver_89 (lv_at hl 6 rfl) ?_
      refine lv_iadd hx hb dX6_turnOver_91 ?_
      refine lv_iconst (v := 1) hx hb dX6_turnOver_92 (by decide) ?_
      refine lv_isub hx hb dX6_turnOver_93 ?_
      obtain ⟨g12, h⟩ := tx_ck h
      refine va_iald (i := ((x2 + x6) - 1)) hx hb hK hP 8 0 rfl rfl (tx_in g12) dX6_turnOver_94 ?_
      refine lv_iload hx hb dX6_turnOver_95 (lv_at hl 5 rfl) ?_
      obtain ⟨r13, hc14, h⟩ := tx_bd h
      refine tz_i (As := [.int (T 16 ((x2 + x6) - 1).toNatClampNeg), .int x5]) (rest := []) ⟨hx, hb, hml, hown, hT⟩ hP hD hS hA hK hN (c_X6_goesAbove l G cA H.size ta pa T P L (T 16 ((x2 + x6) - 1).toNatClampNeg) x5  r13 hc14) (tq_gV kw_38_19 kw_38_20 kw_38_21 kw_1_23 kw_38_22) rfl rfl dkdV_yX6_goesAbove_2 (Nat.le_of_ble_eq_true rfl) (Nat.le_of_ble_eq_true rfl) (ci := 6) (q0 := 0) rfl rfl rfl hl.1 rfl (Nat.le_of_ble_eq_true rfl) dX6_turnOver_97 ⟨Nat.le_of_ble_eq_true rfl, Nat.le_of_ble_eq_true rfl⟩ (fun _ _ H locs z15 hP hD hS => ?_)
      have z15 := z15.symm
      subst z15
      have hP : va_P G vwCl (wTP cA ta pa T P L) H := hP
      have hD : va_D A (wTP cA ta pa T P L) := hD
      refine lv_if_eq (tgt := 129) hx hb dX6_turnOver_100 (by decide) (fun c16 => ?_) (fun c16 => ?_)
      · have h := tx_pos c16 h
        exact w_X6_turnOver_J129 F k52 hk52 x4 x5 x6 T H locs ls h hP hD hS (lv_sub hl [0, 1, 2, 3, 4, 5, 6] rfl)
      · have h := tx_neg c16 h
        refine lv_aload_n hx hb dX6_turnOver_103 rfl (lv_at hl 0 rfl) ?_
        refine va_get (D := G) (ci := 6) (v := .ref (ta 16)) (C := RX6) (T := TX6) (N := 20) hx hb hT ku_6 hown hK hP 0 rfl rfl 15 (by decide) (hT _ kw_7_14) (fun _ h9 => h9) rfl dX6_turnOver_104 ?_
        refine lv_iload_n hx hb dX6_turnOver_107 rfl (lv_at hl 2 rfl) ?_
        refine lv_iload hx hb dX6_turnOver_108 (lv_at hl 6 rfl) ?_
        refine lv_iadd hx hb dX6_turnOver_110 ?_
        refine lv_aload_n hx hb dX6_turnOver_111 rfl (lv_at hl 0 rfl) ?_
        refine va_get (D := G) (ci := 6) (v := .ref (ta 16)) (C := RX6) (T := TX6) (N := 20) hx hb hT ku_6 hown hK hP 0 rfl rfl 15 (by decide) (hT _ kw_7_14) (fun _ h9 => h9) rfl dX6_turnOver_112 ?_
        refine lv_iload_n hx hb dX6_turnOver_115 rfl (lv_at hl 2 rfl) ?_
        refine lv_iload hx hb dX6_turnOver_116 (lv_at hl 6 rfl) ?_
        refine lv_iadd hx hb dX6_turnOver_118 ?_
        refine lv_iconst (v := 1) hx hb dX6_turnOver_119 (by decide) ?_
        refine lv_isub hx hb dX6_turnOver_120 ?_
        refine va_iald (i := ((x2 + x6) - 1)) hx hb hK hP 8 0 rfl rfl (tx_in g12) dX6_turnOver_121 ?_
        obtain ⟨g17, h⟩ := tx_ck h
        refine va_iast (i := (x2 + x6)) hx hb hK hP hD hS 8 0 rfl rfl (tx_in g17) dX6_turnOver_122 (fun H locs hP hD hS => ?_)
        obtain ⟨T_18, eT_18, h⟩ := tx_lt h
        rw [sTP_ta_a15, eT_18] at hP hD
        obtain ⟨y19, ey19, h⟩ := tx_lt h
        refine lv_iinc (v := y19) (lv' := [(6, .int y19), (0, .ref (ta 0)), (1, .int x1), (2, .int x2), (3, .int x3), (4, .int x4), (5, .int x5)]) hx hb dX6_turnOver_123 hl (k := 6) rfl ey19 (by decide) rfl (fun ls hl => ?_)
        refine lv_goto (tgt := 78) hx hb dX6_turnOver_126 (by decide) ?_
        exact hk78 y19 T_18 H locs ls h hP hD hS (lv_sub hl [1, 2, 3, 4, 5, 6, 0] rfl)
set_option maxHeartbeats 4000000 in
set_option maxRecDepth 100000 in
theorem w_X6_turnOver_L52 {p : Program} {l : Launch} {e : Env} {s : State} {m : MethodId} {below : List Frame} {meth : Method} {c : Code} {G : va_G} {cA : Nat → ClassId} {A : Nat → Prop} {ta : Nat → Nat} {pa : Nat → Nat} {P : Tr} {L : Lo} {x1₀ : Int32} {r0 : Int32} {T' : Tr} {x1 : Int32} {x2 : Int32} {x3 : Int32} (F : tF p s m ([.ref (ta 0), .int x1₀] : List Value).toArray meth c G cA A RX6 cX6_turnOver 7 (some .int))    (N : Nat) : ∀ (x4 : Int32) (T : Tr) (H : Heap) (locs : List Loc) (ls : Array Slot), lpF (fun _ _ => none) (fB_X6_turnOver_L52 P x1 x2 x3) N x4 T = some (r0, T') → va_P G vwCl (wTP cA ta pa T P L) H → va_D A (wTP cA ta pa T P L) → va_S A s.heap H locs → lv_has ls 7 [(0, .ref (ta 0)), (1, .int x1), (2, .int x2), (3, .int x3), (4, .int x4)] → G_X6_turnOver p l e s m below meth c G cA A ta pa P L x1₀ r0 T' H locs (F0 m 52 ls []) := by
  obtain ⟨hx, hb, hr, hml, hT, hown, hlocks, hK, hN, hA⟩ := id F
  induction N with
  | zero =>
    intro x4 T H locs ls h
    have h : (none : Option (Int32 × Tr)) = some (r0, T') := h
    cases h
  | succ N hk52 =>
    intro x4 T H locs ls h hP hD hS hl
    have h : fB_X6_turnOver_L52 P x1 x2 x3 (lpF (fun _ _ => none) (fB_X6_turnOver_L52 P x1 x2 x3) N) x4 T = some (r0, T') := h
    generalize hk52e : lpF (fun _ _ => none) (fB_X6_turnOver_L52 P x1 x2 x3) N = k52 at h hk52
    unfold fB_X6_turnOver_L52 at h
    refine lv_iload hx hb dX6_turnOver_52 (lv_at hl 4 rfl) ?_
    refine lv_aload_n hx hb dX6_turnOver_54 rfl (lv_at hl 0 rfl) ?_
    refine va_get (D := G) (ci := 6) (v := .ref (ta 17)) (C := RX6) (T := TX6) (N := 20) hx hb hT ku_6 hown hK hP 0 rfl rfl 16 (by decide) (hT _ kw_7_15) (fun _ h9 => h9) rfl dX6_turnOver_55 ?_
    refine lv_iload_n hx hb dX6_turnOver_58 rfl (lv_at hl 1 rfl) ?_
    obtain ⟨g4, h⟩ := tx_ck h
    refine va_iald (i := x1) hx hb hK hP 9 0 rfl rfl (tx_in g4) dX6_turnOver_59 ?_
    refine lv_icmp_ge (tgt := 146) hx hb dX6_turnOver_60 (by decide) (fun c5 => ?_) (fun c5 => ?_)
    · have h := tx_pos c5 h
      refine lv_iload_n hx hb dX6_turnOver_146 rfl (lv_at hl 3 rfl) ?_
      obtain ⟨rfl, rfl⟩ := tx_2 h
      exact W.iret hx hb hr (fun t ht hW => ⟨⟨_, (), rfl, rfl, by rw [ht]; exact hP, hD⟩, hS.F ht⟩) hS.2.2 dX6_turnOver_147
    · have h := tx_neg c5 h
      refine lv_aload_n hx hb dX6_turnOver_63 rfl (lv_at hl 0 rfl) ?_
      refine va_get (D := G) (ci := 6) (v := .ref (ta 16)) (C := RX6) (T := TX6) (N := 20) hx hb hT ku_6 hown hK hP 0 rfl rfl 15 (by decide) (hT _ kw_7_14) (fun _ h9 => h9) rfl dX6_turnOver_64 ?_
      refine lv_iload_n hx hb dX6_turnOver_67 rfl (lv_at hl 2 rfl) ?_
      refine lv_iload hx hb dX6_turnOver_68 (lv_at hl 4 rfl) ?_
      refine lv_iadd hx hb dX6_turnOver_70 ?_
      obtain ⟨g6, h⟩ := tx_ck h
      refine va_iald (i := (x2 + x4)) hx hb hK hP 8 0 rfl rfl (tx_in g6) dX6_turnOver_71 ?_
      refine lv_topi (fun y7 ey7 => ?_)
      have h := tx_let ey7 h
      refine lv_istore (lv' := [(5, .int y7), (0, .ref (ta 0)), (1, .int x1), (2, .int x2), (3, .int x3), (4, .int x4)]) hx hb dX6_turnOver_72 hl (by decide) rfl (fun ls hl => ?_)
      refine lv_iload hx hb dX6_turnOver_74 (lv_at hl 5 rfl) ?_
      refine lv_istore (lv' := [(6, .int x4), (5, .int y7), (0, .ref (ta 0)), (1, .int x1), (2, .int x2), (3, .int x3), (4, .int x4)]) hx hb dX6_turnOver_76 hl (by decide) rfl (fun ls hl => ?_)
      exact w_X6_turnOver_L78 F k52 hk52 2000 x4 T H locs ls h hP hD hS (lv_sub hl [2, 3, 4, 5, 6, 1, 0] rfl)
set_option maxHeartbeats 4000000 in
set_option maxRecDepth 100000 in
theorem w_X6_turnOver_L10 {p : Program} {l : Launch} {e : Env} {s : State} {m : MethodId} {below : List Frame} {meth : Method} {c : Code} {G : va_G} {cA : Nat → ClassId} {A : Nat → Prop} {ta : Nat → Nat} {pa : Nat → Nat} {P : Tr} {L : Lo} {x1₀ : Int32} {r0 : Int32} {T' : Tr} {T : Tr} {x1 : Int32} {x2 : Int32} (F : tF p s m ([.ref (ta 0), .int x1₀] : List Value).toArray meth c G cA A RX6 cX6_turnOver 7 (some .int))    (N : Nat) : ∀ (x3 : Int32) (x4 : Int32) (H : Heap) (locs : List Loc) (ls : Array Slot), lpF (fun _ _ => none) (fB_X6_turnOver_L10 T P x1 x2) N x3 x4 = some (r0, T') → va_P G vwCl (wTP cA ta pa T P L) H → va_D A (wTP cA ta pa T P L) → va_S A s.heap H locs → lv_has ls 7 [(0, .ref (ta 0)), (1, .int x1), (2, .int x2), (3, .int x3), (4, .int x4)] → G_X6_turnOver p l e s m below meth c G cA A ta pa P L x1₀ r0 T' H locs (F0 m 10 ls []) := by
  obtain ⟨hx, hb, hr, hml, hT, hown, hlocks, hK, hN, hA⟩ := id F
  induction N with
  | zero =>
    intro x3 x4 H locs ls h
    have h : (none : Option (Int32 × Tr)) = some (r0, T') := h
    cases h
  | succ N hk10 =>
    intro x3 x4 H locs ls h hP hD hS hl
    have h : fB_X6_turnOver_L10 T P x1 x2 (lpF (fun _ _ => none) (fB_X6_turnOver_L10 T P x1 x2) N) x3 x4 = some (r0, T') := h
    generalize hk10e : lpF (fun _ _ => none) (fB_X6_turnOver_L10 T P x1 x2) N = k10 at h hk10
    unfold fB_X6_turnOver_L10 at h
    refine lv_iload hx hb dX6_turnOver_10 (lv_at hl 4 rfl) ?_
    refine lv_aload_n hx hb dX6_turnOver_12 rfl (lv_at hl 0 rfl) ?_
    refine va_get (D := G) (ci := 6) (v := .ref (ta 17)) (C := RX6) (T := TX6) (N := 20) hx hb hT ku_6 hown hK hP 0 rfl rfl 16 (by decide) (hT _ kw_7_15) (fun _ h9 => h9) rfl dX6_turnOver_13 ?_
    refine lv_iload_n hx hb dX6_turnOver_16 rfl (lv_at hl 1 rfl) ?_
    obtain ⟨g2, h⟩ := tx_ck h
    refine va_iald (i := x1) hx hb hK hP 9 0 rfl rfl (tx_in g2) dX6_turnOver_17 ?_
    refine lv_icmp_ge (tgt := 49) hx hb dX6_turnOver_18 (by decide) (fun c3 => ?_) (fun c3 => ?_)
    · have h := tx_pos c3 h
      refine lv_iconst (v := 1) hx hb dX6_turnOver_49 (by decide) ?_
      refine lv_istore (lv' := [(4, .int 1), (0, .ref (ta 0)), (1, .int x1), (2, .int x2), (3, .int x3)]) hx hb dX6_turnOver_50 hl (by decide) rfl (fun ls hl => ?_)
      exact w_X6_turnOver_L52 F 2000 1 T H locs ls h hP hD hS (lv_sub hl [1, 2, 3, 4, 0] rfl)
    · have h := tx_neg c3 h
      refine lv_aload_n hx hb dX6_turnOver_21 rfl (lv_at hl 0 rfl) ?_
      refine lv_iload_n hx hb dX6_turnOver_22 rfl (lv_at hl 1 rfl) ?_
      refine lv_aload_n hx hb dX6_turnOver_23 rfl (lv_at hl 0 rfl) ?_
      refine va_get (D := G) (ci := 6) (v := .ref (ta 16)) (C := RX6) (T := TX6) (N := 20) hx hb hT ku_6 hown hK hP 0 rfl rfl 15 (by decide) (hT _ kw_7_14) (fun _ h9 => h9) rfl dX6_turnOver_24 ?_
      refine lv_iload_n hx hb dX6_turnOver_27 rfl (lv_at hl 2 rfl) ?_
      refine lv_iload hx hb dX6_turnOver_28 (lv_at hl 4 rfl) ?_
      refine lv_iadd hx hb dX6_turnOver_30 ?_
      obtain ⟨g20, h⟩ := tx_ck h
      refine va_iald (i := (x2 + x4)) hx hb hK hP 8 0 rfl rfl (tx_in g20) dX6_turnOver_31 ?_
      obtain ⟨r21, hc22, h⟩ := tx_bd h
      refine tz_i (As := [.int x1, .int (T 16 (x2 + x4).toNatClampNeg)]) (rest := []) ⟨hx, hb, hml, hown, hT⟩ hP hD hS hA hK hN (c_X6_turnedLevel l G cA H.size ta pa T P L x1 (T 16 (x2 + x4).toNatClampNeg)  r21 hc22) (tq_gV kw_38_15 kw_38_16 kw_38_17 kw_1_23 kw_38_18) rfl rfl dkdV_yX6_turnedLevel_2 (Nat.le_of_ble_eq_true rfl) (Nat.le_of_ble_eq_true rfl) (ci := 6) (q0 := 0) rfl rfl rfl hl.1 rfl (Nat.le_of_ble_eq_true rfl) dX6_turnOver_32 ⟨Nat.le_of_ble_eq_true rfl, Nat.le_of_ble_eq_true rfl⟩ (fun _ _ H locs z23 hP hD hS => ?_)
      have z23 := z23.symm
      subst z23
      have hP : va_P G vwCl (wTP cA ta pa T P L) H := hP
      have hD : va_D A (wTP cA ta pa T P L) := hD
      refine lv_iload hx hb dX6_turnOver_35 (lv_at hl 4 rfl) ?_
      refine lv_icmp_eq (tgt := 43) hx hb dX6_turnOver_37 (by decide) (fun c24 => ?_) (fun c24 => ?_)
      · have h := tx_pos c24 h
        obtain ⟨y25, ey25, h⟩ := tx_lt h
        refine lv_iinc (v := y25) (lv' := [(4, .int y25), (0, .ref (ta 0)), (1, .int x1), (2, .int x2), (3, .int x3)]) hx hb dX6_turnOver_43 hl (k := 4) rfl ey25 (by decide) rfl (fun ls hl => ?_)
        refine lv_goto (tgt := 10) hx hb dX6_turnOver_46 (by decide) ?_
        exact hk10 x3 y25 H locs ls h hP hD hS (lv_sub hl [1, 2, 3, 4, 0] rfl)
      · have h := tx_neg c24 h
        obtain ⟨y26, ey26, h⟩ := tx_lt h
        refine lv_iinc (v := y26) (lv' := [(3, .int y26), (0, .ref (ta 0)), (1, .int x1), (2, .int x2), (4, .int x4)]) hx hb dX6_turnOver_40 hl (k := 3) rfl ey26 (by decide) rfl (fun ls hl => ?_)
        obtain ⟨y27, ey27, h⟩ := tx_lt h
        refine lv_iinc (v := y27) (lv' := [(4, .int y27), (3, .int y26), (0, .ref (ta 0)), (1, .int x1), (2, .int x2)]) hx hb dX6_turnOver_43 hl (k := 4) rfl ey27 (by decide) rfl (fun ls hl => ?_)
        refine lv_goto (tgt := 10) hx hb dX6_turnOver_46 (by decide) ?_
        exact hk10 y26 y27 H locs ls h hP hD hS (lv_sub hl [2, 3, 4, 1, 0] rfl)
set_option maxHeartbeats 4000000 in
set_option maxRecDepth 100000 in
theorem c_X6_turnOver (l : Launch) (G : va_G) (cA : Nat → ClassId) (sz : Nat) (ta : Nat → Nat) (pa : Nat → Nat) (T : Tr) (P : Tr) (L : Lo) (x1 : Int32)  (r0 : Int32) (T' : Tr) (h : f_X6_turnOver T P x1 = some (r0, T')) : Met l yX6_turnOver (.code yX6_turnOver cX6_turnOver 7 (some .int) :: T0) ({ frames := 2, cells := 0, slots := 0, locals := 48 } : Room) (tqP G cA [.ref (ta 0), .int x1] (wTP cA ta pa T P L) sz) (tqQi G cA (fun (r : Int32) (_ : Unit) => r = r0) (fun (_ : Unit) => wTP cA ta pa (T') P L) (va_A (wTP cA ta pa T P L) sz)) 0 0 (va_A (wTP cA ta pa T P L) sz) := by
  refine Met.ofW (cc := cX6_turnOver) (maxL := 7) (ret := (some .int)) (by decide) rfl ?_
  intro p e s m args below meth c s₁ B hml hv
  obtain ⟨rfl, hsz, hP, hK, hD0, hN⟩ := hv
  have hx := B.exec
  have hb := B.bytes
  have hr := B.returns
  have hts := atoms_spec (ws := .code yX6_turnOver cX6_turnOver 7 (some .int) :: T0) B.pre
  have hT : ∀ w ∈ T0, w.before _ s = true := fun w h => hts w (List.mem_cons_of_mem _ h)
  have hown : s.vm.findClass RX6 = some m.cls := findClass_of_methodNamed B.named
  have hlocks := B.notSynchronized
  subst hsz
  have hD := hD0.self (sz := s.heap.size)
  generalize hAe : va_A (wTP cA ta pa T P L) s.heap.size = A at hD ⊢
  have hA : ∀ q : Nat, s.heap.size ≤ q → A q := fun q h => by rw [← hAe]; exact Or.inr h
  have hS : va_S A s.heap s.heap [] := va_S.rf
  have hl := lv_entry ([.ref (ta 0), .int x1]) (n := 7) (Nat.le_of_ble_eq_true rfl)
  rw [lg_entry_eq]
  generalize (lg_sl ([.ref (ta 0), .int x1]) ++ List.replicate (7 - (lg_sl ([.ref (ta 0), .int x1])).length) Slot.unset).toArray = ls at hl ⊢
  have hl : lv_has ls 7 [(0, .ref (ta 0)), (1, .int x1)] := hl
  have F : tF p s m ([.ref (ta 0), .int x1] : List Value).toArray meth c G cA A RX6 cX6_turnOver 7 (some .int) := ⟨hx, hb, hr, hml, hT, hown, hlocks, hK, hN, hA⟩
  obtain ⟨H, hH⟩ : ∃ z, z = s.heap := ⟨_, rfl⟩
  rw [← hH] at hP
  have hS : va_S A s.heap H [] := by rw [hH]; exact hS
  suffices hgo : G_X6_turnOver p l e s m below meth c G cA A ta pa P L x1 r0 T' H [] (F0 m 0 ls []) by rw [hH] at hgo; exact hgo
  generalize ([] : List Loc) = locs at hS ⊢
  unfold f_X6_turnOver at h
  refine lv_iload_n hx hb dX6_turnOver_0 rfl (lv_at hl 1 rfl) ?_
  refine lv_bipush (v := 10) hx hb dX6_turnOver_1 (by decide) ?_
  refine lv_imul hx hb dX6_turnOver_3 ?_
  refine lv_topi (fun y1 ey1 => ?_)
  have h := tx_let ey1 h
  refine lv_istore_n (lv' := [(2, .int y1), (0, .ref (ta 0)), (1, .int x1)]) hx hb dX6_turnOver_4 rfl hl (by decide) rfl (fun ls hl => ?_)
  refine lv_iconst (v := 0) hx hb dX6_turnOver_5 (by decide) ?_
  refine lv_istore_n (lv' := [(3, .int 0), (2, .int y1), (0, .ref (ta 0)), (1, .int x1)]) hx hb dX6_turnOver_6 rfl hl (by decide) rfl (fun ls hl => ?_)
  refine lv_iconst (v := 0) hx hb dX6_turnOver_7 (by decide) ?_
  refine lv_istore (lv' := [(4, .int 0), (3, .int 0), (2, .int y1), (0, .ref (ta 0)), (1, .int x1)]) hx hb dX6_turnOver_8 hl (by decide) rfl (fun ls hl => ?_)
  exact w_X6_turnOver_L10 F 2000 0 0 H locs ls h hP hD hS (lv_sub hl [3, 4, 2, 1, 0] rfl)
abbrev G_X2_clear (p : Program) (l : Launch) (e : Env) (s : State) (m : MethodId) (below : List Frame) (meth : Method) (c : Code) (G : va_G) (cA : Nat → ClassId) (A : Nat → Prop) (bA : Nat) (ka : Nat → Nat) (ra : Nat → Nat) (pa : Nat → Nat) (K : Tr) (R : Tr) (L : Lo) (P' : Tr) (H : Heap) (locs : List Loc) (g : JFrame) : Prop := W p l e (headSpec (.code yX2_clear cX2_clear 2 none :: T0) ({ frames := 0, cells := 0, slots := 0, locals := 0 } : Room)).room s m ([.ref (pa 0)] : List Value).toArray below meth c H locs 0 0 (MQ below (tqQv G cA (fun (_ : Unit) => True) (fun (_ : Unit) => wRP cA ka ra pa K R (P') L) A) ([.ref (pa 0)] : List Value).toArray s 0 0 A) g
set_option maxHeartbeats 4000000 in
set_option maxRecDepth 100000 in
theorem w_X2_clear_L59 {p : Program} {l : Launch} {e : Env} {s : State} {m : MethodId} {below : List Frame} {meth : Method} {c : Code} {G : va_G} {cA : Nat → ClassId} {A : Nat → Prop} {bA : Nat} {ka : Nat → Nat} {ra : Nat → Nat} {pa : Nat → Nat} {K : Tr} {R : Tr} {L : Lo} {P' : Tr} (F : tF p s m ([.ref (pa 0)] : List Value).toArray meth c G cA A RX2 cX2_clear 2 none) (hB : tqB bA A s s.heap)    (N : Nat) : ∀ (x1 : Int32) (P : Tr) (H : Heap) (locs : List Loc) (ls : Array Slot), lpF (fun _ _ => none) (fB_X2_clear_L59 ) N x1 P = some P' → va_P G vwCl (wRP cA ka ra pa K R P L) H → va_D A (wRP cA ka ra pa K R P L) → va_S A s.heap H locs → lv_has ls 2 [(0, .ref (pa 0)), (1, .int x1)] → G_X2_clear p l e s m below meth c G cA A bA ka ra pa K R L P' H locs (F0 m 59 ls []) := by
  obtain ⟨hx, hb, hr, hml, hT, hown, hlocks, hK, hN, hA⟩ := id F
  induction N with
  | zero =>
    intro x1 P H locs ls h
    have h : (none : Option (Tr)) = some P' := h
    cases h
  | succ N hk59 =>
    intro x1 P H locs ls h hP hD hS hl
    have h : fB_X2_clear_L59  (lpF (fun _ _ => none) (fB_X2_clear_L59 ) N) x1 P = some P' := h
    generalize hk59e : lpF (fun _ _ => none) (fB_X2_clear_L59 ) N = k59 at h hk59
    unfold fB_X2_clear_L59 at h
    refine lv_iload_n hx hb dX2_clear_59 rfl (lv_at hl 1 rfl) ?_
    refine lv_iconst (v := 3) hx hb dX2_clear_60 (by decide) ?_
    refine lv_icmp_ge (tgt := 80) hx hb dX2_clear_61 (by decide) (fun c9 => ?_) (fun c9 => ?_)
    · have h := tx_pos c9 h
      obtain rfl := tx_1 h
      exact W.vret hx hb hr (fun t ht hW => ⟨⟨(), rfl, trivial, by rw [ht]; exact hP, hD⟩, hS.F ht⟩) hS.2.2 dX2_clear_80
    · have h := tx_neg c9 h
      refine lv_aload_n hx hb dX2_clear_64 rfl (lv_at hl 0 rfl) ?_
      refine va_get (D := G) (ci := 2) (v := .ref (pa 19)) (C := RX2) (T := TX2) (N := 19) hx hb hT ku_2 hown hK hP 5 rfl rfl 18 (by decide) (hT _ kw_6_6) (fun _ h9 => h9) rfl dX2_clear_65 ?_
      refine lv_iload_n hx hb dX2_clear_68 rfl (lv_at hl 1 rfl) ?_
      obtain ⟨g10, h⟩ := tx_ck h
      refine va_aldq (i := x1) hx hb hK hP 17 4 rfl rfl (tx_in g10) dX2_clear_69 ?_
      refine W.eq (g2 := F0 m 70 ls (.ref (pa (30 + 3 * x1.toNatClampNeg)) :: [])) (by rw [lawsf_at _ (tx_n3 g10)]; rfl) ?_
      refine lv_iconst (v := 0) hx hb dX2_clear_70 (by decide) ?_
      refine va_put (D := G) (ci := 1) (v := .int 0) (ty := .int) (C := RX1) (T := TX1) (N := 3) hx hb hT ku_1 tyX1 tyX1_ok nmX1 hown hK hP hD hS (18 + 3 * x1.toNatClampNeg) (aLRP_0 (tx_n3 g10)) rfl 1 (by decide) (hT _ kw_7_1) (fun _ h9 => h9) rfl (by decide +kernel) rfl rfl (Nat.le_of_ble_eq_true rfl) dX2_clear_71 (fun H locs hP hD hS => ?_)
      obtain ⟨P_11, eP_11, h⟩ := tx_lt h
      rw [(sLRP_f1 (tx_n3 g10)), eP_11] at hP hD
      obtain ⟨y12, ey12, h⟩ := tx_lt h
      refine lv_iinc (v := y12) (lv' := [(1, .int y12), (0, .ref (pa 0))]) hx hb dX2_clear_74 hl (k := 1) rfl ey12 (by decide) rfl (fun ls hl => ?_)
      refine lv_goto (tgt := 59) hx hb dX2_clear_77 (by decide) ?_
      exact hk59 y12 P_11 H locs ls h hP hD hS (lv_sub hl [1, 0] rfl)
set_option maxHeartbeats 4000000 in
set_option maxRecDepth 100000 in
theorem w_X2_clear_L37 {p : Program} {l : Launch} {e : Env} {s : State} {m : MethodId} {below : List Frame} {meth : Method} {c : Code} {G : va_G} {cA : Nat → ClassId} {A : Nat → Prop} {bA : Nat} {ka : Nat → Nat} {ra : Nat → Nat} {pa : Nat → Nat} {K : Tr} {R : Tr} {L : Lo} {P' : Tr} (F : tF p s m ([.ref (pa 0)] : List Value).toArray meth c G cA A RX2 cX2_clear 2 none) (hB : tqB bA A s s.heap)    (N : Nat) : ∀ (x1 : Int32) (P : Tr) (H : Heap) (locs : List Loc) (ls : Array Slot), lpF (fun _ _ => none) (fB_X2_clear_L37 ) N x1 P = some P' → va_P G vwCl (wRP cA ka ra pa K R P L) H → va_D A (wRP cA ka ra pa K R P L) → va_S A s.heap H locs → lv_has ls 2 [(0, .ref (pa 0)), (1, .int x1)] → G_X2_clear p l e s m below meth c G cA A bA ka ra pa K R L P' H locs (F0 m 37 ls []) := by
  obtain ⟨hx, hb, hr, hml, hT, hown, hlocks, hK, hN, hA⟩ := id F
  induction N with
  | zero =>
    intro x1 P H locs ls h
    have h : (none : Option (Tr)) = some P' := h
    cases h
  | succ N hk37 =>
    intro x1 P H locs ls h hP hD hS hl
    have h : fB_X2_clear_L37  (lpF (fun _ _ => none) (fB_X2_clear_L37 ) N) x1 P = some P' := h
    generalize hk37e : lpF (fun _ _ => none) (fB_X2_clear_L37 ) N = k37 at h hk37
    unfold fB_X2_clear_L37 at h
    refine lv_iload_n hx hb dX2_clear_37 rfl (lv_at hl 1 rfl) ?_
    refine lv_bipush (v := 20) hx hb dX2_clear_38 (by decide) ?_
    refine lv_icmp_gt (tgt := 57) hx hb dX2_clear_40 (by decide) (fun c8 => ?_) (fun c8 => ?_)
    · have h := tx_pos c8 h
      refine lv_iconst (v := 0) hx hb dX2_clear_57 (by decide) ?_
      refine lv_istore_n (lv' := [(1, .int 0), (0, .ref (pa 0))]) hx hb dX2_clear_58 rfl hl (by decide) rfl (fun ls hl => ?_)
      exact w_X2_clear_L59 F hB 2000 0 P H locs ls h hP hD hS (lv_sub hl [1, 0] rfl)
    · have h := tx_neg c8 h
      refine lv_aload_n hx hb dX2_clear_43 rfl (lv_at hl 0 rfl) ?_
      refine va_get (D := G) (ci := 2) (v := .ref (pa 18)) (C := RX2) (T := TX2) (N := 19) hx hb hT ku_2 hown hK hP 5 rfl rfl 17 (by decide) (hT _ kw_6_4) (fun _ h9 => h9) rfl dX2_clear_44 ?_
      refine lv_iload_n hx hb dX2_clear_47 rfl (lv_at hl 1 rfl) ?_
      refine lv_bipush (v := 60) hx hb dX2_clear_48 (by decide) ?_
      obtain ⟨g13, h⟩ := tx_ck h
      refine va_iast (i := x1) hx hb hK hP hD hS 16 0 rfl rfl (tx_in g13) dX2_clear_50 (fun H locs hP hD hS => ?_)
      obtain ⟨P_14, eP_14, h⟩ := tx_lt h
      rw [sRP_pa_a17, eP_14] at hP hD
      obtain ⟨y15, ey15, h⟩ := tx_lt h
      refine lv_iinc (v := y15) (lv' := [(1, .int y15), (0, .ref (pa 0))]) hx hb dX2_clear_51 hl (k := 1) rfl ey15 (by decide) rfl (fun ls hl => ?_)
      refine lv_goto (tgt := 37) hx hb dX2_clear_54 (by decide) ?_
      exact hk37 y15 P_14 H locs ls h hP hD hS (lv_sub hl [1, 0] rfl)
set_option maxHeartbeats 4000000 in
set_option maxRecDepth 100000 in
theorem c_X2_clear (l : Launch) (G : va_G) (cA : Nat → ClassId) (sz : Nat) (bA : Nat) (ka : Nat → Nat) (ra : Nat → Nat) (pa : Nat → Nat) (K : Tr) (R : Tr) (P : Tr) (L : Lo)  (P' : Tr) (h : f_X2_clear P = some P') : Met l yX2_clear (.code yX2_clear cX2_clear 2 none :: T0) ({ frames := 0, cells := 0, slots := 0, locals := 0 } : Room) (tqPB bA G cA [.ref (pa 0)] (wRP cA ka ra pa K R P L) sz) (tqQv G cA (fun (_ : Unit) => True) (fun (_ : Unit) => wRP cA ka ra pa K R (P') L) (va_A (wRP cA ka ra pa K R P L) sz)) 0 0 (va_A (wRP cA ka ra pa K R P L) sz) := by
  refine Met.ofW (cc := cX2_clear) (maxL := 2) (ret := none) (by decide) rfl ?_
  intro p e s m args below meth c s₁ B hml hv
  obtain ⟨rfl, hsz, hP, hK, hD0, hN, hB⟩ := hv
  have hx := B.exec
  have hb := B.bytes
  have hr := B.returns
  have hts := atoms_spec (ws := .code yX2_clear cX2_clear 2 none :: T0) B.pre
  have hT : ∀ w ∈ T0, w.before _ s = true := fun w h => hts w (List.mem_cons_of_mem _ h)
  have hown : s.vm.findClass RX2 = some m.cls := findClass_of_methodNamed B.named
  have hlocks := B.notSynchronized
  subst hsz
  have hD := hD0.self (sz := s.heap.size)
  generalize hAe : va_A (wRP cA ka ra pa K R P L) s.heap.size = A at hD hB ⊢
  have hA : ∀ q : Nat, s.heap.size ≤ q → A q := fun q h => by rw [← hAe]; exact Or.inr h
  have hS : va_S A s.heap s.heap [] := va_S.rf
  have hl := lv_entry ([.ref (pa 0)]) (n := 2) (Nat.le_of_ble_eq_true rfl)
  rw [lg_entry_eq]
  generalize (lg_sl ([.ref (pa 0)]) ++ List.replicate (2 - (lg_sl ([.ref (pa 0)])).length) Slot.unset).toArray = ls at hl ⊢
  have hl : lv_has ls 2 [(0, .ref (pa 0))] := hl
  have F : tF p s m ([.ref (pa 0)] : List Value).toArray meth c G cA A RX2 cX2_clear 2 none := ⟨hx, hb, hr, hml, hT, hown, hlocks, hK, hN, hA⟩
  obtain ⟨H, hH⟩ : ∃ z, z = s.heap := ⟨_, rfl⟩
  rw [← hH] at hP
  have hS : va_S A s.heap H [] := by rw [hH]; exact hS
  suffices hgo : G_X2_clear p l e s m below meth c G cA A bA ka ra pa K R L P' H [] (F0 m 0 ls []) by rw [hH] at hgo; exact hgo
  generalize ([] : List Loc) = locs at hS ⊢
  unfold f_X2_clear at h
  refine lv_aload_n hx hb dX2_clear_0 rfl (lv_at hl 0 rfl) ?_
  refine lv_iconst (v := 0) hx hb dX2_clear_1 (by decide) ?_
  refine va_put (D := G) (ci := 2) (v := .int 0) (ty := .int) (C := RX2) (T := TX2) (N := 19) hx hb hT ku_2 tyX2 tyX2_ok nmX2 hown hK hP hD hS 5 rfl rfl 0 (by decide) (hT _ kw_6_18) (fun _ h9 => h9) rfl (by decide +kernel) rfl rfl (Nat.le_of_ble_eq_true rfl) dX2_clear_2 (fun H locs hP hD hS => ?_)
  obtain ⟨P_1, eP_1, h⟩ := tx_lt h
  rw [sRP_pa_f0, eP_1] at hP hD
  refine lv_aload_n hx hb dX2_clear_5 rfl (lv_at hl 0 rfl) ?_
  refine lv_iconst (v := 0) hx hb dX2_clear_6 (by decide) ?_
  refine va_put (D := G) (ci := 2) (v := .int 0) (ty := .int) (C := RX2) (T := TX2) (N := 19) hx hb hT ku_2 tyX2 tyX2_ok nmX2 hown hK hP hD hS 5 rfl rfl 1 (by decide) (hT _ kw_6_19) (fun _ h9 => h9) rfl (by decide +kernel) rfl rfl (Nat.le_of_ble_eq_true rfl) dX2_clear_7 (fun H locs hP hD hS => ?_)
  obtain ⟨P_2, eP_2, h⟩ := tx_lt h
  rw [sRP_pa_f1, eP_2] at hP hD
  refine lv_aload_n hx hb dX2_clear_10 rfl (lv_at hl 0 rfl) ?_
  refine lv_iconst (v := 0) hx hb dX2_clear_11 (by decide) ?_
  refine va_put (D := G) (ci := 2) (v := .int 0) (ty := .int) (C := RX2) (T := TX2) (N := 19) hx hb hT ku_2 tyX2 tyX2_ok nmX2 hown hK hP hD hS 5 rfl rfl 2 (by decide) (hT _ kw_6_20) (fun _ h9 => h9) rfl (by decide +kernel) rfl rfl (Nat.le_of_ble_eq_true rfl) dX2_clear_12 (fun H locs hP hD hS => ?_)
  obtain ⟨P_3, eP_3, h⟩ := tx_lt h
  rw [sRP_pa_f2, eP_3] at hP hD
  refine lv_aload_n hx hb dX2_clear_15 rfl (lv_at hl 0 rfl) ?_
  refine lv_iconst (v := 0) hx hb dX2_clear_16 (by decide) ?_
  refine va_put (D := G) (ci := 2) (v := .int 0) (ty := .int) (C := RX2) (T := TX2) (N := 19) hx hb hT ku_2 tyX2 tyX2_ok nmX2 hown hK hP hD hS 5 rfl rfl 3 (by decide) (hT _ kw_6_21) (fun _ h9 => h9) rfl (by decide +kernel) rfl rfl (Nat.le_of_ble_eq_true rfl) dX2_clear_17 (fun H locs hP hD hS => ?_)
  obtain ⟨P_4, eP_4, h⟩ := tx_lt h
  rw [sRP_pa_f3, eP_4] at hP hD
  refine lv_aload_n hx hb dX2_clear_20 rfl (lv_at hl 0 rfl) ?_
  refine lv_iconst (v := 0) hx hb dX2_clear_21 (by decide) ?_
  refine va_put (D := G) (ci := 2) (v := .int 0) (ty := .int) (C := RX2) (T := TX2) (N := 19) hx hb hT ku_2 tyX2 tyX2_ok nmX2 hown hK hP hD hS 5 rfl rfl 4 (by decide) (hT _ kw_6_22) (fun _ h9 => h9) rfl (by decide +kernel) rfl rfl (Nat.le_of_ble_eq_true rfl) dX2_clear_22 (fun H locs hP hD hS => ?_)
  obtain ⟨P_5, eP_5, h⟩ := tx_lt h
  rw [sRP_pa_f4, eP_5] at hP hD
  refine lv_aload_n hx hb dX2_clear_25 rfl (lv_at hl 0 rfl) ?_
  refine lv_iconst (v := 0) hx hb dX2_clear_26 (by decide) ?_
  refine va_put (D := G) (ci := 2) (v := .int 0) (ty := .int) (C := RX2) (T := TX2) (N := 19) hx hb hT ku_2 tyX2 tyX2_ok nmX2 hown hK hP hD hS 5 rfl rfl 5 (by decide) (hT _ kw_6_23) (fun _ h9 => h9) rfl (by decide +kernel) rfl rfl (Nat.le_of_ble_eq_true rfl) dX2_clear_27 (fun H locs hP hD hS => ?_)
  obtain ⟨P_6, eP_6, h⟩ := tx_lt h
  rw [sRP_pa_f5, eP_6] at hP hD
  refine lv_aload_n hx hb dX2_clear_30 rfl (lv_at hl 0 rfl) ?_
  refine lv_iconst (v := 0) hx hb dX2_clear_31 (by decide) ?_
  refine va_put (D := G) (ci := 2) (v := .int 0) (ty := .int) (C := RX2) (T := TX2) (N := 19) hx hb hT ku_2 tyX2 tyX2_ok nmX2 hown hK hP hD hS 5 rfl rfl 6 (by decide) (hT _ kw_7_0) (fun _ h9 => h9) rfl (by decide +kernel) rfl rfl (Nat.le_of_ble_eq_true rfl) dX2_clear_32 (fun H locs hP hD hS => ?_)
  obtain ⟨P_7, eP_7, h⟩ := tx_lt h
  rw [sRP_pa_f6, eP_7] at hP hD
  refine lv_iconst (v := 0) hx hb dX2_clear_35 (by decide) ?_
  refine lv_istore_n (lv' := [(1, .int 0), (0, .ref (pa 0))]) hx hb dX2_clear_36 rfl hl (by decide) rfl (fun ls hl => ?_)
  exact w_X2_clear_L37 F hB 2000 0 P_7 H locs ls h hP hD hS (lv_sub hl [1, 0] rfl)
abbrev G_X5_at (p : Program) (l : Launch) (e : Env) (s : State) (m : MethodId) (below : List Frame) (meth : Method) (c : Code) (G : va_G) (cA : Nat → ClassId) (A : Nat → Prop) (bA : Nat) (ka : Nat → Nat) (ra : Nat → Nat) (pa : Nat → Nat) (K : Tr) (R : Tr) (P : Tr) (L : Lo) (x1 : Int32) (r0 : Int32) (H : Heap) (locs : List Loc) (g : JFrame) : Prop := W p l e (headSpec (.code yX5_at cX5_at 2 (some .int) :: T0) ({ frames := 0, cells := 0, slots := 0, locals := 0 } : Room)).room s m ([.ref (ka 0), .int x1] : List Value).toArray below meth c H locs 0 0 (MQ below (tqQi G cA (fun (r : Int32) (_ : Unit) => r = r0) (fun (_ : Unit) => wRP cA ka ra pa K R P L) A) ([.ref (ka 0), .int x1] : List Value).toArray s 0 0 A) g
set_option maxHeartbeats 4000000 in
set_option maxRecDepth 100000 in
theorem c_X5_at (l : Launch) (G : va_G) (cA : Nat → ClassId) (sz : Nat) (bA : Nat) (ka : Nat → Nat) (ra : Nat → Nat) (pa : Nat → Nat) (K : Tr) (R : Tr) (P : Tr) (L : Lo) (x1 : Int32)  (r0 : Int32) (h : f_X5_at K x1 = some r0) : Met l yX5_at (.code yX5_at cX5_at 2 (some .int) :: T0) ({ frames := 0, cells := 0, slots := 0, locals := 0 } : Room) (tqPB bA G cA [.ref (ka 0), .int x1] (wRP cA ka ra pa K R P L) sz) (tqQi G cA (fun (r : Int32) (_ : Unit) => r = r0) (fun (_ : Unit) => wRP cA ka ra pa K R P L) (va_A (wRP cA ka ra pa K R P L) sz)) 0 0 (va_A (wRP cA ka ra pa K R P L) sz) := by
  refine Met.ofW (cc := cX5_at) (maxL := 2) (ret := (some .int)) (by decide) rfl ?_
  intro p e s m args below meth c s₁ B hml hv
  obtain ⟨rfl, hsz, hP, hK, hD0, hN, hB⟩ := hv
  have hx := B.exec
  have hb := B.bytes
  have hr := B.returns
  have hts := atoms_spec (ws := .code yX5_at cX5_at 2 (some .int) :: T0) B.pre
  have hT : ∀ w ∈ T0, w.before _ s = true := fun w h => hts w (List.mem_cons_of_mem _ h)
  have hown : s.vm.findClass RX5 = some m.cls := findClass_of_methodNamed B.named
  have hlocks := B.notSynchronized
  subst hsz
  have hD := hD0.self (sz := s.heap.size)
  generalize hAe : va_A (wRP cA ka ra pa K R P L) s.heap.size = A at hD hB ⊢
  have hA : ∀ q : Nat, s.heap.size ≤ q → A q := fun q h => by rw [← hAe]; exact Or.inr h
  have hS : va_S A s.heap s.heap [] := va_S.rf
  have hl := lv_entry ([.ref (ka 0), .int x1]) (n := 2) (Nat.le_of_ble_eq_true rfl)
  rw [lg_entry_eq]
  generalize (lg_sl ([.ref (ka 0), .int x1]) ++ List.replicate (2 - (lg_sl ([.ref (ka 0), .int x1])).length) Slot.unset).toArray = ls at hl ⊢
  have hl : lv_has ls 2 [(0, .ref (ka 0)), (1, .int x1)] := hl
  have F : tF p s m ([.ref (ka 0), .int x1] : List Value).toArray meth c G cA A RX5 cX5_at 2 (some .int) := ⟨hx, hb, hr, hml, hT, hown, hlocks, hK, hN, hA⟩
  obtain ⟨H, hH⟩ : ∃ z, z = s.heap := ⟨_, rfl⟩
  rw [← hH] at hP
  have hS : va_S A s.heap H [] := by rw [hH]; exact hS
  suffices hgo : G_X5_at p l e s m below meth c G cA A bA ka ra pa K R P L x1 r0 H [] (F0 m 0 ls []) by rw [hH] at hgo; exact hgo
  generalize ([] : List Loc) = locs at hS ⊢
  unfold f_X5_at at h
  refine lv_iload_n hx hb dX5_at_0 rfl (lv_at hl 1 rfl) ?_
  refine lv_if_lt (tgt := 32) hx hb dX5_at_1 (by decide) (fun c1 => ?_) (fun c1 => ?_)
  · have h := tx_pos c1 h
    refine lv_iconst (v := (-1)) hx hb dX5_at_32 (by decide) ?_
    obtain rfl := tx_1 h
    exact W.iret hx hb hr (fun t ht hW => ⟨⟨_, (), rfl, rfl, by rw [ht]; exact hP, hD⟩, hS.F ht⟩) hS.2.2 dX5_at_33
  · have h := tx_neg c1 h
    refine lv_iload_n hx hb dX5_at_4 rfl (lv_at hl 1 rfl) ?_
    refine lv_aload_n hx hb dX5_at_5 rfl (lv_at hl 0 rfl) ?_
    refine va_get (D := G) (ci := 5) (v := .int (K 0 6)) (C := RX5) (T := TX5) (N := 8) hx hb hT ku_5 hown hK hP 0 rfl rfl 6 (by decide) (hT _ kw_14_21) (fun _ h9 => h9) rfl dX5_at_6 ?_
    refine lv_icmp_ge (tgt := 32) hx hb dX5_at_9 (by decide) (fun c2 => ?_) (fun c2 => ?_)
    · have h := tx_pos c2 h
      refine lv_iconst (v := (-1)) hx hb dX5_at_32 (by decide) ?_
      obtain rfl := tx_1 h
      exact W.iret hx hb hr (fun t ht hW => ⟨⟨_, (), rfl, rfl, by rw [ht]; exact hP, hD⟩, hS.F ht⟩) hS.2.2 dX5_at_33
    · have h := tx_neg c2 h
      refine lv_iload_n hx hb dX5_at_12 rfl (lv_at hl 1 rfl) ?_
      refine lv_sipush (v := 700) hx hb dX5_at_13 (by decide) ?_
      refine lv_icmp_ge (tgt := 32) hx hb dX5_at_16 (by decide) (fun c3 => ?_) (fun c3 => ?_)
      · have h := tx_pos c3 h
        refine lv_iconst (v := (-1)) hx hb dX5_at_32 (by decide) ?_
        obtain rfl := tx_1 h
        exact W.iret hx hb hr (fun t ht hW => ⟨⟨_, (), rfl, rfl, by rw [ht]; exact hP, hD⟩, hS.F ht⟩) hS.2.2 dX5_at_33
      · have h := tx_neg c3 h
        refine lv_aload_n hx hb dX5_at_19 rfl (lv_at hl 0 rfl) ?_
        refine va_get (D := G) (ci := 5) (v := .ref (ka 5)) (C := RX5) (T := TX5) (N := 8) hx hb hT ku_5 hown hK hP 0 rfl rfl 4 (by decide) (hT _ kw_3_11) (fun _ h9 => h9) rfl dX5_at_20 ?_
        refine lv_iload_n hx hb dX5_at_23 rfl (lv_at hl 1 rfl) ?_
        obtain ⟨g4, h⟩ := tx_ck h
        refine va_bald (i := x1) hx hb hK hP 1 3 rfl rfl (tx_in g4) dX5_at_24 ?_
        refine lv_sipush (v := 255) hx hb dX5_at_25 (by decide) ?_
        refine lv_iand hx hb dX5_at_28 ?_
        refine lv_goto (tgt := 33) hx hb dX5_at_29 (by decide) ?_
        obtain rfl := tx_1 h
        exact W.iret hx hb hr (fun t ht hW => ⟨⟨_, (), rfl, rfl, by rw [ht]; exact hP, hD⟩, hS.F ht⟩) hS.2.2 dX5_at_33
abbrev G_X5_isBlank (p : Program) (l : Launch) (e : Env) (s : State) (m : MethodId) (below : List Frame) (meth : Method) (c : Code) (G : va_G) (cA : Nat → ClassId) (A : Nat → Prop) (x0 : Int32) (r0 : Int32) (H : Heap) (locs : List Loc) (g : JFrame) : Prop := W p l e (headSpec (.code yX5_isBlank cX5_isBlank 1 (some .boolean) :: T0) ({ frames := 0, cells := 0, slots := 0, locals := 0 } : Room)).room s m ([.int x0] : List Value).toArray below meth c H locs 0 0 (MQ below (tqQi G cA (fun (r : Int32) (_ : Unit) => r = r0) (fun (_ : Unit) => ([] : va_W)) A) ([.int x0] : List Value).toArray s 0 0 A) g
set_option maxHeartbeats 4000000 in
set_option maxRecDepth 100000 in
theorem c_X5_isBlank (l : Launch) (G : va_G) (cA : Nat → ClassId) (sz : Nat) (x0 : Int32)  (r0 : Int32) (h : f_X5_isBlank x0 = some r0) : Met l yX5_isBlank (.code yX5_isBlank cX5_isBlank 1 (some .boolean) :: T0) ({ frames := 0, cells := 0, slots := 0, locals := 0 } : Room) (tqP G cA [.int x0] (([] : va_W)) sz) (tqQi G cA (fun (r : Int32) (_ : Unit) => r = r0) (fun (_ : Unit) => ([] : va_W)) (va_A (([] : va_W)) sz)) 0 0 (va_A (([] : va_W)) sz) := by
  refine Met.ofW (cc := cX5_isBlank) (maxL := 1) (ret := (some .boolean)) (by decide) rfl ?_
  intro p e s m args below meth c s₁ B hml hv
  obtain ⟨rfl, hsz, hP, hK, hD0, hN⟩ := hv
  have hx := B.exec
  have hb := B.bytes
  have hr := B.returns
  have hts := atoms_spec (ws := .code yX5_isBlank cX5_isBlank 1 (some .boolean) :: T0) B.pre
  have hT : ∀ w ∈ T0, w.before _ s = true := fun w h => hts w (List.mem_cons_of_mem _ h)
  have hown : s.vm.findClass RX5 = some m.cls := findClass_of_methodNamed B.named
  have hlocks := B.notSynchronized
  subst hsz
  have hD := hD0.self (sz := s.heap.size)
  generalize hAe : va_A (([] : va_W)) s.heap.size = A at hD ⊢
  have hA : ∀ q : Nat, s.heap.size ≤ q → A q := fun q h => by rw [← hAe]; exact Or.inr h
  have hS : va_S A s.heap s.heap [] := va_S.rf
  have hl := lv_entry ([.int x0]) (n := 1) (Nat.le_of_ble_eq_true rfl)
  rw [lg_entry_eq]
  generalize (lg_sl ([.int x0]) ++ List.replicate (1 - (lg_sl ([.int x0])).length) Slot.unset).toArray = ls at hl ⊢
  have hl : lv_has ls 1 [(0, .int x0)] := hl
  have F : tF p s m ([.int x0] : List Value).toArray meth c G cA A RX5 cX5_isBlank 1 (some .boolean) := ⟨hx, hb, hr, hml, hT, hown, hlocks, hK, hN, hA⟩
  obtain ⟨H, hH⟩ : ∃ z, z = s.heap := ⟨_, rfl⟩
  rw [← hH] at hP
  have hS : va_S A s.heap H [] := by rw [hH]; exact hS
  suffices hgo : G_X5_isBlank p l e s m below meth c G cA A x0 r0 H [] (F0 m 0 ls []) by rw [hH] at hgo; exact hgo
  generalize ([] : List Loc) = locs at hS ⊢
  unfold f_X5_isBlank at h
  refine lv_iload_n hx hb dX5_isBlank_0 rfl (lv_at hl 0 rfl) ?_
  refine lv_bipush (v := 10) hx hb dX5_isBlank_1 (by decide) ?_
  refine lv_icmp_eq (tgt := 12) hx hb dX5_isBlank_3 (by decide) (fun c1 => ?_) (fun c1 => ?_)
  · have h := tx_pos c1 h
    refine lv_iconst (v := 1) hx hb dX5_isBlank_12 (by decide) ?_
    refine lv_goto (tgt := 17) hx hb dX5_isBlank_13 (by decide) ?_
    obtain rfl := tx_1 h
    exact W.zret (ty := .boolean) hx hb hr rfl (fun t ht hW => ⟨⟨_, (), rfl, rfl, by rw [ht]; exact hP, hD⟩, hS.F ht⟩) hS.2.2 dX5_isBlank_17
  · have h := tx_neg c1 h
    refine lv_iload_n hx hb dX5_isBlank_6 rfl (lv_at hl 0 rfl) ?_
    refine lv_bipush (v := 32) hx hb dX5_isBlank_7 (by decide) ?_
    refine lv_icmp_ne (tgt := 16) hx hb dX5_isBlank_9 (by decide) (fun c2 => ?_) (fun c2 => ?_)
    · have h := tx_neg c2 h
      refine lv_iconst (v := 0) hx hb dX5_isBlank_16 (by decide) ?_
      obtain rfl := tx_1 h
      exact W.zret (ty := .boolean) hx hb hr rfl (fun t ht hW => ⟨⟨_, (), rfl, rfl, by rw [ht]; exact hP, hD⟩, hS.F ht⟩) hS.2.2 dX5_isBlank_17
    · have h := tx_pos c2 h
      refine lv_iconst (v := 1) hx hb dX5_isBlank_12 (by decide) ?_
      refine lv_goto (tgt := 17) hx hb dX5_isBlank_13 (by decide) ?_
      obtain rfl := tx_1 h
      exact W.zret (ty := .boolean) hx hb hr rfl (fun t ht hW => ⟨⟨_, (), rfl, rfl, by rw [ht]; exact hP, hD⟩, hS.F ht⟩) hS.2.2 dX5_isBlank_17
abbrev G_X5_isLetter (p : Program) (l : Launch) (e : Env) (s : State) (m : MethodId) (below : List Frame) (meth : Method) (c : Code) (G : va_G) (cA : Nat → ClassId) (A : Nat → Prop) (x0 : Int32) (r0 : Int32) (H : Heap) (locs : List Loc) (g : JFrame) : Prop := W p l e (headSpec (.code yX5_isLetter cX5_isLetter 1 (some .boolean) :: T0) ({ frames := 0, cells := 0, slots := 0, locals := 0 } : Room)).room s m ([.int x0] : List Value).toArray below meth c H locs 0 0 (MQ below (tqQi G cA (fun (r : Int32) (_ : Unit) => r = r0) (fun (_ : Unit) => ([] : va_W)) A) ([.int x0] : List Value).toArray s 0 0 A) g
set_option maxHeartbeats 4000000 in
set_option maxRecDepth 100000 in
theorem c_X5_isLetter (l : Launch) (G : va_G) (cA : Nat → ClassId) (sz : Nat) (x0 : Int32)  (r0 : Int32) (h : f_X5_isLetter x0 = some r0) : Met l yX5_isLetter (.code yX5_isLetter cX5_isLetter 1 (some .boolean) :: T0) ({ frames := 0, cells := 0, slots := 0, locals := 0 } : Room) (tqP G cA [.int x0] (([] : va_W)) sz) (tqQi G cA (fun (r : Int32) (_ : Unit) => r = r0) (fun (_ : Unit) => ([] : va_W)) (va_A (([] : va_W)) sz)) 0 0 (va_A (([] : va_W)) sz) := by
  refine Met.ofW (cc := cX5_isLetter) (maxL := 1) (ret := (some .boolean)) (by decide) rfl ?_
  intro p e s m args below meth c s₁ B hml hv
  obtain ⟨rfl, hsz, hP, hK, hD0, hN⟩ := hv
  have hx := B.exec
  have hb := B.bytes
  have hr := B.returns
  have hts := atoms_spec (ws := .code yX5_isLetter cX5_isLetter 1 (some .boolean) :: T0) B.pre
  have hT : ∀ w ∈ T0, w.before _ s = true := fun w h => hts w (List.mem_cons_of_mem _ h)
  have hown : s.vm.findClass RX5 = some m.cls := findClass_of_methodNamed B.named
  have hlocks := B.notSynchronized
  subst hsz
  have hD := hD0.self (sz := s.heap.size)
  generalize hAe : va_A (([] : va_W)) s.heap.size = A at hD ⊢
  have hA : ∀ q : Nat, s.heap.size ≤ q → A q := fun q h => by rw [← hAe]; exact Or.inr h
  have hS : va_S A s.heap s.heap [] := va_S.rf
  have hl := lv_entry ([.int x0]) (n := 1) (Nat.le_of_ble_eq_true rfl)
  rw [lg_entry_eq]
  generalize (lg_sl ([.int x0]) ++ List.replicate (1 - (lg_sl ([.int x0])).length) Slot.unset).toArray = ls at hl ⊢
  have hl : lv_has ls 1 [(0, .int x0)] := hl
  have F : tF p s m ([.int x0] : List Value).toArray meth c G cA A RX5 cX5_isLetter 1 (some .boolean) := ⟨hx, hb, hr, hml, hT, hown, hlocks, hK, hN, hA⟩
  obtain ⟨H, hH⟩ : ∃ z, z = s.heap := ⟨_, rfl⟩
  rw [← hH] at hP
  have hS : va_S A s.heap H [] := by rw [hH]; exact hS
  suffices hgo : G_X5_isLetter p l e s m below meth c G cA A x0 r0 H [] (F0 m 0 ls []) by rw [hH] at hgo; exact hgo
  generalize ([] : List Loc) = locs at hS ⊢
  unfold f_X5_isLetter at h
  refine lv_iload_n hx hb dX5_isLetter_0 rfl (lv_at hl 0 rfl) ?_
  refine lv_bipush (v := 97) hx hb dX5_isLetter_1 (by decide) ?_
  refine lv_icmp_lt (tgt := 16) hx hb dX5_isLetter_3 (by decide) (fun c1 => ?_) (fun c1 => ?_)
  · have h := tx_pos c1 h
    refine lv_iconst (v := 0) hx hb dX5_isLetter_16 (by decide) ?_
    obtain rfl := tx_1 h
    exact W.zret (ty := .boolean) hx hb hr rfl (fun t ht hW => ⟨⟨_, (), rfl, rfl, by rw [ht]; exact hP, hD⟩, hS.F ht⟩) hS.2.2 dX5_isLetter_17
  · have h := tx_neg c1 h
    refine lv_iload_n hx hb dX5_isLetter_6 rfl (lv_at hl 0 rfl) ?_
    refine lv_bipush (v := 122) hx hb dX5_isLetter_7 (by decide) ?_
    refine lv_icmp_gt (tgt := 16) hx hb dX5_isLetter_9 (by decide) (fun c2 => ?_) (fun c2 => ?_)
    · have h := tx_pos c2 h
      refine lv_iconst (v := 0) hx hb dX5_isLetter_16 (by decide) ?_
      obtain rfl := tx_1 h
      exact W.zret (ty := .boolean) hx hb hr rfl (fun t ht hW => ⟨⟨_, (), rfl, rfl, by rw [ht]; exact hP, hD⟩, hS.F ht⟩) hS.2.2 dX5_isLetter_17
    · have h := tx_neg c2 h
      refine lv_iconst (v := 1) hx hb dX5_isLetter_12 (by decide) ?_
      refine lv_goto (tgt := 17) hx hb dX5_isLetter_13 (by decide) ?_
      obtain rfl := tx_1 h
      exact W.zret (ty := .boolean) hx hb hr rfl (fun t ht hW => ⟨⟨_, (), rfl, rfl, by rw [ht]; exact hP, hD⟩, hS.F ht⟩) hS.2.2 dX5_isLetter_17
abbrev G_X5_readWord (p : Program) (l : Launch) (e : Env) (s : State) (m : MethodId) (below : List Frame) (meth : Method) (c : Code) (G : va_G) (cA : Nat → ClassId) (A : Nat → Prop) (bA : Nat) (ka : Nat → Nat) (ra : Nat → Nat) (pa : Nat → Nat) (R : Tr) (P : Tr) (L : Lo) (K' : Tr) (H : Heap) (locs : List Loc) (g : JFrame) : Prop := W p l e (headSpec (.code yX5_readWord cX5_readWord 4 none :: T0) ({ frames := 1, cells := 0, slots := 0, locals := 21 } : Room)).room s m ([.ref (ka 0)] : List Value).toArray below meth c H locs 0 0 (MQ below (tqQv G cA (fun (_ : Unit) => True) (fun (_ : Unit) => wRP cA ka ra pa (K') R P L) A) ([.ref (ka 0)] : List Value).toArray s 0 0 A) g
set_option maxHeartbeats 4000000 in
set_option maxRecDepth 100000 in
theorem w_X5_readWord_L115 {p : Program} {l : Launch} {e : Env} {s : State} {m : MethodId} {below : List Frame} {meth : Method} {c : Code} {G : va_G} {cA : Nat → ClassId} {A : Nat → Prop} {bA : Nat} {ka : Nat → Nat} {ra : Nat → Nat} {pa : Nat → Nat} {R : Tr} {P : Tr} {L : Lo} {K' : Tr} (F : tF p s m ([.ref (ka 0)] : List Value).toArray meth c G cA A RX5 cX5_readWord 4 none) (hB : tqB bA A s s.heap)    (N : Nat) : ∀ (x3 : Int32) (K : Tr) (H : Heap) (locs : List Loc) (ls : Array Slot), lpF (fun _ _ => none) (fB_X5_readWord_L115 ) N x3 K = some K' → va_P G vwCl (wRP cA ka ra pa K R P L) H → va_D A (wRP cA ka ra pa K R P L) → va_S A s.heap H locs → lv_has ls 4 [(0, .ref (ka 0)), (3, .int x3)] → G_X5_readWord p l e s m below meth c G cA A bA ka ra pa R P L K' H locs (F0 m 115 ls []) := by
  obtain ⟨hx, hb, hr, hml, hT, hown, hlocks, hK, hN, hA⟩ := id F
  induction N with
  | zero =>
    intro x3 K H locs ls h
    have h : (none : Option (Tr)) = some K' := h
    cases h
  | succ N hk115 =>
    intro x3 K H locs ls h hP hD hS hl
    have h : fB_X5_readWord_L115  (lpF (fun _ _ => none) (fB_X5_readWord_L115 ) N) x3 K = some K' := h
    generalize hk115e : lpF (fun _ _ => none) (fB_X5_readWord_L115 ) N = k115 at h hk115
    unfold fB_X5_readWord_L115 at h
    refine lv_iload_n hx hb dX5_readWord_115 rfl (lv_at hl 1 rfl) ?_
    refine lv_bipush (v := 29) hx hb dX5_readWord_116 (by decide) ?_
    refine lv_icmp_ge (tgt := 145) hx hb dX5_readWord_118 (by decide) (fun c6 => ?_) (fun c6 => ?_)
    · have h := tx_pos c6 h
      obtain rfl := tx_1 h
      exact W.vret hx hb hr (fun t ht hW => ⟨⟨(), rfl, trivial, by rw [ht]; exact hP, hD⟩, hS.F ht⟩) hS.2.2 dX5_readWord_145
    · have h := tx_neg c6 h
      refine lv_aload_n hx hb dX5_readWord_121 rfl (lv_at hl 0 rfl) ?_
      refine va_get (D := G) (ci := 5) (v := .ref (ka 6)) (C := RX5) (T := TX5) (N := 8) hx hb hT ku_5 hown hK hP 0 rfl rfl 5 (by decide) (hT _ kw_3_12) (fun _ h9 => h9) rfl dX5_readWord_122 ?_
      refine lv_iload_n hx hb dX5_readWord_125 rfl (lv_at hl 1 rfl) ?_
      obtain ⟨g7, h⟩ := tx_ck h
      refine va_iald (i := x3) hx hb hK hP 2 0 rfl rfl (tx_in g7) dX5_readWord_126 ?_
      refine lv_aload_n hx hb dX5_readWord_127 rfl (lv_at hl 0 rfl) ?_
      refine va_get (D := G) (ci := 5) (v := .int (K 0 3)) (C := RX5) (T := TX5) (N := 8) hx hb hT ku_5 hown hK hP 0 rfl rfl 3 (by decide) (hT _ kw_15_19) (fun _ h9 => h9) rfl dX5_readWord_128 ?_
      refine lv_icmp_ne (tgt := 139) hx hb dX5_readWord_131 (by decide) (fun c8 => ?_) (fun c8 => ?_)
      · have h := tx_neg c8 h
        obtain ⟨y9, ey9, h⟩ := tx_lt h
        refine lv_iinc (v := y9) (lv' := [(3, .int y9), (0, .ref (ka 0))]) hx hb dX5_readWord_139 hl (k := 1) rfl ey9 (by decide) rfl (fun ls hl => ?_)
        refine lv_goto (tgt := 115) hx hb dX5_readWord_142 (by decide) ?_
        exact hk115 y9 K H locs ls h hP hD hS (lv_sub hl [1, 0] rfl)
      · have h := tx_pos c8 h
        refine lv_aload_n hx hb dX5_readWord_134 rfl (lv_at hl 0 rfl) ?_
        refine lv_iload_n hx hb dX5_readWord_135 rfl (lv_at hl 1 rfl) ?_
        refine va_put (D := G) (ci := 5) (v := .int x3) (ty := .int) (C := RX5) (T := TX5) (N := 8) hx hb hT ku_5 tyX5 tyX5_ok nmX5 hown hK hP hD hS 0 rfl rfl 1 (by decide) (hT _ kw_15_4) (fun _ h9 => h9) rfl (by decide +kernel) rfl rfl (Nat.le_of_ble_eq_true rfl) dX5_readWord_136 (fun H locs hP hD hS => ?_)
        obtain ⟨K_10, eK_10, h⟩ := tx_lt h
        rw [sRP_ka_f1, eK_10] at hP hD
        obtain ⟨y11, ey11, h⟩ := tx_lt h
        refine lv_iinc (v := y11) (lv' := [(3, .int y11), (0, .ref (ka 0))]) hx hb dX5_readWord_139 hl (k := 1) rfl ey11 (by decide) rfl (fun ls hl => ?_)
        refine lv_goto (tgt := 115) hx hb dX5_readWord_142 (by decide) ?_
        exact hk115 y11 K_10 H locs ls h hP hD hS (lv_sub hl [1, 0] rfl)
set_option maxHeartbeats 4000000 in
set_option maxRecDepth 100000 in
theorem w_X5_readWord_J72 {p : Program} {l : Launch} {e : Env} {s : State} {m : MethodId} {below : List Frame} {meth : Method} {c : Code} {G : va_G} {cA : Nat → ClassId} {A : Nat → Prop} {bA : Nat} {ka : Nat → Nat} {ra : Nat → Nat} {pa : Nat → Nat} {R : Tr} {P : Tr} {L : Lo} {K' : Tr} (F : tF p s m ([.ref (ka 0)] : List Value).toArray meth c G cA A RX5 cX5_readWord 4 none) (hB : tqB bA A s s.heap)    (x1 : Int32) (K : Tr) (H : Heap) (locs : List Loc) (ls : Array Slot) (h : fJ_X5_readWord_J72 x1 K = some K') (hP : va_P G vwCl (wRP cA ka ra pa K R P L) H) (hD : va_D A (wRP cA ka ra pa K R P L)) (hS : va_S A s.heap H locs) (hl : lv_has ls 4 [(0, .ref (ka 0)), (1, .int x1)]) : G_X5_readWord p l e s m below meth c G cA A bA ka ra pa R P L K' H locs (F0 m 72 ls []) := by
  obtain ⟨hx, hb, hr, hml, hT, hown, hlocks, hK, hN, hA⟩ := id F
  unfold fJ_X5_readWord_J72 at h
  refine lv_aload_n hx hb dX5_readWord_72 rfl (lv_at hl 0 rfl) ?_
  refine va_get (D := G) (ci := 5) (v := .int (K 0 7)) (C := RX5) (T := TX5) (N := 8) hx hb hT ku_5 hown hK hP 0 rfl rfl 7 (by decide) (hT _ kw_14_22) (fun _ h9 => h9) rfl dX5_readWord_73 ?_
  refine lv_aload_n hx hb dX5_readWord_76 rfl (lv_at hl 0 rfl) ?_
  refine va_get (D := G) (ci := 5) (v := .int (K 0 2)) (C := RX5) (T := TX5) (N := 8) hx hb hT ku_5 hown hK hP 0 rfl rfl 2 (by decide) (hT _ kw_15_3) (fun _ h9 => h9) rfl dX5_readWord_77 ?_
  refine lv_isub hx hb dX5_readWord_80 ?_
  refine lv_topi (fun y2 ey2 => ?_)
  have h := tx_let ey2 h
  refine lv_istore_n (lv' := [(2, .int y2), (0, .ref (ka 0)), (1, .int x1)]) hx hb dX5_readWord_81 rfl hl (by decide) rfl (fun ls hl => ?_)
  refine lv_iload_n hx hb dX5_readWord_82 rfl (lv_at hl 0 rfl) ?_
  refine lv_bipush (v := 6) hx hb dX5_readWord_83 (by decide) ?_
  refine lv_icmp_le (tgt := 95) hx hb dX5_readWord_85 (by decide) (fun c3 => ?_) (fun c3 => ?_)
  · have h := tx_pos c3 h
    refine lv_aload_n hx hb dX5_readWord_95 rfl (lv_at hl 1 rfl) ?_
    refine lv_iload_n hx hb dX5_readWord_96 rfl (lv_at hl 2 rfl) ?_
    refine lv_iconst (v := 5) hx hb dX5_readWord_97 (by decide) ?_
    refine lv_bipush (v := 6) hx hb dX5_readWord_98 (by decide) ?_
    refine lv_iload_n hx hb dX5_readWord_100 rfl (lv_at hl 0 rfl) ?_
    refine lv_isub hx hb dX5_readWord_101 ?_
    refine lv_imul hx hb dX5_readWord_102 ?_
    refine lv_ishl hx hb dX5_readWord_103 ?_
    refine va_put (D := G) (ci := 5) (v := .int (x1 <<< (((5 : Int32) * ((6 : Int32) - y2)) &&& 31))) (ty := .int) (C := RX5) (T := TX5) (N := 8) hx hb hT ku_5 tyX5 tyX5_ok nmX5 hown hK hP hD hS 0 rfl rfl 3 (by decide) (hT _ kw_15_19) (fun _ h9 => h9) rfl (by decide +kernel) rfl rfl (Nat.le_of_ble_eq_true rfl) dX5_readWord_104 (fun H locs hP hD hS => ?_)
    obtain ⟨K_4, eK_4, h⟩ := tx_lt h
    rw [sRP_ka_f3, eK_4] at hP hD
    refine lv_aload_n hx hb dX5_readWord_107 rfl (lv_at hl 1 rfl) ?_
    refine lv_bipush (v := 43) hx hb dX5_readWord_108 (by decide) ?_
    refine va_put (D := G) (ci := 5) (v := .int 43) (ty := .int) (C := RX5) (T := TX5) (N := 8) hx hb hT ku_5 tyX5 tyX5_ok nmX5 hown hK hP hD hS 0 rfl rfl 1 (by decide) (hT _ kw_15_4) (fun _ h9 => h9) rfl (by decide +kernel) rfl rfl (Nat.le_of_ble_eq_true rfl) dX5_readWord_110 (fun H locs hP hD hS => ?_)
    obtain ⟨K_5, eK_5, h⟩ := tx_lt h
    rw [sRP_ka_f1, eK_5] at hP hD
    refine lv_iconst (v := 0) hx hb dX5_readWord_113 (by decide) ?_
    refine lv_istore_n (lv' := [(3, .int 0), (2, .int y2), (0, .ref (ka 0)), (1, .int x1)]) hx hb dX5_readWord_114 rfl hl (by decide) rfl (fun ls hl => ?_)
    exact w_X5_readWord_L115 F hB 2000 0 K_5 H locs ls h hP hD hS (lv_sub hl [2, 0] rfl)
  · have h := tx_neg c3 h
    refine lv_aload_n hx hb dX5_readWord_88 rfl (lv_at hl 1 rfl) ?_
    refine lv_bipush (v := 44) hx hb dX5_readWord_89 (by decide) ?_
    refine va_put (D := G) (ci := 5) (v := .int 44) (ty := .int) (C := RX5) (T := TX5) (N := 8) hx hb hT ku_5 tyX5 tyX5_ok nmX5 hown hK hP hD hS 0 rfl rfl 1 (by decide) (hT _ kw_15_4) (fun _ h9 => h9) rfl (by decide +kernel) rfl rfl (Nat.le_of_ble_eq_true rfl) dX5_readWord_91 (fun H locs hP hD hS => ?_)
    obtain ⟨K_12, eK_12, h⟩ := tx_lt h
    rw [sRP_ka_f1, eK_12] at hP hD
    obtain rfl := tx_1 h
    exact W.vret hx hb hr (fun t ht hW => ⟨⟨(), rfl, trivial, by rw [ht]; exact hP, hD⟩, hS.F ht⟩) hS.2.2 dX5_readWord_94
set_option maxHeartbeats 4000000 in
set_option maxRecDepth 100000 in
theorem w_X5_readWord_J59 {p : Program} {l : Launch} {e : Env} {s : State} {m : MethodId} {below : List Frame} {meth : Method} {c : Code} {G : va_G} {cA : Nat → ClassId} {A : Nat → Prop} {bA : Nat} {ka : Nat → Nat} {ra : Nat → Nat} {pa : Nat → Nat} {R : Tr} {P : Tr} {L : Lo} {K' : Tr} (F : tF p s m ([.ref (ka 0)] : List Value).toArray meth c G cA A RX5 cX5_readWord 4 none) (hB : tqB bA A s s.heap)  (k2 : Int32 → Tr → Option (Tr)) (hk2 : ∀ (x1 : Int32) (K : Tr) (H : Heap) (locs : List Loc) (ls : Array Slot), k2 x1 K = some K' → va_P G vwCl (wRP cA ka ra pa K R P L) H → va_D A (wRP cA ka ra pa K R P L) → va_S A s.heap H locs → lv_has ls 4 [(0, .ref (ka 0)), (1, .int x1)] → G_X5_readWord p l e s m below meth c G cA A bA ka ra pa R P L K' H locs (F0 m 2 ls [])) (x1 : Int32) (K : Tr) (H : Heap) (locs : List Loc) (ls : Array Slot) (h : fJ_X5_readWord_J59 k2 x1 K = some K') (hP : va_P G vwCl (wRP cA ka ra pa K R P L) H) (hD : va_D A (wRP cA ka ra pa K R P L)) (hS : va_S A s.heap H locs) (hl : lv_has ls 4 [(0, .ref (ka 0)), (1, .int x1)]) : G_X5_readWord p l e s m below meth c G cA A bA ka ra pa R P L K' H locs (F0 m 59 ls []) := by
  obtain ⟨hx, hb, hr, hml, hT, hown, hlocks, hK, hN, hA⟩ := id F
  unfold fJ_X5_readWord_J59 at h
  refine lv_aload_n hx hb dX5_readWord_59 rfl (lv_at hl 0 rfl) ?_
  refine lv_dup hx hb dX5_readWord_60 rfl ?_
  refine va_get (D := G) (ci := 5) (v := .int (K 0 7)) (C := RX5) (T := TX5) (N := 8) hx hb hT ku_5 hown hK hP 0 rfl rfl 7 (by decide) (hT _ kw_14_22) (fun _ h9 => h9) rfl dX5_readWord_61 ?_
  refine lv_iconst (v := 1) hx hb dX5_readWord_64 (by decide) ?_
  refine lv_iadd hx hb dX5_readWord_65 ?_
  refine va_put (D := G) (ci := 5) (v := .int ((K 0 7) + 1)) (ty := .int) (C := RX5) (T := TX5) (N := 8) hx hb hT ku_5 tyX5 tyX5_ok nmX5 hown hK hP hD hS 0 rfl rfl 7 (by decide) (hT _ kw_14_22) (fun _ h9 => h9) rfl (by decide +kernel) rfl rfl (Nat.le_of_ble_eq_true rfl) dX5_readWord_66 (fun H locs hP hD hS => ?_)
  obtain ⟨K_21, eK_21, h⟩ := tx_lt h
  rw [sRP_ka_f7, eK_21] at hP hD
  refine lv_goto (tgt := 2) hx hb dX5_readWord_69 (by decide) ?_
  exact hk2 x1 K_21 H locs ls h hP hD hS (lv_sub hl [0, 1] rfl)
set_option maxHeartbeats 4000000 in
set_option maxRecDepth 100000 in
theorem w_X5_readWord_L2 {p : Program} {l : Launch} {e : Env} {s : State} {m : MethodId} {below : List Frame} {meth : Method} {c : Code} {G : va_G} {cA : Nat → ClassId} {A : Nat → Prop} {bA : Nat} {ka : Nat → Nat} {ra : Nat → Nat} {pa : Nat → Nat} {R : Tr} {P : Tr} {L : Lo} {K' : Tr} (F : tF p s m ([.ref (ka 0)] : List Value).toArray meth c G cA A RX5 cX5_readWord 4 none) (hB : tqB bA A s s.heap)    (N : Nat) : ∀ (x1 : Int32) (K : Tr) (H : Heap) (locs : List Loc) (ls : Array Slot), lpF (fun _ _ => none) (fB_X5_readWord_L2 ) N x1 K = some K' → va_P G vwCl (wRP cA ka ra pa K R P L) H → va_D A (wRP cA ka ra pa K R P L) → va_S A s.heap H locs → lv_has ls 4 [(0, .ref (ka 0)), (1, .int x1)] → G_X5_readWord p l e s m below meth c G cA A bA ka ra pa R P L K' H locs (F0 m 2 ls []) := by
  obtain ⟨hx, hb, hr, hml, hT, hown, hlocks, hK, hN, hA⟩ := id F
  induction N with
  | zero =>
    intro x1 K H locs ls h
    have h : (none : Option (Tr)) = some K' := h
    cases h
  | succ N hk2 =>
    intro x1 K H locs ls h hP hD hS hl
    have h : fB_X5_readWord_L2  (lpF (fun _ _ => none) (fB_X5_readWord_L2 ) N) x1 K = some K' := h
    generalize hk2e : lpF (fun _ _ => none) (fB_X5_readWord_L2 ) N = k2 at h hk2
    unfold fB_X5_readWord_L2 at h
    refine lv_aload_n hx hb dX5_readWord_2 rfl (lv_at hl 0 rfl) ?_
    refine va_get (D := G) (ci := 5) (v := .int (K 0 7)) (C := RX5) (T := TX5) (N := 8) hx hb hT ku_5 hown hK hP 0 rfl rfl 7 (by decide) (hT _ kw_14_22) (fun _ h9 => h9) rfl dX5_readWord_3 ?_
    refine lv_aload_n hx hb dX5_readWord_6 rfl (lv_at hl 0 rfl) ?_
    refine va_get (D := G) (ci := 5) (v := .int (K 0 6)) (C := RX5) (T := TX5) (N := 8) hx hb hT ku_5 hown hK hP 0 rfl rfl 6 (by decide) (hT _ kw_14_21) (fun _ h9 => h9) rfl dX5_readWord_7 ?_
    refine lv_icmp_ge (tgt := 72) hx hb dX5_readWord_10 (by decide) (fun c1 => ?_) (fun c1 => ?_)
    · have h := tx_pos c1 h
      exact w_X5_readWord_J72 F hB x1 K H locs ls h hP hD hS (lv_sub hl [0, 1] rfl)
    · have h := tx_neg c1 h
      refine lv_aload_n hx hb dX5_readWord_13 rfl (lv_at hl 0 rfl) ?_
      refine lv_aload_n hx hb dX5_readWord_14 rfl (lv_at hl 0 rfl) ?_
      refine va_get (D := G) (ci := 5) (v := .int (K 0 7)) (C := RX5) (T := TX5) (N := 8) hx hb hT ku_5 hown hK hP 0 rfl rfl 7 (by decide) (hT _ kw_14_22) (fun _ h9 => h9) rfl dX5_readWord_15 ?_
      obtain ⟨r13, hc14, h⟩ := tx_bd h
      refine tzB_i (As := [.int (K 0 7)]) (rest := []) ⟨hx, hb, hml, hown, hT⟩ hP hD hS hA hK hN hB (c_X5_at l G cA H.size bA ka ra pa K R P L (K 0 7)  r13 hc14) (tq_gV kw_15_5 kw_15_6 kw_15_7 kw_2_22 kw_15_8) rfl rfl dkdV_yX5_at_1 (Nat.le_of_ble_eq_true rfl) (Nat.le_of_ble_eq_true rfl) (ci := 5) (q0 := 0) rfl rfl rfl hl.1 rfl (Nat.le_of_ble_eq_true rfl) dX5_readWord_18 ⟨Nat.le_of_ble_eq_true rfl, Nat.le_of_ble_eq_true rfl⟩ (fun _ _ H locs z15 hP hD hS => ?_)
      have z15 := z15.symm
      subst z15
      have hP : va_P G vwCl (wRP cA ka ra pa K R P L) H := hP
      have hD : va_D A (wRP cA ka ra pa K R P L) := hD
      obtain ⟨r16, hc17, h⟩ := tx_bd h
      refine tw_ci (tw_none (ws := wRP cA ka ra pa K R P L)) hP hD hS hA (va_runS (As := [.int r13]) (rest := []) ⟨hx, hb, hml, hown, hT⟩ (c_X5_isLetter l G cA H.size r13  r16 hc17) (va_cwS 1 hT (tq_gS kw_15_12 kw_15_13 kw_2_22 kw_15_14) rfl rfl rfl dkdS_yX5_isLetter_1 ⟨Nat.le_of_ble_eq_true rfl, Nat.le_of_ble_eq_true rfl⟩) (tw_pre (tw_none (ws := wRP cA ka ra pa K R P L)) hP hD hK hN) rfl rfl hl.1 rfl (lv_room (Nat.le_of_ble_eq_true rfl)) dX5_readWord_21 ⟨Nat.le_of_ble_eq_true rfl, Nat.le_of_ble_eq_true rfl⟩) (fun _ _ H locs z18 hP hD hS => ?_)
      have z18 := z18.symm
      subst z18
      have hP : va_P G vwCl (wRP cA ka ra pa K R P L) H := hP
      have hD : va_D A (wRP cA ka ra pa K R P L) := hD
      refine lv_if_eq (tgt := 72) hx hb dX5_readWord_24 (by decide) (fun c19 => ?_) (fun c19 => ?_)
      · have h := tx_pos c19 h
        exact w_X5_readWord_J72 F hB x1 K H locs ls h hP hD hS (lv_sub hl [0, 1] rfl)
      · have h := tx_neg c19 h
        refine lv_aload_n hx hb dX5_readWord_27 rfl (lv_at hl 0 rfl) ?_
        refine va_get (D := G) (ci := 5) (v := .int (K 0 7)) (C := RX5) (T := TX5) (N := 8) hx hb hT ku_5 hown hK hP 0 rfl rfl 7 (by decide) (hT _ kw_14_22) (fun _ h9 => h9) rfl dX5_readWord_28 ?_
        refine lv_aload_n hx hb dX5_readWord_31 rfl (lv_at hl 0 rfl) ?_
        refine va_get (D := G) (ci := 5) (v := .int (K 0 2)) (C := RX5) (T := TX5) (N := 8) hx hb hT ku_5 hown hK hP 0 rfl rfl 2 (by decide) (hT _ kw_15_3) (fun _ h9 => h9) rfl dX5_readWord_32 ?_
        refine lv_isub hx hb dX5_readWord_35 ?_
        refine lv_bipush (v := 6) hx hb dX5_readWord_36 (by decide) ?_
        refine lv_icmp_ge (tgt := 59) hx hb dX5_readWord_38 (by decide) (fun c20 => ?_) (fun c20 => ?_)
        · have h := tx_pos c20 h
          exact w_X5_readWord_J59 F hB k2 hk2 x1 K H locs ls h hP hD hS (lv_sub hl [0, 1] rfl)
        · have h := tx_neg c20 h
          refine lv_iload_n hx hb dX5_readWord_41 rfl (lv_at hl 1 rfl) ?_
          refine lv_iconst (v := 5) hx hb dX5_readWord_42 (by decide) ?_
          refine lv_ishl hx hb dX5_readWord_43 ?_
          refine lv_aload_n hx hb dX5_readWord_44 rfl (lv_at hl 0 rfl) ?_
          refine lv_aload_n hx hb dX5_readWord_45 rfl (lv_at hl 0 rfl) ?_
          refine va_get (D := G) (ci := 5) (v := .int (K 0 7)) (C := RX5) (T := TX5) (N := 8) hx hb hT ku_5 hown hK hP 0 rfl rfl 7 (by decide) (hT _ kw_14_22) (fun _ h9 => h9) rfl dX5_readWord_46 ?_
          obtain ⟨r22, hc23, h⟩ := tx_bd h
          refine tzB_i (As := [.int (K 0 7)]) (rest := [.int (x1 <<< (5 &&& 31))]) ⟨hx, hb, hml, hown, hT⟩ hP hD hS hA hK hN hB (c_X5_at l G cA H.size bA ka ra pa K R P L (K 0 7)  r22 hc23) (tq_gV kw_15_5 kw_15_6 kw_15_7 kw_2_22 kw_15_8) rfl rfl dkdV_yX5_at_1 (Nat.le_of_ble_eq_true rfl) (Nat.le_of_ble_eq_true rfl) (ci := 5) (q0 := 0) rfl rfl rfl hl.1 rfl (Nat.le_of_ble_eq_true rfl) dX5_readWord_49 ⟨Nat.le_of_ble_eq_true rfl, Nat.le_of_ble_eq_true rfl⟩ (fun _ _ H locs z24 hP hD hS => ?_)
          have z24 := z24.symm
          subst z24
          have hP : va_P G vwCl (wRP cA ka ra pa K R P L) H := hP
          have hD : va_D A (wRP cA ka ra pa K R P L) := hD
          refine lv_bipush (v := 97) hx hb dX5_readWord_52 (by decide) ?_
          refine lv_isub hx hb dX5_readWord_54 ?_
          refine lv_iconst (v := 1) hx hb dX5_readWord_55 (by decide) ?_
          refine lv_iadd hx hb dX5_readWord_56 ?_
          refine lv_ior hx hb dX5_readWord_57 ?_
          refine lv_topi (fun y25 ey25 => ?_)
          have h := tx_let ey25 h
          refine lv_istore_n (lv' := [(1, .int y25), (0, .ref (ka 0))]) hx hb dX5_readWord_58 rfl hl (by decide) rfl (fun ls hl => ?_)
          exact w_X5_readWord_J59 F hB k2 hk2 y25 K H locs ls h hP hD hS (lv_sub hl [1, 0] rfl)
set_option maxHeartbeats 4000000 in
set_option maxRecDepth 100000 in
theorem c_X5_readWord (l : Launch) (G : va_G) (cA : Nat → ClassId) (sz : Nat) (bA : Nat) (ka : Nat → Nat) (ra : Nat → Nat) (pa : Nat → Nat) (K : Tr) (R : Tr) (P : Tr) (L : Lo)  (K' : Tr) (h : f_X5_readWord K = some K') : Met l yX5_readWord (.code yX5_readWord cX5_readWord 4 none :: T0) ({ frames := 1, cells := 0, slots := 0, locals := 21 } : Room) (tqPB bA G cA [.ref (ka 0)] (wRP cA ka ra pa K R P L) sz) (tqQv G cA (fun (_ : Unit) => True) (fun (_ : Unit) => wRP cA ka ra pa (K') R P L) (va_A (wRP cA ka ra pa K R P L) sz)) 0 0 (va_A (wRP cA ka ra pa K R P L) sz) := by
  refine Met.ofW (cc := cX5_readWord) (maxL := 4) (ret := none) (by decide) rfl ?_
  intro p e s m args below meth c s₁ B hml hv
  obtain ⟨rfl, hsz, hP, hK, hD0, hN, hB⟩ := hv
  have hx := B.exec
  have hb := B.bytes
  have hr := B.returns
  have hts := atoms_spec (ws := .code yX5_readWord cX5_readWord 4 none :: T0) B.pre
  have hT : ∀ w ∈ T0, w.before _ s = true := fun w h => hts w (List.mem_cons_of_mem _ h)
  have hown : s.vm.findClass RX5 = some m.cls := findClass_of_methodNamed B.named
  have hlocks := B.notSynchronized
  subst hsz
  have hD := hD0.self (sz := s.heap.size)
  generalize hAe : va_A (wRP cA ka ra pa K R P L) s.heap.size = A at hD hB ⊢
  have hA : ∀ q : Nat, s.heap.size ≤ q → A q := fun q h => by rw [← hAe]; exact Or.inr h
  have hS : va_S A s.heap s.heap [] := va_S.rf
  have hl := lv_entry ([.ref (ka 0)]) (n := 4) (Nat.le_of_ble_eq_true rfl)
  rw [lg_entry_eq]
  generalize (lg_sl ([.ref (ka 0)]) ++ List.replicate (4 - (lg_sl ([.ref (ka 0)])).length) Slot.unset).toArray = ls at hl ⊢
  have hl : lv_has ls 4 [(0, .ref (ka 0))] := hl
  have F : tF p s m ([.ref (ka 0)] : List Value).toArray meth c G cA A RX5 cX5_readWord 4 none := ⟨hx, hb, hr, hml, hT, hown, hlocks, hK, hN, hA⟩
  obtain ⟨H, hH⟩ : ∃ z, z = s.heap := ⟨_, rfl⟩
  rw [← hH] at hP
  have hS : va_S A s.heap H [] := by rw [hH]; exact hS
  suffices hgo : G_X5_readWord p l e s m below meth c G cA A bA ka ra pa R P L K' H [] (F0 m 0 ls []) by rw [hH] at hgo; exact hgo
  generalize ([] : List Loc) = locs at hS ⊢
  unfold f_X5_readWord at h
  refine lv_iconst (v := 0) hx hb dX5_readWord_0 (by decide) ?_
  refine lv_istore_n (lv' := [(1, .int 0), (0, .ref (ka 0))]) hx hb dX5_readWord_1 rfl hl (by decide) rfl (fun ls hl => ?_)
  exact w_X5_readWord_L2 F hB 2000 0 K H locs ls h hP hD hS (lv_sub hl [1, 0] rfl)
abbrev G_X5_isDigit (p : Program) (l : Launch) (e : Env) (s : State) (m : MethodId) (below : List Frame) (meth : Method) (c : Code) (G : va_G) (cA : Nat → ClassId) (A : Nat → Prop) (x0 : Int32) (r0 : Int32) (H : Heap) (locs : List Loc) (g : JFrame) : Prop := W p l e (headSpec (.code yX5_isDigit cX5_isDigit 1 (some .boolean) :: T0) ({ frames := 0, cells := 0, slots := 0, locals := 0 } : Room)).room s m ([.int x0] : List Value).toArray below meth c H locs 0 0 (MQ below (tqQi G cA (fun (r : Int32) (_ : Unit) => r = r0) (fun (_ : Unit) => ([] : va_W)) A) ([.int x0] : List Value).toArray s 0 0 A) g
set_option maxHeartbeats 4000000 in
set_option maxRecDepth 100000 in
theorem c_X5_isDigit (l : Launch) (G : va_G) (cA : Nat → ClassId) (sz : Nat) (x0 : Int32)  (r0 : Int32) (h : f_X5_isDigit x0 = some r0) : Met l yX5_isDigit (.code yX5_isDigit cX5_isDigit 1 (some .boolean) :: T0) ({ frames := 0, cells := 0, slots := 0, locals := 0 } : Room) (tqP G cA [.int x0] (([] : va_W)) sz) (tqQi G cA (fun (r : Int32) (_ : Unit) => r = r0) (fun (_ : Unit) => ([] : va_W)) (va_A (([] : va_W)) sz)) 0 0 (va_A (([] : va_W)) sz) := by
  refine Met.ofW (cc := cX5_isDigit) (maxL := 1) (ret := (some .boolean)) (by decide) rfl ?_
  intro p e s m args below meth c s₁ B hml hv
  obtain ⟨rfl, hsz, hP, hK, hD0, hN⟩ := hv
  have hx := B.exec
  have hb := B.bytes
  have hr := B.returns
  have hts := atoms_spec (ws := .code yX5_isDigit cX5_isDigit 1 (some .boolean) :: T0) B.pre
  have hT : ∀ w ∈ T0, w.before _ s = true := fun w h => hts w (List.mem_cons_of_mem _ h)
  have hown : s.vm.findClass RX5 = some m.cls := findClass_of_methodNamed B.named
  have hlocks := B.notSynchronized
  subst hsz
  have hD := hD0.self (sz := s.heap.size)
  generalize hAe : va_A (([] : va_W)) s.heap.size = A at hD ⊢
  have hA : ∀ q : Nat, s.heap.size ≤ q → A q := fun q h => by rw [← hAe]; exact Or.inr h
  have hS : va_S A s.heap s.heap [] := va_S.rf
  have hl := lv_entry ([.int x0]) (n := 1) (Nat.le_of_ble_eq_true rfl)
  rw [lg_entry_eq]
  generalize (lg_sl ([.int x0]) ++ List.replicate (1 - (lg_sl ([.int x0])).length) Slot.unset).toArray = ls at hl ⊢
  have hl : lv_has ls 1 [(0, .int x0)] := hl
  have F : tF p s m ([.int x0] : List Value).toArray meth c G cA A RX5 cX5_isDigit 1 (some .boolean) := ⟨hx, hb, hr, hml, hT, hown, hlocks, hK, hN, hA⟩
  obtain ⟨H, hH⟩ : ∃ z, z = s.heap := ⟨_, rfl⟩
  rw [← hH] at hP
  have hS : va_S A s.heap H [] := by rw [hH]; exact hS
  suffices hgo : G_X5_isDigit p l e s m below meth c G cA A x0 r0 H [] (F0 m 0 ls []) by rw [hH] at hgo; exact hgo
  generalize ([] : List Loc) = locs at hS ⊢
  unfold f_X5_isDigit at h
  refine lv_iload_n hx hb dX5_isDigit_0 rfl (lv_at hl 0 rfl) ?_
  refine lv_bipush (v := 48) hx hb dX5_isDigit_1 (by decide) ?_
  refine lv_icmp_lt (tgt := 16) hx hb dX5_isDigit_3 (by decide) (fun c1 => ?_) (fun c1 => ?_)
  · have h := tx_pos c1 h
    refine lv_iconst (v := 0) hx hb dX5_isDigit_16 (by decide) ?_
    obtain rfl := tx_1 h
    exact W.zret (ty := .boolean) hx hb hr rfl (fun t ht hW => ⟨⟨_, (), rfl, rfl, by rw [ht]; exact hP, hD⟩, hS.F ht⟩) hS.2.2 dX5_isDigit_17
  · have h := tx_neg c1 h
    refine lv_iload_n hx hb dX5_isDigit_6 rfl (lv_at hl 0 rfl) ?_
    refine lv_bipush (v := 57) hx hb dX5_isDigit_7 (by decide) ?_
    refine lv_icmp_gt (tgt := 16) hx hb dX5_isDigit_9 (by decide) (fun c2 => ?_) (fun c2 => ?_)
    · have h := tx_pos c2 h
      refine lv_iconst (v := 0) hx hb dX5_isDigit_16 (by decide) ?_
      obtain rfl := tx_1 h
      exact W.zret (ty := .boolean) hx hb hr rfl (fun t ht hW => ⟨⟨_, (), rfl, rfl, by rw [ht]; exact hP, hD⟩, hS.F ht⟩) hS.2.2 dX5_isDigit_17
    · have h := tx_neg c2 h
      refine lv_iconst (v := 1) hx hb dX5_isDigit_12 (by decide) ?_
      refine lv_goto (tgt := 17) hx hb dX5_isDigit_13 (by decide) ?_
      obtain rfl := tx_1 h
      exact W.zret (ty := .boolean) hx hb hr rfl (fun t ht hW => ⟨⟨_, (), rfl, rfl, by rw [ht]; exact hP, hD⟩, hS.F ht⟩) hS.2.2 dX5_isDigit_17
abbrev G_X5_readNumber (p : Program) (l : Launch) (e : Env) (s : State) (m : MethodId) (below : List Frame) (meth : Method) (c : Code) (G : va_G) (cA : Nat → ClassId) (A : Nat → Prop) (bA : Nat) (ka : Nat → Nat) (ra : Nat → Nat) (pa : Nat → Nat) (R : Tr) (P : Tr) (L : Lo) (K' : Tr) (H : Heap) (locs : List Loc) (g : JFrame) : Prop := W p l e (headSpec (.code yX5_readNumber cX5_readNumber 1 none :: T0) ({ frames := 1, cells := 0, slots := 0, locals := 21 } : Room)).room s m ([.ref (ka 0)] : List Value).toArray below meth c H locs 0 0 (MQ below (tqQv G cA (fun (_ : Unit) => True) (fun (_ : Unit) => wRP cA ka ra pa (K') R P L) A) ([.ref (ka 0)] : List Value).toArray s 0 0 A) g
set_option maxHeartbeats 4000000 in
set_option maxRecDepth 100000 in
theorem w_X5_readNumber_J75 {p : Program} {l : Launch} {e : Env} {s : State} {m : MethodId} {below : List Frame} {meth : Method} {c : Code} {G : va_G} {cA : Nat → ClassId} {A : Nat → Prop} {bA : Nat} {ka : Nat → Nat} {ra : Nat → Nat} {pa : Nat → Nat} {R : Tr} {P : Tr} {L : Lo} {K' : Tr} (F : tF p s m ([.ref (ka 0)] : List Value).toArray meth c G cA A RX5 cX5_readNumber 1 none) (hB : tqB bA A s s.heap)    (K : Tr) (H : Heap) (locs : List Loc) (ls : Array Slot) (h : fJ_X5_readNumber_J75 K = some K') (hP : va_P G vwCl (wRP cA ka ra pa K R P L) H) (hD : va_D A (wRP cA ka ra pa K R P L)) (hS : va_S A s.heap H locs) (hl : lv_has ls 1 [(0, .ref (ka 0))]) : G_X5_readNumber p l e s m below meth c G cA A bA ka ra pa R P L K' H locs (F0 m 75 ls []) := by
  obtain ⟨hx, hb, hr, hml, hT, hown, hlocks, hK, hN, hA⟩ := id F
  unfold fJ_X5_readNumber_J75 at h
  refine lv_aload_n hx hb dX5_readNumber_75 rfl (lv_at hl 0 rfl) ?_
  refine lv_bipush (v := 42) hx hb dX5_readNumber_76 (by decide) ?_
  refine va_put (D := G) (ci := 5) (v := .int 42) (ty := .int) (C := RX5) (T := TX5) (N := 8) hx hb hT ku_5 tyX5 tyX5_ok nmX5 hown hK hP hD hS 0 rfl rfl 1 (by decide) (hT _ kw_15_4) (fun _ h9 => h9) rfl (by decide +kernel) rfl rfl (Nat.le_of_ble_eq_true rfl) dX5_readNumber_78 (fun H locs hP hD hS => ?_)
  obtain ⟨K_3, eK_3, h⟩ := tx_lt h
  rw [sRP_ka_f1, eK_3] at hP hD
  obtain rfl := tx_1 h
  exact W.vret hx hb hr (fun t ht hW => ⟨⟨(), rfl, trivial, by rw [ht]; exact hP, hD⟩, hS.F ht⟩) hS.2.2 dX5_readNumber_81
set_option maxHeartbeats 4000000 in
set_option maxRecDepth 100000 in
theorem w_X5_readNumber_J62 {p : Program} {l : Launch} {e : Env} {s : State} {m : MethodId} {below : List Frame} {meth : Method} {c : Code} {G : va_G} {cA : Nat → ClassId} {A : Nat → Prop} {bA : Nat} {ka : Nat → Nat} {ra : Nat → Nat} {pa : Nat → Nat} {R : Tr} {P : Tr} {L : Lo} {K' : Tr} (F : tF p s m ([.ref (ka 0)] : List Value).toArray meth c G cA A RX5 cX5_readNumber 1 none) (hB : tqB bA A s s.heap)  (k5 : Tr → Option (Tr)) (hk5 : ∀ (K : Tr) (H : Heap) (locs : List Loc) (ls : Array Slot), k5 K = some K' → va_P G vwCl (wRP cA ka ra pa K R P L) H → va_D A (wRP cA ka ra pa K R P L) → va_S A s.heap H locs → lv_has ls 1 [(0, .ref (ka 0))] → G_X5_readNumber p l e s m below meth c G cA A bA ka ra pa R P L K' H locs (F0 m 5 ls [])) (K : Tr) (H : Heap) (locs : List Loc) (ls : Array Slot) (h : fJ_X5_readNumber_J62 k5 K = some K') (hP : va_P G vwCl (wRP cA ka ra pa K R P L) H) (hD : va_D A (wRP cA ka ra pa K R P L)) (hS : va_S A s.heap H locs) (hl : lv_has ls 1 [(0, .ref (ka 0))]) : G_X5_readNumber p l e s m below meth c G cA A bA ka ra pa R P L K' H locs (F0 m 62 ls []) := by
  obtain ⟨hx, hb, hr, hml, hT, hown, hlocks, hK, hN, hA⟩ := id F
  unfold fJ_X5_readNumber_J62 at h
  refine lv_aload_n hx hb dX5_readNumber_62 rfl (lv_at hl 0 rfl) ?_
  refine lv_dup hx hb dX5_readNumber_63 rfl ?_
  refine va_get (D := G) (ci := 5) (v := .int (K 0 7)) (C := RX5) (T := TX5) (N := 8) hx hb hT ku_5 hown hK hP 0 rfl rfl 7 (by decide) (hT _ kw_14_22) (fun _ h9 => h9) rfl dX5_readNumber_64 ?_
  refine lv_iconst (v := 1) hx hb dX5_readNumber_67 (by decide) ?_
  refine lv_iadd hx hb dX5_readNumber_68 ?_
  refine va_put (D := G) (ci := 5) (v := .int ((K 0 7) + 1)) (ty := .int) (C := RX5) (T := TX5) (N := 8) hx hb hT ku_5 tyX5 tyX5_ok nmX5 hown hK hP hD hS 0 rfl rfl 7 (by decide) (hT _ kw_14_22) (fun _ h9 => h9) rfl (by decide +kernel) rfl rfl (Nat.le_of_ble_eq_true rfl) dX5_readNumber_69 (fun H locs hP hD hS => ?_)
  obtain ⟨K_12, eK_12, h⟩ := tx_lt h
  rw [sRP_ka_f7, eK_12] at hP hD
  refine lv_goto (tgt := 5) hx hb dX5_readNumber_72 (by decide) ?_
  exact hk5 K_12 H locs ls h hP hD hS (lv_sub hl [0] rfl)
set_option maxHeartbeats 4000000 in
set_option maxRecDepth 100000 in
theorem w_X5_readNumber_L5 {p : Program} {l : Launch} {e : Env} {s : State} {m : MethodId} {below : List Frame} {meth : Method} {c : Code} {G : va_G} {cA : Nat → ClassId} {A : Nat → Prop} {bA : Nat} {ka : Nat → Nat} {ra : Nat → Nat} {pa : Nat → Nat} {R : Tr} {P : Tr} {L : Lo} {K' : Tr} (F : tF p s m ([.ref (ka 0)] : List Value).toArray meth c G cA A RX5 cX5_readNumber 1 none) (hB : tqB bA A s s.heap)    (N : Nat) : ∀ (K : Tr) (H : Heap) (locs : List Loc) (ls : Array Slot), lpF (fun _ => none) (fB_X5_readNumber_L5 ) N K = some K' → va_P G vwCl (wRP cA ka ra pa K R P L) H → va_D A (wRP cA ka ra pa K R P L) → va_S A s.heap H locs → lv_has ls 1 [(0, .ref (ka 0))] → G_X5_readNumber p l e s m below meth c G cA A bA ka ra pa R P L K' H locs (F0 m 5 ls []) := by
  obtain ⟨hx, hb, hr, hml, hT, hown, hlocks, hK, hN, hA⟩ := id F
  induction N with
  | zero =>
    intro K H locs ls h
    have h : (none : Option (Tr)) = some K' := h
    cases h
  | succ N hk5 =>
    intro K H locs ls h hP hD hS hl
    have h : fB_X5_readNumber_L5  (lpF (fun _ => none) (fB_X5_readNumber_L5 ) N) K = some K' := h
    generalize hk5e : lpF (fun _ => none) (fB_X5_readNumber_L5 ) N = k5 at h hk5
    unfold fB_X5_readNumber_L5 at h
    refine lv_aload_n hx hb dX5_readNumber_5 rfl (lv_at hl 0 rfl) ?_
    refine va_get (D := G) (ci := 5) (v := .int (K 0 7)) (C := RX5) (T := TX5) (N := 8) hx hb hT ku_5 hown hK hP 0 rfl rfl 7 (by decide) (hT _ kw_14_22) (fun _ h9 => h9) rfl dX5_readNumber_6 ?_
    refine lv_aload_n hx hb dX5_readNumber_9 rfl (lv_at hl 0 rfl) ?_
    refine va_get (D := G) (ci := 5) (v := .int (K 0 6)) (C := RX5) (T := TX5) (N := 8) hx hb hT ku_5 hown hK hP 0 rfl rfl 6 (by decide) (hT _ kw_14_21) (fun _ h9 => h9) rfl dX5_readNumber_10 ?_
    refine lv_icmp_ge (tgt := 75) hx hb dX5_readNumber_13 (by decide) (fun c2 => ?_) (fun c2 => ?_)
    · have h := tx_pos c2 h
      exact w_X5_readNumber_J75 F hB K H locs ls h hP hD hS (lv_sub hl [0] rfl)
    · have h := tx_neg c2 h
      refine lv_aload_n hx hb dX5_readNumber_16 rfl (lv_at hl 0 rfl) ?_
      refine lv_aload_n hx hb dX5_readNumber_17 rfl (lv_at hl 0 rfl) ?_
      refine va_get (D := G) (ci := 5) (v := .int (K 0 7)) (C := RX5) (T := TX5) (N := 8) hx hb hT ku_5 hown hK hP 0 rfl rfl 7 (by decide) (hT _ kw_14_22) (fun _ h9 => h9) rfl dX5_readNumber_18 ?_
      obtain ⟨r4, hc5, h⟩ := tx_bd h
      refine tzB_i (As := [.int (K 0 7)]) (rest := []) ⟨hx, hb, hml, hown, hT⟩ hP hD hS hA hK hN hB (c_X5_at l G cA H.size bA ka ra pa K R P L (K 0 7)  r4 hc5) (tq_gV kw_15_5 kw_15_6 kw_15_7 kw_2_22 kw_15_8) rfl rfl dkdV_yX5_at_1 (Nat.le_of_ble_eq_true rfl) (Nat.le_of_ble_eq_true rfl) (ci := 5) (q0 := 0) rfl rfl rfl hl.1 rfl (Nat.le_of_ble_eq_true rfl) dX5_readNumber_21 ⟨Nat.le_of_ble_eq_true rfl, Nat.le_of_ble_eq_true rfl⟩ (fun _ _ H locs z6 hP hD hS => ?_)
      have z6 := z6.symm
      subst z6
      have hP : va_P G vwCl (wRP cA ka ra pa K R P L) H := hP
      have hD : va_D A (wRP cA ka ra pa K R P L) := hD
      obtain ⟨r7, hc8, h⟩ := tx_bd h
      refine tw_ci (tw_none (ws := wRP cA ka ra pa K R P L)) hP hD hS hA (va_runS (As := [.int r4]) (rest := []) ⟨hx, hb, hml, hown, hT⟩ (c_X5_isDigit l G cA H.size r4  r7 hc8) (va_cwS 1 hT (tq_gS kw_15_20 kw_15_21 kw_2_22 kw_15_22) rfl rfl rfl dkdS_yX5_isDigit_1 ⟨Nat.le_of_ble_eq_true rfl, Nat.le_of_ble_eq_true rfl⟩) (tw_pre (tw_none (ws := wRP cA ka ra pa K R P L)) hP hD hK hN) rfl rfl hl.1 rfl (lv_room (Nat.le_of_ble_eq_true rfl)) dX5_readNumber_24 ⟨Nat.le_of_ble_eq_true rfl, Nat.le_of_ble_eq_true rfl⟩) (fun _ _ H locs z9 hP hD hS => ?_)
      have z9 := z9.symm
      subst z9
      have hP : va_P G vwCl (wRP cA ka ra pa K R P L) H := hP
      have hD : va_D A (wRP cA ka ra pa K R P L) := hD
      refine lv_if_eq (tgt := 75) hx hb dX5_readNumber_27 (by decide) (fun c10 => ?_) (fun c10 => ?_)
      · have h := tx_pos c10 h
        exact w_X5_readNumber_J75 F hB K H locs ls h hP hD hS (lv_sub hl [0] rfl)
      · have h := tx_neg c10 h
        refine lv_aload_n hx hb dX5_readNumber_30 rfl (lv_at hl 0 rfl) ?_
        refine va_get (D := G) (ci := 5) (v := .int (K 0 3)) (C := RX5) (T := TX5) (N := 8) hx hb hT ku_5 hown hK hP 0 rfl rfl 3 (by decide) (hT _ kw_15_19) (fun _ h9 => h9) rfl dX5_readNumber_31 ?_
        refine lv_ldc (v := 1000000) hx hb hown (hT _ kw_16_3) dX5_readNumber_34 ?_
        refine lv_icmp_ge (tgt := 62) hx hb dX5_readNumber_36 (by decide) (fun c11 => ?_) (fun c11 => ?_)
        · have h := tx_pos c11 h
          exact w_X5_readNumber_J62 F hB k5 hk5 K H locs ls h hP hD hS (lv_sub hl [0] rfl)
        · have h := tx_neg c11 h
          refine lv_aload_n hx hb dX5_readNumber_39 rfl (lv_at hl 0 rfl) ?_
          refine lv_aload_n hx hb dX5_readNumber_40 rfl (lv_at hl 0 rfl) ?_
          refine va_get (D := G) (ci := 5) (v := .int (K 0 3)) (C := RX5) (T := TX5) (N := 8) hx hb hT ku_5 hown hK hP 0 rfl rfl 3 (by decide) (hT _ kw_15_19) (fun _ h9 => h9) rfl dX5_readNumber_41 ?_
          refine lv_bipush (v := 10) hx hb dX5_readNumber_44 (by decide) ?_
          refine lv_imul hx hb dX5_readNumber_46 ?_
          refine lv_aload_n hx hb dX5_readNumber_47 rfl (lv_at hl 0 rfl) ?_
          refine lv_aload_n hx hb dX5_readNumber_48 rfl (lv_at hl 0 rfl) ?_
          refine va_get (D := G) (ci := 5) (v := .int (K 0 7)) (C := RX5) (T := TX5) (N := 8) hx hb hT ku_5 hown hK hP 0 rfl rfl 7 (by decide) (hT _ kw_14_22) (fun _ h9 => h9) rfl dX5_readNumber_49 ?_
          obtain ⟨r13, hc14, h⟩ := tx_bd h
          refine tzB_i (As := [.int (K 0 7)]) (rest := [.int ((K 0 3) * 10), .ref (ka 0)]) ⟨hx, hb, hml, hown, hT⟩ hP hD hS hA hK hN hB (c_X5_at l G cA H.size bA ka ra pa K R P L (K 0 7)  r13 hc14) (tq_gV kw_15_5 kw_15_6 kw_15_7 kw_2_22 kw_15_8) rfl rfl dkdV_yX5_at_1 (Nat.le_of_ble_eq_true rfl) (Nat.le_of_ble_eq_true rfl) (ci := 5) (q0 := 0) rfl rfl rfl hl.1 rfl (Nat.le_of_ble_eq_true rfl) dX5_readNumber_52 ⟨Nat.le_of_ble_eq_true rfl, Nat.le_of_ble_eq_true rfl⟩ (fun _ _ H locs z15 hP hD hS => ?_)
          have z15 := z15.symm
          subst z15
          have hP : va_P G vwCl (wRP cA ka ra pa K R P L) H := hP
          have hD : va_D A (wRP cA ka ra pa K R P L) := hD
          refine lv_iadd hx hb dX5_readNumber_55 ?_
          refine lv_bipush (v := 48) hx hb dX5_readNumber_56 (by decide) ?_
          refine lv_isub hx hb dX5_readNumber_58 ?_
          refine va_put (D := G) (ci := 5) (v := .int ((((K 0 3) * 10) + r13) - 48)) (ty := .int) (C := RX5) (T := TX5) (N := 8) hx hb hT ku_5 tyX5 tyX5_ok nmX5 hown hK hP hD hS 0 rfl rfl 3 (by decide) (hT _ kw_15_19) (fun _ h9 => h9) rfl (by decide +kernel) rfl rfl (Nat.le_of_ble_eq_true rfl) dX5_readNumber_59 (fun H locs hP hD hS => ?_)
          obtain ⟨K_16, eK_16, h⟩ := tx_lt h
          rw [sRP_ka_f3, eK_16] at hP hD
          exact w_X5_readNumber_J62 F hB k5 hk5 K_16 H locs ls h hP hD hS (lv_sub hl [0] rfl)
set_option maxHeartbeats 4000000 in
set_option maxRecDepth 100000 in
theorem c_X5_readNumber (l : Launch) (G : va_G) (cA : Nat → ClassId) (sz : Nat) (bA : Nat) (ka : Nat → Nat) (ra : Nat → Nat) (pa : Nat → Nat) (K : Tr) (R : Tr) (P : Tr) (L : Lo)  (K' : Tr) (h : f_X5_readNumber K = some K') : Met l yX5_readNumber (.code yX5_readNumber cX5_readNumber 1 none :: T0) ({ frames := 1, cells := 0, slots := 0, locals := 21 } : Room) (tqPB bA G cA [.ref (ka 0)] (wRP cA ka ra pa K R P L) sz) (tqQv G cA (fun (_ : Unit) => True) (fun (_ : Unit) => wRP cA ka ra pa (K') R P L) (va_A (wRP cA ka ra pa K R P L) sz)) 0 0 (va_A (wRP cA ka ra pa K R P L) sz) := by
  refine Met.ofW (cc := cX5_readNumber) (maxL := 1) (ret := none) (by decide) rfl ?_
  intro p e s m args below meth c s₁ B hml hv
  obtain ⟨rfl, hsz, hP, hK, hD0, hN, hB⟩ := hv
  have hx := B.exec
  have hb := B.bytes
  have hr := B.returns
  have hts := atoms_spec (ws := .code yX5_readNumber cX5_readNumber 1 none :: T0) B.pre
  have hT : ∀ w ∈ T0, w.before _ s = true := fun w h => hts w (List.mem_cons_of_mem _ h)
  have hown : s.vm.findClass RX5 = some m.cls := findClass_of_methodNamed B.named
  have hlocks := B.notSynchronized
  subst hsz
  have hD := hD0.self (sz := s.heap.size)
  generalize hAe : va_A (wRP cA ka ra pa K R P L) s.heap.size = A at hD hB ⊢
  have hA : ∀ q : Nat, s.heap.size ≤ q → A q := fun q h => by rw [← hAe]; exact Or.inr h
  have hS : va_S A s.heap s.heap [] := va_S.rf
  have hl := lv_entry ([.ref (ka 0)]) (n := 1) (Nat.le_of_ble_eq_true rfl)
  rw [lg_entry_eq]
  generalize (lg_sl ([.ref (ka 0)]) ++ List.replicate (1 - (lg_sl ([.ref (ka 0)])).length) Slot.unset).toArray = ls at hl ⊢
  have hl : lv_has ls 1 [(0, .ref (ka 0))] := hl
  have F : tF p s m ([.ref (ka 0)] : List Value).toArray meth c G cA A RX5 cX5_readNumber 1 none := ⟨hx, hb, hr, hml, hT, hown, hlocks, hK, hN, hA⟩
  obtain ⟨H, hH⟩ : ∃ z, z = s.heap := ⟨_, rfl⟩
  rw [← hH] at hP
  have hS : va_S A s.heap H [] := by rw [hH]; exact hS
  suffices hgo : G_X5_readNumber p l e s m below meth c G cA A bA ka ra pa R P L K' H [] (F0 m 0 ls []) by rw [hH] at hgo; exact hgo
  generalize ([] : List Loc) = locs at hS ⊢
  unfold f_X5_readNumber at h
  refine lv_aload_n hx hb dX5_readNumber_0 rfl (lv_at hl 0 rfl) ?_
  refine lv_iconst (v := 0) hx hb dX5_readNumber_1 (by decide) ?_
  refine va_put (D := G) (ci := 5) (v := .int 0) (ty := .int) (C := RX5) (T := TX5) (N := 8) hx hb hT ku_5 tyX5 tyX5_ok nmX5 hown hK hP hD hS 0 rfl rfl 3 (by decide) (hT _ kw_15_19) (fun _ h9 => h9) rfl (by decide +kernel) rfl rfl (Nat.le_of_ble_eq_true rfl) dX5_readNumber_2 (fun H locs hP hD hS => ?_)
  obtain ⟨K_1, eK_1, h⟩ := tx_lt h
  rw [sRP_ka_f3, eK_1] at hP hD
  exact w_X5_readNumber_L5 F hB 2000 K_1 H locs ls h hP hD hS (lv_sub hl [0] rfl)
abbrev G_X5_sign (p : Program) (l : Launch) (e : Env) (s : State) (m : MethodId) (below : List Frame) (meth : Method) (c : Code) (G : va_G) (cA : Nat → ClassId) (A : Nat → Prop) (x0 : Int32) (x1 : Int32) (r0 : Int32) (H : Heap) (locs : List Loc) (g : JFrame) : Prop := W p l e (headSpec (.code yX5_sign cX5_sign 2 (some .int) :: T0) ({ frames := 0, cells := 0, slots := 0, locals := 0 } : Room)).room s m ([.int x0, .int x1] : List Value).toArray below meth c H locs 0 0 (MQ below (tqQi G cA (fun (r : Int32) (_ : Unit) => r = r0) (fun (_ : Unit) => ([] : va_W)) A) ([.int x0, .int x1] : List Value).toArray s 0 0 A) g
set_option maxHeartbeats 4000000 in
set_option maxRecDepth 100000 in
theorem c_X5_sign (l : Launch) (G : va_G) (cA : Nat → ClassId) (sz : Nat) (x0 : Int32) (x1 : Int32)  (r0 : Int32) (h : f_X5_sign x0 x1 = some r0) : Met l yX5_sign (.code yX5_sign cX5_sign 2 (some .int) :: T0) ({ frames := 0, cells := 0, slots := 0, locals := 0 } : Room) (tqP G cA [.int x0, .int x1] (([] : va_W)) sz) (tqQi G cA (fun (r : Int32) (_ : Unit) => r = r0) (fun (_ : Unit) => ([] : va_W)) (va_A (([] : va_W)) sz)) 0 0 (va_A (([] : va_W)) sz) := by
  refine Met.ofW (cc := cX5_sign) (maxL := 2) (ret := (some .int)) (by decide) rfl ?_
  intro p e s m args below meth c s₁ B hml hv
  obtain ⟨rfl, hsz, hP, hK, hD0, hN⟩ := hv
  have hx := B.exec
  have hb := B.bytes
  have hr := B.returns
  have hts := atoms_spec (ws := .code yX5_sign cX5_sign 2 (some .int) :: T0) B.pre
  have hT : ∀ w ∈ T0, w.before _ s = true := fun w h => hts w (List.mem_cons_of_mem _ h)
  have hown : s.vm.findClass RX5 = some m.cls := findClass_of_methodNamed B.named
  have hlocks := B.notSynchronized
  subst hsz
  have hD := hD0.self (sz := s.heap.size)
  generalize hAe : va_A (([] : va_W)) s.heap.size = A at hD ⊢
  have hA : ∀ q : Nat, s.heap.size ≤ q → A q := fun q h => by rw [← hAe]; exact Or.inr h
  have hS : va_S A s.heap s.heap [] := va_S.rf
  have hl := lv_entry ([.int x0, .int x1]) (n := 2) (Nat.le_of_ble_eq_true rfl)
  rw [lg_entry_eq]
  generalize (lg_sl ([.int x0, .int x1]) ++ List.replicate (2 - (lg_sl ([.int x0, .int x1])).length) Slot.unset).toArray = ls at hl ⊢
  have hl : lv_has ls 2 [(0, .int x0), (1, .int x1)] := hl
  have F : tF p s m ([.int x0, .int x1] : List Value).toArray meth c G cA A RX5 cX5_sign 2 (some .int) := ⟨hx, hb, hr, hml, hT, hown, hlocks, hK, hN, hA⟩
  obtain ⟨H, hH⟩ : ∃ z, z = s.heap := ⟨_, rfl⟩
  rw [← hH] at hP
  have hS : va_S A s.heap H [] := by rw [hH]; exact hS
  suffices hgo : G_X5_sign p l e s m below meth c G cA A x0 x1 r0 H [] (F0 m 0 ls []) by rw [hH] at hgo; exact hgo
  generalize ([] : List Loc) = locs at hS ⊢
  unfold f_X5_sign at h
  refine lv_iload_n hx hb dX5_sign_0 rfl (lv_at hl 0 rfl) ?_
  by_cases c1 : x0 = 40
  · have h := tx_pos c1 h
    refine lv_tableIn (off := 161) (tgt := 162) hx hb dX5_sign_1 (by rw [c1]; decide) (by rw [c1]; decide) (by rw [c1]; decide) (by decide) ?_
    refine lv_bipush (v := 39) hx hb dX5_sign_162 (by decide) ?_
    obtain rfl := tx_1 h
    exact W.iret hx hb hr (fun t ht hW => ⟨⟨_, (), rfl, rfl, by rw [ht]; exact hP, hD⟩, hS.F ht⟩) hS.2.2 dX5_sign_164
  · have h := tx_neg c1 h
    by_cases c2 : x0 = 41
    · have h := tx_pos c2 h
      refine lv_tableIn (off := 164) (tgt := 165) hx hb dX5_sign_1 (by rw [c2]; decide) (by rw [c2]; decide) (by rw [c2]; decide) (by decide) ?_
      refine lv_bipush (v := 40) hx hb dX5_sign_165 (by decide) ?_
      obtain rfl := tx_1 h
      exact W.iret hx hb hr (fun t ht hW => ⟨⟨_, (), rfl, rfl, by rw [ht]; exact hP, hD⟩, hS.F ht⟩) hS.2.2 dX5_sign_167
    · have h := tx_neg c2 h
      by_cases c3 : x0 = 42
      · have h := tx_pos c3 h
        refine lv_tableIn (off := 155) (tgt := 156) hx hb dX5_sign_1 (by rw [c3]; decide) (by rw [c3]; decide) (by rw [c3]; decide) (by decide) ?_
        refine lv_bipush (v := 37) hx hb dX5_sign_156 (by decide) ?_
        obtain rfl := tx_1 h
        exact W.iret hx hb hr (fun t ht hW => ⟨⟨_, (), rfl, rfl, by rw [ht]; exact hP, hD⟩, hS.F ht⟩) hS.2.2 dX5_sign_158
      · have h := tx_neg c3 h
        by_cases c4 : x0 = 43
        · have h := tx_pos c4 h
          refine lv_tableIn (off := 149) (tgt := 150) hx hb dX5_sign_1 (by rw [c4]; decide) (by rw [c4]; decide) (by rw [c4]; decide) (by decide) ?_
          refine lv_bipush (v := 35) hx hb dX5_sign_150 (by decide) ?_
          obtain rfl := tx_1 h
          exact W.iret hx hb hr (fun t ht hW => ⟨⟨_, (), rfl, rfl, by rw [ht]; exact hP, hD⟩, hS.F ht⟩) hS.2.2 dX5_sign_152
        · have h := tx_neg c4 h
          by_cases c5 : x0 = 45
          · have h := tx_pos c5 h
            refine lv_tableIn (off := 152) (tgt := 153) hx hb dX5_sign_1 (by rw [c5]; decide) (by rw [c5]; decide) (by rw [c5]; decide) (by decide) ?_
            refine lv_bipush (v := 36) hx hb dX5_sign_153 (by decide) ?_
            obtain rfl := tx_1 h
            exact W.iret hx hb hr (fun t ht hW => ⟨⟨_, (), rfl, rfl, by rw [ht]; exact hP, hD⟩, hS.F ht⟩) hS.2.2 dX5_sign_155
          · have h := tx_neg c5 h
            by_cases c6 : x0 = 47
            · have h := tx_pos c6 h
              refine lv_tableIn (off := 158) (tgt := 159) hx hb dX5_sign_1 (by rw [c6]; decide) (by rw [c6]; decide) (by rw [c6]; decide) (by decide) ?_
              refine lv_bipush (v := 38) hx hb dX5_sign_159 (by decide) ?_
              obtain rfl := tx_1 h
              exact W.iret hx hb hr (fun t ht hW => ⟨⟨_, (), rfl, rfl, by rw [ht]; exact hP, hD⟩, hS.F ht⟩) hS.2.2 dX5_sign_161
            · have h := tx_neg c6 h
              by_cases c7 : x0 = 59
              · have h := tx_pos c7 h
                refine lv_tableIn (off := 167) (tgt := 168) hx hb dX5_sign_1 (by rw [c7]; decide) (by rw [c7]; decide) (by rw [c7]; decide) (by decide) ?_
                refine lv_bipush (v := 41) hx hb dX5_sign_168 (by decide) ?_
                obtain rfl := tx_1 h
                exact W.iret hx hb hr (fun t ht hW => ⟨⟨_, (), rfl, rfl, by rw [ht]; exact hP, hD⟩, hS.F ht⟩) hS.2.2 dX5_sign_170
              · have h := tx_neg c7 h
                by_cases c8 : x0 = 60
                · have h := tx_pos c8 h
                  refine lv_tableIn (off := 107) (tgt := 108) hx hb dX5_sign_1 (by rw [c8]; decide) (by rw [c8]; decide) (by rw [c8]; decide) (by decide) ?_
                  refine lv_iload_n hx hb dX5_sign_108 rfl (lv_at hl 1 rfl) ?_
                  refine lv_bipush (v := 61) hx hb dX5_sign_109 (by decide) ?_
                  refine lv_icmp_ne (tgt := 119) hx hb dX5_sign_111 (by decide) (fun c9 => ?_) (fun c9 => ?_)
                  · have h := tx_neg c9 h
                    refine lv_iload_n hx hb dX5_sign_119 rfl (lv_at hl 1 rfl) ?_
                    refine lv_bipush (v := 62) hx hb dX5_sign_120 (by decide) ?_
                    refine lv_icmp_ne (tgt := 130) hx hb dX5_sign_122 (by decide) (fun c10 => ?_) (fun c10 => ?_)
                    · have h := tx_neg c10 h
                      refine lv_bipush (v := 29) hx hb dX5_sign_130 (by decide) ?_
                      obtain rfl := tx_1 h
                      exact W.iret hx hb hr (fun t ht hW => ⟨⟨_, (), rfl, rfl, by rw [ht]; exact hP, hD⟩, hS.F ht⟩) hS.2.2 dX5_sign_132
                    · have h := tx_pos c10 h
                      refine lv_bipush (v := 32) hx hb dX5_sign_125 (by decide) ?_
                      refine lv_goto (tgt := 132) hx hb dX5_sign_127 (by decide) ?_
                      obtain rfl := tx_1 h
                      exact W.iret hx hb hr (fun t ht hW => ⟨⟨_, (), rfl, rfl, by rw [ht]; exact hP, hD⟩, hS.F ht⟩) hS.2.2 dX5_sign_132
                  · have h := tx_pos c9 h
                    refine lv_bipush (v := 30) hx hb dX5_sign_114 (by decide) ?_
                    refine lv_goto (tgt := 132) hx hb dX5_sign_116 (by decide) ?_
                    obtain rfl := tx_1 h
                    exact W.iret hx hb hr (fun t ht hW => ⟨⟨_, (), rfl, rfl, by rw [ht]; exact hP, hD⟩, hS.F ht⟩) hS.2.2 dX5_sign_132
                · have h := tx_neg c8 h
                  by_cases c11 : x0 = 61
                  · have h := tx_pos c11 h
                    refine lv_tableIn (off := 146) (tgt := 147) hx hb dX5_sign_1 (by rw [c11]; decide) (by rw [c11]; decide) (by rw [c11]; decide) (by decide) ?_
                    refine lv_bipush (v := 31) hx hb dX5_sign_147 (by decide) ?_
                    obtain rfl := tx_1 h
                    exact W.iret hx hb hr (fun t ht hW => ⟨⟨_, (), rfl, rfl, by rw [ht]; exact hP, hD⟩, hS.F ht⟩) hS.2.2 dX5_sign_149
                  · have h := tx_neg c11 h
                    by_cases c12 : x0 = 62
                    · have h := tx_pos c12 h
                      refine lv_tableIn (off := 132) (tgt := 133) hx hb dX5_sign_1 (by rw [c12]; decide) (by rw [c12]; decide) (by rw [c12]; decide) (by decide) ?_
                      refine lv_iload_n hx hb dX5_sign_133 rfl (lv_at hl 1 rfl) ?_
                      refine lv_bipush (v := 61) hx hb dX5_sign_134 (by decide) ?_
                      refine lv_icmp_ne (tgt := 144) hx hb dX5_sign_136 (by decide) (fun c13 => ?_) (fun c13 => ?_)
                      · have h := tx_neg c13 h
                        refine lv_bipush (v := 34) hx hb dX5_sign_144 (by decide) ?_
                        obtain rfl := tx_1 h
                        exact W.iret hx hb hr (fun t ht hW => ⟨⟨_, (), rfl, rfl, by rw [ht]; exact hP, hD⟩, hS.F ht⟩) hS.2.2 dX5_sign_146
                      · have h := tx_pos c13 h
                        refine lv_bipush (v := 33) hx hb dX5_sign_139 (by decide) ?_
                        refine lv_goto (tgt := 146) hx hb dX5_sign_141 (by decide) ?_
                        obtain rfl := tx_1 h
                        exact W.iret hx hb hr (fun t ht hW => ⟨⟨_, (), rfl, rfl, by rw [ht]; exact hP, hD⟩, hS.F ht⟩) hS.2.2 dX5_sign_146
                    · have h := tx_neg c12 h
                      have kc1 := tq_eqn (a := x0.toInt) (b := 40) rfl (by decide) c1
                      have kc2 := tq_eqn (a := x0.toInt) (b := 41) rfl (by decide) c2
                      have kc3 := tq_eqn (a := x0.toInt) (b := 42) rfl (by decide) c3
                      have kc4 := tq_eqn (a := x0.toInt) (b := 43) rfl (by decide) c4
                      have kc5 := tq_eqn (a := x0.toInt) (b := 45) rfl (by decide) c5
                      have kc6 := tq_eqn (a := x0.toInt) (b := 47) rfl (by decide) c6
                      have kc7 := tq_eqn (a := x0.toInt) (b := 59) rfl (by decide) c7
                      have kc8 := tq_eqn (a := x0.toInt) (b := 60) rfl (by decide) c8
                      have kc11 := tq_eqn (a := x0.toInt) (b := 61) rfl (by decide) c11
                      have kc12 := tq_eqn (a := x0.toInt) (b := 62) rfl (by decide) c12
                      rcases (show (x0.toInt < 40 ∨ 62 < x0.toInt) ∨ x0.toInt = 44 ∨ x0.toInt = 46 ∨ x0.toInt = 48 ∨ x0.toInt = 49 ∨ x0.toInt = 50 ∨ x0.toInt = 51 ∨ x0.toInt = 52 ∨ x0.toInt = 53 ∨ x0.toInt = 54 ∨ x0.toInt = 55 ∨ x0.toInt = 56 ∨ x0.toInt = 57 ∨ x0.toInt = 58 by omega) with k14 | k14 | k14 | k14 | k14 | k14 | k14 | k14 | k14 | k14 | k14 | k14 | k14 | k14
                      · refine lv_tableOut (tgt := 171) hx hb dX5_sign_1 k14 (by decide) ?_
                        refine lv_bipush (v := 44) hx hb dX5_sign_171 (by decide) ?_
                        obtain rfl := tx_1 h
                        exact W.iret hx hb hr (fun t ht hW => ⟨⟨_, (), rfl, rfl, by rw [ht]; exact hP, hD⟩, hS.F ht⟩) hS.2.2 dX5_sign_173
                      · refine lv_tableIn (off := 170) (tgt := 171) hx hb dX5_sign_1 (by omega) (by omega) (by rw [k14]; rfl) (by decide) ?_
                        refine lv_bipush (v := 44) hx hb dX5_sign_171 (by decide) ?_
                        obtain rfl := tx_1 h
                        exact W.iret hx hb hr (fun t ht hW => ⟨⟨_, (), rfl, rfl, by rw [ht]; exact hP, hD⟩, hS.F ht⟩) hS.2.2 dX5_sign_173
                      · refine lv_tableIn (off := 170) (tgt := 171) hx hb dX5_sign_1 (by omega) (by omega) (by rw [k14]; rfl) (by decide) ?_
                        refine lv_bipush (v := 44) hx hb dX5_sign_171 (by decide) ?_
                        obtain rfl := tx_1 h
                        exact W.iret hx hb hr (fun t ht hW => ⟨⟨_, (), rfl, rfl, by rw [ht]; exact hP, hD⟩, hS.F ht⟩) hS.2.2 dX5_sign_173
                      · refine lv_tableIn (off := 170) (tgt := 171) hx hb dX5_sign_1 (by omega) (by omega) (by rw [k14]; rfl) (by decide) ?_
                        refine lv_bipush (v := 44) hx hb dX5_sign_171 (by decide) ?_
                        obtain rfl := tx_1 h
                        exact W.iret hx hb hr (fun t ht hW => ⟨⟨_, (), rfl, rfl, by rw [ht]; exact hP, hD⟩, hS.F ht⟩) hS.2.2 dX5_sign_173
                      · refine lv_tableIn (off := 170) (tgt := 171) hx hb dX5_sign_1 (by omega) (by omega) (by rw [k14]; rfl) (by decide) ?_
                        refine lv_bipush (v := 44) hx hb dX5_sign_171 (by decide) ?_
                        obtain rfl := tx_1 h
                        exact W.iret hx hb hr (fun t ht hW => ⟨⟨_, (), rfl, rfl, by rw [ht]; exact hP, hD⟩, hS.F ht⟩) hS.2.2 dX5_sign_173
                      · refine lv_tableIn (off := 170) (tgt := 171) hx hb dX5_sign_1 (by omega) (by omega) (by rw [k14]; rfl) (by decide) ?_
                        refine lv_bipush (v := 44) hx hb dX5_sign_171 (by decide) ?_
                        obtain rfl := tx_1 h
                        exact W.iret hx hb hr (fun t ht hW => ⟨⟨_, (), rfl, rfl, by rw [ht]; exact hP, hD⟩, hS.F ht⟩) hS.2.2 dX5_sign_173
                      · refine lv_tableIn (off := 170) (tgt := 171) hx hb dX5_sign_1 (by omega) (by omega) (by rw [k14]; rfl) (by decide) ?_
                        refine lv_bipush (v := 44) hx hb dX5_sign_171 (by decide) ?_
                        obtain rfl := tx_1 h
                        exact W.iret hx hb hr (fun t ht hW => ⟨⟨_, (), rfl, rfl, by rw [ht]; exact hP, hD⟩, hS.F ht⟩) hS.2.2 dX5_sign_173
                      · refine lv_tableIn (off := 170) (tgt := 171) hx hb dX5_sign_1 (by omega) (by omega) (by rw [k14]; rfl) (by decide) ?_
                        refine lv_bipush (v := 44) hx hb dX5_sign_171 (by decide) ?_
                        obtain rfl := tx_1 h
                        exact W.iret hx hb hr (fun t ht hW => ⟨⟨_, (), rfl, rfl, by rw [ht]; exact hP, hD⟩, hS.F ht⟩) hS.2.2 dX5_sign_173
                      · refine lv_tableIn (off := 170) (tgt := 171) hx hb dX5_sign_1 (by omega) (by omega) (by rw [k14]; rfl) (by decide) ?_
                        refine lv_bipush (v := 44) hx hb dX5_sign_171 (by decide) ?_
                        obtain rfl := tx_1 h
                        exact W.iret hx hb hr (fun t ht hW => ⟨⟨_, (), rfl, rfl, by rw [ht]; exact hP, hD⟩, hS.F ht⟩) hS.2.2 dX5_sign_173
                      · refine lv_tableIn (off := 170) (tgt := 171) hx hb dX5_sign_1 (by omega) (by omega) (by rw [k14]; rfl) (by decide) ?_
                        refine lv_bipush (v := 44) hx hb dX5_sign_171 (by decide) ?_
                        obtain rfl := tx_1 h
                        exact W.iret hx hb hr (fun t ht hW => ⟨⟨_, (), rfl, rfl, by rw [ht]; exact hP, hD⟩, hS.F ht⟩) hS.2.2 dX5_sign_173
                      · refine lv_tableIn (off := 170) (tgt := 171) hx hb dX5_sign_1 (by omega) (by omega) (by rw [k14]; rfl) (by decide) ?_
                        refine lv_bipush (v := 44) hx hb dX5_sign_171 (by decide) ?_
                        obtain rfl := tx_1 h
                        exact W.iret hx hb hr (fun t ht hW => ⟨⟨_, (), rfl, rfl, by rw [ht]; exact hP, hD⟩, hS.F ht⟩) hS.2.2 dX5_sign_173
                      · refine lv_tableIn (off := 170) (tgt := 171) hx hb dX5_sign_1 (by omega) (by omega) (by rw [k14]; rfl) (by decide) ?_
                        refine lv_bipush (v := 44) hx hb dX5_sign_171 (by decide) ?_
                        obtain rfl := tx_1 h
                        exact W.iret hx hb hr (fun t ht hW => ⟨⟨_, (), rfl, rfl, by rw [ht]; exact hP, hD⟩, hS.F ht⟩) hS.2.2 dX5_sign_173
                      · refine lv_tableIn (off := 170) (tgt := 171) hx hb dX5_sign_1 (by omega) (by omega) (by rw [k14]; rfl) (by decide) ?_
                        refine lv_bipush (v := 44) hx hb dX5_sign_171 (by decide) ?_
                        obtain rfl := tx_1 h
                        exact W.iret hx hb hr (fun t ht hW => ⟨⟨_, (), rfl, rfl, by rw [ht]; exact hP, hD⟩, hS.F ht⟩) hS.2.2 dX5_sign_173
                      · refine lv_tableIn (off := 170) (tgt := 171) hx hb dX5_sign_1 (by omega) (by omega) (by rw [k14]; rfl) (by decide) ?_
                        refine lv_bipush (v := 44) hx hb dX5_sign_171 (by decide) ?_
                        obtain rfl := tx_1 h
                        exact W.iret hx hb hr (fun t ht hW => ⟨⟨_, (), rfl, rfl, by rw [ht]; exact hP, hD⟩, hS.F ht⟩) hS.2.2 dX5_sign_173
abbrev G_X5_advance (p : Program) (l : Launch) (e : Env) (s : State) (m : MethodId) (below : List Frame) (meth : Method) (c : Code) (G : va_G) (cA : Nat → ClassId) (A : Nat → Prop) (bA : Nat) (ka : Nat → Nat) (ra : Nat → Nat) (pa : Nat → Nat) (R : Tr) (P : Tr) (L : Lo) (K' : Tr) (H : Heap) (locs : List Loc) (g : JFrame) : Prop := W p l e (headSpec (.code yX5_advance cX5_advance 2 none :: T0) ({ frames := 2, cells := 0, slots := 0, locals := 44 } : Room)).room s m ([.ref (ka 0)] : List Value).toArray below meth c H locs 0 0 (MQ below (tqQv G cA (fun (_ : Unit) => True) (fun (_ : Unit) => wRP cA ka ra pa (K') R P L) A) ([.ref (ka 0)] : List Value).toArray s 0 0 A) g
set_option maxHeartbeats 4000000 in
set_option maxRecDepth 100000 in
theorem w_X5_advance_J149 {p : Program} {l : Launch} {e : Env} {s : State} {m : MethodId} {below : List Frame} {meth : Method} {c : Code} {G : va_G} {cA : Nat → ClassId} {A : Nat → Prop} {bA : Nat} {ka : Nat → Nat} {ra : Nat → Nat} {pa : Nat → Nat} {R : Tr} {P : Tr} {L : Lo} {K' : Tr} (F : tF p s m ([.ref (ka 0)] : List Value).toArray meth c G cA A RX5 cX5_advance 2 none) (hB : tqB bA A s s.heap)    (K : Tr) (H : Heap) (locs : List Loc) (ls : Array Slot) (h : fJ_X5_advance_J149 K = some K') (hP : va_P G vwCl (wRP cA ka ra pa K R P L) H) (hD : va_D A (wRP cA ka ra pa K R P L)) (hS : va_S A s.heap H locs) (hl : lv_has ls 2 [(0, .ref (ka 0))]) : G_X5_advance p l e s m below meth c G cA A bA ka ra pa R P L K' H locs (F0 m 149 ls []) := by
  obtain ⟨hx, hb, hr, hml, hT, hown, hlocks, hK, hN, hA⟩ := id F
  unfold fJ_X5_advance_J149 at h
  refine lv_aload_n hx hb dX5_advance_149 rfl (lv_at hl 0 rfl) ?_
  refine lv_dup hx hb dX5_advance_150 rfl ?_
  refine va_get (D := G) (ci := 5) (v := .int (K 0 7)) (C := RX5) (T := TX5) (N := 8) hx hb hT ku_5 hown hK hP 0 rfl rfl 7 (by decide) (hT _ kw_14_22) (fun _ h9 => h9) rfl dX5_advance_151 ?_
  refine lv_iconst (v := 1) hx hb dX5_advance_154 (by decide) ?_
  refine lv_iadd hx hb dX5_advance_155 ?_
  refine va_put (D := G) (ci := 5) (v := .int ((K 0 7) + 1)) (ty := .int) (C := RX5) (T := TX5) (N := 8) hx hb hT ku_5 tyX5 tyX5_ok nmX5 hown hK hP hD hS 0 rfl rfl 7 (by decide) (hT _ kw_14_22) (fun _ h9 => h9) rfl (by decide +kernel) rfl rfl (Nat.le_of_ble_eq_true rfl) dX5_advance_156 (fun H locs hP hD hS => ?_)
  obtain ⟨K_24, eK_24, h⟩ := tx_lt h
  rw [sRP_ka_f7, eK_24] at hP hD
  obtain rfl := tx_1 h
  exact W.vret hx hb hr (fun t ht hW => ⟨⟨(), rfl, trivial, by rw [ht]; exact hP, hD⟩, hS.F ht⟩) hS.2.2 dX5_advance_159
set_option maxHeartbeats 4000000 in
set_option maxRecDepth 100000 in
theorem w_X5_advance_J38 {p : Program} {l : Launch} {e : Env} {s : State} {m : MethodId} {below : List Frame} {meth : Method} {c : Code} {G : va_G} {cA : Nat → ClassId} {A : Nat → Prop} {bA : Nat} {ka : Nat → Nat} {ra : Nat → Nat} {pa : Nat → Nat} {R : Tr} {P : Tr} {L : Lo} {K' : Tr} (F : tF p s m ([.ref (ka 0)] : List Value).toArray meth c G cA A RX5 cX5_advance 2 none) (hB : tqB bA A s s.heap)    (K : Tr) (H : Heap) (locs : List Loc) (ls : Array Slot) (h : fJ_X5_advance_J38 K = some K') (hP : va_P G vwCl (wRP cA ka ra pa K R P L) H) (hD : va_D A (wRP cA ka ra pa K R P L)) (hS : va_S A s.heap H locs) (hl : lv_has ls 2 [(0, .ref (ka 0))]) : G_X5_advance p l e s m below meth c G cA A bA ka ra pa R P L K' H locs (F0 m 38 ls []) := by
  obtain ⟨hx, hb, hr, hml, hT, hown, hlocks, hK, hN, hA⟩ := id F
  unfold fJ_X5_advance_J38 at h
  refine lv_aload_n hx hb dX5_advance_38 rfl (lv_at hl 0 rfl) ?_
  refine lv_aload_n hx hb dX5_advance_39 rfl (lv_at hl 0 rfl) ?_
  refine va_get (D := G) (ci := 5) (v := .int (K 0 7)) (C := RX5) (T := TX5) (N := 8) hx hb hT ku_5 hown hK hP 0 rfl rfl 7 (by decide) (hT _ kw_14_22) (fun _ h9 => h9) rfl dX5_advance_40 ?_
  refine va_put (D := G) (ci := 5) (v := .int (K 0 7)) (ty := .int) (C := RX5) (T := TX5) (N := 8) hx hb hT ku_5 tyX5 tyX5_ok nmX5 hown hK hP hD hS 0 rfl rfl 2 (by decide) (hT _ kw_15_3) (fun _ h9 => h9) rfl (by decide +kernel) rfl rfl (Nat.le_of_ble_eq_true rfl) dX5_advance_43 (fun H locs hP hD hS => ?_)
  obtain ⟨K_2, eK_2, h⟩ := tx_lt h
  rw [sRP_ka_f2, eK_2] at hP hD
  refine lv_aload_n hx hb dX5_advance_46 rfl (lv_at hl 0 rfl) ?_
  refine lv_aload_n hx hb dX5_advance_47 rfl (lv_at hl 0 rfl) ?_
  refine va_get (D := G) (ci := 5) (v := .int (K_2 0 7)) (C := RX5) (T := TX5) (N := 8) hx hb hT ku_5 hown hK hP 0 rfl rfl 7 (by decide) (hT _ kw_14_22) (fun _ h9 => h9) rfl dX5_advance_48 ?_
  obtain ⟨r3, hc4, h⟩ := tx_bd h
  refine tzB_i (As := [.int (K_2 0 7)]) (rest := []) ⟨hx, hb, hml, hown, hT⟩ hP hD hS hA hK hN hB (c_X5_at l G cA H.size bA ka ra pa K_2 R P L (K_2 0 7)  r3 hc4) (tq_gV kw_15_5 kw_15_6 kw_15_7 kw_2_22 kw_15_8) rfl rfl dkdV_yX5_at_1 (Nat.le_of_ble_eq_true rfl) (Nat.le_of_ble_eq_true rfl) (ci := 5) (q0 := 0) rfl rfl rfl hl.1 rfl (Nat.le_of_ble_eq_true rfl) dX5_advance_51 ⟨Nat.le_of_ble_eq_true rfl, Nat.le_of_ble_eq_true rfl⟩ (fun _ _ H locs z5 hP hD hS => ?_)
  have z5 := z5.symm
  subst z5
  have hP : va_P G vwCl (wRP cA ka ra pa K_2 R P L) H := hP
  have hD : va_D A (wRP cA ka ra pa K_2 R P L) := hD
  refine lv_istore_n (lv' := [(1, .int r3), (0, .ref (ka 0))]) hx hb dX5_advance_54 rfl hl (by decide) rfl (fun ls hl => ?_)
  refine lv_iload_n hx hb dX5_advance_55 rfl (lv_at hl 0 rfl) ?_
  refine lv_if_ge (tgt := 68) hx hb dX5_advance_56 (by decide) (fun c6 => ?_) (fun c6 => ?_)
  · have h := tx_pos c6 h
    refine lv_iload_n hx hb dX5_advance_68 rfl (lv_at hl 0 rfl) ?_
    obtain ⟨r7, hc8, h⟩ := tx_bd h
    refine tw_ci (tw_none (ws := wRP cA ka ra pa K_2 R P L)) hP hD hS hA (va_runS (As := [.int r3]) (rest := []) ⟨hx, hb, hml, hown, hT⟩ (c_X5_isLetter l G cA H.size r3  r7 hc8) (va_cwS 1 hT (tq_gS kw_15_12 kw_15_13 kw_2_22 kw_15_14) rfl rfl rfl dkdS_yX5_isLetter_1 ⟨Nat.le_of_ble_eq_true rfl, Nat.le_of_ble_eq_true rfl⟩) (tw_pre (tw_none (ws := wRP cA ka ra pa K_2 R P L)) hP hD hK hN) rfl rfl hl.1 rfl (lv_room (Nat.le_of_ble_eq_true rfl)) dX5_advance_69 ⟨Nat.le_of_ble_eq_true rfl, Nat.le_of_ble_eq_true rfl⟩) (fun _ _ H locs z9 hP hD hS => ?_)
    have z9 := z9.symm
    subst z9
    have hP : va_P G vwCl (wRP cA ka ra pa K_2 R P L) H := hP
    have hD : va_D A (wRP cA ka ra pa K_2 R P L) := hD
    refine lv_if_eq (tgt := 82) hx hb dX5_advance_72 (by decide) (fun c10 => ?_) (fun c10 => ?_)
    · have h := tx_pos c10 h
      refine lv_iload_n hx hb dX5_advance_82 rfl (lv_at hl 0 rfl) ?_
      obtain ⟨r11, hc12, h⟩ := tx_bd h
      refine tw_ci (tw_none (ws := wRP cA ka ra pa K_2 R P L)) hP hD hS hA (va_runS (As := [.int r3]) (rest := []) ⟨hx, hb, hml, hown, hT⟩ (c_X5_isDigit l G cA H.size r3  r11 hc12) (va_cwS 1 hT (tq_gS kw_15_20 kw_15_21 kw_2_22 kw_15_22) rfl rfl rfl dkdS_yX5_isDigit_1 ⟨Nat.le_of_ble_eq_true rfl, Nat.le_of_ble_eq_true rfl⟩) (tw_pre (tw_none (ws := wRP cA ka ra pa K_2 R P L)) hP hD hK hN) rfl rfl hl.1 rfl (lv_room (Nat.le_of_ble_eq_true rfl)) dX5_advance_83 ⟨Nat.le_of_ble_eq_true rfl, Nat.le_of_ble_eq_true rfl⟩) (fun _ _ H locs z13 hP hD hS => ?_)
      have z13 := z13.symm
      subst z13
      have hP : va_P G vwCl (wRP cA ka ra pa K_2 R P L) H := hP
      have hD : va_D A (wRP cA ka ra pa K_2 R P L) := hD
      refine lv_if_eq (tgt := 96) hx hb dX5_advance_86 (by decide) (fun c14 => ?_) (fun c14 => ?_)
      · have h := tx_pos c14 h
        refine lv_aload_n hx hb dX5_advance_96 rfl (lv_at hl 1 rfl) ?_
        refine lv_dup hx hb dX5_advance_97 rfl ?_
        refine va_get (D := G) (ci := 5) (v := .int (K_2 0 7)) (C := RX5) (T := TX5) (N := 8) hx hb hT ku_5 hown hK hP 0 rfl rfl 7 (by decide) (hT _ kw_14_22) (fun _ h9 => h9) rfl dX5_advance_98 ?_
        refine lv_iconst (v := 1) hx hb dX5_advance_101 (by decide) ?_
        refine lv_iadd hx hb dX5_advance_102 ?_
        refine va_put (D := G) (ci := 5) (v := .int ((K_2 0 7) + 1)) (ty := .int) (C := RX5) (T := TX5) (N := 8) hx hb hT ku_5 tyX5 tyX5_ok nmX5 hown hK hP hD hS 0 rfl rfl 7 (by decide) (hT _ kw_14_22) (fun _ h9 => h9) rfl (by decide +kernel) rfl rfl (Nat.le_of_ble_eq_true rfl) dX5_advance_103 (fun H locs hP hD hS => ?_)
        obtain ⟨K_15, eK_15, h⟩ := tx_lt h
        rw [sRP_ka_f7, eK_15] at hP hD
        refine lv_aload_n hx hb dX5_advance_106 rfl (lv_at hl 1 rfl) ?_
        refine lv_iload_n hx hb dX5_advance_107 rfl (lv_at hl 0 rfl) ?_
        refine lv_aload_n hx hb dX5_advance_108 rfl (lv_at hl 1 rfl) ?_
        refine lv_aload_n hx hb dX5_advance_109 rfl (lv_at hl 1 rfl) ?_
        refine va_get (D := G) (ci := 5) (v := .int (K_15 0 7)) (C := RX5) (T := TX5) (N := 8) hx hb hT ku_5 hown hK hP 0 rfl rfl 7 (by decide) (hT _ kw_14_22) (fun _ h9 => h9) rfl dX5_advance_110 ?_
        obtain ⟨r16, hc17, h⟩ := tx_bd h
        refine tzB_i (As := [.int (K_15 0 7)]) (rest := [.int r3, .ref (ka 0)]) ⟨hx, hb, hml, hown, hT⟩ hP hD hS hA hK hN hB (c_X5_at l G cA H.size bA ka ra pa K_15 R P L (K_15 0 7)  r16 hc17) (tq_gV kw_15_5 kw_15_6 kw_15_7 kw_2_22 kw_15_8) rfl rfl dkdV_yX5_at_1 (Nat.le_of_ble_eq_true rfl) (Nat.le_of_ble_eq_true rfl) (ci := 5) (q0 := 0) rfl rfl rfl hl.1 rfl (Nat.le_of_ble_eq_true rfl) dX5_advance_113 ⟨Nat.le_of_ble_eq_true rfl, Nat.le_of_ble_eq_true rfl⟩ (fun _ _ H locs z18 hP hD hS => ?_)
        have z18 := z18.symm
        subst z18
        have hP : va_P G vwCl (wRP cA ka ra pa K_15 R P L) H := hP
        have hD : va_D A (wRP cA ka ra pa K_15 R P L) := hD
        obtain ⟨r19, hc20, h⟩ := tx_bd h
        refine tw_ci (tw_none (ws := wRP cA ka ra pa K_15 R P L)) hP hD hS hA (va_runS (As := [.int r3, .int r16]) (rest := [.ref (ka 0)]) ⟨hx, hb, hml, hown, hT⟩ (c_X5_sign l G cA H.size r3 r16  r19 hc20) (va_cwS 2 hT (tq_gS kw_16_4 kw_16_5 kw_2_22 kw_16_6) rfl rfl rfl dkdS_yX5_sign_2 ⟨Nat.le_of_ble_eq_true rfl, Nat.le_of_ble_eq_true rfl⟩) (tw_pre (tw_none (ws := wRP cA ka ra pa K_15 R P L)) hP hD hK hN) rfl rfl hl.1 rfl (lv_room (Nat.le_of_ble_eq_true rfl)) dX5_advance_116 ⟨Nat.le_of_ble_eq_true rfl, Nat.le_of_ble_eq_true rfl⟩) (fun _ _ H locs z21 hP hD hS => ?_)
        have z21 := z21.symm
        subst z21
        have hP : va_P G vwCl (wRP cA ka ra pa K_15 R P L) H := hP
        have hD : va_D A (wRP cA ka ra pa K_15 R P L) := hD
        refine va_put (D := G) (ci := 5) (v := .int r19) (ty := .int) (C := RX5) (T := TX5) (N := 8) hx hb hT ku_5 tyX5 tyX5_ok nmX5 hown hK hP hD hS 0 rfl rfl 1 (by decide) (hT _ kw_15_4) (fun _ h9 => h9) rfl (by decide +kernel) rfl rfl (Nat.le_of_ble_eq_true rfl) dX5_advance_119 (fun H locs hP hD hS => ?_)
        obtain ⟨K_22, eK_22, h⟩ := tx_lt h
        rw [sRP_ka_f1, eK_22] at hP hD
        refine lv_aload_n hx hb dX5_advance_122 rfl (lv_at hl 1 rfl) ?_
        refine va_get (D := G) (ci := 5) (v := .int (K_22 0 1)) (C := RX5) (T := TX5) (N := 8) hx hb hT ku_5 hown hK hP 0 rfl rfl 1 (by decide) (hT _ kw_15_4) (fun _ h9 => h9) rfl dX5_advance_123 ?_
        refine lv_bipush (v := 30) hx hb dX5_advance_126 (by decide) ?_
        refine lv_icmp_eq (tgt := 149) hx hb dX5_advance_128 (by decide) (fun c23 => ?_) (fun c23 => ?_)
        · have h := tx_pos c23 h
          exact w_X5_advance_J149 F hB K_22 H locs ls h hP hD hS (lv_sub hl [1] rfl)
        · have h := tx_neg c23 h
          refine lv_aload_n hx hb dX5_advance_131 rfl (lv_at hl 1 rfl) ?_
          refine va_get (D := G) (ci := 5) (v := .int (K_22 0 1)) (C := RX5) (T := TX5) (N := 8) hx hb hT ku_5 hown hK hP 0 rfl rfl 1 (by decide) (hT _ kw_15_4) (fun _ h9 => h9) rfl dX5_advance_132 ?_
          refine lv_bipush (v := 32) hx hb dX5_advance_135 (by decide) ?_
          refine lv_icmp_eq (tgt := 149) hx hb dX5_advance_137 (by decide) (fun c25 => ?_) (fun c25 => ?_)
          · have h := tx_pos c25 h
            exact w_X5_advance_J149 F hB K_22 H locs ls h hP hD hS (lv_sub hl [1] rfl)
          · have h := tx_neg c25 h
            refine lv_aload_n hx hb dX5_advance_140 rfl (lv_at hl 1 rfl) ?_
            refine va_get (D := G) (ci := 5) (v := .int (K_22 0 1)) (C := RX5) (T := TX5) (N := 8) hx hb hT ku_5 hown hK hP 0 rfl rfl 1 (by decide) (hT _ kw_15_4) (fun _ h9 => h9) rfl dX5_advance_141 ?_
            refine lv_bipush (v := 33) hx hb dX5_advance_144 (by decide) ?_
            refine lv_icmp_ne (tgt := 159) hx hb dX5_advance_146 (by decide) (fun c26 => ?_) (fun c26 => ?_)
            · have h := tx_neg c26 h
              obtain rfl := tx_1 h
              exact W.vret hx hb hr (fun t ht hW => ⟨⟨(), rfl, trivial, by rw [ht]; exact hP, hD⟩, hS.F ht⟩) hS.2.2 dX5_advance_159
            · have h := tx_pos c26 h
              exact w_X5_advance_J149 F hB K_22 H locs ls h hP hD hS (lv_sub hl [1] rfl)
      · have h := tx_neg c14 h
        refine lv_aload_n hx hb dX5_advance_89 rfl (lv_at hl 1 rfl) ?_
        obtain ⟨K_27, hc28, h⟩ := tx_bd h
        refine tzB_v (As := []) (rest := []) ⟨hx, hb, hml, hown, hT⟩ hP hD hS hA hK hN hB (c_X5_readNumber l G cA H.size bA ka ra pa K_2 R P L  K_27 hc28) (tq_gV kw_15_23 kw_16_0 kw_16_1 kw_2_22 kw_16_2) rfl rfl dkdV_yX5_readNumber_0 (Nat.le_of_ble_eq_true rfl) (Nat.le_of_ble_eq_true rfl) (ci := 5) (q0 := 0) rfl rfl rfl hl.1 rfl (Nat.le_of_ble_eq_true rfl) dX5_advance_90 ⟨Nat.le_of_ble_eq_true rfl, Nat.le_of_ble_eq_true rfl⟩ (fun _ H locs z29 hP hD hS => ?_)
        have hP : va_P G vwCl (wRP cA ka ra pa K_27 R P L) H := hP
        have hD : va_D A (wRP cA ka ra pa K_27 R P L) := hD
        refine lv_goto (tgt := 159) hx hb dX5_advance_93 (by decide) ?_
        obtain rfl := tx_1 h
        exact W.vret hx hb hr (fun t ht hW => ⟨⟨(), rfl, trivial, by rw [ht]; exact hP, hD⟩, hS.F ht⟩) hS.2.2 dX5_advance_159
    · have h := tx_neg c10 h
      refine lv_aload_n hx hb dX5_advance_75 rfl (lv_at hl 1 rfl) ?_
      obtain ⟨K_30, hc31, h⟩ := tx_bd h
      refine tzB_v (As := []) (rest := []) ⟨hx, hb, hml, hown, hT⟩ hP hD hS hA hK hN hB (c_X5_readWord l G cA H.size bA ka ra pa K_2 R P L  K_30 hc31) (tq_gV kw_15_15 kw_15_16 kw_15_17 kw_2_22 kw_15_18) rfl rfl dkdV_yX5_readWord_0 (Nat.le_of_ble_eq_true rfl) (Nat.le_of_ble_eq_true rfl) (ci := 5) (q0 := 0) rfl rfl rfl hl.1 rfl (Nat.le_of_ble_eq_true rfl) dX5_advance_76 ⟨Nat.le_of_ble_eq_true rfl, Nat.le_of_ble_eq_true rfl⟩ (fun _ H locs z32 hP hD hS => ?_)
      have hP : va_P G vwCl (wRP cA ka ra pa K_30 R P L) H := hP
      have hD : va_D A (wRP cA ka ra pa K_30 R P L) := hD
      refine lv_goto (tgt := 159) hx hb dX5_advance_79 (by decide) ?_
      obtain rfl := tx_1 h
      exact W.vret hx hb hr (fun t ht hW => ⟨⟨(), rfl, trivial, by rw [ht]; exact hP, hD⟩, hS.F ht⟩) hS.2.2 dX5_advance_159
  · have h := tx_neg c6 h
    refine lv_aload_n hx hb dX5_advance_59 rfl (lv_at hl 1 rfl) ?_
    refine lv_bipush (v := 45) hx hb dX5_advance_60 (by decide) ?_
    refine va_put (D := G) (ci := 5) (v := .int 45) (ty := .int) (C := RX5) (T := TX5) (N := 8) hx hb hT ku_5 tyX5 tyX5_ok nmX5 hown hK hP hD hS 0 rfl rfl 1 (by decide) (hT _ kw_15_4) (fun _ h9 => h9) rfl (by decide +kernel) rfl rfl (Nat.le_of_ble_eq_true rfl) dX5_advance_62 (fun H locs hP hD hS => ?_)
    obtain ⟨K_33, eK_33, h⟩ := tx_lt h
    rw [sRP_ka_f1, eK_33] at hP hD
    refine lv_goto (tgt := 159) hx hb dX5_advance_65 (by decide) ?_
    obtain rfl := tx_1 h
    exact W.vret hx hb hr (fun t ht hW => ⟨⟨(), rfl, trivial, by rw [ht]; exact hP, hD⟩, hS.F ht⟩) hS.2.2 dX5_advance_159
set_option maxHeartbeats 4000000 in
set_option maxRecDepth 100000 in
theorem w_X5_advance_L0 {p : Program} {l : Launch} {e : Env} {s : State} {m : MethodId} {below : List Frame} {meth : Method} {c : Code} {G : va_G} {cA : Nat → ClassId} {A : Nat → Prop} {bA : Nat} {ka : Nat → Nat} {ra : Nat → Nat} {pa : Nat → Nat} {R : Tr} {P : Tr} {L : Lo} {K' : Tr} (F : tF p s m ([.ref (ka 0)] : List Value).toArray meth c G cA A RX5 cX5_advance 2 none) (hB : tqB bA A s s.heap)    (N : Nat) : ∀ (K : Tr) (H : Heap) (locs : List Loc) (ls : Array Slot), lpF (fun _ => none) (fB_X5_advance_L0 ) N K = some K' → va_P G vwCl (wRP cA ka ra pa K R P L) H → va_D A (wRP cA ka ra pa K R P L) → va_S A s.heap H locs → lv_has ls 2 [(0, .ref (ka 0))] → G_X5_advance p l e s m below meth c G cA A bA ka ra pa R P L K' H locs (F0 m 0 ls []) := by
  obtain ⟨hx, hb, hr, hml, hT, hown, hlocks, hK, hN, hA⟩ := id F
  induction N with
  | zero =>
    intro K H locs ls h
    have h : (none : Option (Tr)) = some K' := h
    cases h
  | succ N hk0 =>
    intro K H locs ls h hP hD hS hl
    have h : fB_X5_advance_L0  (lpF (fun _ => none) (fB_X5_advance_L0 ) N) K = some K' := h
    generalize hk0e : lpF (fun _ => none) (fB_X5_advance_L0 ) N = k0 at h hk0
    unfold fB_X5_advance_L0 at h
    refine lv_aload_n hx hb dX5_advance_0 rfl (lv_at hl 0 rfl) ?_
    refine va_get (D := G) (ci := 5) (v := .int (K 0 7)) (C := RX5) (T := TX5) (N := 8) hx hb hT ku_5 hown hK hP 0 rfl rfl 7 (by decide) (hT _ kw_14_22) (fun _ h9 => h9) rfl dX5_advance_1 ?_
    refine lv_aload_n hx hb dX5_advance_4 rfl (lv_at hl 0 rfl) ?_
    refine va_get (D := G) (ci := 5) (v := .int (K 0 6)) (C := RX5) (T := TX5) (N := 8) hx hb hT ku_5 hown hK hP 0 rfl rfl 6 (by decide) (hT _ kw_14_21) (fun _ h9 => h9) rfl dX5_advance_5 ?_
    refine lv_icmp_ge (tgt := 38) hx hb dX5_advance_8 (by decide) (fun c1 => ?_) (fun c1 => ?_)
    · have h := tx_pos c1 h
      exact w_X5_advance_J38 F hB K H locs ls h hP hD hS (lv_sub hl [0] rfl)
    · have h := tx_neg c1 h
      refine lv_aload_n hx hb dX5_advance_11 rfl (lv_at hl 0 rfl) ?_
      refine lv_aload_n hx hb dX5_advance_12 rfl (lv_at hl 0 rfl) ?_
      refine va_get (D := G) (ci := 5) (v := .int (K 0 7)) (C := RX5) (T := TX5) (N := 8) hx hb hT ku_5 hown hK hP 0 rfl rfl 7 (by decide) (hT _ kw_14_22) (fun _ h9 => h9) rfl dX5_advance_13 ?_
      obtain ⟨r34, hc35, h⟩ := tx_bd h
      refine tzB_i (As := [.int (K 0 7)]) (rest := []) ⟨hx, hb, hml, hown, hT⟩ hP hD hS hA hK hN hB (c_X5_at l G cA H.size bA ka ra pa K R P L (K 0 7)  r34 hc35) (tq_gV kw_15_5 kw_15_6 kw_15_7 kw_2_22 kw_15_8) rfl rfl dkdV_yX5_at_1 (Nat.le_of_ble_eq_true rfl) (Nat.le_of_ble_eq_true rfl) (ci := 5) (q0 := 0) rfl rfl rfl hl.1 rfl (Nat.le_of_ble_eq_true rfl) dX5_advance_16 ⟨Nat.le_of_ble_eq_true rfl, Nat.le_of_ble_eq_true rfl⟩ (fun _ _ H locs z36 hP hD hS => ?_)
      have z36 := z36.symm
      subst z36
      have hP : va_P G vwCl (wRP cA ka ra pa K R P L) H := hP
      have hD : va_D A (wRP cA ka ra pa K R P L) := hD
      obtain ⟨r37, hc38, h⟩ := tx_bd h
      refine tw_ci (tw_none (ws := wRP cA ka ra pa K R P L)) hP hD hS hA (va_runS (As := [.int r34]) (rest := []) ⟨hx, hb, hml, hown, hT⟩ (c_X5_isBlank l G cA H.size r34  r37 hc38) (va_cwS 1 hT (tq_gS kw_15_9 kw_15_10 kw_2_22 kw_15_11) rfl rfl rfl dkdS_yX5_isBlank_1 ⟨Nat.le_of_ble_eq_true rfl, Nat.le_of_ble_eq_true rfl⟩) (tw_pre (tw_none (ws := wRP cA ka ra pa K R P L)) hP hD hK hN) rfl rfl hl.1 rfl (lv_room (Nat.le_of_ble_eq_true rfl)) dX5_advance_19 ⟨Nat.le_of_ble_eq_true rfl, Nat.le_of_ble_eq_true rfl⟩) (fun _ _ H locs z39 hP hD hS => ?_)
      have z39 := z39.symm
      subst z39
      have hP : va_P G vwCl (wRP cA ka ra pa K R P L) H := hP
      have hD : va_D A (wRP cA ka ra pa K R P L) := hD
      refine lv_if_eq (tgt := 38) hx hb dX5_advance_22 (by decide) (fun c40 => ?_) (fun c40 => ?_)
      · have h := tx_pos c40 h
        exact w_X5_advance_J38 F hB K H locs ls h hP hD hS (lv_sub hl [0] rfl)
      · have h := tx_neg c40 h
        refine lv_aload_n hx hb dX5_advance_25 rfl (lv_at hl 0 rfl) ?_
        refine lv_dup hx hb dX5_advance_26 rfl ?_
        refine va_get (D := G) (ci := 5) (v := .int (K 0 7)) (C := RX5) (T := TX5) (N := 8) hx hb hT ku_5 hown hK hP 0 rfl rfl 7 (by decide) (hT _ kw_14_22) (fun _ h9 => h9) rfl dX5_advance_27 ?_
        refine lv_iconst (v := 1) hx hb dX5_advance_30 (by decide) ?_
        refine lv_iadd hx hb dX5_advance_31 ?_
        refine va_put (D := G) (ci := 5) (v := .int ((K 0 7) + 1)) (ty := .int) (C := RX5) (T := TX5) (N := 8) hx hb hT ku_5 tyX5 tyX5_ok nmX5 hown hK hP hD hS 0 rfl rfl 7 (by decide) (hT _ kw_14_22) (fun _ h9 => h9) rfl (by decide +kernel) rfl rfl (Nat.le_of_ble_eq_true rfl) dX5_advance_32 (fun H locs hP hD hS => ?_)
        obtain ⟨K_41, eK_41, h⟩ := tx_lt h
        rw [sRP_ka_f7, eK_41] at hP hD
        refine lv_goto (tgt := 0) hx hb dX5_advance_35 (by decide) ?_
        exact hk0 K_41 H locs ls h hP hD hS (lv_sub hl [0] rfl)
set_option maxHeartbeats 4000000 in
set_option maxRecDepth 100000 in
theorem c_X5_advance (l : Launch) (G : va_G) (cA : Nat → ClassId) (sz : Nat) (bA : Nat) (ka : Nat → Nat) (ra : Nat → Nat) (pa : Nat → Nat) (K : Tr) (R : Tr) (P : Tr) (L : Lo)  (K' : Tr) (h : f_X5_advance K = some K') : Met l yX5_advance (.code yX5_advance cX5_advance 2 none :: T0) ({ frames := 2, cells := 0, slots := 0, locals := 44 } : Room) (tqPB bA G cA [.ref (ka 0)] (wRP cA ka ra pa K R P L) sz) (tqQv G cA (fun (_ : Unit) => True) (fun (_ : Unit) => wRP cA ka ra pa (K') R P L) (va_A (wRP cA ka ra pa K R P L) sz)) 0 0 (va_A (wRP cA ka ra pa K R P L) sz) := by
  refine Met.ofW (cc := cX5_advance) (maxL := 2) (ret := none) (by decide) rfl ?_
  intro p e s m args below meth c s₁ B hml hv
  obtain ⟨rfl, hsz, hP, hK, hD0, hN, hB⟩ := hv
  have hx := B.exec
  have hb := B.bytes
  have hr := B.returns
  have hts := atoms_spec (ws := .code yX5_advance cX5_advance 2 none :: T0) B.pre
  have hT : ∀ w ∈ T0, w.before _ s = true := fun w h => hts w (List.mem_cons_of_mem _ h)
  have hown : s.vm.findClass RX5 = some m.cls := findClass_of_methodNamed B.named
  have hlocks := B.notSynchronized
  subst hsz
  have hD := hD0.self (sz := s.heap.size)
  generalize hAe : va_A (wRP cA ka ra pa K R P L) s.heap.size = A at hD hB ⊢
  have hA : ∀ q : Nat, s.heap.size ≤ q → A q := fun q h => by rw [← hAe]; exact Or.inr h
  have hS : va_S A s.heap s.heap [] := va_S.rf
  have hl := lv_entry ([.ref (ka 0)]) (n := 2) (Nat.le_of_ble_eq_true rfl)
  rw [lg_entry_eq]
  generalize (lg_sl ([.ref (ka 0)]) ++ List.replicate (2 - (lg_sl ([.ref (ka 0)])).length) Slot.unset).toArray = ls at hl ⊢
  have hl : lv_has ls 2 [(0, .ref (ka 0))] := hl
  have F : tF p s m ([.ref (ka 0)] : List Value).toArray meth c G cA A RX5 cX5_advance 2 none := ⟨hx, hb, hr, hml, hT, hown, hlocks, hK, hN, hA⟩
  obtain ⟨H, hH⟩ : ∃ z, z = s.heap := ⟨_, rfl⟩
  rw [← hH] at hP
  have hS : va_S A s.heap H [] := by rw [hH]; exact hS
  suffices hgo : G_X5_advance p l e s m below meth c G cA A bA ka ra pa R P L K' H [] (F0 m 0 ls []) by rw [hH] at hgo; exact hgo
  generalize ([] : List Loc) = locs at hS ⊢
  unfold f_X5_advance at h
  exact w_X5_advance_L0 F hB 2000 K H locs ls h hP hD hS (lv_sub hl [0] rfl)
abbrev G_X5_begin (p : Program) (l : Launch) (e : Env) (s : State) (m : MethodId) (below : List Frame) (meth : Method) (c : Code) (G : va_G) (cA : Nat → ClassId) (A : Nat → Prop) (bA : Nat) (ka : Nat → Nat) (ra : Nat → Nat) (pa : Nat → Nat) (R : Tr) (P : Tr) (L : Lo) (x1 : Int32) (K' : Tr) (H : Heap) (locs : List Loc) (g : JFrame) : Prop := W p l e (headSpec (.code yX5_begin cX5_begin 2 none :: T0) ({ frames := 3, cells := 0, slots := 0, locals := 65 } : Room)).room s m ([.ref (ka 0), .int x1] : List Value).toArray below meth c H locs 0 0 (MQ below (tqQv G cA (fun (_ : Unit) => True) (fun (_ : Unit) => wRP cA ka ra pa (K') R P L) A) ([.ref (ka 0), .int x1] : List Value).toArray s 0 0 A) g
set_option maxHeartbeats 4000000 in
set_option maxRecDepth 100000 in
theorem c_X5_begin (l : Launch) (G : va_G) (cA : Nat → ClassId) (sz : Nat) (bA : Nat) (ka : Nat → Nat) (ra : Nat → Nat) (pa : Nat → Nat) (K : Tr) (R : Tr) (P : Tr) (L : Lo) (x1 : Int32)  (K' : Tr) (h : f_X5_begin K x1 = some K') : Met l yX5_begin (.code yX5_begin cX5_begin 2 none :: T0) ({ frames := 3, cells := 0, slots := 0, locals := 65 } : Room) (tqPB bA G cA [.ref (ka 0), .int x1] (wRP cA ka ra pa K R P L) sz) (tqQv G cA (fun (_ : Unit) => True) (fun (_ : Unit) => wRP cA ka ra pa (K') R P L) (va_A (wRP cA ka ra pa K R P L) sz)) 0 0 (va_A (wRP cA ka ra pa K R P L) sz) := by
  refine Met.ofW (cc := cX5_begin) (maxL := 2) (ret := none) (by decide) rfl ?_
  intro p e s m args below meth c s₁ B hml hv
  obtain ⟨rfl, hsz, hP, hK, hD0, hN, hB⟩ := hv
  have hx := B.exec
  have hb := B.bytes
  have hr := B.returns
  have hts := atoms_spec (ws := .code yX5_begin cX5_begin 2 none :: T0) B.pre
  have hT : ∀ w ∈ T0, w.before _ s = true := fun w h => hts w (List.mem_cons_of_mem _ h)
  have hown : s.vm.findClass RX5 = some m.cls := findClass_of_methodNamed B.named
  have hlocks := B.notSynchronized
  subst hsz
  have hD := hD0.self (sz := s.heap.size)
  generalize hAe : va_A (wRP cA ka ra pa K R P L) s.heap.size = A at hD hB ⊢
  have hA : ∀ q : Nat, s.heap.size ≤ q → A q := fun q h => by rw [← hAe]; exact Or.inr h
  have hS : va_S A s.heap s.heap [] := va_S.rf
  have hl := lv_entry ([.ref (ka 0), .int x1]) (n := 2) (Nat.le_of_ble_eq_true rfl)
  rw [lg_entry_eq]
  generalize (lg_sl ([.ref (ka 0), .int x1]) ++ List.replicate (2 - (lg_sl ([.ref (ka 0), .int x1])).length) Slot.unset).toArray = ls at hl ⊢
  have hl : lv_has ls 2 [(0, .ref (ka 0)), (1, .int x1)] := hl
  have F : tF p s m ([.ref (ka 0), .int x1] : List Value).toArray meth c G cA A RX5 cX5_begin 2 none := ⟨hx, hb, hr, hml, hT, hown, hlocks, hK, hN, hA⟩
  obtain ⟨H, hH⟩ : ∃ z, z = s.heap := ⟨_, rfl⟩
  rw [← hH] at hP
  have hS : va_S A s.heap H [] := by rw [hH]; exact hS
  suffices hgo : G_X5_begin p l e s m below meth c G cA A bA ka ra pa R P L x1 K' H [] (F0 m 0 ls []) by rw [hH] at hgo; exact hgo
  generalize ([] : List Loc) = locs at hS ⊢
  unfold f_X5_begin at h
  refine lv_aload_n hx hb dX5_begin_0 rfl (lv_at hl 0 rfl) ?_
  refine lv_iload_n hx hb dX5_begin_1 rfl (lv_at hl 1 rfl) ?_
  refine va_put (D := G) (ci := 5) (v := .int x1) (ty := .int) (C := RX5) (T := TX5) (N := 8) hx hb hT ku_5 tyX5 tyX5_ok nmX5 hown hK hP hD hS 0 rfl rfl 6 (by decide) (hT _ kw_14_21) (fun _ h9 => h9) rfl (by decide +kernel) rfl rfl (Nat.le_of_ble_eq_true rfl) dX5_begin_2 (fun H locs hP hD hS => ?_)
  obtain ⟨K_1, eK_1, h⟩ := tx_lt h
  rw [sRP_ka_f6, eK_1] at hP hD
  refine lv_aload_n hx hb dX5_begin_5 rfl (lv_at hl 0 rfl) ?_
  refine lv_iconst (v := 0) hx hb dX5_begin_6 (by decide) ?_
  refine va_put (D := G) (ci := 5) (v := .int 0) (ty := .int) (C := RX5) (T := TX5) (N := 8) hx hb hT ku_5 tyX5 tyX5_ok nmX5 hown hK hP hD hS 0 rfl rfl 7 (by decide) (hT _ kw_14_22) (fun _ h9 => h9) rfl (by decide +kernel) rfl rfl (Nat.le_of_ble_eq_true rfl) dX5_begin_7 (fun H locs hP hD hS => ?_)
  obtain ⟨K_2, eK_2, h⟩ := tx_lt h
  rw [sRP_ka_f7, eK_2] at hP hD
  refine lv_aload_n hx hb dX5_begin_10 rfl (lv_at hl 0 rfl) ?_
  obtain ⟨K_3, hc4, h⟩ := tx_bd h
  refine tzB_v (As := []) (rest := []) ⟨hx, hb, hml, hown, hT⟩ hP hD hS hA hK hN hB (c_X5_advance l G cA H.size bA ka ra pa K_2 R P L  K_3 hc4) (tq_gV kw_14_23 kw_15_0 kw_15_1 kw_2_22 kw_15_2) rfl rfl dkdV_yX5_advance_0 (Nat.le_of_ble_eq_true rfl) (Nat.le_of_ble_eq_true rfl) (ci := 5) (q0 := 0) rfl rfl rfl hl.1 rfl (Nat.le_of_ble_eq_true rfl) dX5_begin_11 ⟨Nat.le_of_ble_eq_true rfl, Nat.le_of_ble_eq_true rfl⟩ (fun _ H locs z5 hP hD hS => ?_)
  have hP : va_P G vwCl (wRP cA ka ra pa K_3 R P L) H := hP
  have hD : va_D A (wRP cA ka ra pa K_3 R P L) := hD
  obtain rfl := tx_1 h
  exact W.vret hx hb hr (fun t ht hW => ⟨⟨(), rfl, trivial, by rw [ht]; exact hP, hD⟩, hS.F ht⟩) hS.2.2 dX5_begin_14
abbrev G_X3_expect (p : Program) (l : Launch) (e : Env) (s : State) (m : MethodId) (below : List Frame) (meth : Method) (c : Code) (G : va_G) (cA : Nat → ClassId) (A : Nat → Prop) (bA : Nat) (ka : Nat → Nat) (ra : Nat → Nat) (pa : Nat → Nat) (K : Tr) (P : Tr) (L : Lo) (x1 : Int32) (x2 : Int32) (r0 : Int32) (R' : Tr) (H : Heap) (locs : List Loc) (g : JFrame) : Prop := W p l e (headSpec (.code yX3_expect cX3_expect 3 (some .boolean) :: T0) ({ frames := 0, cells := 0, slots := 0, locals := 0 } : Room)).room s m ([.ref (ra 0), .int x1, .int x2] : List Value).toArray below meth c H locs 0 0 (MQ below (tqQi G cA (fun (r : Int32) (_ : Unit) => r = r0) (fun (_ : Unit) => wRP cA ka ra pa K (R') P L) A) ([.ref (ra 0), .int x1, .int x2] : List Value).toArray s 0 0 A) g
set_option maxHeartbeats 4000000 in
set_option maxRecDepth 100000 in
theorem c_X3_expect (l : Launch) (G : va_G) (cA : Nat → ClassId) (sz : Nat) (bA : Nat) (ka : Nat → Nat) (ra : Nat → Nat) (pa : Nat → Nat) (K : Tr) (R : Tr) (P : Tr) (L : Lo) (x1 : Int32) (x2 : Int32)  (r0 : Int32) (R' : Tr) (h : f_X3_expect K R x1 x2 = some (r0, R')) : Met l yX3_expect (.code yX3_expect cX3_expect 3 (some .boolean) :: T0) ({ frames := 0, cells := 0, slots := 0, locals := 0 } : Room) (tqPB bA G cA [.ref (ra 0), .int x1, .int x2] (wRP cA ka ra pa K R P L) sz) (tqQi G cA (fun (r : Int32) (_ : Unit) => r = r0) (fun (_ : Unit) => wRP cA ka ra pa K (R') P L) (va_A (wRP cA ka ra pa K R P L) sz)) 0 0 (va_A (wRP cA ka ra pa K R P L) sz) := by
  refine Met.ofW (cc := cX3_expect) (maxL := 3) (ret := (some .boolean)) (by decide) rfl ?_
  intro p e s m args below meth c s₁ B hml hv
  obtain ⟨rfl, hsz, hP, hK, hD0, hN, hB⟩ := hv
  have hx := B.exec
  have hb := B.bytes
  have hr := B.returns
  have hts := atoms_spec (ws := .code yX3_expect cX3_expect 3 (some .boolean) :: T0) B.pre
  have hT : ∀ w ∈ T0, w.before _ s = true := fun w h => hts w (List.mem_cons_of_mem _ h)
  have hown : s.vm.findClass RX3 = some m.cls := findClass_of_methodNamed B.named
  have hlocks := B.notSynchronized
  subst hsz
  have hD := hD0.self (sz := s.heap.size)
  generalize hAe : va_A (wRP cA ka ra pa K R P L) s.heap.size = A at hD hB ⊢
  have hA : ∀ q : Nat, s.heap.size ≤ q → A q := fun q h => by rw [← hAe]; exact Or.inr h
  have hS : va_S A s.heap s.heap [] := va_S.rf
  have hl := lv_entry ([.ref (ra 0), .int x1, .int x2]) (n := 3) (Nat.le_of_ble_eq_true rfl)
  rw [lg_entry_eq]
  generalize (lg_sl ([.ref (ra 0), .int x1, .int x2]) ++ List.replicate (3 - (lg_sl ([.ref (ra 0), .int x1, .int x2])).length) Slot.unset).toArray = ls at hl ⊢
  have hl : lv_has ls 3 [(0, .ref (ra 0)), (1, .int x1), (2, .int x2)] := hl
  have F : tF p s m ([.ref (ra 0), .int x1, .int x2] : List Value).toArray meth c G cA A RX3 cX3_expect 3 (some .boolean) := ⟨hx, hb, hr, hml, hT, hown, hlocks, hK, hN, hA⟩
  obtain ⟨H, hH⟩ : ∃ z, z = s.heap := ⟨_, rfl⟩
  rw [← hH] at hP
  have hS : va_S A s.heap H [] := by rw [hH]; exact hS
  suffices hgo : G_X3_expect p l e s m below meth c G cA A bA ka ra pa K P L x1 x2 r0 R' H [] (F0 m 0 ls []) by rw [hH] at hgo; exact hgo
  generalize ([] : List Loc) = locs at hS ⊢
  unfold f_X3_expect at h
  refine lv_iload_n hx hb dX3_expect_0 rfl (lv_at hl 1 rfl) ?_
  refine lv_if_ne (tgt := 20) hx hb dX3_expect_1 (by decide) (fun c1 => ?_) (fun c1 => ?_)
  · have h := tx_neg c1 h
    refine lv_iload_n hx hb dX3_expect_20 rfl (lv_at hl 1 rfl) ?_
    obtain ⟨g2, h⟩ := tx_ck h
    obtain ⟨rfl, rfl⟩ := tx_2 h
    exact W.zret (ty := .boolean) hx hb hr (tx_z g2) (fun t ht hW => ⟨⟨_, (), rfl, rfl, by rw [ht]; exact hP, hD⟩, hS.F ht⟩) hS.2.2 dX3_expect_21
  · have h := tx_pos c1 h
    refine lv_aload_n hx hb dX3_expect_4 rfl (lv_at hl 0 rfl) ?_
    refine lv_iload_n hx hb dX3_expect_5 rfl (lv_at hl 2 rfl) ?_
    refine va_put (D := G) (ci := 3) (v := .int x2) (ty := .int) (C := RX3) (T := TX3) (N := 10) hx hb hT ku_3 tyX3 tyX3_ok nmX3 hown hK hP hD hS 3 rfl rfl 1 (by decide) (hT _ kw_3_0) (fun _ h9 => h9) rfl (by decide +kernel) rfl rfl (Nat.le_of_ble_eq_true rfl) dX3_expect_6 (fun H locs hP hD hS => ?_)
    obtain ⟨R_3, eR_3, h⟩ := tx_lt h
    rw [sRP_ra_f1, eR_3] at hP hD
    refine lv_aload_n hx hb dX3_expect_9 rfl (lv_at hl 0 rfl) ?_
    refine lv_aload_n hx hb dX3_expect_10 rfl (lv_at hl 0 rfl) ?_
    refine va_get (D := G) (ci := 3) (v := .ref (ka 0)) (C := RX3) (T := TX3) (N := 10) hx hb hT ku_3 hown hK hP 3 rfl rfl 0 (by decide) (hT _ kw_2_23) (fun _ h9 => h9) rfl dX3_expect_11 ?_
    refine va_get (D := G) (ci := 5) (v := .int (K 0 2)) (C := RX5) (T := TX5) (N := 8) hx hb hT ku_5 hown hK hP 0 rfl rfl 2 (by decide) (hT _ kw_16_22) (fun _ h9 => h9) rfl dX3_expect_14 ?_
    refine va_put (D := G) (ci := 3) (v := .int (K 0 2)) (ty := .int) (C := RX3) (T := TX3) (N := 10) hx hb hT ku_3 tyX3 tyX3_ok nmX3 hown hK hP hD hS 3 rfl rfl 2 (by decide) (hT _ kw_3_1) (fun _ h9 => h9) rfl (by decide +kernel) rfl rfl (Nat.le_of_ble_eq_true rfl) dX3_expect_17 (fun H locs hP hD hS => ?_)
    obtain ⟨R_4, eR_4, h⟩ := tx_lt h
    rw [sRP_ra_f2, eR_4] at hP hD
    refine lv_iload_n hx hb dX3_expect_20 rfl (lv_at hl 1 rfl) ?_
    obtain ⟨g5, h⟩ := tx_ck h
    obtain ⟨rfl, rfl⟩ := tx_2 h
    exact W.zret (ty := .boolean) hx hb hr (tx_z g5) (fun t ht hW => ⟨⟨_, (), rfl, rfl, by rw [ht]; exact hP, hD⟩, hS.F ht⟩) hS.2.2 dX3_expect_21
abbrev G_X3_openSign (p : Program) (l : Launch) (e : Env) (s : State) (m : MethodId) (below : List Frame) (meth : Method) (c : Code) (G : va_G) (cA : Nat → ClassId) (A : Nat → Prop) (bA : Nat) (ka : Nat → Nat) (ra : Nat → Nat) (pa : Nat → Nat) (K : Tr) (P : Tr) (L : Lo) (x1 : Int32) (r0 : Int32) (R' : Tr) (H : Heap) (locs : List Loc) (g : JFrame) : Prop := W p l e (headSpec (.code yX3_openSign cX3_openSign 2 (some .boolean) :: T0) ({ frames := 0, cells := 0, slots := 0, locals := 0 } : Room)).room s m ([.ref (ra 0), .int x1] : List Value).toArray below meth c H locs 0 0 (MQ below (tqQi G cA (fun (r : Int32) (_ : Unit) => r = r0) (fun (_ : Unit) => wRP cA ka ra pa K (R') P L) A) ([.ref (ra 0), .int x1] : List Value).toArray s 0 0 A) g
set_option maxHeartbeats 4000000 in
set_option maxRecDepth 100000 in
theorem c_X3_openSign (l : Launch) (G : va_G) (cA : Nat → ClassId) (sz : Nat) (bA : Nat) (ka : Nat → Nat) (ra : Nat → Nat) (pa : Nat → Nat) (K : Tr) (R : Tr) (P : Tr) (L : Lo) (x1 : Int32)  (r0 : Int32) (R' : Tr) (h : f_X3_openSign R x1 = some (r0, R')) : Met l yX3_openSign (.code yX3_openSign cX3_openSign 2 (some .boolean) :: T0) ({ frames := 0, cells := 0, slots := 0, locals := 0 } : Room) (tqPB bA G cA [.ref (ra 0), .int x1] (wRP cA ka ra pa K R P L) sz) (tqQi G cA (fun (r : Int32) (_ : Unit) => r = r0) (fun (_ : Unit) => wRP cA ka ra pa K (R') P L) (va_A (wRP cA ka ra pa K R P L) sz)) 0 0 (va_A (wRP cA ka ra pa K R P L) sz) := by
  refine Met.ofW (cc := cX3_openSign) (maxL := 2) (ret := (some .boolean)) (by decide) rfl ?_
  intro p e s m args below meth c s₁ B hml hv
  obtain ⟨rfl, hsz, hP, hK, hD0, hN, hB⟩ := hv
  have hx := B.exec
  have hb := B.bytes
  have hr := B.returns
  have hts := atoms_spec (ws := .code yX3_openSign cX3_openSign 2 (some .boolean) :: T0) B.pre
  have hT : ∀ w ∈ T0, w.before _ s = true := fun w h => hts w (List.mem_cons_of_mem _ h)
  have hown : s.vm.findClass RX3 = some m.cls := findClass_of_methodNamed B.named
  have hlocks := B.notSynchronized
  subst hsz
  have hD := hD0.self (sz := s.heap.size)
  generalize hAe : va_A (wRP cA ka ra pa K R P L) s.heap.size = A at hD hB ⊢
  have hA : ∀ q : Nat, s.heap.size ≤ q → A q := fun q h => by rw [← hAe]; exact Or.inr h
  have hS : va_S A s.heap s.heap [] := va_S.rf
  have hl := lv_entry ([.ref (ra 0), .int x1]) (n := 2) (Nat.le_of_ble_eq_true rfl)
  rw [lg_entry_eq]
  generalize (lg_sl ([.ref (ra 0), .int x1]) ++ List.replicate (2 - (lg_sl ([.ref (ra 0), .int x1])).length) Slot.unset).toArray = ls at hl ⊢
  have hl : lv_has ls 2 [(0, .ref (ra 0)), (1, .int x1)] := hl
  have F : tF p s m ([.ref (ra 0), .int x1] : List Value).toArray meth c G cA A RX3 cX3_openSign 2 (some .boolean) := ⟨hx, hb, hr, hml, hT, hown, hlocks, hK, hN, hA⟩
  obtain ⟨H, hH⟩ : ∃ z, z = s.heap := ⟨_, rfl⟩
  rw [← hH] at hP
  have hS : va_S A s.heap H [] := by rw [hH]; exact hS
  suffices hgo : G_X3_openSign p l e s m below meth c G cA A bA ka ra pa K P L x1 r0 R' H [] (F0 m 0 ls []) by rw [hH] at hgo; exact hgo
  generalize ([] : List Loc) = locs at hS ⊢
  unfold f_X3_openSign at h
  refine lv_aload_n hx hb dX3_openSign_0 rfl (lv_at hl 0 rfl) ?_
  refine va_get (D := G) (ci := 3) (v := .int (R 0 8)) (C := RX3) (T := TX3) (N := 10) hx hb hT ku_3 hown hK hP 3 rfl rfl 8 (by decide) (hT _ kw_20_1) (fun _ h9 => h9) rfl dX3_openSign_1 ?_
  refine lv_aload_n hx hb dX3_openSign_4 rfl (lv_at hl 0 rfl) ?_
  refine va_get (D := G) (ci := 3) (v := .ref (ra 8)) (C := RX3) (T := TX3) (N := 10) hx hb hT ku_3 hown hK hP 3 rfl rfl 7 (by decide) (hT _ kw_3_5) (fun _ h9 => h9) rfl dX3_openSign_5 ?_
  refine va_alen (v := 72) hx hb hK hP 4 0 rfl rfl (show Int32.ofNat 72 = 72 from by decide) dX3_openSign_8 ?_
  refine lv_icmp_ge (tgt := 32) hx hb dX3_openSign_9 (by decide) (fun c1 => ?_) (fun c1 => ?_)
  · have h := tx_pos c1 h
    refine lv_iconst (v := 1) hx hb dX3_openSign_32 (by decide) ?_
    obtain ⟨rfl, rfl⟩ := tx_2 h
    exact W.zret (ty := .boolean) hx hb hr rfl (fun t ht hW => ⟨⟨_, (), rfl, rfl, by rw [ht]; exact hP, hD⟩, hS.F ht⟩) hS.2.2 dX3_openSign_33
  · have h := tx_neg c1 h
    refine lv_aload_n hx hb dX3_openSign_12 rfl (lv_at hl 0 rfl) ?_
    refine va_get (D := G) (ci := 3) (v := .ref (ra 8)) (C := RX3) (T := TX3) (N := 10) hx hb hT ku_3 hown hK hP 3 rfl rfl 7 (by decide) (hT _ kw_3_5) (fun _ h9 => h9) rfl dX3_openSign_13 ?_
    refine lv_aload_n hx hb dX3_openSign_16 rfl (lv_at hl 0 rfl) ?_
    refine va_get (D := G) (ci := 3) (v := .int (R 0 8)) (C := RX3) (T := TX3) (N := 10) hx hb hT ku_3 hown hK hP 3 rfl rfl 8 (by decide) (hT _ kw_20_1) (fun _ h9 => h9) rfl dX3_openSign_17 ?_
    refine lv_iload_n hx hb dX3_openSign_20 rfl (lv_at hl 1 rfl) ?_
    obtain ⟨g2, h⟩ := tx_ck h
    refine va_iast (i := (R 0 8)) hx hb hK hP hD hS 4 0 rfl rfl (tx_in g2) dX3_openSign_21 (fun H locs hP hD hS => ?_)
    obtain ⟨R_3, eR_3, h⟩ := tx_lt h
    rw [sRP_ra_a7, eR_3] at hP hD
    refine lv_aload_n hx hb dX3_openSign_22 rfl (lv_at hl 0 rfl) ?_
    refine lv_dup hx hb dX3_openSign_23 rfl ?_
    refine va_get (D := G) (ci := 3) (v := .int (R_3 0 8)) (C := RX3) (T := TX3) (N := 10) hx hb hT ku_3 hown hK hP 3 rfl rfl 8 (by decide) (hT _ kw_20_1) (fun _ h9 => h9) rfl dX3_openSign_24 ?_
    refine lv_iconst (v := 1) hx hb dX3_openSign_27 (by decide) ?_
    refine lv_iadd hx hb dX3_openSign_28 ?_
    refine va_put (D := G) (ci := 3) (v := .int ((R_3 0 8) + 1)) (ty := .int) (C := RX3) (T := TX3) (N := 10) hx hb hT ku_3 tyX3 tyX3_ok nmX3 hown hK hP hD hS 3 rfl rfl 8 (by decide) (hT _ kw_20_1) (fun _ h9 => h9) rfl (by decide +kernel) rfl rfl (Nat.le_of_ble_eq_true rfl) dX3_openSign_29 (fun H locs hP hD hS => ?_)
    obtain ⟨R_4, eR_4, h⟩ := tx_lt h
    rw [sRP_ra_f8, eR_4] at hP hD
    refine lv_iconst (v := 1) hx hb dX3_openSign_32 (by decide) ?_
    obtain ⟨rfl, rfl⟩ := tx_2 h
    exact W.zret (ty := .boolean) hx hb hr rfl (fun t ht hW => ⟨⟨_, (), rfl, rfl, by rw [ht]; exact hP, hD⟩, hS.F ht⟩) hS.2.2 dX3_openSign_33
abbrev G_X3_openBracket (p : Program) (l : Launch) (e : Env) (s : State) (m : MethodId) (below : List Frame) (meth : Method) (c : Code) (G : va_G) (cA : Nat → ClassId) (A : Nat → Prop) (bA : Nat) (ka : Nat → Nat) (ra : Nat → Nat) (pa : Nat → Nat) (K : Tr) (P : Tr) (L : Lo) (r0 : Int32) (R' : Tr) (H : Heap) (locs : List Loc) (g : JFrame) : Prop := W p l e (headSpec (.code yX3_openBracket cX3_openBracket 1 (some .boolean) :: T0) ({ frames := 1, cells := 0, slots := 0, locals := 21 } : Room)).room s m ([.ref (ra 0)] : List Value).toArray below meth c H locs 0 0 (MQ below (tqQi G cA (fun (r : Int32) (_ : Unit) => r = r0) (fun (_ : Unit) => wRP cA ka ra pa K (R') P L) A) ([.ref (ra 0)] : List Value).toArray s 0 0 A) g
set_option maxHeartbeats 4000000 in
set_option maxRecDepth 100000 in
theorem c_X3_openBracket (l : Launch) (G : va_G) (cA : Nat → ClassId) (sz : Nat) (bA : Nat) (ka : Nat → Nat) (ra : Nat → Nat) (pa : Nat → Nat) (K : Tr) (R : Tr) (P : Tr) (L : Lo)  (r0 : Int32) (R' : Tr) (h : f_X3_openBracket R = some (r0, R')) : Met l yX3_openBracket (.code yX3_openBracket cX3_openBracket 1 (some .boolean) :: T0) ({ frames := 1, cells := 0, slots := 0, locals := 21 } : Room) (tqPB bA G cA [.ref (ra 0)] (wRP cA ka ra pa K R P L) sz) (tqQi G cA (fun (r : Int32) (_ : Unit) => r = r0) (fun (_ : Unit) => wRP cA ka ra pa K (R') P L) (va_A (wRP cA ka ra pa K R P L) sz)) 0 0 (va_A (wRP cA ka ra pa K R P L) sz) := by
  refine Met.ofW (cc := cX3_openBracket) (maxL := 1) (ret := (some .boolean)) (by decide) rfl ?_
  intro p e s m args below meth c s₁ B hml hv
  obtain ⟨rfl, hsz, hP, hK, hD0, hN, hB⟩ := hv
  have hx := B.exec
  have hb := B.bytes
  have hr := B.returns
  have hts := atoms_spec (ws := .code yX3_openBracket cX3_openBracket 1 (some .boolean) :: T0) B.pre
  have hT : ∀ w ∈ T0, w.before _ s = true := fun w h => hts w (List.mem_cons_of_mem _ h)
  have hown : s.vm.findClass RX3 = some m.cls := findClass_of_methodNamed B.named
  have hlocks := B.notSynchronized
  subst hsz
  have hD := hD0.self (sz := s.heap.size)
  generalize hAe : va_A (wRP cA ka ra pa K R P L) s.heap.size = A at hD hB ⊢
  have hA : ∀ q : Nat, s.heap.size ≤ q → A q := fun q h => by rw [← hAe]; exact Or.inr h
  have hS : va_S A s.heap s.heap [] := va_S.rf
  have hl := lv_entry ([.ref (ra 0)]) (n := 1) (Nat.le_of_ble_eq_true rfl)
  rw [lg_entry_eq]
  generalize (lg_sl ([.ref (ra 0)]) ++ List.replicate (1 - (lg_sl ([.ref (ra 0)])).length) Slot.unset).toArray = ls at hl ⊢
  have hl : lv_has ls 1 [(0, .ref (ra 0))] := hl
  have F : tF p s m ([.ref (ra 0)] : List Value).toArray meth c G cA A RX3 cX3_openBracket 1 (some .boolean) := ⟨hx, hb, hr, hml, hT, hown, hlocks, hK, hN, hA⟩
  obtain ⟨H, hH⟩ : ∃ z, z = s.heap := ⟨_, rfl⟩
  rw [← hH] at hP
  have hS : va_S A s.heap H [] := by rw [hH]; exact hS
  suffices hgo : G_X3_openBracket p l e s m below meth c G cA A bA ka ra pa K P L r0 R' H [] (F0 m 0 ls []) by rw [hH] at hgo; exact hgo
  generalize ([] : List Loc) = locs at hS ⊢
  unfold f_X3_openBracket at h
  refine lv_aload_n hx hb dX3_openBracket_0 rfl (lv_at hl 0 rfl) ?_
  refine lv_dup hx hb dX3_openBracket_1 rfl ?_
  refine va_get (D := G) (ci := 3) (v := .int (R 0 9)) (C := RX3) (T := TX3) (N := 10) hx hb hT ku_3 hown hK hP 3 rfl rfl 9 (by decide) (hT _ kw_20_2) (fun _ h9 => h9) rfl dX3_openBracket_2 ?_
  refine lv_iconst (v := 1) hx hb dX3_openBracket_5 (by decide) ?_
  refine lv_iadd hx hb dX3_openBracket_6 ?_
  refine va_put (D := G) (ci := 3) (v := .int ((R 0 9) + 1)) (ty := .int) (C := RX3) (T := TX3) (N := 10) hx hb hT ku_3 tyX3 tyX3_ok nmX3 hown hK hP hD hS 3 rfl rfl 9 (by decide) (hT _ kw_20_2) (fun _ h9 => h9) rfl (by decide +kernel) rfl rfl (Nat.le_of_ble_eq_true rfl) dX3_openBracket_7 (fun H locs hP hD hS => ?_)
  obtain ⟨R_1, eR_1, h⟩ := tx_lt h
  rw [sRP_ra_f9, eR_1] at hP hD
  refine lv_aload_n hx hb dX3_openBracket_10 rfl (lv_at hl 0 rfl) ?_
  refine lv_bipush (v := 39) hx hb dX3_openBracket_11 (by decide) ?_
  obtain ⟨⟨r2, R_3⟩, hc4, h⟩ := tx_bd h
  replace h := tx_let (y := r2) rfl h
  replace h := tx_let (y := R_3) rfl h
  refine tzB_i (As := [.int 39]) (rest := []) ⟨hx, hb, hml, hown, hT⟩ hP hD hS hA hK hN hB (c_X3_openSign l G cA H.size bA ka ra pa K R_1 P L (39 : Int32)  r2 R_3 hc4) (tq_gV kw_20_11 kw_20_12 kw_20_13 kw_1_15 kw_20_14) rfl rfl dkdV_yX3_openSign_1 (Nat.le_of_ble_eq_true rfl) (Nat.le_of_ble_eq_true rfl) (ci := 3) (q0 := 3) rfl rfl rfl hl.1 rfl (Nat.le_of_ble_eq_true rfl) dX3_openBracket_13 ⟨Nat.le_of_ble_eq_true rfl, Nat.le_of_ble_eq_true rfl⟩ (fun _ _ H locs z5 hP hD hS => ?_)
  have z5 := z5.symm
  subst z5
  have hP : va_P G vwCl (wRP cA ka ra pa K R_3 P L) H := hP
  have hD : va_D A (wRP cA ka ra pa K R_3 P L) := hD
  obtain ⟨g6, h⟩ := tx_ck h
  obtain ⟨rfl, rfl⟩ := tx_2 h
  exact W.zret (ty := .boolean) hx hb hr (tx_z g6) (fun t ht hW => ⟨⟨_, (), rfl, rfl, by rw [ht]; exact hP, hD⟩, hS.F ht⟩) hS.2.2 dX3_openBracket_16
abbrev G_X3_latestBinds (p : Program) (l : Launch) (e : Env) (s : State) (m : MethodId) (below : List Frame) (meth : Method) (c : Code) (G : va_G) (cA : Nat → ClassId) (A : Nat → Prop) (bA : Nat) (ka : Nat → Nat) (ra : Nat → Nat) (pa : Nat → Nat) (K : Tr) (R : Tr) (P : Tr) (L : Lo) (r0 : Int32) (H : Heap) (locs : List Loc) (g : JFrame) : Prop := W p l e (headSpec (.code yX3_latestBinds cX3_latestBinds 1 (some .int) :: T0) ({ frames := 0, cells := 0, slots := 0, locals := 0 } : Room)).room s m ([.ref (ra 0)] : List Value).toArray below meth c H locs 0 0 (MQ below (tqQi G cA (fun (r : Int32) (_ : Unit) => r = r0) (fun (_ : Unit) => wRP cA ka ra pa K R P L) A) ([.ref (ra 0)] : List Value).toArray s 0 0 A) g
set_option maxHeartbeats 4000000 in
set_option maxRecDepth 100000 in
theorem c_X3_latestBinds (l : Launch) (G : va_G) (cA : Nat → ClassId) (sz : Nat) (bA : Nat) (ka : Nat → Nat) (ra : Nat → Nat) (pa : Nat → Nat) (K : Tr) (R : Tr) (P : Tr) (L : Lo)  (r0 : Int32) (h : f_X3_latestBinds R = some r0) : Met l yX3_latestBinds (.code yX3_latestBinds cX3_latestBinds 1 (some .int) :: T0) ({ frames := 0, cells := 0, slots := 0, locals := 0 } : Room) (tqPB bA G cA [.ref (ra 0)] (wRP cA ka ra pa K R P L) sz) (tqQi G cA (fun (r : Int32) (_ : Unit) => r = r0) (fun (_ : Unit) => wRP cA ka ra pa K R P L) (va_A (wRP cA ka ra pa K R P L) sz)) 0 0 (va_A (wRP cA ka ra pa K R P L) sz) := by
  refine Met.ofW (cc := cX3_latestBinds) (maxL := 1) (ret := (some .int)) (by decide) rfl ?_
  intro p e s m args below meth c s₁ B hml hv
  obtain ⟨rfl, hsz, hP, hK, hD0, hN, hB⟩ := hv
  have hx := B.exec
  have hb := B.bytes
  have hr := B.returns
  have hts := atoms_spec (ws := .code yX3_latestBinds cX3_latestBinds 1 (some .int) :: T0) B.pre
  have hT : ∀ w ∈ T0, w.before _ s = true := fun w h => hts w (List.mem_cons_of_mem _ h)
  have hown : s.vm.findClass RX3 = some m.cls := findClass_of_methodNamed B.named
  have hlocks := B.notSynchronized
  subst hsz
  have hD := hD0.self (sz := s.heap.size)
  generalize hAe : va_A (wRP cA ka ra pa K R P L) s.heap.size = A at hD hB ⊢
  have hA : ∀ q : Nat, s.heap.size ≤ q → A q := fun q h => by rw [← hAe]; exact Or.inr h
  have hS : va_S A s.heap s.heap [] := va_S.rf
  have hl := lv_entry ([.ref (ra 0)]) (n := 1) (Nat.le_of_ble_eq_true rfl)
  rw [lg_entry_eq]
  generalize (lg_sl ([.ref (ra 0)]) ++ List.replicate (1 - (lg_sl ([.ref (ra 0)])).length) Slot.unset).toArray = ls at hl ⊢
  have hl : lv_has ls 1 [(0, .ref (ra 0))] := hl
  have F : tF p s m ([.ref (ra 0)] : List Value).toArray meth c G cA A RX3 cX3_latestBinds 1 (some .int) := ⟨hx, hb, hr, hml, hT, hown, hlocks, hK, hN, hA⟩
  obtain ⟨H, hH⟩ : ∃ z, z = s.heap := ⟨_, rfl⟩
  rw [← hH] at hP
  have hS : va_S A s.heap H [] := by rw [hH]; exact hS
  suffices hgo : G_X3_latestBinds p l e s m below meth c G cA A bA ka ra pa K R P L r0 H [] (F0 m 0 ls []) by rw [hH] at hgo; exact hgo
  generalize ([] : List Loc) = locs at hS ⊢
  unfold f_X3_latestBinds at h
  refine lv_aload_n hx hb dX3_latestBinds_0 rfl (lv_at hl 0 rfl) ?_
  refine va_get (D := G) (ci := 3) (v := .int (R 0 8)) (C := RX3) (T := TX3) (N := 10) hx hb hT ku_3 hown hK hP 3 rfl rfl 8 (by decide) (hT _ kw_20_1) (fun _ h9 => h9) rfl dX3_latestBinds_1 ?_
  refine lv_if_ne (tgt := 11) hx hb dX3_latestBinds_4 (by decide) (fun c1 => ?_) (fun c1 => ?_)
  · have h := tx_neg c1 h
    refine va_getsN hx hb hB.2.1 hS hown (va_tabs rfl rfl hB.2.2) (fun _ h9 => h9) dX3_latestBinds_11 ?_
    refine lv_aload_n hx hb dX3_latestBinds_14 rfl (lv_at hl 0 rfl) ?_
    refine va_get (D := G) (ci := 3) (v := .ref (ra 8)) (C := RX3) (T := TX3) (N := 10) hx hb hT ku_3 hown hK hP 3 rfl rfl 7 (by decide) (hT _ kw_3_5) (fun _ h9 => h9) rfl dX3_latestBinds_15 ?_
    refine lv_aload_n hx hb dX3_latestBinds_18 rfl (lv_at hl 0 rfl) ?_
    refine va_get (D := G) (ci := 3) (v := .int (R 0 8)) (C := RX3) (T := TX3) (N := 10) hx hb hT ku_3 hown hK hP 3 rfl rfl 8 (by decide) (hT _ kw_20_1) (fun _ h9 => h9) rfl dX3_latestBinds_19 ?_
    refine lv_iconst (v := 1) hx hb dX3_latestBinds_22 (by decide) ?_
    refine lv_isub hx hb dX3_latestBinds_23 ?_
    obtain ⟨g2, h⟩ := tx_ck h
    refine va_iald (i := ((R 0 8) - 1)) hx hb hK hP 4 0 rfl rfl (tx_in g2) dX3_latestBinds_24 ?_
    obtain ⟨g3, h⟩ := tx_ck h
    refine va_ti hx hb hB.1 hS (tx_in g3) rfl dX3_latestBinds_25 ?_
    obtain rfl := tx_1 h
    exact W.iret hx hb hr (fun t ht hW => ⟨⟨_, (), rfl, rfl, by rw [ht]; exact hP, hD⟩, hS.F ht⟩) hS.2.2 dX3_latestBinds_26
  · have h := tx_pos c1 h
    refine lv_iconst (v := (-1)) hx hb dX3_latestBinds_7 (by decide) ?_
    refine lv_goto (tgt := 26) hx hb dX3_latestBinds_8 (by decide) ?_
    obtain rfl := tx_1 h
    exact W.iret hx hb hr (fun t ht hW => ⟨⟨_, (), rfl, rfl, by rw [ht]; exact hP, hD⟩, hS.F ht⟩) hS.2.2 dX3_latestBinds_26
abbrev G_X3_countKnot (p : Program) (l : Launch) (e : Env) (s : State) (m : MethodId) (below : List Frame) (meth : Method) (c : Code) (G : va_G) (cA : Nat → ClassId) (A : Nat → Prop) (bA : Nat) (ka : Nat → Nat) (ra : Nat → Nat) (pa : Nat → Nat) (K : Tr) (L : Lo) (r0 : Int32) (R' : Tr) (P' : Tr) (H : Heap) (locs : List Loc) (g : JFrame) : Prop := W p l e (headSpec (.code yX3_countKnot cX3_countKnot 1 (some .boolean) :: T0) ({ frames := 1, cells := 0, slots := 0, locals := 22 } : Room)).room s m ([.ref (ra 0)] : List Value).toArray below meth c H locs 0 0 (MQ below (tqQi G cA (fun (r : Int32) (_ : Unit) => r = r0) (fun (_ : Unit) => wRP cA ka ra pa K (R') (P') L) A) ([.ref (ra 0)] : List Value).toArray s 0 0 A) g
set_option maxHeartbeats 4000000 in
set_option maxRecDepth 100000 in
theorem w_X3_countKnot_J18 {p : Program} {l : Launch} {e : Env} {s : State} {m : MethodId} {below : List Frame} {meth : Method} {c : Code} {G : va_G} {cA : Nat → ClassId} {A : Nat → Prop} {bA : Nat} {ka : Nat → Nat} {ra : Nat → Nat} {pa : Nat → Nat} {K : Tr} {L : Lo} {r0 : Int32} {R' : Tr} {P' : Tr} (F : tF p s m ([.ref (ra 0)] : List Value).toArray meth c G cA A RX3 cX3_countKnot 1 (some .boolean)) (hB : tqB bA A s s.heap)    (s0 : Int32) (R : Tr) (P : Tr) (H : Heap) (locs : List Loc) (ls : Array Slot) (h : fJ_X3_countKnot_J18 K s0 R P = some (r0, R', P')) (hP : va_P G vwCl (wRP cA ka ra pa K R P L) H) (hD : va_D A (wRP cA ka ra pa K R P L)) (hS : va_S A s.heap H locs) (hl : lv_has ls 1 [(0, .ref (ra 0))]) : G_X3_countKnot p l e s m below meth c G cA A bA ka ra pa K L r0 R' P' H locs (F0 m 18 ls [.int s0, .ref (ra 0)]) := by
  obtain ⟨hx, hb, hr, hml, hT, hown, hlocks, hK, hN, hA⟩ := id F
  unfold fJ_X3_countKnot_J18 at h
  refine lv_iconst (v := 2) hx hb dX3_countKnot_18 (by decide) ?_
  obtain ⟨⟨r2, R_3⟩, hc4, h⟩ := tx_bd h
  replace h := tx_let (y := r2) rfl h
  replace h := tx_let (y := R_3) rfl h
  refine tzB_i (As := [.int s0, .int 2]) (rest := []) ⟨hx, hb, hml, hown, hT⟩ hP hD hS hA hK hN hB (c_X3_expect l G cA H.size bA ka ra pa K R P L s0 (2 : Int32)  r2 R_3 hc4) (tq_gV kw_16_18 kw_16_19 kw_16_20 kw_1_15 kw_16_21) rfl rfl dkdV_yX3_expect_2 (Nat.le_of_ble_eq_true rfl) (Nat.le_of_ble_eq_true rfl) (ci := 3) (q0 := 3) rfl rfl rfl hl.1 rfl (Nat.le_of_ble_eq_true rfl) dX3_countKnot_19 ⟨Nat.le_of_ble_eq_true rfl, Nat.le_of_ble_eq_true rfl⟩ (fun _ _ H locs z5 hP hD hS => ?_)
  have z5 := z5.symm
  subst z5
  have hP : va_P G vwCl (wRP cA ka ra pa K R_3 P L) H := hP
  have hD : va_D A (wRP cA ka ra pa K R_3 P L) := hD
  refine lv_if_ne (tgt := 27) hx hb dX3_countKnot_22 (by decide) (fun c6 => ?_) (fun c6 => ?_)
  · have h := tx_neg c6 h
    refine lv_aload_n hx hb dX3_countKnot_27 rfl (lv_at hl 0 rfl) ?_
    refine va_get (D := G) (ci := 3) (v := .ref (pa 0)) (C := RX3) (T := TX3) (N := 10) hx hb hT ku_3 hown hK hP 3 rfl rfl 4 (by decide) (hT _ kw_3_4) (fun _ h9 => h9) rfl dX3_countKnot_28 ?_
    refine lv_dup hx hb dX3_countKnot_31 rfl ?_
    refine va_get (D := G) (ci := 2) (v := .int (P 0 3)) (C := RX2) (T := TX2) (N := 19) hx hb hT ku_2 hown hK hP 5 rfl rfl 3 (by decide) (hT _ kw_20_23) (fun _ h9 => h9) rfl dX3_countKnot_32 ?_
    refine lv_iconst (v := 1) hx hb dX3_countKnot_35 (by decide) ?_
    refine lv_iadd hx hb dX3_countKnot_36 ?_
    refine va_put (D := G) (ci := 2) (v := .int ((P 0 3) + 1)) (ty := .int) (C := RX2) (T := TX2) (N := 19) hx hb hT ku_2 tyX2 tyX2_ok nmX2 hown hK hP hD hS 5 rfl rfl 3 (by decide) (hT _ kw_20_23) (fun _ h9 => h9) rfl (by decide +kernel) rfl rfl (Nat.le_of_ble_eq_true rfl) dX3_countKnot_37 (fun H locs hP hD hS => ?_)
    obtain ⟨P_7, eP_7, h⟩ := tx_lt h
    rw [sRP_pa_f3, eP_7] at hP hD
    refine lv_iconst (v := 1) hx hb dX3_countKnot_40 (by decide) ?_
    obtain ⟨rfl, rfl, rfl⟩ := tx_3 h
    exact W.zret (ty := .boolean) hx hb hr rfl (fun t ht hW => ⟨⟨_, (), rfl, rfl, by rw [ht]; exact hP, hD⟩, hS.F ht⟩) hS.2.2 dX3_countKnot_41
  · have h := tx_pos c6 h
    refine lv_iconst (v := 0) hx hb dX3_countKnot_25 (by decide) ?_
    obtain ⟨rfl, rfl, rfl⟩ := tx_3 h
    exact W.zret (ty := .boolean) hx hb hr rfl (fun t ht hW => ⟨⟨_, (), rfl, rfl, by rw [ht]; exact hP, hD⟩, hS.F ht⟩) hS.2.2 dX3_countKnot_26
set_option maxHeartbeats 4000000 in
set_option maxRecDepth 100000 in
theorem c_X3_countKnot (l : Launch) (G : va_G) (cA : Nat → ClassId) (sz : Nat) (bA : Nat) (ka : Nat → Nat) (ra : Nat → Nat) (pa : Nat → Nat) (K : Tr) (R : Tr) (P : Tr) (L : Lo)  (r0 : Int32) (R' : Tr) (P' : Tr) (h : f_X3_countKnot K R P = some (r0, R', P')) : Met l yX3_countKnot (.code yX3_countKnot cX3_countKnot 1 (some .boolean) :: T0) ({ frames := 1, cells := 0, slots := 0, locals := 22 } : Room) (tqPB bA G cA [.ref (ra 0)] (wRP cA ka ra pa K R P L) sz) (tqQi G cA (fun (r : Int32) (_ : Unit) => r = r0) (fun (_ : Unit) => wRP cA ka ra pa K (R') (P') L) (va_A (wRP cA ka ra pa K R P L) sz)) 0 0 (va_A (wRP cA ka ra pa K R P L) sz) := by
  refine Met.ofW (cc := cX3_countKnot) (maxL := 1) (ret := (some .boolean)) (by decide) rfl ?_
  intro p e s m args below meth c s₁ B hml hv
  obtain ⟨rfl, hsz, hP, hK, hD0, hN, hB⟩ := hv
  have hx := B.exec
  have hb := B.bytes
  have hr := B.returns
  have hts := atoms_spec (ws := .code yX3_countKnot cX3_countKnot 1 (some .boolean) :: T0) B.pre
  have hT : ∀ w ∈ T0, w.before _ s = true := fun w h => hts w (List.mem_cons_of_mem _ h)
  have hown : s.vm.findClass RX3 = some m.cls := findClass_of_methodNamed B.named
  have hlocks := B.notSynchronized
  subst hsz
  have hD := hD0.self (sz := s.heap.size)
  generalize hAe : va_A (wRP cA ka ra pa K R P L) s.heap.size = A at hD hB ⊢
  have hA : ∀ q : Nat, s.heap.size ≤ q → A q := fun q h => by rw [← hAe]; exact Or.inr h
  have hS : va_S A s.heap s.heap [] := va_S.rf
  have hl := lv_entry ([.ref (ra 0)]) (n := 1) (Nat.le_of_ble_eq_true rfl)
  rw [lg_entry_eq]
  generalize (lg_sl ([.ref (ra 0)]) ++ List.replicate (1 - (lg_sl ([.ref (ra 0)])).length) Slot.unset).toArray = ls at hl ⊢
  have hl : lv_has ls 1 [(0, .ref (ra 0))] := hl
  have F : tF p s m ([.ref (ra 0)] : List Value).toArray meth c G cA A RX3 cX3_countKnot 1 (some .boolean) := ⟨hx, hb, hr, hml, hT, hown, hlocks, hK, hN, hA⟩
  obtain ⟨H, hH⟩ : ∃ z, z = s.heap := ⟨_, rfl⟩
  rw [← hH] at hP
  have hS : va_S A s.heap H [] := by rw [hH]; exact hS
  suffices hgo : G_X3_countKnot p l e s m below meth c G cA A bA ka ra pa K L r0 R' P' H [] (F0 m 0 ls []) by rw [hH] at hgo; exact hgo
  generalize ([] : List Loc) = locs at hS ⊢
  unfold f_X3_countKnot at h
  refine lv_aload_n hx hb dX3_countKnot_0 rfl (lv_at hl 0 rfl) ?_
  refine lv_aload_n hx hb dX3_countKnot_1 rfl (lv_at hl 0 rfl) ?_
  refine va_get (D := G) (ci := 3) (v := .ref (pa 0)) (C := RX3) (T := TX3) (N := 10) hx hb hT ku_3 hown hK hP 3 rfl rfl 4 (by decide) (hT _ kw_3_4) (fun _ h9 => h9) rfl dX3_countKnot_2 ?_
  refine va_get (D := G) (ci := 2) (v := .int (P 0 3)) (C := RX2) (T := TX2) (N := 19) hx hb hT ku_2 hown hK hP 5 rfl rfl 3 (by decide) (hT _ kw_20_23) (fun _ h9 => h9) rfl dX3_countKnot_5 ?_
  refine lv_bipush (v := 64) hx hb dX3_countKnot_8 (by decide) ?_
  refine lv_icmp_ge (tgt := 17) hx hb dX3_countKnot_10 (by decide) (fun c1 => ?_) (fun c1 => ?_)
  · have h := tx_pos c1 h
    refine lv_iconst (v := 0) hx hb dX3_countKnot_17 (by decide) ?_
    exact w_X3_countKnot_J18 F hB 0 R P H locs ls h hP hD hS (lv_sub hl [0] rfl)
  · have h := tx_neg c1 h
    refine lv_iconst (v := 1) hx hb dX3_countKnot_13 (by decide) ?_
    refine lv_goto (tgt := 18) hx hb dX3_countKnot_14 (by decide) ?_
    exact w_X3_countKnot_J18 F hB 1 R P H locs ls h hP hD hS (lv_sub hl [0] rfl)
abbrev G_X1_append (p : Program) (l : Launch) (e : Env) (s : State) (m : MethodId) (below : List Frame) (meth : Method) (c : Code) (G : va_G) (cA : Nat → ClassId) (A : Nat → Prop) (bA : Nat) (ka : Nat → Nat) (ra : Nat → Nat) (pa : Nat → Nat) (j : Nat) (K : Tr) (R : Tr) (L : Lo) (x1 : Int32) (P' : Tr) (H : Heap) (locs : List Loc) (g : JFrame) : Prop := W p l e (headSpec (.code yX1_append cX1_append 2 none :: T0) ({ frames := 0, cells := 0, slots := 0, locals := 0 } : Room)).room s m ([.ref (pa (30 + 3 * j)), .int x1] : List Value).toArray below meth c H locs 0 0 (MQ below (tqQv G cA (fun (_ : Unit) => True) (fun (_ : Unit) => wRP cA ka ra pa K R (P') L) A) ([.ref (pa (30 + 3 * j)), .int x1] : List Value).toArray s 0 0 A) g
set_option maxHeartbeats 4000000 in
set_option maxRecDepth 100000 in
theorem c_X1_append (l : Launch) (G : va_G) (cA : Nat → ClassId) (sz : Nat) (bA : Nat) (ka : Nat → Nat) (ra : Nat → Nat) (pa : Nat → Nat) (j : Nat) (K : Tr) (R : Tr) (P : Tr) (L : Lo) (x1 : Int32) (hj : j < 3) (P' : Tr) (h : f_X1_append j P x1 = some P') : Met l yX1_append (.code yX1_append cX1_append 2 none :: T0) ({ frames := 0, cells := 0, slots := 0, locals := 0 } : Room) (tqPB bA G cA [.ref (pa (30 + 3 * j)), .int x1] (wRP cA ka ra pa K R P L) sz) (tqQv G cA (fun (_ : Unit) => True) (fun (_ : Unit) => wRP cA ka ra pa K R (P') L) (va_A (wRP cA ka ra pa K R P L) sz)) 0 0 (va_A (wRP cA ka ra pa K R P L) sz) := by
  refine Met.ofW (cc := cX1_append) (maxL := 2) (ret := none) (by decide) rfl ?_
  intro p e s m args below meth c s₁ B hml hv
  obtain ⟨rfl, hsz, hP, hK, hD0, hN, hB⟩ := hv
  have hx := B.exec
  have hb := B.bytes
  have hr := B.returns
  have hts := atoms_spec (ws := .code yX1_append cX1_append 2 none :: T0) B.pre
  have hT : ∀ w ∈ T0, w.before _ s = true := fun w h => hts w (List.mem_cons_of_mem _ h)
  have hown : s.vm.findClass RX1 = some m.cls := findClass_of_methodNamed B.named
  have hlocks := B.notSynchronized
  subst hsz
  have hD := hD0.self (sz := s.heap.size)
  generalize hAe : va_A (wRP cA ka ra pa K R P L) s.heap.size = A at hD hB ⊢
  have hA : ∀ q : Nat, s.heap.size ≤ q → A q := fun q h => by rw [← hAe]; exact Or.inr h
  have hS : va_S A s.heap s.heap [] := va_S.rf
  have hl := lv_entry ([.ref (pa (30 + 3 * j)), .int x1]) (n := 2) (Nat.le_of_ble_eq_true rfl)
  rw [lg_entry_eq]
  generalize (lg_sl ([.ref (pa (30 + 3 * j)), .int x1]) ++ List.replicate (2 - (lg_sl ([.ref (pa (30 + 3 * j)), .int x1])).length) Slot.unset).toArray = ls at hl ⊢
  have hl : lv_has ls 2 [(0, .ref (pa (30 + 3 * j))), (1, .int x1)] := hl
  have F : tF p s m ([.ref (pa (30 + 3 * j)), .int x1] : List Value).toArray meth c G cA A RX1 cX1_append 2 none := ⟨hx, hb, hr, hml, hT, hown, hlocks, hK, hN, hA⟩
  obtain ⟨H, hH⟩ : ∃ z, z = s.heap := ⟨_, rfl⟩
  rw [← hH] at hP
  have hS : va_S A s.heap H [] := by rw [hH]; exact hS
  suffices hgo : G_X1_append p l e s m below meth c G cA A bA ka ra pa j K R L x1 P' H [] (F0 m 0 ls []) by rw [hH] at hgo; exact hgo
  generalize ([] : List Loc) = locs at hS ⊢
  unfold f_X1_append at h
  refine lv_aload_n hx hb dX1_append_0 rfl (lv_at hl 0 rfl) ?_
  refine va_get (D := G) (ci := 1) (v := .int (P (30 + 3 * j) 1)) (C := RX1) (T := TX1) (N := 3) hx hb hT ku_1 hown hK hP (18 + 3 * j) (aLRP_0 hj) rfl 1 (by decide) (hT _ kw_21_7) (fun _ h9 => h9) rfl dX1_append_1 ?_
  refine lv_bipush (v := 64) hx hb dX1_append_4 (by decide) ?_
  refine lv_icmp_ge (tgt := 29) hx hb dX1_append_6 (by decide) (fun c1 => ?_) (fun c1 => ?_)
  · have h := tx_pos c1 h
    obtain rfl := tx_1 h
    exact W.vret hx hb hr (fun t ht hW => ⟨⟨(), rfl, trivial, by rw [ht]; exact hP, hD⟩, hS.F ht⟩) hS.2.2 dX1_append_29
  · have h := tx_neg c1 h
    refine lv_aload_n hx hb dX1_append_9 rfl (lv_at hl 0 rfl) ?_
    refine va_get (D := G) (ci := 1) (v := .ref (pa (31 + 3 * j))) (C := RX1) (T := TX1) (N := 3) hx hb hT ku_1 hown hK hP (18 + 3 * j) (aLRP_0 hj) rfl 0 (by decide) (hT _ kw_6_12) (fun _ h9 => h9) rfl dX1_append_10 ?_
    refine lv_aload_n hx hb dX1_append_13 rfl (lv_at hl 0 rfl) ?_
    refine va_get (D := G) (ci := 1) (v := .int (P (30 + 3 * j) 1)) (C := RX1) (T := TX1) (N := 3) hx hb hT ku_1 hown hK hP (18 + 3 * j) (aLRP_0 hj) rfl 1 (by decide) (hT _ kw_21_7) (fun _ h9 => h9) rfl dX1_append_14 ?_
    refine lv_iload_n hx hb dX1_append_17 rfl (lv_at hl 1 rfl) ?_
    obtain ⟨g2, h⟩ := tx_ck h
    refine va_iast (i := (P (30 + 3 * j) 1)) hx hb hK hP hD hS (19 + 3 * j) 0 (aLRP_1 hj) rfl (tx_in g2) dX1_append_18 (fun H locs hP hD hS => ?_)
    obtain ⟨P_3, eP_3, h⟩ := tx_lt h
    rw [(sLRP_a0 hj), eP_3] at hP hD
    refine lv_aload_n hx hb dX1_append_19 rfl (lv_at hl 0 rfl) ?_
    refine lv_dup hx hb dX1_append_20 rfl ?_
    refine va_get (D := G) (ci := 1) (v := .int (P_3 (30 + 3 * j) 1)) (C := RX1) (T := TX1) (N := 3) hx hb hT ku_1 hown hK hP (18 + 3 * j) (aLRP_0 hj) rfl 1 (by decide) (hT _ kw_21_7) (fun _ h9 => h9) rfl dX1_append_21 ?_
    refine lv_iconst (v := 1) hx hb dX1_append_24 (by decide) ?_
    refine lv_iadd hx hb dX1_append_25 ?_
    refine va_put (D := G) (ci := 1) (v := .int ((P_3 (30 + 3 * j) 1) + 1)) (ty := .int) (C := RX1) (T := TX1) (N := 3) hx hb hT ku_1 tyX1 tyX1_ok nmX1 hown hK hP hD hS (18 + 3 * j) (aLRP_0 hj) rfl 1 (by decide) (hT _ kw_21_7) (fun _ h9 => h9) rfl (by decide +kernel) rfl rfl (Nat.le_of_ble_eq_true rfl) dX1_append_26 (fun H locs hP hD hS => ?_)
    obtain ⟨P_4, eP_4, h⟩ := tx_lt h
    rw [(sLRP_f1 hj), eP_4] at hP hD
    obtain rfl := tx_1 h
    exact W.vret hx hb hr (fun t ht hW => ⟨⟨(), rfl, trivial, by rw [ht]; exact hP, hD⟩, hS.F ht⟩) hS.2.2 dX1_append_29
abbrev G_X3_put (p : Program) (l : Launch) (e : Env) (s : State) (m : MethodId) (below : List Frame) (meth : Method) (c : Code) (G : va_G) (cA : Nat → ClassId) (A : Nat → Prop) (bA : Nat) (ka : Nat → Nat) (ra : Nat → Nat) (pa : Nat → Nat) (j : Nat) (K : Tr) (R : Tr) (L : Lo) (x1 : Int32) (r0 : Int32) (P' : Tr) (H : Heap) (locs : List Loc) (g : JFrame) : Prop := W p l e (headSpec (.code yX3_put cX3_put 2 (some .boolean) :: T0) ({ frames := 1, cells := 0, slots := 0, locals := 21 } : Room)).room s m ([.ref (pa (30 + 3 * j)), .int x1] : List Value).toArray below meth c H locs 0 0 (MQ below (tqQi G cA (fun (r : Int32) (_ : Unit) => r = r0) (fun (_ : Unit) => wRP cA ka ra pa K R (P') L) A) ([.ref (pa (30 + 3 * j)), .int x1] : List Value).toArray s 0 0 A) g
set_option maxHeartbeats 4000000 in
set_option maxRecDepth 100000 in
theorem c_X3_put (l : Launch) (G : va_G) (cA : Nat → ClassId) (sz : Nat) (bA : Nat) (ka : Nat → Nat) (ra : Nat → Nat) (pa : Nat → Nat) (j : Nat) (K : Tr) (R : Tr) (P : Tr) (L : Lo) (x1 : Int32) (hj : j < 3) (r0 : Int32) (P' : Tr) (h : f_X3_put j P x1 = some (r0, P')) : Met l yX3_put (.code yX3_put cX3_put 2 (some .boolean) :: T0) ({ frames := 1, cells := 0, slots := 0, locals := 21 } : Room) (tqPB bA G cA [.ref (pa (30 + 3 * j)), .int x1] (wRP cA ka ra pa K R P L) sz) (tqQi G cA (fun (r : Int32) (_ : Unit) => r = r0) (fun (_ : Unit) => wRP cA ka ra pa K R (P') L) (va_A (wRP cA ka ra pa K R P L) sz)) 0 0 (va_A (wRP cA ka ra pa K R P L) sz) := by
  refine Met.ofW (cc := cX3_put) (maxL := 2) (ret := (some .boolean)) (by decide) rfl ?_
  intro p e s m args below meth c s₁ B hml hv
  obtain ⟨rfl, hsz, hP, hK, hD0, hN, hB⟩ := hv
  have hx := B.exec
  have hb := B.bytes
  have hr := B.returns
  have hts := atoms_spec (ws := .code yX3_put cX3_put 2 (some .boolean) :: T0) B.pre
  have hT : ∀ w ∈ T0, w.before _ s = true := fun w h => hts w (List.mem_cons_of_mem _ h)
  have hown : s.vm.findClass RX3 = some m.cls := findClass_of_methodNamed B.named
  have hlocks := B.notSynchronized
  subst hsz
  have hD := hD0.self (sz := s.heap.size)
  generalize hAe : va_A (wRP cA ka ra pa K R P L) s.heap.size = A at hD hB ⊢
  have hA : ∀ q : Nat, s.heap.size ≤ q → A q := fun q h => by rw [← hAe]; exact Or.inr h
  have hS : va_S A s.heap s.heap [] := va_S.rf
  have hl := lv_entry ([.ref (pa (30 + 3 * j)), .int x1]) (n := 2) (Nat.le_of_ble_eq_true rfl)
  rw [lg_entry_eq]
  generalize (lg_sl ([.ref (pa (30 + 3 * j)), .int x1]) ++ List.replicate (2 - (lg_sl ([.ref (pa (30 + 3 * j)), .int x1])).length) Slot.unset).toArray = ls at hl ⊢
  have hl : lv_has ls 2 [(0, .ref (pa (30 + 3 * j))), (1, .int x1)] := hl
  have F : tF p s m ([.ref (pa (30 + 3 * j)), .int x1] : List Value).toArray meth c G cA A RX3 cX3_put 2 (some .boolean) := ⟨hx, hb, hr, hml, hT, hown, hlocks, hK, hN, hA⟩
  obtain ⟨H, hH⟩ : ∃ z, z = s.heap := ⟨_, rfl⟩
  rw [← hH] at hP
  have hS : va_S A s.heap H [] := by rw [hH]; exact hS
  suffices hgo : G_X3_put p l e s m below meth c G cA A bA ka ra pa j K R L x1 r0 P' H [] (F0 m 0 ls []) by rw [hH] at hgo; exact hgo
  generalize ([] : List Loc) = locs at hS ⊢
  unfold f_X3_put at h
  refine lv_aload_n hx hb dX3_put_0 rfl (lv_at hl 0 rfl) ?_
  refine lv_iload_n hx hb dX3_put_1 rfl (lv_at hl 1 rfl) ?_
  obtain ⟨P_1, hc2, h⟩ := tx_bd h
  refine tzB_v (As := [.int x1]) (rest := []) ⟨hx, hb, hml, hown, hT⟩ hP hD hS hA hK hN hB (c_X1_append l G cA H.size bA ka ra pa j K R P L x1 hj P_1 hc2) (tq_gV kw_21_3 kw_21_4 kw_21_5 kw_6_8 kw_21_6) rfl rfl dkdV_yX1_append_1 (Nat.le_of_ble_eq_true rfl) (Nat.le_of_ble_eq_true rfl) (ci := 1) (q0 := (18 + 3 * j)) rfl (aLRP_0 hj) rfl hl.1 rfl (Nat.le_of_ble_eq_true rfl) dX3_put_2 ⟨Nat.le_of_ble_eq_true rfl, Nat.le_of_ble_eq_true rfl⟩ (fun _ H locs z3 hP hD hS => ?_)
  have hP : va_P G vwCl (wRP cA ka ra pa K R P_1 L) H := hP
  have hD : va_D A (wRP cA ka ra pa K R P_1 L) := hD
  refine lv_iconst (v := 1) hx hb dX3_put_5 (by decide) ?_
  obtain ⟨rfl, rfl⟩ := tx_2 h
  exact W.zret (ty := .boolean) hx hb hr rfl (fun t ht hW => ⟨⟨_, (), rfl, rfl, by rw [ht]; exact hP, hD⟩, hS.F ht⟩) hS.2.2 dX3_put_6
abbrev G_X3_isFact (p : Program) (l : Launch) (e : Env) (s : State) (m : MethodId) (below : List Frame) (meth : Method) (c : Code) (G : va_G) (cA : Nat → ClassId) (A : Nat → Prop) (x0 : Int32) (r0 : Int32) (H : Heap) (locs : List Loc) (g : JFrame) : Prop := W p l e (headSpec (.code yX3_isFact cX3_isFact 1 (some .boolean) :: T0) ({ frames := 0, cells := 0, slots := 0, locals := 0 } : Room)).room s m ([.int x0] : List Value).toArray below meth c H locs 0 0 (MQ below (tqQi G cA (fun (r : Int32) (_ : Unit) => r = r0) (fun (_ : Unit) => ([] : va_W)) A) ([.int x0] : List Value).toArray s 0 0 A) g
set_option maxHeartbeats 4000000 in
set_option maxRecDepth 100000 in
theorem c_X3_isFact (l : Launch) (G : va_G) (cA : Nat → ClassId) (sz : Nat) (x0 : Int32)  (r0 : Int32) (h : f_X3_isFact x0 = some r0) : Met l yX3_isFact (.code yX3_isFact cX3_isFact 1 (some .boolean) :: T0) ({ frames := 0, cells := 0, slots := 0, locals := 0 } : Room) (tqP G cA [.int x0] (([] : va_W)) sz) (tqQi G cA (fun (r : Int32) (_ : Unit) => r = r0) (fun (_ : Unit) => ([] : va_W)) (va_A (([] : va_W)) sz)) 0 0 (va_A (([] : va_W)) sz) := by
  refine Met.ofW (cc := cX3_isFact) (maxL := 1) (ret := (some .boolean)) (by decide) rfl ?_
  intro p e s m args below meth c s₁ B hml hv
  obtain ⟨rfl, hsz, hP, hK, hD0, hN⟩ := hv
  have hx := B.exec
  have hb := B.bytes
  have hr := B.returns
  have hts := atoms_spec (ws := .code yX3_isFact cX3_isFact 1 (some .boolean) :: T0) B.pre
  have hT : ∀ w ∈ T0, w.before _ s = true := fun w h => hts w (List.mem_cons_of_mem _ h)
  have hown : s.vm.findClass RX3 = some m.cls := findClass_of_methodNamed B.named
  have hlocks := B.notSynchronized
  subst hsz
  have hD := hD0.self (sz := s.heap.size)
  generalize hAe : va_A (([] : va_W)) s.heap.size = A at hD ⊢
  have hA : ∀ q : Nat, s.heap.size ≤ q → A q := fun q h => by rw [← hAe]; exact Or.inr h
  have hS : va_S A s.heap s.heap [] := va_S.rf
  have hl := lv_entry ([.int x0]) (n := 1) (Nat.le_of_ble_eq_true rfl)
  rw [lg_entry_eq]
  generalize (lg_sl ([.int x0]) ++ List.replicate (1 - (lg_sl ([.int x0])).length) Slot.unset).toArray = ls at hl ⊢
  have hl : lv_has ls 1 [(0, .int x0)] := hl
  have F : tF p s m ([.int x0] : List Value).toArray meth c G cA A RX3 cX3_isFact 1 (some .boolean) := ⟨hx, hb, hr, hml, hT, hown, hlocks, hK, hN, hA⟩
  obtain ⟨H, hH⟩ : ∃ z, z = s.heap := ⟨_, rfl⟩
  rw [← hH] at hP
  have hS : va_S A s.heap H [] := by rw [hH]; exact hS
  suffices hgo : G_X3_isFact p l e s m below meth c G cA A x0 r0 H [] (F0 m 0 ls []) by rw [hH] at hgo; exact hgo
  generalize ([] : List Loc) = locs at hS ⊢
  unfold f_X3_isFact at h
  refine lv_iload_n hx hb dX3_isFact_0 rfl (lv_at hl 0 rfl) ?_
  refine lv_bipush (v := 22) hx hb dX3_isFact_1 (by decide) ?_
  refine lv_icmp_lt (tgt := 16) hx hb dX3_isFact_3 (by decide) (fun c1 => ?_) (fun c1 => ?_)
  · have h := tx_pos c1 h
    refine lv_iconst (v := 0) hx hb dX3_isFact_16 (by decide) ?_
    obtain rfl := tx_1 h
    exact W.zret (ty := .boolean) hx hb hr rfl (fun t ht hW => ⟨⟨_, (), rfl, rfl, by rw [ht]; exact hP, hD⟩, hS.F ht⟩) hS.2.2 dX3_isFact_17
  · have h := tx_neg c1 h
    refine lv_iload_n hx hb dX3_isFact_6 rfl (lv_at hl 0 rfl) ?_
    refine lv_bipush (v := 28) hx hb dX3_isFact_7 (by decide) ?_
    refine lv_icmp_gt (tgt := 16) hx hb dX3_isFact_9 (by decide) (fun c2 => ?_) (fun c2 => ?_)
    · have h := tx_pos c2 h
      refine lv_iconst (v := 0) hx hb dX3_isFact_16 (by decide) ?_
      obtain rfl := tx_1 h
      exact W.zret (ty := .boolean) hx hb hr rfl (fun t ht hW => ⟨⟨_, (), rfl, rfl, by rw [ht]; exact hP, hD⟩, hS.F ht⟩) hS.2.2 dX3_isFact_17
    · have h := tx_neg c2 h
      refine lv_iconst (v := 1) hx hb dX3_isFact_12 (by decide) ?_
      refine lv_goto (tgt := 17) hx hb dX3_isFact_13 (by decide) ?_
      obtain rfl := tx_1 h
      exact W.zret (ty := .boolean) hx hb hr rfl (fun t ht hW => ⟨⟨_, (), rfl, rfl, by rw [ht]; exact hP, hD⟩, hS.F ht⟩) hS.2.2 dX3_isFact_17
abbrev G_X3_readOperand (p : Program) (l : Launch) (e : Env) (s : State) (m : MethodId) (below : List Frame) (meth : Method) (c : Code) (G : va_G) (cA : Nat → ClassId) (A : Nat → Prop) (bA : Nat) (ka : Nat → Nat) (ra : Nat → Nat) (pa : Nat → Nat) (j : Nat) (K : Tr) (L : Lo) (r0 : Int32) (R' : Tr) (P' : Tr) (H : Heap) (locs : List Loc) (g : JFrame) : Prop := W p l e (headSpec (.code yX3_readOperand cX3_readOperand 4 (some .boolean) :: T0) ({ frames := 2, cells := 0, slots := 0, locals := 42 } : Room)).room s m ([.ref (ra 0), .ref (pa (30 + 3 * j))] : List Value).toArray below meth c H locs 0 0 (MQ below (tqQi G cA (fun (r : Int32) (_ : Unit) => r = r0) (fun (_ : Unit) => wRP cA ka ra pa K (R') (P') L) A) ([.ref (ra 0), .ref (pa (30 + 3 * j))] : List Value).toArray s 0 0 A) g
set_option maxHeartbeats 4000000 in
set_option maxRecDepth 100000 in
theorem w_X3_readOperand_J126 {p : Program} {l : Launch} {e : Env} {s : State} {m : MethodId} {below : List Frame} {meth : Method} {c : Code} {G : va_G} {cA : Nat → ClassId} {A : Nat → Prop} {bA : Nat} {ka : Nat → Nat} {ra : Nat → Nat} {pa : Nat → Nat} {j : Nat} {K : Tr} {L : Lo} {r0 : Int32} {R' : Tr} {P' : Tr} (F : tF p s m ([.ref (ra 0), .ref (pa (30 + 3 * j))] : List Value).toArray meth c G cA A RX3 cX3_readOperand 4 (some .boolean)) (hB : tqB bA A s s.heap) (hj : j < 3)   (s0 : Int32) (R : Tr) (P : Tr) (H : Heap) (locs : List Loc) (ls : Array Slot) (h : fJ_X3_readOperand_J126 j K s0 R P = some (r0, R', P')) (hP : va_P G vwCl (wRP cA ka ra pa K R P L) H) (hD : va_D A (wRP cA ka ra pa K R P L)) (hS : va_S A s.heap H locs) (hl : lv_has ls 4 [(0, .ref (ra 0)), (1, .ref (pa (30 + 3 * j)))]) : G_X3_readOperand p l e s m below meth c G cA A bA ka ra pa j K L r0 R' P' H locs (F0 m 126 ls [.int s0, .ref (ra 0)]) := by
  obtain ⟨hx, hb, hr, hml, hT, hown, hlocks, hK, hN, hA⟩ := id F
  unfold fJ_X3_readOperand_J126 at h
  refine lv_iconst (v := 2) hx hb dX3_readOperand_126 (by decide) ?_
  obtain ⟨⟨r25, R_26⟩, hc27, h⟩ := tx_bd h
  replace h := tx_let (y := r25) rfl h
  replace h := tx_let (y := R_26) rfl h
  refine tzB_i (As := [.int s0, .int 2]) (rest := []) ⟨hx, hb, hml, hown, hT⟩ hP hD hS hA hK hN hB (c_X3_expect l G cA H.size bA ka ra pa K R P L s0 (2 : Int32)  r25 R_26 hc27) (tq_gV kw_16_18 kw_16_19 kw_16_20 kw_1_15 kw_16_21) rfl rfl dkdV_yX3_expect_2 (Nat.le_of_ble_eq_true rfl) (Nat.le_of_ble_eq_true rfl) (ci := 3) (q0 := 3) rfl rfl rfl hl.1 rfl (Nat.le_of_ble_eq_true rfl) dX3_readOperand_127 ⟨Nat.le_of_ble_eq_true rfl, Nat.le_of_ble_eq_true rfl⟩ (fun _ _ H locs z28 hP hD hS => ?_)
  have z28 := z28.symm
  subst z28
  have hP : va_P G vwCl (wRP cA ka ra pa K R_26 P L) H := hP
  have hD : va_D A (wRP cA ka ra pa K R_26 P L) := hD
  refine lv_istore_n (lv' := [(3, .int r25), (0, .ref (ra 0)), (1, .ref (pa (30 + 3 * j)))]) hx hb dX3_readOperand_130 rfl hl (by decide) rfl (fun ls hl => ?_)
  refine lv_iload_n hx hb dX3_readOperand_131 rfl (lv_at hl 0 rfl) ?_
  refine lv_if_eq (tgt := 160) hx hb dX3_readOperand_132 (by decide) (fun c29 => ?_) (fun c29 => ?_)
  · have h := tx_pos c29 h
    refine lv_iconst (v := 0) hx hb dX3_readOperand_160 (by decide) ?_
    obtain ⟨rfl, rfl, rfl⟩ := tx_3 h
    exact W.zret (ty := .boolean) hx hb hr rfl (fun t ht hW => ⟨⟨_, (), rfl, rfl, by rw [ht]; exact hP, hD⟩, hS.F ht⟩) hS.2.2 dX3_readOperand_161
  · have h := tx_neg c29 h
    refine lv_aload_n hx hb dX3_readOperand_135 rfl (lv_at hl 1 rfl) ?_
    obtain ⟨⟨r30, R_31, P_32⟩, hc33, h⟩ := tx_bd h
    replace h := tx_let (y := r30) rfl h
    replace h := tx_let (y := R_31) rfl h
    replace h := tx_let (y := P_32) rfl h
    refine tzB_i (As := []) (rest := []) ⟨hx, hb, hml, hown, hT⟩ hP hD hS hA hK hN hB (c_X3_countKnot l G cA H.size bA ka ra pa K R_26 P L  r30 R_31 P_32 hc33) (tq_gV kw_20_19 kw_20_20 kw_20_21 kw_1_15 kw_20_22) rfl rfl dkdV_yX3_countKnot_0 (Nat.le_of_ble_eq_true rfl) (Nat.le_of_ble_eq_true rfl) (ci := 3) (q0 := 3) rfl rfl rfl hl.1 rfl (Nat.le_of_ble_eq_true rfl) dX3_readOperand_136 ⟨Nat.le_of_ble_eq_true rfl, Nat.le_of_ble_eq_true rfl⟩ (fun _ _ H locs z34 hP hD hS => ?_)
    have z34 := z34.symm
    subst z34
    have hP : va_P G vwCl (wRP cA ka ra pa K R_31 P_32 L) H := hP
    have hD : va_D A (wRP cA ka ra pa K R_31 P_32 L) := hD
    refine lv_if_eq (tgt := 160) hx hb dX3_readOperand_139 (by decide) (fun c35 => ?_) (fun c35 => ?_)
    · have h := tx_pos c35 h
      refine lv_iconst (v := 0) hx hb dX3_readOperand_160 (by decide) ?_
      obtain ⟨rfl, rfl, rfl⟩ := tx_3 h
      exact W.zret (ty := .boolean) hx hb hr rfl (fun t ht hW => ⟨⟨_, (), rfl, rfl, by rw [ht]; exact hP, hD⟩, hS.F ht⟩) hS.2.2 dX3_readOperand_161
    · have h := tx_neg c35 h
      refine lv_aload_n hx hb dX3_readOperand_142 rfl (lv_at hl 2 rfl) ?_
      refine lv_aload_n hx hb dX3_readOperand_143 rfl (lv_at hl 1 rfl) ?_
      refine va_get (D := G) (ci := 3) (v := .ref (ka 0)) (C := RX3) (T := TX3) (N := 10) hx hb hT ku_3 hown hK hP 3 rfl rfl 0 (by decide) (hT _ kw_2_23) (fun _ h9 => h9) rfl dX3_readOperand_144 ?_
      refine va_get (D := G) (ci := 5) (v := .int (K 0 3)) (C := RX5) (T := TX5) (N := 8) hx hb hT ku_5 hown hK hP 0 rfl rfl 3 (by decide) (hT _ kw_17_8) (fun _ h9 => h9) rfl dX3_readOperand_147 ?_
      obtain ⟨⟨r36, P_37⟩, hc38, h⟩ := tx_bd h
      replace h := tx_let (y := r36) rfl h
      replace h := tx_let (y := P_37) rfl h
      refine tw_ci tw_all hP hD hS hA (va_runS (As := [.ref (pa (30 + 3 * j)), .int (K 0 3)]) (rest := []) ⟨hx, hb, hml, hown, hT⟩ (c_X3_put l G cA H.size bA ka ra pa j K R_31 P_32 L (K 0 3) hj r36 P_37 hc38) (va_cwS 2 hT (tq_gS kw_21_0 kw_21_1 kw_1_15 kw_21_2) rfl rfl rfl dkdS_yX3_put_2 ⟨Nat.le_of_ble_eq_true rfl, Nat.le_of_ble_eq_true rfl⟩) (tw_preB (H0 := H) tw_all hP hD hK hN hS hA hB) rfl rfl hl.1 rfl (lv_room (Nat.le_of_ble_eq_true rfl)) dX3_readOperand_150 ⟨Nat.le_of_ble_eq_true rfl, Nat.le_of_ble_eq_true rfl⟩) (fun _ _ H locs z39 hP hD hS => ?_)
      have z39 := z39.symm
      subst z39
      rw [List.append_nil] at hP hD
      have hP : va_P G vwCl (wRP cA ka ra pa K R_31 P_37 L) H := hP
      have hD : va_D A (wRP cA ka ra pa K R_31 P_37 L) := hD
      refine lv_if_eq (tgt := 160) hx hb dX3_readOperand_153 (by decide) (fun c40 => ?_) (fun c40 => ?_)
      · have h := tx_pos c40 h
        refine lv_iconst (v := 0) hx hb dX3_readOperand_160 (by decide) ?_
        obtain ⟨rfl, rfl, rfl⟩ := tx_3 h
        exact W.zret (ty := .boolean) hx hb hr rfl (fun t ht hW => ⟨⟨_, (), rfl, rfl, by rw [ht]; exact hP, hD⟩, hS.F ht⟩) hS.2.2 dX3_readOperand_161
      · have h := tx_neg c40 h
        refine lv_iconst (v := 1) hx hb dX3_readOperand_156 (by decide) ?_
        refine lv_goto (tgt := 161) hx hb dX3_readOperand_157 (by decide) ?_
        obtain ⟨rfl, rfl, rfl⟩ := tx_3 h
        exact W.zret (ty := .boolean) hx hb hr rfl (fun t ht hW => ⟨⟨_, (), rfl, rfl, by rw [ht]; exact hP, hD⟩, hS.F ht⟩) hS.2.2 dX3_readOperand_161
set_option maxHeartbeats 4000000 in
set_option maxRecDepth 100000 in
theorem w_X3_readOperand_J73 {p : Program} {l : Launch} {e : Env} {s : State} {m : MethodId} {below : List Frame} {meth : Method} {c : Code} {G : va_G} {cA : Nat → ClassId} {A : Nat → Prop} {bA : Nat} {ka : Nat → Nat} {ra : Nat → Nat} {pa : Nat → Nat} {j : Nat} {K : Tr} {L : Lo} {r0 : Int32} {R' : Tr} {P' : Tr} (F : tF p s m ([.ref (ra 0), .ref (pa (30 + 3 * j))] : List Value).toArray meth c G cA A RX3 cX3_readOperand 4 (some .boolean)) (hB : tqB bA A s s.heap) (hj : j < 3)   (x2 : Int32) (s0 : Int32) (R : Tr) (P : Tr) (H : Heap) (locs : List Loc) (ls : Array Slot) (h : fJ_X3_readOperand_J73 j K x2 s0 R P = some (r0, R', P')) (hP : va_P G vwCl (wRP cA ka ra pa K R P L) H) (hD : va_D A (wRP cA ka ra pa K R P L)) (hS : va_S A s.heap H locs) (hl : lv_has ls 4 [(0, .ref (ra 0)), (2, .int x2)]) : G_X3_readOperand p l e s m below meth c G cA A bA ka ra pa j K L r0 R' P' H locs (F0 m 73 ls [.int s0, .ref (ra 0)]) := by
  obtain ⟨hx, hb, hr, hml, hT, hown, hlocks, hK, hN, hA⟩ := id F
  unfold fJ_X3_readOperand_J73 at h
  refine lv_iconst (v := 1) hx hb dX3_readOperand_73 (by decide) ?_
  obtain ⟨⟨r46, R_47⟩, hc48, h⟩ := tx_bd h
  replace h := tx_let (y := r46) rfl h
  replace h := tx_let (y := R_47) rfl h
  refine tzB_i (As := [.int s0, .int 1]) (rest := []) ⟨hx, hb, hml, hown, hT⟩ hP hD hS hA hK hN hB (c_X3_expect l G cA H.size bA ka ra pa K R P L s0 (1 : Int32)  r46 R_47 hc48) (tq_gV kw_16_18 kw_16_19 kw_16_20 kw_1_15 kw_16_21) rfl rfl dkdV_yX3_expect_2 (Nat.le_of_ble_eq_true rfl) (Nat.le_of_ble_eq_true rfl) (ci := 3) (q0 := 3) rfl rfl rfl hl.1 rfl (Nat.le_of_ble_eq_true rfl) dX3_readOperand_74 ⟨Nat.le_of_ble_eq_true rfl, Nat.le_of_ble_eq_true rfl⟩ (fun _ _ H locs z49 hP hD hS => ?_)
  have z49 := z49.symm
  subst z49
  have hP : va_P G vwCl (wRP cA ka ra pa K R_47 P L) H := hP
  have hD : va_D A (wRP cA ka ra pa K R_47 P L) := hD
  refine lv_if_eq (tgt := 99) hx hb dX3_readOperand_77 (by decide) (fun c50 => ?_) (fun c50 => ?_)
  · have h := tx_pos c50 h
    refine lv_iconst (v := 0) hx hb dX3_readOperand_99 (by decide) ?_
    obtain ⟨rfl, rfl, rfl⟩ := tx_3 h
    exact W.zret (ty := .boolean) hx hb hr rfl (fun t ht hW => ⟨⟨_, (), rfl, rfl, by rw [ht]; exact hP, hD⟩, hS.F ht⟩) hS.2.2 dX3_readOperand_100
  · have h := tx_neg c50 h
    refine lv_aload_n hx hb dX3_readOperand_80 rfl (lv_at hl 0 rfl) ?_
    obtain ⟨⟨r51, R_52, P_53⟩, hc54, h⟩ := tx_bd h
    replace h := tx_let (y := r51) rfl h
    replace h := tx_let (y := R_52) rfl h
    replace h := tx_let (y := P_53) rfl h
    refine tzB_i (As := []) (rest := []) ⟨hx, hb, hml, hown, hT⟩ hP hD hS hA hK hN hB (c_X3_countKnot l G cA H.size bA ka ra pa K R_47 P L  r51 R_52 P_53 hc54) (tq_gV kw_20_19 kw_20_20 kw_20_21 kw_1_15 kw_20_22) rfl rfl dkdV_yX3_countKnot_0 (Nat.le_of_ble_eq_true rfl) (Nat.le_of_ble_eq_true rfl) (ci := 3) (q0 := 3) rfl rfl rfl hl.1 rfl (Nat.le_of_ble_eq_true rfl) dX3_readOperand_81 ⟨Nat.le_of_ble_eq_true rfl, Nat.le_of_ble_eq_true rfl⟩ (fun _ _ H locs z55 hP hD hS => ?_)
    have z55 := z55.symm
    subst z55
    have hP : va_P G vwCl (wRP cA ka ra pa K R_52 P_53 L) H := hP
    have hD : va_D A (wRP cA ka ra pa K R_52 P_53 L) := hD
    refine lv_if_eq (tgt := 99) hx hb dX3_readOperand_84 (by decide) (fun c56 => ?_) (fun c56 => ?_)
    · have h := tx_pos c56 h
      refine lv_iconst (v := 0) hx hb dX3_readOperand_99 (by decide) ?_
      obtain ⟨rfl, rfl, rfl⟩ := tx_3 h
      exact W.zret (ty := .boolean) hx hb hr rfl (fun t ht hW => ⟨⟨_, (), rfl, rfl, by rw [ht]; exact hP, hD⟩, hS.F ht⟩) hS.2.2 dX3_readOperand_100
    · have h := tx_neg c56 h
      refine lv_aload_n hx hb dX3_readOperand_87 rfl (lv_at hl 0 rfl) ?_
      refine lv_iload_n hx hb dX3_readOperand_88 rfl (lv_at hl 1 rfl) ?_
      obtain ⟨⟨r57, R_58⟩, hc59, h⟩ := tx_bd h
      replace h := tx_let (y := r57) rfl h
      replace h := tx_let (y := R_58) rfl h
      refine tzB_i (As := [.int x2]) (rest := []) ⟨hx, hb, hml, hown, hT⟩ hP hD hS hA hK hN hB (c_X3_openSign l G cA H.size bA ka ra pa K R_52 P_53 L x2  r57 R_58 hc59) (tq_gV kw_20_11 kw_20_12 kw_20_13 kw_1_15 kw_20_14) rfl rfl dkdV_yX3_openSign_1 (Nat.le_of_ble_eq_true rfl) (Nat.le_of_ble_eq_true rfl) (ci := 3) (q0 := 3) rfl rfl rfl hl.1 rfl (Nat.le_of_ble_eq_true rfl) dX3_readOperand_89 ⟨Nat.le_of_ble_eq_true rfl, Nat.le_of_ble_eq_true rfl⟩ (fun _ _ H locs z60 hP hD hS => ?_)
      have z60 := z60.symm
      subst z60
      have hP : va_P G vwCl (wRP cA ka ra pa K R_58 P_53 L) H := hP
      have hD : va_D A (wRP cA ka ra pa K R_58 P_53 L) := hD
      refine lv_if_eq (tgt := 99) hx hb dX3_readOperand_92 (by decide) (fun c61 => ?_) (fun c61 => ?_)
      · have h := tx_pos c61 h
        refine lv_iconst (v := 0) hx hb dX3_readOperand_99 (by decide) ?_
        obtain ⟨rfl, rfl, rfl⟩ := tx_3 h
        exact W.zret (ty := .boolean) hx hb hr rfl (fun t ht hW => ⟨⟨_, (), rfl, rfl, by rw [ht]; exact hP, hD⟩, hS.F ht⟩) hS.2.2 dX3_readOperand_100
      · have h := tx_neg c61 h
        refine lv_iconst (v := 1) hx hb dX3_readOperand_95 (by decide) ?_
        refine lv_goto (tgt := 100) hx hb dX3_readOperand_96 (by decide) ?_
        obtain ⟨rfl, rfl, rfl⟩ := tx_3 h
        exact W.zret (ty := .boolean) hx hb hr rfl (fun t ht hW => ⟨⟨_, (), rfl, rfl, by rw [ht]; exact hP, hD⟩, hS.F ht⟩) hS.2.2 dX3_readOperand_100
set_option maxHeartbeats 4000000 in
set_option maxRecDepth 100000 in
theorem w_X3_readOperand_J29 {p : Program} {l : Launch} {e : Env} {s : State} {m : MethodId} {below : List Frame} {meth : Method} {c : Code} {G : va_G} {cA : Nat → ClassId} {A : Nat → Prop} {bA : Nat} {ka : Nat → Nat} {ra : Nat → Nat} {pa : Nat → Nat} {j : Nat} {K : Tr} {L : Lo} {r0 : Int32} {R' : Tr} {P' : Tr} (F : tF p s m ([.ref (ra 0), .ref (pa (30 + 3 * j))] : List Value).toArray meth c G cA A RX3 cX3_readOperand 4 (some .boolean)) (hB : tqB bA A s s.heap) (hj : j < 3)   (s0 : Int32) (R : Tr) (P : Tr) (H : Heap) (locs : List Loc) (ls : Array Slot) (h : fJ_X3_readOperand_J29 j K s0 R P = some (r0, R', P')) (hP : va_P G vwCl (wRP cA ka ra pa K R P L) H) (hD : va_D A (wRP cA ka ra pa K R P L)) (hS : va_S A s.heap H locs) (hl : lv_has ls 4 [(0, .ref (ra 0))]) : G_X3_readOperand p l e s m below meth c G cA A bA ka ra pa j K L r0 R' P' H locs (F0 m 29 ls [.int s0, .ref (ra 0)]) := by
  obtain ⟨hx, hb, hr, hml, hT, hown, hlocks, hK, hN, hA⟩ := id F
  unfold fJ_X3_readOperand_J29 at h
  refine lv_iconst (v := 2) hx hb dX3_readOperand_29 (by decide) ?_
  obtain ⟨⟨r63, R_64⟩, hc65, h⟩ := tx_bd h
  replace h := tx_let (y := r63) rfl h
  replace h := tx_let (y := R_64) rfl h
  refine tzB_i (As := [.int s0, .int 2]) (rest := []) ⟨hx, hb, hml, hown, hT⟩ hP hD hS hA hK hN hB (c_X3_expect l G cA H.size bA ka ra pa K R P L s0 (2 : Int32)  r63 R_64 hc65) (tq_gV kw_16_18 kw_16_19 kw_16_20 kw_1_15 kw_16_21) rfl rfl dkdV_yX3_expect_2 (Nat.le_of_ble_eq_true rfl) (Nat.le_of_ble_eq_true rfl) (ci := 3) (q0 := 3) rfl rfl rfl hl.1 rfl (Nat.le_of_ble_eq_true rfl) dX3_readOperand_30 ⟨Nat.le_of_ble_eq_true rfl, Nat.le_of_ble_eq_true rfl⟩ (fun _ _ H locs z66 hP hD hS => ?_)
  have z66 := z66.symm
  subst z66
  have hP : va_P G vwCl (wRP cA ka ra pa K R_64 P L) H := hP
  have hD : va_D A (wRP cA ka ra pa K R_64 P L) := hD
  refine lv_if_eq (tgt := 47) hx hb dX3_readOperand_33 (by decide) (fun c67 => ?_) (fun c67 => ?_)
  · have h := tx_pos c67 h
    refine lv_iconst (v := 0) hx hb dX3_readOperand_47 (by decide) ?_
    obtain ⟨rfl, rfl, rfl⟩ := tx_3 h
    exact W.zret (ty := .boolean) hx hb hr rfl (fun t ht hW => ⟨⟨_, (), rfl, rfl, by rw [ht]; exact hP, hD⟩, hS.F ht⟩) hS.2.2 dX3_readOperand_48
  · have h := tx_neg c67 h
    refine lv_aload_n hx hb dX3_readOperand_36 rfl (lv_at hl 0 rfl) ?_
    obtain ⟨⟨r68, R_69⟩, hc70, h⟩ := tx_bd h
    replace h := tx_let (y := r68) rfl h
    replace h := tx_let (y := R_69) rfl h
    refine tzB_i (As := []) (rest := []) ⟨hx, hb, hml, hown, hT⟩ hP hD hS hA hK hN hB (c_X3_openBracket l G cA H.size bA ka ra pa K R_64 P L  r68 R_69 hc70) (tq_gV kw_20_7 kw_20_8 kw_20_9 kw_1_15 kw_20_10) rfl rfl dkdV_yX3_openBracket_0 (Nat.le_of_ble_eq_true rfl) (Nat.le_of_ble_eq_true rfl) (ci := 3) (q0 := 3) rfl rfl rfl hl.1 rfl (Nat.le_of_ble_eq_true rfl) dX3_readOperand_37 ⟨Nat.le_of_ble_eq_true rfl, Nat.le_of_ble_eq_true rfl⟩ (fun _ _ H locs z71 hP hD hS => ?_)
    have z71 := z71.symm
    subst z71
    have hP : va_P G vwCl (wRP cA ka ra pa K R_69 P L) H := hP
    have hD : va_D A (wRP cA ka ra pa K R_69 P L) := hD
    refine lv_if_eq (tgt := 47) hx hb dX3_readOperand_40 (by decide) (fun c72 => ?_) (fun c72 => ?_)
    · have h := tx_pos c72 h
      refine lv_iconst (v := 0) hx hb dX3_readOperand_47 (by decide) ?_
      obtain ⟨rfl, rfl, rfl⟩ := tx_3 h
      exact W.zret (ty := .boolean) hx hb hr rfl (fun t ht hW => ⟨⟨_, (), rfl, rfl, by rw [ht]; exact hP, hD⟩, hS.F ht⟩) hS.2.2 dX3_readOperand_48
    · have h := tx_neg c72 h
      refine lv_iconst (v := 1) hx hb dX3_readOperand_43 (by decide) ?_
      refine lv_goto (tgt := 48) hx hb dX3_readOperand_44 (by decide) ?_
      obtain ⟨rfl, rfl, rfl⟩ := tx_3 h
      exact W.zret (ty := .boolean) hx hb hr rfl (fun t ht hW => ⟨⟨_, (), rfl, rfl, by rw [ht]; exact hP, hD⟩, hS.F ht⟩) hS.2.2 dX3_readOperand_48
set_option maxHeartbeats 4000000 in
set_option maxRecDepth 100000 in
theorem c_X3_readOperand (l : Launch) (G : va_G) (cA : Nat → ClassId) (sz : Nat) (bA : Nat) (ka : Nat → Nat) (ra : Nat → Nat) (pa : Nat → Nat) (j : Nat) (K : Tr) (R : Tr) (P : Tr) (L : Lo) (hj : j < 3) (r0 : Int32) (R' : Tr) (P' : Tr) (h : f_X3_readOperand j K R P = some (r0, R', P')) : Met l yX3_readOperand (.code yX3_readOperand cX3_readOperand 4 (some .boolean) :: T0) ({ frames := 2, cells := 0, slots := 0, locals := 42 } : Room) (tqPB bA G cA [.ref (ra 0), .ref (pa (30 + 3 * j))] (wRP cA ka ra pa K R P L) sz) (tqQi G cA (fun (r : Int32) (_ : Unit) => r = r0) (fun (_ : Unit) => wRP cA ka ra pa K (R') (P') L) (va_A (wRP cA ka ra pa K R P L) sz)) 0 0 (va_A (wRP cA ka ra pa K R P L) sz) := by
  refine Met.ofW (cc := cX3_readOperand) (maxL := 4) (ret := (some .boolean)) (by decide) rfl ?_
  intro p e s m args below meth c s₁ B hml hv
  obtain ⟨rfl, hsz, hP, hK, hD0, hN, hB⟩ := hv
  have hx := B.exec
  have hb := B.bytes
  have hr := B.returns
  have hts := atoms_spec (ws := .code yX3_readOperand cX3_readOperand 4 (some .boolean) :: T0) B.pre
  have hT : ∀ w ∈ T0, w.before _ s = true := fun w h => hts w (List.mem_cons_of_mem _ h)
  have hown : s.vm.findClass RX3 = some m.cls := findClass_of_methodNamed B.named
  have hlocks := B.notSynchronized
  subst hsz
  have hD := hD0.self (sz := s.heap.size)
  generalize hAe : va_A (wRP cA ka ra pa K R P L) s.heap.size = A at hD hB ⊢
  have hA : ∀ q : Nat, s.heap.size ≤ q → A q := fun q h => by rw [← hAe]; exact Or.inr h
  have hS : va_S A s.heap s.heap [] := va_S.rf
  have hl := lv_entry ([.ref (ra 0), .ref (pa (30 + 3 * j))]) (n := 4) (Nat.le_of_ble_eq_true rfl)
  rw [lg_entry_eq]
  generalize (lg_sl ([.ref (ra 0), .ref (pa (30 + 3 * j))]) ++ List.replicate (4 - (lg_sl ([.ref (ra 0), .ref (pa (30 + 3 * j))])).length) Slot.unset).toArray = ls at hl ⊢
  have hl : lv_has ls 4 [(0, .ref (ra 0)), (1, .ref (pa (30 + 3 * j)))] := hl
  have F : tF p s m ([.ref (ra 0), .ref (pa (30 + 3 * j))] : List Value).toArray meth c G cA A RX3 cX3_readOperand 4 (some .boolean) := ⟨hx, hb, hr, hml, hT, hown, hlocks, hK, hN, hA⟩
  obtain ⟨H, hH⟩ : ∃ z, z = s.heap := ⟨_, rfl⟩
  rw [← hH] at hP
  have hS : va_S A s.heap H [] := by rw [hH]; exact hS
  suffices hgo : G_X3_readOperand p l e s m below meth c G cA A bA ka ra pa j K L r0 R' P' H [] (F0 m 0 ls []) by rw [hH] at hgo; exact hgo
  generalize ([] : List Loc) = locs at hS ⊢
  unfold f_X3_readOperand at h
  refine lv_aload_n hx hb dX3_readOperand_0 rfl (lv_at hl 0 rfl) ?_
  refine va_get (D := G) (ci := 3) (v := .ref (ka 0)) (C := RX3) (T := TX3) (N := 10) hx hb hT ku_3 hown hK hP 3 rfl rfl 0 (by decide) (hT _ kw_2_23) (fun _ h9 => h9) rfl dX3_readOperand_1 ?_
  refine va_get (D := G) (ci := 5) (v := .int (K 0 1)) (C := RX5) (T := TX5) (N := 8) hx hb hT ku_5 hown hK hP 0 rfl rfl 1 (by decide) (hT _ kw_14_15) (fun _ h9 => h9) rfl dX3_readOperand_4 ?_
  refine lv_topi (fun y1 ey1 => ?_)
  have h := tx_let ey1 h
  refine lv_istore_n (lv' := [(2, .int y1), (0, .ref (ra 0)), (1, .ref (pa (30 + 3 * j)))]) hx hb dX3_readOperand_7 rfl hl (by decide) rfl (fun ls hl => ?_)
  refine lv_iload_n hx hb dX3_readOperand_8 rfl (lv_at hl 0 rfl) ?_
  refine lv_bipush (v := 39) hx hb dX3_readOperand_9 (by decide) ?_
  refine lv_icmp_ne (tgt := 49) hx hb dX3_readOperand_11 (by decide) (fun c2 => ?_) (fun c2 => ?_)
  · have h := tx_neg c2 h
    refine lv_iload_n hx hb dX3_readOperand_49 rfl (lv_at hl 0 rfl) ?_
    refine lv_bipush (v := 21) hx hb dX3_readOperand_50 (by decide) ?_
    refine lv_icmp_ne (tgt := 101) hx hb dX3_readOperand_52 (by decide) (fun c3 => ?_) (fun c3 => ?_)
    · have h := tx_neg c3 h
      refine lv_iload_n hx hb dX3_readOperand_101 rfl (lv_at hl 0 rfl) ?_
      refine lv_bipush (v := 42) hx hb dX3_readOperand_102 (by decide) ?_
      refine lv_icmp_ne (tgt := 162) hx hb dX3_readOperand_104 (by decide) (fun c4 => ?_) (fun c4 => ?_)
      · have h := tx_neg c4 h
        refine lv_aload_n hx hb dX3_readOperand_162 rfl (lv_at hl 1 rfl) ?_
        refine lv_iload_n hx hb dX3_readOperand_163 rfl (lv_at hl 0 rfl) ?_
        obtain ⟨r5, hc6, h⟩ := tx_bd h
        refine tw_ci (tw_none (ws := wRP cA ka ra pa K R P L)) hP hD hS hA (va_runS (As := [.int y1]) (rest := [.ref (ra 0)]) ⟨hx, hb, hml, hown, hT⟩ (c_X3_isFact l G cA H.size y1  r5 hc6) (va_cwS 1 hT (tq_gS kw_21_8 kw_21_9 kw_1_15 kw_21_10) rfl rfl rfl dkdS_yX3_isFact_1 ⟨Nat.le_of_ble_eq_true rfl, Nat.le_of_ble_eq_true rfl⟩) (tw_pre (tw_none (ws := wRP cA ka ra pa K R P L)) hP hD hK hN) rfl rfl hl.1 rfl (lv_room (Nat.le_of_ble_eq_true rfl)) dX3_readOperand_164 ⟨Nat.le_of_ble_eq_true rfl, Nat.le_of_ble_eq_true rfl⟩) (fun _ _ H locs z7 hP hD hS => ?_)
        have z7 := z7.symm
        subst z7
        have hP : va_P G vwCl (wRP cA ka ra pa K R P L) H := hP
        have hD : va_D A (wRP cA ka ra pa K R P L) := hD
        refine lv_iconst (v := 1) hx hb dX3_readOperand_167 (by decide) ?_
        obtain ⟨⟨r8, R_9⟩, hc10, h⟩ := tx_bd h
        replace h := tx_let (y := r8) rfl h
        replace h := tx_let (y := R_9) rfl h
        refine tzB_i (As := [.int r5, .int 1]) (rest := []) ⟨hx, hb, hml, hown, hT⟩ hP hD hS hA hK hN hB (c_X3_expect l G cA H.size bA ka ra pa K R P L r5 (1 : Int32)  r8 R_9 hc10) (tq_gV kw_16_18 kw_16_19 kw_16_20 kw_1_15 kw_16_21) rfl rfl dkdV_yX3_expect_2 (Nat.le_of_ble_eq_true rfl) (Nat.le_of_ble_eq_true rfl) (ci := 3) (q0 := 3) rfl rfl rfl hl.1 rfl (Nat.le_of_ble_eq_true rfl) dX3_readOperand_168 ⟨Nat.le_of_ble_eq_true rfl, Nat.le_of_ble_eq_true rfl⟩ (fun _ _ H locs z11 hP hD hS => ?_)
        have z11 := z11.symm
        subst z11
        have hP : va_P G vwCl (wRP cA ka ra pa K R_9 P L) H := hP
        have hD : va_D A (wRP cA ka ra pa K R_9 P L) := hD
        refine lv_if_eq (tgt := 197) hx hb dX3_readOperand_171 (by decide) (fun c12 => ?_) (fun c12 => ?_)
        · have h := tx_pos c12 h
          refine lv_iconst (v := 0) hx hb dX3_readOperand_197 (by decide) ?_
          obtain ⟨rfl, rfl, rfl⟩ := tx_3 h
          exact W.zret (ty := .boolean) hx hb hr rfl (fun t ht hW => ⟨⟨_, (), rfl, rfl, by rw [ht]; exact hP, hD⟩, hS.F ht⟩) hS.2.2 dX3_readOperand_198
        · have h := tx_neg c12 h
          refine lv_aload_n hx hb dX3_readOperand_174 rfl (lv_at hl 1 rfl) ?_
          obtain ⟨⟨r13, R_14, P_15⟩, hc16, h⟩ := tx_bd h
          replace h := tx_let (y := r13) rfl h
          replace h := tx_let (y := R_14) rfl h
          replace h := tx_let (y := P_15) rfl h
          refine tzB_i (As := []) (rest := []) ⟨hx, hb, hml, hown, hT⟩ hP hD hS hA hK hN hB (c_X3_countKnot l G cA H.size bA ka ra pa K R_9 P L  r13 R_14 P_15 hc16) (tq_gV kw_20_19 kw_20_20 kw_20_21 kw_1_15 kw_20_22) rfl rfl dkdV_yX3_countKnot_0 (Nat.le_of_ble_eq_true rfl) (Nat.le_of_ble_eq_true rfl) (ci := 3) (q0 := 3) rfl rfl rfl hl.1 rfl (Nat.le_of_ble_eq_true rfl) dX3_readOperand_175 ⟨Nat.le_of_ble_eq_true rfl, Nat.le_of_ble_eq_true rfl⟩ (fun _ _ H locs z17 hP hD hS => ?_)
          have z17 := z17.symm
          subst z17
          have hP : va_P G vwCl (wRP cA ka ra pa K R_14 P_15 L) H := hP
          have hD : va_D A (wRP cA ka ra pa K R_14 P_15 L) := hD
          refine lv_if_eq (tgt := 197) hx hb dX3_readOperand_178 (by decide) (fun c18 => ?_) (fun c18 => ?_)
          · have h := tx_pos c18 h
            refine lv_iconst (v := 0) hx hb dX3_readOperand_197 (by decide) ?_
            obtain ⟨rfl, rfl, rfl⟩ := tx_3 h
            exact W.zret (ty := .boolean) hx hb hr rfl (fun t ht hW => ⟨⟨_, (), rfl, rfl, by rw [ht]; exact hP, hD⟩, hS.F ht⟩) hS.2.2 dX3_readOperand_198
          · have h := tx_neg c18 h
            refine lv_aload_n hx hb dX3_readOperand_181 rfl (lv_at hl 2 rfl) ?_
            refine lv_sipush (v := 10000) hx hb dX3_readOperand_182 (by decide) ?_
            refine lv_iload_n hx hb dX3_readOperand_185 rfl (lv_at hl 0 rfl) ?_
            refine lv_iadd hx hb dX3_readOperand_186 ?_
            obtain ⟨⟨r19, P_20⟩, hc21, h⟩ := tx_bd h
            replace h := tx_let (y := r19) rfl h
            replace h := tx_let (y := P_20) rfl h
            refine tw_ci tw_all hP hD hS hA (va_runS (As := [.ref (pa (30 + 3 * j)), .int ((10000 : Int32) + y1)]) (rest := []) ⟨hx, hb, hml, hown, hT⟩ (c_X3_put l G cA H.size bA ka ra pa j K R_14 P_15 L ((10000 : Int32) + y1) hj r19 P_20 hc21) (va_cwS 2 hT (tq_gS kw_21_0 kw_21_1 kw_1_15 kw_21_2) rfl rfl rfl dkdS_yX3_put_2 ⟨Nat.le_of_ble_eq_true rfl, Nat.le_of_ble_eq_true rfl⟩) (tw_preB (H0 := H) tw_all hP hD hK hN hS hA hB) rfl rfl hl.1 rfl (lv_room (Nat.le_of_ble_eq_true rfl)) dX3_readOperand_187 ⟨Nat.le_of_ble_eq_true rfl, Nat.le_of_ble_eq_true rfl⟩) (fun _ _ H locs z22 hP hD hS => ?_)
            have z22 := z22.symm
            subst z22
            rw [List.append_nil] at hP hD
            have hP : va_P G vwCl (wRP cA ka ra pa K R_14 P_20 L) H := hP
            have hD : va_D A (wRP cA ka ra pa K R_14 P_20 L) := hD
            refine lv_if_eq (tgt := 197) hx hb dX3_readOperand_190 (by decide) (fun c23 => ?_) (fun c23 => ?_)
            · have h := tx_pos c23 h
              refine lv_iconst (v := 0) hx hb dX3_readOperand_197 (by decide) ?_
              obtain ⟨rfl, rfl, rfl⟩ := tx_3 h
              exact W.zret (ty := .boolean) hx hb hr rfl (fun t ht hW => ⟨⟨_, (), rfl, rfl, by rw [ht]; exact hP, hD⟩, hS.F ht⟩) hS.2.2 dX3_readOperand_198
            · have h := tx_neg c23 h
              refine lv_iconst (v := 1) hx hb dX3_readOperand_193 (by decide) ?_
              refine lv_goto (tgt := 198) hx hb dX3_readOperand_194 (by decide) ?_
              obtain ⟨rfl, rfl, rfl⟩ := tx_3 h
              exact W.zret (ty := .boolean) hx hb hr rfl (fun t ht hW => ⟨⟨_, (), rfl, rfl, by rw [ht]; exact hP, hD⟩, hS.F ht⟩) hS.2.2 dX3_readOperand_198
      · have h := tx_pos c4 h
        refine lv_aload_n hx hb dX3_readOperand_107 rfl (lv_at hl 1 rfl) ?_
        refine lv_aload_n hx hb dX3_readOperand_108 rfl (lv_at hl 1 rfl) ?_
        refine va_get (D := G) (ci := 3) (v := .ref (ka 0)) (C := RX3) (T := TX3) (N := 10) hx hb hT ku_3 hown hK hP 3 rfl rfl 0 (by decide) (hT _ kw_2_23) (fun _ h9 => h9) rfl dX3_readOperand_109 ?_
        refine va_get (D := G) (ci := 5) (v := .int (K 0 3)) (C := RX5) (T := TX5) (N := 8) hx hb hT ku_5 hown hK hP 0 rfl rfl 3 (by decide) (hT _ kw_17_8) (fun _ h9 => h9) rfl dX3_readOperand_112 ?_
        refine lv_sipush (v := 10000) hx hb dX3_readOperand_115 (by decide) ?_
        refine lv_icmp_ge (tgt := 125) hx hb dX3_readOperand_118 (by decide) (fun c24 => ?_) (fun c24 => ?_)
        · have h := tx_pos c24 h
          refine lv_iconst (v := 0) hx hb dX3_readOperand_125 (by decide) ?_
          exact w_X3_readOperand_J126 F hB hj 0 R P H locs ls h hP hD hS (lv_sub hl [1, 2] rfl)
        · have h := tx_neg c24 h
          refine lv_iconst (v := 1) hx hb dX3_readOperand_121 (by decide) ?_
          refine lv_goto (tgt := 126) hx hb dX3_readOperand_122 (by decide) ?_
          exact w_X3_readOperand_J126 F hB hj 1 R P H locs ls h hP hD hS (lv_sub hl [1, 2] rfl)
    · have h := tx_pos c3 h
      refine lv_aload_n hx hb dX3_readOperand_55 rfl (lv_at hl 1 rfl) ?_
      refine lv_aload_n hx hb dX3_readOperand_56 rfl (lv_at hl 1 rfl) ?_
      obtain ⟨r41, hc42, h⟩ := tx_bd h
      refine tzB_i (As := []) (rest := [.ref (ra 0)]) ⟨hx, hb, hml, hown, hT⟩ hP hD hS hA hK hN hB (c_X3_latestBinds l G cA H.size bA ka ra pa K R P L  r41 hc42) (tq_gV kw_20_15 kw_20_16 kw_20_17 kw_1_15 kw_20_18) rfl rfl dkdV_yX3_latestBinds_0 (Nat.le_of_ble_eq_true rfl) (Nat.le_of_ble_eq_true rfl) (ci := 3) (q0 := 3) rfl rfl rfl hl.1 rfl (Nat.le_of_ble_eq_true rfl) dX3_readOperand_57 ⟨Nat.le_of_ble_eq_true rfl, Nat.le_of_ble_eq_true rfl⟩ (fun _ _ H locs z43 hP hD hS => ?_)
      have z43 := z43.symm
      subst z43
      have hP : va_P G vwCl (wRP cA ka ra pa K R P L) H := hP
      have hD : va_D A (wRP cA ka ra pa K R P L) := hD
      refine va_getsN hx hb hB.2.1 hS hown (va_tabs rfl rfl hB.2.2) (fun _ h9 => h9) dX3_readOperand_60 ?_
      refine lv_iload_n hx hb dX3_readOperand_63 rfl (lv_at hl 0 rfl) ?_
      obtain ⟨g44, h⟩ := tx_ck h
      refine va_ti hx hb hB.1 hS (tx_in g44) rfl dX3_readOperand_64 ?_
      refine lv_icmp_gt (tgt := 72) hx hb dX3_readOperand_65 (by decide) (fun c45 => ?_) (fun c45 => ?_)
      · have h := tx_pos c45 h
        refine lv_iconst (v := 0) hx hb dX3_readOperand_72 (by decide) ?_
        exact w_X3_readOperand_J73 F hB hj y1 0 R P H locs ls h hP hD hS (lv_sub hl [1, 0] rfl)
      · have h := tx_neg c45 h
        refine lv_iconst (v := 1) hx hb dX3_readOperand_68 (by decide) ?_
        refine lv_goto (tgt := 73) hx hb dX3_readOperand_69 (by decide) ?_
        exact w_X3_readOperand_J73 F hB hj y1 1 R P H locs ls h hP hD hS (lv_sub hl [1, 0] rfl)
  · have h := tx_pos c2 h
    refine lv_aload_n hx hb dX3_readOperand_14 rfl (lv_at hl 1 rfl) ?_
    refine lv_aload_n hx hb dX3_readOperand_15 rfl (lv_at hl 1 rfl) ?_
    refine va_get (D := G) (ci := 3) (v := .int (R 0 9)) (C := RX3) (T := TX3) (N := 10) hx hb hT ku_3 hown hK hP 3 rfl rfl 9 (by decide) (hT _ kw_20_2) (fun _ h9 => h9) rfl dX3_readOperand_16 ?_
    refine lv_bipush (v := 8) hx hb dX3_readOperand_19 (by decide) ?_
    refine lv_icmp_ge (tgt := 28) hx hb dX3_readOperand_21 (by decide) (fun c62 => ?_) (fun c62 => ?_)
    · have h := tx_pos c62 h
      refine lv_iconst (v := 0) hx hb dX3_readOperand_28 (by decide) ?_
      exact w_X3_readOperand_J29 F hB hj 0 R P H locs ls h hP hD hS (lv_sub hl [1] rfl)
    · have h := tx_neg c62 h
      refine lv_iconst (v := 1) hx hb dX3_readOperand_24 (by decide) ?_
      refine lv_goto (tgt := 29) hx hb dX3_readOperand_25 (by decide) ?_
      exact w_X3_readOperand_J29 F hB hj 1 R P H locs ls h hP hD hS (lv_sub hl [1] rfl)
abbrev G_X3_isJoining (p : Program) (l : Launch) (e : Env) (s : State) (m : MethodId) (below : List Frame) (meth : Method) (c : Code) (G : va_G) (cA : Nat → ClassId) (A : Nat → Prop) (x0 : Int32) (r0 : Int32) (H : Heap) (locs : List Loc) (g : JFrame) : Prop := W p l e (headSpec (.code yX3_isJoining cX3_isJoining 1 (some .boolean) :: T0) ({ frames := 0, cells := 0, slots := 0, locals := 0 } : Room)).room s m ([.int x0] : List Value).toArray below meth c H locs 0 0 (MQ below (tqQi G cA (fun (r : Int32) (_ : Unit) => r = r0) (fun (_ : Unit) => ([] : va_W)) A) ([.int x0] : List Value).toArray s 0 0 A) g
set_option maxHeartbeats 4000000 in
set_option maxRecDepth 100000 in
theorem c_X3_isJoining (l : Launch) (G : va_G) (cA : Nat → ClassId) (sz : Nat) (x0 : Int32)  (r0 : Int32) (h : f_X3_isJoining x0 = some r0) : Met l yX3_isJoining (.code yX3_isJoining cX3_isJoining 1 (some .boolean) :: T0) ({ frames := 0, cells := 0, slots := 0, locals := 0 } : Room) (tqP G cA [.int x0] (([] : va_W)) sz) (tqQi G cA (fun (r : Int32) (_ : Unit) => r = r0) (fun (_ : Unit) => ([] : va_W)) (va_A (([] : va_W)) sz)) 0 0 (va_A (([] : va_W)) sz) := by
  refine Met.ofW (cc := cX3_isJoining) (maxL := 1) (ret := (some .boolean)) (by decide) rfl ?_
  intro p e s m args below meth c s₁ B hml hv
  obtain ⟨rfl, hsz, hP, hK, hD0, hN⟩ := hv
  have hx := B.exec
  have hb := B.bytes
  have hr := B.returns
  have hts := atoms_spec (ws := .code yX3_isJoining cX3_isJoining 1 (some .boolean) :: T0) B.pre
  have hT : ∀ w ∈ T0, w.before _ s = true := fun w h => hts w (List.mem_cons_of_mem _ h)
  have hown : s.vm.findClass RX3 = some m.cls := findClass_of_methodNamed B.named
  have hlocks := B.notSynchronized
  subst hsz
  have hD := hD0.self (sz := s.heap.size)
  generalize hAe : va_A (([] : va_W)) s.heap.size = A at hD ⊢
  have hA : ∀ q : Nat, s.heap.size ≤ q → A q := fun q h => by rw [← hAe]; exact Or.inr h
  have hS : va_S A s.heap s.heap [] := va_S.rf
  have hl := lv_entry ([.int x0]) (n := 1) (Nat.le_of_ble_eq_true rfl)
  rw [lg_entry_eq]
  generalize (lg_sl ([.int x0]) ++ List.replicate (1 - (lg_sl ([.int x0])).length) Slot.unset).toArray = ls at hl ⊢
  have hl : lv_has ls 1 [(0, .int x0)] := hl
  have F : tF p s m ([.int x0] : List Value).toArray meth c G cA A RX3 cX3_isJoining 1 (some .boolean) := ⟨hx, hb, hr, hml, hT, hown, hlocks, hK, hN, hA⟩
  obtain ⟨H, hH⟩ : ∃ z, z = s.heap := ⟨_, rfl⟩
  rw [← hH] at hP
  have hS : va_S A s.heap H [] := by rw [hH]; exact hS
  suffices hgo : G_X3_isJoining p l e s m below meth c G cA A x0 r0 H [] (F0 m 0 ls []) by rw [hH] at hgo; exact hgo
  generalize ([] : List Loc) = locs at hS ⊢
  unfold f_X3_isJoining at h
  refine lv_iload_n hx hb dX3_isJoining_0 rfl (lv_at hl 0 rfl) ?_
  refine lv_bipush (v := 19) hx hb dX3_isJoining_1 (by decide) ?_
  refine lv_icmp_eq (tgt := 24) hx hb dX3_isJoining_3 (by decide) (fun c1 => ?_) (fun c1 => ?_)
  · have h := tx_pos c1 h
    refine lv_iconst (v := 1) hx hb dX3_isJoining_24 (by decide) ?_
    refine lv_goto (tgt := 29) hx hb dX3_isJoining_25 (by decide) ?_
    obtain rfl := tx_1 h
    exact W.zret (ty := .boolean) hx hb hr rfl (fun t ht hW => ⟨⟨_, (), rfl, rfl, by rw [ht]; exact hP, hD⟩, hS.F ht⟩) hS.2.2 dX3_isJoining_29
  · have h := tx_neg c1 h
    refine lv_iload_n hx hb dX3_isJoining_6 rfl (lv_at hl 0 rfl) ?_
    refine lv_bipush (v := 20) hx hb dX3_isJoining_7 (by decide) ?_
    refine lv_icmp_eq (tgt := 24) hx hb dX3_isJoining_9 (by decide) (fun c2 => ?_) (fun c2 => ?_)
    · have h := tx_pos c2 h
      refine lv_iconst (v := 1) hx hb dX3_isJoining_24 (by decide) ?_
      refine lv_goto (tgt := 29) hx hb dX3_isJoining_25 (by decide) ?_
      obtain rfl := tx_1 h
      exact W.zret (ty := .boolean) hx hb hr rfl (fun t ht hW => ⟨⟨_, (), rfl, rfl, by rw [ht]; exact hP, hD⟩, hS.F ht⟩) hS.2.2 dX3_isJoining_29
    · have h := tx_neg c2 h
      refine lv_iload_n hx hb dX3_isJoining_12 rfl (lv_at hl 0 rfl) ?_
      refine lv_bipush (v := 29) hx hb dX3_isJoining_13 (by decide) ?_
      refine lv_icmp_lt (tgt := 28) hx hb dX3_isJoining_15 (by decide) (fun c3 => ?_) (fun c3 => ?_)
      · have h := tx_pos c3 h
        refine lv_iconst (v := 0) hx hb dX3_isJoining_28 (by decide) ?_
        obtain rfl := tx_1 h
        exact W.zret (ty := .boolean) hx hb hr rfl (fun t ht hW => ⟨⟨_, (), rfl, rfl, by rw [ht]; exact hP, hD⟩, hS.F ht⟩) hS.2.2 dX3_isJoining_29
      · have h := tx_neg c3 h
        refine lv_iload_n hx hb dX3_isJoining_18 rfl (lv_at hl 0 rfl) ?_
        refine lv_bipush (v := 38) hx hb dX3_isJoining_19 (by decide) ?_
        refine lv_icmp_gt (tgt := 28) hx hb dX3_isJoining_21 (by decide) (fun c4 => ?_) (fun c4 => ?_)
        · have h := tx_pos c4 h
          refine lv_iconst (v := 0) hx hb dX3_isJoining_28 (by decide) ?_
          obtain rfl := tx_1 h
          exact W.zret (ty := .boolean) hx hb hr rfl (fun t ht hW => ⟨⟨_, (), rfl, rfl, by rw [ht]; exact hP, hD⟩, hS.F ht⟩) hS.2.2 dX3_isJoining_29
        · have h := tx_neg c4 h
          refine lv_iconst (v := 1) hx hb dX3_isJoining_24 (by decide) ?_
          refine lv_goto (tgt := 29) hx hb dX3_isJoining_25 (by decide) ?_
          obtain rfl := tx_1 h
          exact W.zret (ty := .boolean) hx hb hr rfl (fun t ht hW => ⟨⟨_, (), rfl, rfl, by rw [ht]; exact hP, hD⟩, hS.F ht⟩) hS.2.2 dX3_isJoining_29
abbrev G_X3_closeSigns (p : Program) (l : Launch) (e : Env) (s : State) (m : MethodId) (below : List Frame) (meth : Method) (c : Code) (G : va_G) (cA : Nat → ClassId) (A : Nat → Prop) (bA : Nat) (ka : Nat → Nat) (ra : Nat → Nat) (pa : Nat → Nat) (j : Nat) (K : Tr) (L : Lo) (x2 : Int32) (R' : Tr) (P' : Tr) (H : Heap) (locs : List Loc) (g : JFrame) : Prop := W p l e (headSpec (.code yX3_closeSigns cX3_closeSigns 3 none :: T0) ({ frames := 1, cells := 0, slots := 0, locals := 21 } : Room)).room s m ([.ref (ra 0), .ref (pa (30 + 3 * j)), .int x2] : List Value).toArray below meth c H locs 0 0 (MQ below (tqQv G cA (fun (_ : Unit) => True) (fun (_ : Unit) => wRP cA ka ra pa K (R') (P') L) A) ([.ref (ra 0), .ref (pa (30 + 3 * j)), .int x2] : List Value).toArray s 0 0 A) g
set_option maxHeartbeats 4000000 in
set_option maxRecDepth 100000 in
theorem w_X3_closeSigns_L0 {p : Program} {l : Launch} {e : Env} {s : State} {m : MethodId} {below : List Frame} {meth : Method} {c : Code} {G : va_G} {cA : Nat → ClassId} {A : Nat → Prop} {bA : Nat} {ka : Nat → Nat} {ra : Nat → Nat} {pa : Nat → Nat} {j : Nat} {K : Tr} {L : Lo} {x2₀ : Int32} {R' : Tr} {P' : Tr} {x2 : Int32} (F : tF p s m ([.ref (ra 0), .ref (pa (30 + 3 * j)), .int x2₀] : List Value).toArray meth c G cA A RX3 cX3_closeSigns 3 none) (hB : tqB bA A s s.heap) (hj : j < 3)   (N : Nat) : ∀ (R : Tr) (P : Tr) (H : Heap) (locs : List Loc) (ls : Array Slot), lpF (fun _ _ => none) (fB_X3_closeSigns_L0 j x2) N R P = some (R', P') → va_P G vwCl (wRP cA ka ra pa K R P L) H → va_D A (wRP cA ka ra pa K R P L) → va_S A s.heap H locs → lv_has ls 3 [(0, .ref (ra 0)), (1, .ref (pa (30 + 3 * j))), (2, .int x2)] → G_X3_closeSigns p l e s m below meth c G cA A bA ka ra pa j K L x2₀ R' P' H locs (F0 m 0 ls []) := by
  obtain ⟨hx, hb, hr, hml, hT, hown, hlocks, hK, hN, hA⟩ := id F
  induction N with
  | zero =>
    intro R P H locs ls h
    have h : (none : Option (Tr × Tr)) = some (R', P') := h
    cases h
  | succ N hk0 =>
    intro R P H locs ls h hP hD hS hl
    have h : fB_X3_closeSigns_L0 j x2 (lpF (fun _ _ => none) (fB_X3_closeSigns_L0 j x2) N) R P = some (R', P') := h
    generalize hk0e : lpF (fun _ _ => none) (fB_X3_closeSigns_L0 j x2) N = k0 at h hk0
    unfold fB_X3_closeSigns_L0 at h
    refine lv_aload_n hx hb dX3_closeSigns_0 rfl (lv_at hl 0 rfl) ?_
    refine va_get (D := G) (ci := 3) (v := .int (R 0 8)) (C := RX3) (T := TX3) (N := 10) hx hb hT ku_3 hown hK hP 3 rfl rfl 8 (by decide) (hT _ kw_20_1) (fun _ h9 => h9) rfl dX3_closeSigns_1 ?_
    refine lv_if_le (tgt := 45) hx hb dX3_closeSigns_4 (by decide) (fun c1 => ?_) (fun c1 => ?_)
    · have h := tx_pos c1 h
      obtain ⟨rfl, rfl⟩ := tx_2 h
      exact W.vret hx hb hr (fun t ht hW => ⟨⟨(), rfl, trivial, by rw [ht]; exact hP, hD⟩, hS.F ht⟩) hS.2.2 dX3_closeSigns_45
    · have h := tx_neg c1 h
      refine lv_aload_n hx hb dX3_closeSigns_7 rfl (lv_at hl 0 rfl) ?_
      obtain ⟨r2, hc3, h⟩ := tx_bd h
      refine tzB_i (As := []) (rest := []) ⟨hx, hb, hml, hown, hT⟩ hP hD hS hA hK hN hB (c_X3_latestBinds l G cA H.size bA ka ra pa K R P L  r2 hc3) (tq_gV kw_20_15 kw_20_16 kw_20_17 kw_1_15 kw_20_18) rfl rfl dkdV_yX3_latestBinds_0 (Nat.le_of_ble_eq_true rfl) (Nat.le_of_ble_eq_true rfl) (ci := 3) (q0 := 3) rfl rfl rfl hl.1 rfl (Nat.le_of_ble_eq_true rfl) dX3_closeSigns_8 ⟨Nat.le_of_ble_eq_true rfl, Nat.le_of_ble_eq_true rfl⟩ (fun _ _ H locs z4 hP hD hS => ?_)
      have z4 := z4.symm
      subst z4
      have hP : va_P G vwCl (wRP cA ka ra pa K R P L) H := hP
      have hD : va_D A (wRP cA ka ra pa K R P L) := hD
      refine lv_iload_n hx hb dX3_closeSigns_11 rfl (lv_at hl 2 rfl) ?_
      refine lv_icmp_lt (tgt := 45) hx hb dX3_closeSigns_12 (by decide) (fun c5 => ?_) (fun c5 => ?_)
      · have h := tx_pos c5 h
        obtain ⟨rfl, rfl⟩ := tx_2 h
        exact W.vret hx hb hr (fun t ht hW => ⟨⟨(), rfl, trivial, by rw [ht]; exact hP, hD⟩, hS.F ht⟩) hS.2.2 dX3_closeSigns_45
      · have h := tx_neg c5 h
        refine lv_aload_n hx hb dX3_closeSigns_15 rfl (lv_at hl 0 rfl) ?_
        refine lv_dup hx hb dX3_closeSigns_16 rfl ?_
        refine va_get (D := G) (ci := 3) (v := .int (R 0 8)) (C := RX3) (T := TX3) (N := 10) hx hb hT ku_3 hown hK hP 3 rfl rfl 8 (by decide) (hT _ kw_20_1) (fun _ h9 => h9) rfl dX3_closeSigns_17 ?_
        refine lv_iconst (v := 1) hx hb dX3_closeSigns_20 (by decide) ?_
        refine lv_isub hx hb dX3_closeSigns_21 ?_
        refine va_put (D := G) (ci := 3) (v := .int ((R 0 8) - 1)) (ty := .int) (C := RX3) (T := TX3) (N := 10) hx hb hT ku_3 tyX3 tyX3_ok nmX3 hown hK hP hD hS 3 rfl rfl 8 (by decide) (hT _ kw_20_1) (fun _ h9 => h9) rfl (by decide +kernel) rfl rfl (Nat.le_of_ble_eq_true rfl) dX3_closeSigns_22 (fun H locs hP hD hS => ?_)
        obtain ⟨R_6, eR_6, h⟩ := tx_lt h
        rw [sRP_ra_f8, eR_6] at hP hD
        refine lv_aload_n hx hb dX3_closeSigns_25 rfl (lv_at hl 1 rfl) ?_
        refine lv_sipush (v := 10000) hx hb dX3_closeSigns_26 (by decide) ?_
        refine lv_aload_n hx hb dX3_closeSigns_29 rfl (lv_at hl 0 rfl) ?_
        refine va_get (D := G) (ci := 3) (v := .ref (ra 8)) (C := RX3) (T := TX3) (N := 10) hx hb hT ku_3 hown hK hP 3 rfl rfl 7 (by decide) (hT _ kw_3_5) (fun _ h9 => h9) rfl dX3_closeSigns_30 ?_
        refine lv_aload_n hx hb dX3_closeSigns_33 rfl (lv_at hl 0 rfl) ?_
        refine va_get (D := G) (ci := 3) (v := .int (R_6 0 8)) (C := RX3) (T := TX3) (N := 10) hx hb hT ku_3 hown hK hP 3 rfl rfl 8 (by decide) (hT _ kw_20_1) (fun _ h9 => h9) rfl dX3_closeSigns_34 ?_
        obtain ⟨g7, h⟩ := tx_ck h
        refine va_iald (i := (R_6 0 8)) hx hb hK hP 4 0 rfl rfl (tx_in g7) dX3_closeSigns_37 ?_
        refine lv_iadd hx hb dX3_closeSigns_38 ?_
        obtain ⟨P_8, hc9, h⟩ := tx_bd h
        refine tzB_v (As := [.int ((10000 : Int32) + (R_6 8 (R_6 0 8).toNatClampNeg))]) (rest := []) ⟨hx, hb, hml, hown, hT⟩ hP hD hS hA hK hN hB (c_X1_append l G cA H.size bA ka ra pa j K R_6 P L ((10000 : Int32) + (R_6 8 (R_6 0 8).toNatClampNeg)) hj P_8 hc9) (tq_gV kw_21_3 kw_21_4 kw_21_5 kw_6_8 kw_21_6) rfl rfl dkdV_yX1_append_1 (Nat.le_of_ble_eq_true rfl) (Nat.le_of_ble_eq_true rfl) (ci := 1) (q0 := (18 + 3 * j)) rfl (aLRP_0 hj) rfl hl.1 rfl (Nat.le_of_ble_eq_true rfl) dX3_closeSigns_39 ⟨Nat.le_of_ble_eq_true rfl, Nat.le_of_ble_eq_true rfl⟩ (fun _ H locs z10 hP hD hS => ?_)
        have hP : va_P G vwCl (wRP cA ka ra pa K R_6 P_8 L) H := hP
        have hD : va_D A (wRP cA ka ra pa K R_6 P_8 L) := hD
        refine lv_goto (tgt := 0) hx hb dX3_closeSigns_42 (by decide) ?_
        exact hk0 R_6 P_8 H locs ls h hP hD hS (lv_sub hl [0, 1, 2] rfl)
set_option maxHeartbeats 4000000 in
set_option maxRecDepth 100000 in
theorem c_X3_closeSigns (l : Launch) (G : va_G) (cA : Nat → ClassId) (sz : Nat) (bA : Nat) (ka : Nat → Nat) (ra : Nat → Nat) (pa : Nat → Nat) (j : Nat) (K : Tr) (R : Tr) (P : Tr) (L : Lo) (x2 : Int32) (hj : j < 3) (R' : Tr) (P' : Tr) (h : f_X3_closeSigns j R P x2 = some (R', P')) : Met l yX3_closeSigns (.code yX3_closeSigns cX3_closeSigns 3 none :: T0) ({ frames := 1, cells := 0, slots := 0, locals := 21 } : Room) (tqPB bA G cA [.ref (ra 0), .ref (pa (30 + 3 * j)), .int x2] (wRP cA ka ra pa K R P L) sz) (tqQv G cA (fun (_ : Unit) => True) (fun (_ : Unit) => wRP cA ka ra pa K (R') (P') L) (va_A (wRP cA ka ra pa K R P L) sz)) 0 0 (va_A (wRP cA ka ra pa K R P L) sz) := by
  refine Met.ofW (cc := cX3_closeSigns) (maxL := 3) (ret := none) (by decide) rfl ?_
  intro p e s m args below meth c s₁ B hml hv
  obtain ⟨rfl, hsz, hP, hK, hD0, hN, hB⟩ := hv
  have hx := B.exec
  have hb := B.bytes
  have hr := B.returns
  have hts := atoms_spec (ws := .code yX3_closeSigns cX3_closeSigns 3 none :: T0) B.pre
  have hT : ∀ w ∈ T0, w.before _ s = true := fun w h => hts w (List.mem_cons_of_mem _ h)
  have hown : s.vm.findClass RX3 = some m.cls := findClass_of_methodNamed B.named
  have hlocks := B.notSynchronized
  subst hsz
  have hD := hD0.self (sz := s.heap.size)
  generalize hAe : va_A (wRP cA ka ra pa K R P L) s.heap.size = A at hD hB ⊢
  have hA : ∀ q : Nat, s.heap.size ≤ q → A q := fun q h => by rw [← hAe]; exact Or.inr h
  have hS : va_S A s.heap s.heap [] := va_S.rf
  have hl := lv_entry ([.ref (ra 0), .ref (pa (30 + 3 * j)), .int x2]) (n := 3) (Nat.le_of_ble_eq_true rfl)
  rw [lg_entry_eq]
  generalize (lg_sl ([.ref (ra 0), .ref (pa (30 + 3 * j)), .int x2]) ++ List.replicate (3 - (lg_sl ([.ref (ra 0), .ref (pa (30 + 3 * j)), .int x2])).length) Slot.unset).toArray = ls at hl ⊢
  have hl : lv_has ls 3 [(0, .ref (ra 0)), (1, .ref (pa (30 + 3 * j))), (2, .int x2)] := hl
  have F : tF p s m ([.ref (ra 0), .ref (pa (30 + 3 * j)), .int x2] : List Value).toArray meth c G cA A RX3 cX3_closeSigns 3 none := ⟨hx, hb, hr, hml, hT, hown, hlocks, hK, hN, hA⟩
  obtain ⟨H, hH⟩ : ∃ z, z = s.heap := ⟨_, rfl⟩
  rw [← hH] at hP
  have hS : va_S A s.heap H [] := by rw [hH]; exact hS
  suffices hgo : G_X3_closeSigns p l e s m below meth c G cA A bA ka ra pa j K L x2 R' P' H [] (F0 m 0 ls []) by rw [hH] at hgo; exact hgo
  generalize ([] : List Loc) = locs at hS ⊢
  unfold f_X3_closeSigns at h
  exact w_X3_closeSigns_L0 F hB hj 2000 R P H locs ls h hP hD hS (lv_sub hl [0, 1, 2] rfl)
abbrev G_X3_readJoining (p : Program) (l : Launch) (e : Env) (s : State) (m : MethodId) (below : List Frame) (meth : Method) (c : Code) (G : va_G) (cA : Nat → ClassId) (A : Nat → Prop) (bA : Nat) (ka : Nat → Nat) (ra : Nat → Nat) (pa : Nat → Nat) (j : Nat) (K : Tr) (L : Lo) (r0 : Int32) (R' : Tr) (P' : Tr) (H : Heap) (locs : List Loc) (g : JFrame) : Prop := W p l e (headSpec (.code yX3_readJoining cX3_readJoining 4 (some .boolean) :: T0) ({ frames := 2, cells := 0, slots := 0, locals := 43 } : Room)).room s m ([.ref (ra 0), .ref (pa (30 + 3 * j))] : List Value).toArray below meth c H locs 0 0 (MQ below (tqQi G cA (fun (r : Int32) (_ : Unit) => r = r0) (fun (_ : Unit) => wRP cA ka ra pa K (R') (P') L) A) ([.ref (ra 0), .ref (pa (30 + 3 * j))] : List Value).toArray s 0 0 A) g
set_option maxHeartbeats 4000000 in
set_option maxRecDepth 100000 in
theorem w_X3_readJoining_J57 {p : Program} {l : Launch} {e : Env} {s : State} {m : MethodId} {below : List Frame} {meth : Method} {c : Code} {G : va_G} {cA : Nat → ClassId} {A : Nat → Prop} {bA : Nat} {ka : Nat → Nat} {ra : Nat → Nat} {pa : Nat → Nat} {j : Nat} {K : Tr} {L : Lo} {r0 : Int32} {R' : Tr} {P' : Tr} (F : tF p s m ([.ref (ra 0), .ref (pa (30 + 3 * j))] : List Value).toArray meth c G cA A RX3 cX3_readJoining 4 (some .boolean)) (hB : tqB bA A s s.heap) (hj : j < 3)   (s0 : Int32) (R : Tr) (P : Tr) (H : Heap) (locs : List Loc) (ls : Array Slot) (h : fJ_X3_readJoining_J57 j K s0 R P = some (r0, R', P')) (hP : va_P G vwCl (wRP cA ka ra pa K R P L) H) (hD : va_D A (wRP cA ka ra pa K R P L)) (hS : va_S A s.heap H locs) (hl : lv_has ls 4 [(0, .ref (ra 0))]) : G_X3_readJoining p l e s m below meth c G cA A bA ka ra pa j K L r0 R' P' H locs (F0 m 57 ls [.int s0, .ref (ra 0)]) := by
  obtain ⟨hx, hb, hr, hml, hT, hown, hlocks, hK, hN, hA⟩ := id F
  unfold fJ_X3_readJoining_J57 at h
  refine lv_iconst (v := 1) hx hb dX3_readJoining_57 (by decide) ?_
  obtain ⟨⟨r10, R_11⟩, hc12, h⟩ := tx_bd h
  replace h := tx_let (y := r10) rfl h
  replace h := tx_let (y := R_11) rfl h
  refine tzB_i (As := [.int s0, .int 1]) (rest := []) ⟨hx, hb, hml, hown, hT⟩ hP hD hS hA hK hN hB (c_X3_expect l G cA H.size bA ka ra pa K R P L s0 (1 : Int32)  r10 R_11 hc12) (tq_gV kw_16_18 kw_16_19 kw_16_20 kw_1_15 kw_16_21) rfl rfl dkdV_yX3_expect_2 (Nat.le_of_ble_eq_true rfl) (Nat.le_of_ble_eq_true rfl) (ci := 3) (q0 := 3) rfl rfl rfl hl.1 rfl (Nat.le_of_ble_eq_true rfl) dX3_readJoining_58 ⟨Nat.le_of_ble_eq_true rfl, Nat.le_of_ble_eq_true rfl⟩ (fun _ _ H locs z13 hP hD hS => ?_)
  have z13 := z13.symm
  subst z13
  have hP : va_P G vwCl (wRP cA ka ra pa K R_11 P L) H := hP
  have hD : va_D A (wRP cA ka ra pa K R_11 P L) := hD
  refine lv_if_eq (tgt := 89) hx hb dX3_readJoining_61 (by decide) (fun c14 => ?_) (fun c14 => ?_)
  · have h := tx_pos c14 h
    refine lv_iconst (v := 0) hx hb dX3_readJoining_89 (by decide) ?_
    obtain ⟨rfl, rfl, rfl⟩ := tx_3 h
    exact W.zret (ty := .boolean) hx hb hr rfl (fun t ht hW => ⟨⟨_, (), rfl, rfl, by rw [ht]; exact hP, hD⟩, hS.F ht⟩) hS.2.2 dX3_readJoining_90
  · have h := tx_neg c14 h
    refine lv_aload_n hx hb dX3_readJoining_64 rfl (lv_at hl 0 rfl) ?_
    obtain ⟨⟨r15, R_16, P_17⟩, hc18, h⟩ := tx_bd h
    replace h := tx_let (y := r15) rfl h
    replace h := tx_let (y := R_16) rfl h
    replace h := tx_let (y := P_17) rfl h
    refine tzB_i (As := []) (rest := []) ⟨hx, hb, hml, hown, hT⟩ hP hD hS hA hK hN hB (c_X3_countKnot l G cA H.size bA ka ra pa K R_11 P L  r15 R_16 P_17 hc18) (tq_gV kw_20_19 kw_20_20 kw_20_21 kw_1_15 kw_20_22) rfl rfl dkdV_yX3_countKnot_0 (Nat.le_of_ble_eq_true rfl) (Nat.le_of_ble_eq_true rfl) (ci := 3) (q0 := 3) rfl rfl rfl hl.1 rfl (Nat.le_of_ble_eq_true rfl) dX3_readJoining_65 ⟨Nat.le_of_ble_eq_true rfl, Nat.le_of_ble_eq_true rfl⟩ (fun _ _ H locs z19 hP hD hS => ?_)
    have z19 := z19.symm
    subst z19
    have hP : va_P G vwCl (wRP cA ka ra pa K R_16 P_17 L) H := hP
    have hD : va_D A (wRP cA ka ra pa K R_16 P_17 L) := hD
    refine lv_if_eq (tgt := 89) hx hb dX3_readJoining_68 (by decide) (fun c20 => ?_) (fun c20 => ?_)
    · have h := tx_pos c20 h
      refine lv_iconst (v := 0) hx hb dX3_readJoining_89 (by decide) ?_
      obtain ⟨rfl, rfl, rfl⟩ := tx_3 h
      exact W.zret (ty := .boolean) hx hb hr rfl (fun t ht hW => ⟨⟨_, (), rfl, rfl, by rw [ht]; exact hP, hD⟩, hS.F ht⟩) hS.2.2 dX3_readJoining_90
    · have h := tx_neg c20 h
      refine lv_aload_n hx hb dX3_readJoining_71 rfl (lv_at hl 0 rfl) ?_
      refine lv_aload_n hx hb dX3_readJoining_72 rfl (lv_at hl 0 rfl) ?_
      refine va_get (D := G) (ci := 3) (v := .ref (ka 0)) (C := RX3) (T := TX3) (N := 10) hx hb hT ku_3 hown hK hP 3 rfl rfl 0 (by decide) (hT _ kw_2_23) (fun _ h9 => h9) rfl dX3_readJoining_73 ?_
      refine va_get (D := G) (ci := 5) (v := .int (K 0 1)) (C := RX5) (T := TX5) (N := 8) hx hb hT ku_5 hown hK hP 0 rfl rfl 1 (by decide) (hT _ kw_14_15) (fun _ h9 => h9) rfl dX3_readJoining_76 ?_
      obtain ⟨⟨r21, R_22⟩, hc23, h⟩ := tx_bd h
      replace h := tx_let (y := r21) rfl h
      replace h := tx_let (y := R_22) rfl h
      refine tzB_i (As := [.int (K 0 1)]) (rest := []) ⟨hx, hb, hml, hown, hT⟩ hP hD hS hA hK hN hB (c_X3_openSign l G cA H.size bA ka ra pa K R_16 P_17 L (K 0 1)  r21 R_22 hc23) (tq_gV kw_20_11 kw_20_12 kw_20_13 kw_1_15 kw_20_14) rfl rfl dkdV_yX3_openSign_1 (Nat.le_of_ble_eq_true rfl) (Nat.le_of_ble_eq_true rfl) (ci := 3) (q0 := 3) rfl rfl rfl hl.1 rfl (Nat.le_of_ble_eq_true rfl) dX3_readJoining_79 ⟨Nat.le_of_ble_eq_true rfl, Nat.le_of_ble_eq_true rfl⟩ (fun _ _ H locs z24 hP hD hS => ?_)
      have z24 := z24.symm
      subst z24
      have hP : va_P G vwCl (wRP cA ka ra pa K R_22 P_17 L) H := hP
      have hD : va_D A (wRP cA ka ra pa K R_22 P_17 L) := hD
      refine lv_if_eq (tgt := 89) hx hb dX3_readJoining_82 (by decide) (fun c25 => ?_) (fun c25 => ?_)
      · have h := tx_pos c25 h
        refine lv_iconst (v := 0) hx hb dX3_readJoining_89 (by decide) ?_
        obtain ⟨rfl, rfl, rfl⟩ := tx_3 h
        exact W.zret (ty := .boolean) hx hb hr rfl (fun t ht hW => ⟨⟨_, (), rfl, rfl, by rw [ht]; exact hP, hD⟩, hS.F ht⟩) hS.2.2 dX3_readJoining_90
      · have h := tx_neg c25 h
        refine lv_iconst (v := 1) hx hb dX3_readJoining_85 (by decide) ?_
        refine lv_goto (tgt := 90) hx hb dX3_readJoining_86 (by decide) ?_
        obtain ⟨rfl, rfl, rfl⟩ := tx_3 h
        exact W.zret (ty := .boolean) hx hb hr rfl (fun t ht hW => ⟨⟨_, (), rfl, rfl, by rw [ht]; exact hP, hD⟩, hS.F ht⟩) hS.2.2 dX3_readJoining_90
set_option maxHeartbeats 4000000 in
set_option maxRecDepth 100000 in
theorem w_X3_readJoining_J52 {p : Program} {l : Launch} {e : Env} {s : State} {m : MethodId} {below : List Frame} {meth : Method} {c : Code} {G : va_G} {cA : Nat → ClassId} {A : Nat → Prop} {bA : Nat} {ka : Nat → Nat} {ra : Nat → Nat} {pa : Nat → Nat} {j : Nat} {K : Tr} {L : Lo} {r0 : Int32} {R' : Tr} {P' : Tr} (F : tF p s m ([.ref (ra 0), .ref (pa (30 + 3 * j))] : List Value).toArray meth c G cA A RX3 cX3_readJoining 4 (some .boolean)) (hB : tqB bA A s s.heap) (hj : j < 3)   (R : Tr) (P : Tr) (H : Heap) (locs : List Loc) (ls : Array Slot) (h : fJ_X3_readJoining_J52 j K R P = some (r0, R', P')) (hP : va_P G vwCl (wRP cA ka ra pa K R P L) H) (hD : va_D A (wRP cA ka ra pa K R P L)) (hS : va_S A s.heap H locs) (hl : lv_has ls 4 [(0, .ref (ra 0))]) : G_X3_readJoining p l e s m below meth c G cA A bA ka ra pa j K L r0 R' P' H locs (F0 m 52 ls [.ref (ra 0)]) := by
  obtain ⟨hx, hb, hr, hml, hT, hown, hlocks, hK, hN, hA⟩ := id F
  unfold fJ_X3_readJoining_J52 at h
  refine lv_iconst (v := 1) hx hb dX3_readJoining_52 (by decide) ?_
  refine lv_goto (tgt := 57) hx hb dX3_readJoining_53 (by decide) ?_
  exact w_X3_readJoining_J57 F hB hj 1 R P H locs ls h hP hD hS (lv_sub hl [0] rfl)
set_option maxHeartbeats 4000000 in
set_option maxRecDepth 100000 in
theorem w_X3_readJoining_J36 {p : Program} {l : Launch} {e : Env} {s : State} {m : MethodId} {below : List Frame} {meth : Method} {c : Code} {G : va_G} {cA : Nat → ClassId} {A : Nat → Prop} {bA : Nat} {ka : Nat → Nat} {ra : Nat → Nat} {pa : Nat → Nat} {j : Nat} {K : Tr} {L : Lo} {r0 : Int32} {R' : Tr} {P' : Tr} (F : tF p s m ([.ref (ra 0), .ref (pa (30 + 3 * j))] : List Value).toArray meth c G cA A RX3 cX3_readJoining 4 (some .boolean)) (hB : tqB bA A s s.heap) (hj : j < 3)   (x2 : Int32) (x3 : Int32) (s0 : Int32) (R : Tr) (P : Tr) (H : Heap) (locs : List Loc) (ls : Array Slot) (h : fJ_X3_readJoining_J36 j K x2 x3 s0 R P = some (r0, R', P')) (hP : va_P G vwCl (wRP cA ka ra pa K R P L) H) (hD : va_D A (wRP cA ka ra pa K R P L)) (hS : va_S A s.heap H locs) (hl : lv_has ls 4 [(0, .ref (ra 0)), (2, .int x2), (3, .int x3)]) : G_X3_readJoining p l e s m below meth c G cA A bA ka ra pa j K L r0 R' P' H locs (F0 m 36 ls [.int s0, .ref (pa (30 + 3 * j)), .ref (ra 0)]) := by
  obtain ⟨hx, hb, hr, hml, hT, hown, hlocks, hK, hN, hA⟩ := id F
  unfold fJ_X3_readJoining_J36 at h
  obtain ⟨⟨R_5, P_6⟩, hc7, h⟩ := tx_bd h
  replace h := tx_let (y := R_5) rfl h
  replace h := tx_let (y := P_6) rfl h
  refine tzB_v (As := [.ref (pa (30 + 3 * j)), .int s0]) (rest := []) ⟨hx, hb, hml, hown, hT⟩ hP hD hS hA hK hN hB (c_X3_closeSigns l G cA H.size bA ka ra pa j K R P L s0 hj R_5 P_6 hc7) (tq_gV kw_21_18 kw_21_19 kw_21_20 kw_1_15 kw_21_21) rfl rfl dkdV_yX3_closeSigns_2 (Nat.le_of_ble_eq_true rfl) (Nat.le_of_ble_eq_true rfl) (ci := 3) (q0 := 3) rfl rfl rfl hl.1 rfl (Nat.le_of_ble_eq_true rfl) dX3_readJoining_36 ⟨Nat.le_of_ble_eq_true rfl, Nat.le_of_ble_eq_true rfl⟩ (fun _ H locs z8 hP hD hS => ?_)
  have hP : va_P G vwCl (wRP cA ka ra pa K R_5 P_6 L) H := hP
  have hD : va_D A (wRP cA ka ra pa K R_5 P_6 L) := hD
  refine lv_aload_n hx hb dX3_readJoining_39 rfl (lv_at hl 0 rfl) ?_
  refine lv_iload_n hx hb dX3_readJoining_40 rfl (lv_at hl 2 rfl) ?_
  refine lv_if_eq (tgt := 52) hx hb dX3_readJoining_41 (by decide) (fun c9 => ?_) (fun c9 => ?_)
  · have h := tx_pos c9 h
    exact w_X3_readJoining_J52 F hB hj R_5 P_6 H locs ls h hP hD hS (lv_sub hl [0] rfl)
  · have h := tx_neg c9 h
    refine lv_aload_n hx hb dX3_readJoining_44 rfl (lv_at hl 0 rfl) ?_
    obtain ⟨r26, hc27, h⟩ := tx_bd h
    refine tzB_i (As := []) (rest := [.ref (ra 0)]) ⟨hx, hb, hml, hown, hT⟩ hP hD hS hA hK hN hB (c_X3_latestBinds l G cA H.size bA ka ra pa K R_5 P_6 L  r26 hc27) (tq_gV kw_20_15 kw_20_16 kw_20_17 kw_1_15 kw_20_18) rfl rfl dkdV_yX3_latestBinds_0 (Nat.le_of_ble_eq_true rfl) (Nat.le_of_ble_eq_true rfl) (ci := 3) (q0 := 3) rfl rfl rfl hl.1 rfl (Nat.le_of_ble_eq_true rfl) dX3_readJoining_45 ⟨Nat.le_of_ble_eq_true rfl, Nat.le_of_ble_eq_true rfl⟩ (fun _ _ H locs z28 hP hD hS => ?_)
    have z28 := z28.symm
    subst z28
    have hP : va_P G vwCl (wRP cA ka ra pa K R_5 P_6 L) H := hP
    have hD : va_D A (wRP cA ka ra pa K R_5 P_6 L) := hD
    refine lv_iload_n hx hb dX3_readJoining_48 rfl (lv_at hl 1 rfl) ?_
    refine lv_icmp_ge (tgt := 56) hx hb dX3_readJoining_49 (by decide) (fun c29 => ?_) (fun c29 => ?_)
    · have h := tx_pos c29 h
      refine lv_iconst (v := 0) hx hb dX3_readJoining_56 (by decide) ?_
      exact w_X3_readJoining_J57 F hB hj 0 R_5 P_6 H locs ls h hP hD hS (lv_sub hl [0] rfl)
    · have h := tx_neg c29 h
      exact w_X3_readJoining_J52 F hB hj R_5 P_6 H locs ls h hP hD hS (lv_sub hl [0] rfl)
set_option maxHeartbeats 4000000 in
set_option maxRecDepth 100000 in
theorem w_X3_readJoining_J22 {p : Program} {l : Launch} {e : Env} {s : State} {m : MethodId} {below : List Frame} {meth : Method} {c : Code} {G : va_G} {cA : Nat → ClassId} {A : Nat → Prop} {bA : Nat} {ka : Nat → Nat} {ra : Nat → Nat} {pa : Nat → Nat} {j : Nat} {K : Tr} {L : Lo} {r0 : Int32} {R' : Tr} {P' : Tr} (F : tF p s m ([.ref (ra 0), .ref (pa (30 + 3 * j))] : List Value).toArray meth c G cA A RX3 cX3_readJoining 4 (some .boolean)) (hB : tqB bA A s s.heap) (hj : j < 3)   (x2 : Int32) (s0 : Int32) (R : Tr) (P : Tr) (H : Heap) (locs : List Loc) (ls : Array Slot) (h : fJ_X3_readJoining_J22 j K x2 s0 R P = some (r0, R', P')) (hP : va_P G vwCl (wRP cA ka ra pa K R P L) H) (hD : va_D A (wRP cA ka ra pa K R P L)) (hS : va_S A s.heap H locs) (hl : lv_has ls 4 [(0, .ref (ra 0)), (1, .ref (pa (30 + 3 * j))), (2, .int x2)]) : G_X3_readJoining p l e s m below meth c G cA A bA ka ra pa j K L r0 R' P' H locs (F0 m 22 ls [.int s0]) := by
  obtain ⟨hx, hb, hr, hml, hT, hown, hlocks, hK, hN, hA⟩ := id F
  unfold fJ_X3_readJoining_J22 at h
  refine lv_istore_n (lv' := [(3, .int s0), (0, .ref (ra 0)), (1, .ref (pa (30 + 3 * j))), (2, .int x2)]) hx hb dX3_readJoining_22 rfl hl (by decide) rfl (fun ls hl => ?_)
  refine lv_aload_n hx hb dX3_readJoining_23 rfl (lv_at hl 1 rfl) ?_
  refine lv_aload_n hx hb dX3_readJoining_24 rfl (lv_at hl 2 rfl) ?_
  refine lv_iload_n hx hb dX3_readJoining_25 rfl (lv_at hl 0 rfl) ?_
  refine lv_if_eq (tgt := 35) hx hb dX3_readJoining_26 (by decide) (fun c4 => ?_) (fun c4 => ?_)
  · have h := tx_pos c4 h
    refine lv_iload_n hx hb dX3_readJoining_35 rfl (lv_at hl 3 rfl) ?_
    exact w_X3_readJoining_J36 F hB hj x2 s0 x2 R P H locs ls h hP hD hS (lv_sub hl [1, 3, 0] rfl)
  · have h := tx_neg c4 h
    refine lv_iload_n hx hb dX3_readJoining_29 rfl (lv_at hl 3 rfl) ?_
    refine lv_iconst (v := 1) hx hb dX3_readJoining_30 (by decide) ?_
    refine lv_iadd hx hb dX3_readJoining_31 ?_
    refine lv_goto (tgt := 36) hx hb dX3_readJoining_32 (by decide) ?_
    exact w_X3_readJoining_J36 F hB hj x2 s0 (x2 + 1) R P H locs ls h hP hD hS (lv_sub hl [1, 3, 0] rfl)
set_option maxHeartbeats 4000000 in
set_option maxRecDepth 100000 in
theorem c_X3_readJoining (l : Launch) (G : va_G) (cA : Nat → ClassId) (sz : Nat) (bA : Nat) (ka : Nat → Nat) (ra : Nat → Nat) (pa : Nat → Nat) (j : Nat) (K : Tr) (R : Tr) (P : Tr) (L : Lo) (hj : j < 3) (r0 : Int32) (R' : Tr) (P' : Tr) (h : f_X3_readJoining j K R P = some (r0, R', P')) : Met l yX3_readJoining (.code yX3_readJoining cX3_readJoining 4 (some .boolean) :: T0) ({ frames := 2, cells := 0, slots := 0, locals := 43 } : Room) (tqPB bA G cA [.ref (ra 0), .ref (pa (30 + 3 * j))] (wRP cA ka ra pa K R P L) sz) (tqQi G cA (fun (r : Int32) (_ : Unit) => r = r0) (fun (_ : Unit) => wRP cA ka ra pa K (R') (P') L) (va_A (wRP cA ka ra pa K R P L) sz)) 0 0 (va_A (wRP cA ka ra pa K R P L) sz) := by
  refine Met.ofW (cc := cX3_readJoining) (maxL := 4) (ret := (some .boolean)) (by decide) rfl ?_
  intro p e s m args below meth c s₁ B hml hv
  obtain ⟨rfl, hsz, hP, hK, hD0, hN, hB⟩ := hv
  have hx := B.exec
  have hb := B.bytes
  have hr := B.returns
  have hts := atoms_spec (ws := .code yX3_readJoining cX3_readJoining 4 (some .boolean) :: T0) B.pre
  have hT : ∀ w ∈ T0, w.before _ s = true := fun w h => hts w (List.mem_cons_of_mem _ h)
  have hown : s.vm.findClass RX3 = some m.cls := findClass_of_methodNamed B.named
  have hlocks := B.notSynchronized
  subst hsz
  have hD := hD0.self (sz := s.heap.size)
  generalize hAe : va_A (wRP cA ka ra pa K R P L) s.heap.size = A at hD hB ⊢
  have hA : ∀ q : Nat, s.heap.size ≤ q → A q := fun q h => by rw [← hAe]; exact Or.inr h
  have hS : va_S A s.heap s.heap [] := va_S.rf
  have hl := lv_entry ([.ref (ra 0), .ref (pa (30 + 3 * j))]) (n := 4) (Nat.le_of_ble_eq_true rfl)
  rw [lg_entry_eq]
  generalize (lg_sl ([.ref (ra 0), .ref (pa (30 + 3 * j))]) ++ List.replicate (4 - (lg_sl ([.ref (ra 0), .ref (pa (30 + 3 * j))])).length) Slot.unset).toArray = ls at hl ⊢
  have hl : lv_has ls 4 [(0, .ref (ra 0)), (1, .ref (pa (30 + 3 * j)))] := hl
  have F : tF p s m ([.ref (ra 0), .ref (pa (30 + 3 * j))] : List Value).toArray meth c G cA A RX3 cX3_readJoining 4 (some .boolean) := ⟨hx, hb, hr, hml, hT, hown, hlocks, hK, hN, hA⟩
  obtain ⟨H, hH⟩ : ∃ z, z = s.heap := ⟨_, rfl⟩
  rw [← hH] at hP
  have hS : va_S A s.heap H [] := by rw [hH]; exact hS
  suffices hgo : G_X3_readJoining p l e s m below meth c G cA A bA ka ra pa j K L r0 R' P' H [] (F0 m 0 ls []) by rw [hH] at hgo; exact hgo
  generalize ([] : List Loc) = locs at hS ⊢
  unfold f_X3_readJoining at h
  refine va_getsN hx hb hB.2.1 hS hown (va_tabs rfl rfl hB.2.2) (fun _ h9 => h9) dX3_readJoining_0 ?_
  refine lv_aload_n hx hb dX3_readJoining_3 rfl (lv_at hl 0 rfl) ?_
  refine va_get (D := G) (ci := 3) (v := .ref (ka 0)) (C := RX3) (T := TX3) (N := 10) hx hb hT ku_3 hown hK hP 3 rfl rfl 0 (by decide) (hT _ kw_2_23) (fun _ h9 => h9) rfl dX3_readJoining_4 ?_
  refine va_get (D := G) (ci := 5) (v := .int (K 0 1)) (C := RX5) (T := TX5) (N := 8) hx hb hT ku_5 hown hK hP 0 rfl rfl 1 (by decide) (hT _ kw_14_15) (fun _ h9 => h9) rfl dX3_readJoining_7 ?_
  obtain ⟨g1, h⟩ := tx_ck h
  refine va_ti hx hb hB.1 hS (tx_in g1) rfl dX3_readJoining_10 ?_
  refine lv_topi (fun y2 ey2 => ?_)
  have h := tx_let ey2 h
  refine lv_istore_n (lv' := [(2, .int y2), (0, .ref (ra 0)), (1, .ref (pa (30 + 3 * j)))]) hx hb dX3_readJoining_11 rfl hl (by decide) rfl (fun ls hl => ?_)
  refine lv_iload_n hx hb dX3_readJoining_12 rfl (lv_at hl 0 rfl) ?_
  refine lv_iconst (v := 4) hx hb dX3_readJoining_13 (by decide) ?_
  refine lv_icmp_ne (tgt := 21) hx hb dX3_readJoining_14 (by decide) (fun c3 => ?_) (fun c3 => ?_)
  · have h := tx_neg c3 h
    refine lv_iconst (v := 0) hx hb dX3_readJoining_21 (by decide) ?_
    exact w_X3_readJoining_J22 F hB hj y2 0 R P H locs ls h hP hD hS (lv_sub hl [1, 2, 0] rfl)
  · have h := tx_pos c3 h
    refine lv_iconst (v := 1) hx hb dX3_readJoining_17 (by decide) ?_
    refine lv_goto (tgt := 22) hx hb dX3_readJoining_18 (by decide) ?_
    exact w_X3_readJoining_J22 F hB hj y2 1 R P H locs ls h hP hD hS (lv_sub hl [1, 2, 0] rfl)
abbrev G_X3_closeBracket (p : Program) (l : Launch) (e : Env) (s : State) (m : MethodId) (below : List Frame) (meth : Method) (c : Code) (G : va_G) (cA : Nat → ClassId) (A : Nat → Prop) (bA : Nat) (ka : Nat → Nat) (ra : Nat → Nat) (pa : Nat → Nat) (j : Nat) (K : Tr) (L : Lo) (R' : Tr) (P' : Tr) (H : Heap) (locs : List Loc) (g : JFrame) : Prop := W p l e (headSpec (.code yX3_closeBracket cX3_closeBracket 2 none :: T0) ({ frames := 2, cells := 0, slots := 0, locals := 43 } : Room)).room s m ([.ref (ra 0), .ref (pa (30 + 3 * j))] : List Value).toArray below meth c H locs 0 0 (MQ below (tqQv G cA (fun (_ : Unit) => True) (fun (_ : Unit) => wRP cA ka ra pa K (R') (P') L) A) ([.ref (ra 0), .ref (pa (30 + 3 * j))] : List Value).toArray s 0 0 A) g
set_option maxHeartbeats 4000000 in
set_option maxRecDepth 100000 in
theorem c_X3_closeBracket (l : Launch) (G : va_G) (cA : Nat → ClassId) (sz : Nat) (bA : Nat) (ka : Nat → Nat) (ra : Nat → Nat) (pa : Nat → Nat) (j : Nat) (K : Tr) (R : Tr) (P : Tr) (L : Lo) (hj : j < 3) (R' : Tr) (P' : Tr) (h : f_X3_closeBracket j R P = some (R', P')) : Met l yX3_closeBracket (.code yX3_closeBracket cX3_closeBracket 2 none :: T0) ({ frames := 2, cells := 0, slots := 0, locals := 43 } : Room) (tqPB bA G cA [.ref (ra 0), .ref (pa (30 + 3 * j))] (wRP cA ka ra pa K R P L) sz) (tqQv G cA (fun (_ : Unit) => True) (fun (_ : Unit) => wRP cA ka ra pa K (R') (P') L) (va_A (wRP cA ka ra pa K R P L) sz)) 0 0 (va_A (wRP cA ka ra pa K R P L) sz) := by
  refine Met.ofW (cc := cX3_closeBracket) (maxL := 2) (ret := none) (by decide) rfl ?_
  intro p e s m args below meth c s₁ B hml hv
  obtain ⟨rfl, hsz, hP, hK, hD0, hN, hB⟩ := hv
  have hx := B.exec
  have hb := B.bytes
  have hr := B.returns
  have hts := atoms_spec (ws := .code yX3_closeBracket cX3_closeBracket 2 none :: T0) B.pre
  have hT : ∀ w ∈ T0, w.before _ s = true := fun w h => hts w (List.mem_cons_of_mem _ h)
  have hown : s.vm.findClass RX3 = some m.cls := findClass_of_methodNamed B.named
  have hlocks := B.notSynchronized
  subst hsz
  have hD := hD0.self (sz := s.heap.size)
  generalize hAe : va_A (wRP cA ka ra pa K R P L) s.heap.size = A at hD hB ⊢
  have hA : ∀ q : Nat, s.heap.size ≤ q → A q := fun q h => by rw [← hAe]; exact Or.inr h
  have hS : va_S A s.heap s.heap [] := va_S.rf
  have hl := lv_entry ([.ref (ra 0), .ref (pa (30 + 3 * j))]) (n := 2) (Nat.le_of_ble_eq_true rfl)
  rw [lg_entry_eq]
  generalize (lg_sl ([.ref (ra 0), .ref (pa (30 + 3 * j))]) ++ List.replicate (2 - (lg_sl ([.ref (ra 0), .ref (pa (30 + 3 * j))])).length) Slot.unset).toArray = ls at hl ⊢
  have hl : lv_has ls 2 [(0, .ref (ra 0)), (1, .ref (pa (30 + 3 * j)))] := hl
  have F : tF p s m ([.ref (ra 0), .ref (pa (30 + 3 * j))] : List Value).toArray meth c G cA A RX3 cX3_closeBracket 2 none := ⟨hx, hb, hr, hml, hT, hown, hlocks, hK, hN, hA⟩
  obtain ⟨H, hH⟩ : ∃ z, z = s.heap := ⟨_, rfl⟩
  rw [← hH] at hP
  have hS : va_S A s.heap H [] := by rw [hH]; exact hS
  suffices hgo : G_X3_closeBracket p l e s m below meth c G cA A bA ka ra pa j K L R' P' H [] (F0 m 0 ls []) by rw [hH] at hgo; exact hgo
  generalize ([] : List Loc) = locs at hS ⊢
  unfold f_X3_closeBracket at h
  refine lv_aload_n hx hb dX3_closeBracket_0 rfl (lv_at hl 0 rfl) ?_
  refine lv_aload_n hx hb dX3_closeBracket_1 rfl (lv_at hl 1 rfl) ?_
  refine lv_iconst (v := 1) hx hb dX3_closeBracket_2 (by decide) ?_
  obtain ⟨⟨R_1, P_2⟩, hc3, h⟩ := tx_bd h
  replace h := tx_let (y := R_1) rfl h
  replace h := tx_let (y := P_2) rfl h
  refine tzB_v (As := [.ref (pa (30 + 3 * j)), .int 1]) (rest := []) ⟨hx, hb, hml, hown, hT⟩ hP hD hS hA hK hN hB (c_X3_closeSigns l G cA H.size bA ka ra pa j K R P L (1 : Int32) hj R_1 P_2 hc3) (tq_gV kw_21_18 kw_21_19 kw_21_20 kw_1_15 kw_21_21) rfl rfl dkdV_yX3_closeSigns_2 (Nat.le_of_ble_eq_true rfl) (Nat.le_of_ble_eq_true rfl) (ci := 3) (q0 := 3) rfl rfl rfl hl.1 rfl (Nat.le_of_ble_eq_true rfl) dX3_closeBracket_3 ⟨Nat.le_of_ble_eq_true rfl, Nat.le_of_ble_eq_true rfl⟩ (fun _ H locs z4 hP hD hS => ?_)
  have hP : va_P G vwCl (wRP cA ka ra pa K R_1 P_2 L) H := hP
  have hD : va_D A (wRP cA ka ra pa K R_1 P_2 L) := hD
  refine lv_aload_n hx hb dX3_closeBracket_6 rfl (lv_at hl 0 rfl) ?_
  refine lv_dup hx hb dX3_closeBracket_7 rfl ?_
  refine va_get (D := G) (ci := 3) (v := .int (R_1 0 8)) (C := RX3) (T := TX3) (N := 10) hx hb hT ku_3 hown hK hP 3 rfl rfl 8 (by decide) (hT _ kw_20_1) (fun _ h9 => h9) rfl dX3_closeBracket_8 ?_
  refine lv_iconst (v := 1) hx hb dX3_closeBracket_11 (by decide) ?_
  refine lv_isub hx hb dX3_closeBracket_12 ?_
  refine va_put (D := G) (ci := 3) (v := .int ((R_1 0 8) - 1)) (ty := .int) (C := RX3) (T := TX3) (N := 10) hx hb hT ku_3 tyX3 tyX3_ok nmX3 hown hK hP hD hS 3 rfl rfl 8 (by decide) (hT _ kw_20_1) (fun _ h9 => h9) rfl (by decide +kernel) rfl rfl (Nat.le_of_ble_eq_true rfl) dX3_closeBracket_13 (fun H locs hP hD hS => ?_)
  obtain ⟨R_5, eR_5, h⟩ := tx_lt h
  rw [sRP_ra_f8, eR_5] at hP hD
  refine lv_aload_n hx hb dX3_closeBracket_16 rfl (lv_at hl 0 rfl) ?_
  refine lv_dup hx hb dX3_closeBracket_17 rfl ?_
  refine va_get (D := G) (ci := 3) (v := .int (R_5 0 9)) (C := RX3) (T := TX3) (N := 10) hx hb hT ku_3 hown hK hP 3 rfl rfl 9 (by decide) (hT _ kw_20_2) (fun _ h9 => h9) rfl dX3_closeBracket_18 ?_
  refine lv_iconst (v := 1) hx hb dX3_closeBracket_21 (by decide) ?_
  refine lv_isub hx hb dX3_closeBracket_22 ?_
  refine va_put (D := G) (ci := 3) (v := .int ((R_5 0 9) - 1)) (ty := .int) (C := RX3) (T := TX3) (N := 10) hx hb hT ku_3 tyX3 tyX3_ok nmX3 hown hK hP hD hS 3 rfl rfl 9 (by decide) (hT _ kw_20_2) (fun _ h9 => h9) rfl (by decide +kernel) rfl rfl (Nat.le_of_ble_eq_true rfl) dX3_closeBracket_23 (fun H locs hP hD hS => ?_)
  obtain ⟨R_6, eR_6, h⟩ := tx_lt h
  rw [sRP_ra_f9, eR_6] at hP hD
  obtain ⟨rfl, rfl⟩ := tx_2 h
  exact W.vret hx hb hr (fun t ht hW => ⟨⟨(), rfl, trivial, by rw [ht]; exact hP, hD⟩, hS.F ht⟩) hS.2.2 dX3_closeBracket_26
abbrev G_X3_readFormula (p : Program) (l : Launch) (e : Env) (s : State) (m : MethodId) (below : List Frame) (meth : Method) (c : Code) (G : va_G) (cA : Nat → ClassId) (A : Nat → Prop) (bA : Nat) (ka : Nat → Nat) (ra : Nat → Nat) (pa : Nat → Nat) (j : Nat) (L : Lo) (r0 : Int32) (K' : Tr) (R' : Tr) (P' : Tr) (H : Heap) (locs : List Loc) (g : JFrame) : Prop := W p l e (headSpec (.code yX3_readFormula cX3_readFormula 5 (some .boolean) :: T0) ({ frames := 3, cells := 0, slots := 0, locals := 66 } : Room)).room s m ([.ref (ra 0), .ref (pa (30 + 3 * j))] : List Value).toArray below meth c H locs 0 0 (MQ below (tqQi G cA (fun (r : Int32) (_ : Unit) => r = r0) (fun (_ : Unit) => wRP cA ka ra pa (K') (R') (P') L) A) ([.ref (ra 0), .ref (pa (30 + 3 * j))] : List Value).toArray s 0 0 A) g
set_option maxHeartbeats 4000000 in
set_option maxRecDepth 100000 in
theorem w_X3_readFormula_J173 {p : Program} {l : Launch} {e : Env} {s : State} {m : MethodId} {below : List Frame} {meth : Method} {c : Code} {G : va_G} {cA : Nat → ClassId} {A : Nat → Prop} {bA : Nat} {ka : Nat → Nat} {ra : Nat → Nat} {pa : Nat → Nat} {j : Nat} {L : Lo} {r0 : Int32} {K' : Tr} {R' : Tr} {P' : Tr} (F : tF p s m ([.ref (ra 0), .ref (pa (30 + 3 * j))] : List Value).toArray meth c G cA A RX3 cX3_readFormula 5 (some .boolean)) (hB : tqB bA A s s.heap) (hj : j < 3)   (s0 : Int32) (K : Tr) (R : Tr) (P : Tr) (H : Heap) (locs : List Loc) (ls : Array Slot) (h : fJ_X3_readFormula_J173 j s0 K R P = some (r0, K', R', P')) (hP : va_P G vwCl (wRP cA ka ra pa K R P L) H) (hD : va_D A (wRP cA ka ra pa K R P L)) (hS : va_S A s.heap H locs) (hl : lv_has ls 5 []) : G_X3_readFormula p l e s m below meth c G cA A bA ka ra pa j L r0 K' R' P' H locs (F0 m 173 ls [.int s0, .ref (ra 0)]) := by
  obtain ⟨hx, hb, hr, hml, hT, hown, hlocks, hK, hN, hA⟩ := id F
  unfold fJ_X3_readFormula_J173 at h
  refine lv_iconst (v := 1) hx hb dX3_readFormula_173 (by decide) ?_
  obtain ⟨⟨r10, R_11⟩, hc12, h⟩ := tx_bd h
  replace h := tx_let (y := r10) rfl h
  replace h := tx_let (y := R_11) rfl h
  refine tzB_i (As := [.int s0, .int 1]) (rest := []) ⟨hx, hb, hml, hown, hT⟩ hP hD hS hA hK hN hB (c_X3_expect l G cA H.size bA ka ra pa K R P L s0 (1 : Int32)  r10 R_11 hc12) (tq_gV kw_16_18 kw_16_19 kw_16_20 kw_1_15 kw_16_21) rfl rfl dkdV_yX3_expect_2 (Nat.le_of_ble_eq_true rfl) (Nat.le_of_ble_eq_true rfl) (ci := 3) (q0 := 3) rfl rfl rfl hl.1 rfl (Nat.le_of_ble_eq_true rfl) dX3_readFormula_174 ⟨Nat.le_of_ble_eq_true rfl, Nat.le_of_ble_eq_true rfl⟩ (fun _ _ H locs z13 hP hD hS => ?_)
  have z13 := z13.symm
  subst z13
  have hP : va_P G vwCl (wRP cA ka ra pa K R_11 P L) H := hP
  have hD : va_D A (wRP cA ka ra pa K R_11 P L) := hD
  refine lv_if_eq (tgt := 184) hx hb dX3_readFormula_177 (by decide) (fun c14 => ?_) (fun c14 => ?_)
  · have h := tx_pos c14 h
    refine lv_iconst (v := 0) hx hb dX3_readFormula_184 (by decide) ?_
    obtain ⟨rfl, rfl, rfl, rfl⟩ := tx_4 h
    exact W.zret (ty := .boolean) hx hb hr rfl (fun t ht hW => ⟨⟨_, (), rfl, rfl, by rw [ht]; exact hP, hD⟩, hS.F ht⟩) hS.2.2 dX3_readFormula_185
  · have h := tx_neg c14 h
    refine lv_iconst (v := 1) hx hb dX3_readFormula_180 (by decide) ?_
    refine lv_goto (tgt := 185) hx hb dX3_readFormula_181 (by decide) ?_
    obtain ⟨rfl, rfl, rfl, rfl⟩ := tx_4 h
    exact W.zret (ty := .boolean) hx hb hr rfl (fun t ht hW => ⟨⟨_, (), rfl, rfl, by rw [ht]; exact hP, hD⟩, hS.F ht⟩) hS.2.2 dX3_readFormula_185
set_option maxHeartbeats 4000000 in
set_option maxRecDepth 100000 in
theorem w_X3_readFormula_J147 {p : Program} {l : Launch} {e : Env} {s : State} {m : MethodId} {below : List Frame} {meth : Method} {c : Code} {G : va_G} {cA : Nat → ClassId} {A : Nat → Prop} {bA : Nat} {ka : Nat → Nat} {ra : Nat → Nat} {pa : Nat → Nat} {j : Nat} {L : Lo} {r0 : Int32} {K' : Tr} {R' : Tr} {P' : Tr} (F : tF p s m ([.ref (ra 0), .ref (pa (30 + 3 * j))] : List Value).toArray meth c G cA A RX3 cX3_readFormula 5 (some .boolean)) (hB : tqB bA A s s.heap) (hj : j < 3)   (K : Tr) (R : Tr) (P : Tr) (H : Heap) (locs : List Loc) (ls : Array Slot) (h : fJ_X3_readFormula_J147 j K R P = some (r0, K', R', P')) (hP : va_P G vwCl (wRP cA ka ra pa K R P L) H) (hD : va_D A (wRP cA ka ra pa K R P L)) (hS : va_S A s.heap H locs) (hl : lv_has ls 5 [(0, .ref (ra 0)), (1, .ref (pa (30 + 3 * j)))]) : G_X3_readFormula p l e s m below meth c G cA A bA ka ra pa j L r0 K' R' P' H locs (F0 m 147 ls []) := by
  obtain ⟨hx, hb, hr, hml, hT, hown, hlocks, hK, hN, hA⟩ := id F
  unfold fJ_X3_readFormula_J147 at h
  refine lv_aload_n hx hb dX3_readFormula_147 rfl (lv_at hl 0 rfl) ?_
  refine lv_aload_n hx hb dX3_readFormula_148 rfl (lv_at hl 1 rfl) ?_
  refine lv_iconst (v := 1) hx hb dX3_readFormula_149 (by decide) ?_
  obtain ⟨⟨R_4, P_5⟩, hc6, h⟩ := tx_bd h
  replace h := tx_let (y := R_4) rfl h
  replace h := tx_let (y := P_5) rfl h
  refine tzB_v (As := [.ref (pa (30 + 3 * j)), .int 1]) (rest := []) ⟨hx, hb, hml, hown, hT⟩ hP hD hS hA hK hN hB (c_X3_closeSigns l G cA H.size bA ka ra pa j K R P L (1 : Int32) hj R_4 P_5 hc6) (tq_gV kw_21_18 kw_21_19 kw_21_20 kw_1_15 kw_21_21) rfl rfl dkdV_yX3_closeSigns_2 (Nat.le_of_ble_eq_true rfl) (Nat.le_of_ble_eq_true rfl) (ci := 3) (q0 := 3) rfl rfl rfl hl.1 rfl (Nat.le_of_ble_eq_true rfl) dX3_readFormula_150 ⟨Nat.le_of_ble_eq_true rfl, Nat.le_of_ble_eq_true rfl⟩ (fun _ H locs z7 hP hD hS => ?_)
  have hP : va_P G vwCl (wRP cA ka ra pa K R_4 P_5 L) H := hP
  have hD : va_D A (wRP cA ka ra pa K R_4 P_5 L) := hD
  refine lv_aload_n hx hb dX3_readFormula_153 rfl (lv_at hl 0 rfl) ?_
  refine va_get (D := G) (ci := 3) (v := .int (R_4 0 1)) (C := RX3) (T := TX3) (N := 10) hx hb hT ku_3 hown hK hP 3 rfl rfl 1 (by decide) (hT _ kw_3_0) (fun _ h9 => h9) rfl dX3_readFormula_154 ?_
  refine lv_if_ne (tgt := 184) hx hb dX3_readFormula_157 (by decide) (fun c8 => ?_) (fun c8 => ?_)
  · have h := tx_neg c8 h
    refine lv_iconst (v := 0) hx hb dX3_readFormula_184 (by decide) ?_
    obtain ⟨rfl, rfl, rfl, rfl⟩ := tx_4 h
    exact W.zret (ty := .boolean) hx hb hr rfl (fun t ht hW => ⟨⟨_, (), rfl, rfl, by rw [ht]; exact hP, hD⟩, hS.F ht⟩) hS.2.2 dX3_readFormula_185
  · have h := tx_pos c8 h
    refine lv_aload_n hx hb dX3_readFormula_160 rfl (lv_at hl 0 rfl) ?_
    refine lv_aload_n hx hb dX3_readFormula_161 rfl (lv_at hl 0 rfl) ?_
    refine va_get (D := G) (ci := 3) (v := .int (R_4 0 9)) (C := RX3) (T := TX3) (N := 10) hx hb hT ku_3 hown hK hP 3 rfl rfl 9 (by decide) (hT _ kw_20_2) (fun _ h9 => h9) rfl dX3_readFormula_162 ?_
    refine lv_if_ne (tgt := 172) hx hb dX3_readFormula_165 (by decide) (fun c9 => ?_) (fun c9 => ?_)
    · have h := tx_neg c9 h
      refine lv_iconst (v := 0) hx hb dX3_readFormula_172 (by decide) ?_
      exact w_X3_readFormula_J173 F hB hj 0 K R_4 P_5 H locs ls h hP hD hS (lv_sub hl [] rfl)
    · have h := tx_pos c9 h
      refine lv_iconst (v := 1) hx hb dX3_readFormula_168 (by decide) ?_
      refine lv_goto (tgt := 173) hx hb dX3_readFormula_169 (by decide) ?_
      exact w_X3_readFormula_J173 F hB hj 1 K R_4 P_5 H locs ls h hP hD hS (lv_sub hl [] rfl)
set_option maxHeartbeats 4000000 in
set_option maxRecDepth 100000 in
theorem w_X3_readFormula_J130 {p : Program} {l : Launch} {e : Env} {s : State} {m : MethodId} {below : List Frame} {meth : Method} {c : Code} {G : va_G} {cA : Nat → ClassId} {A : Nat → Prop} {bA : Nat} {ka : Nat → Nat} {ra : Nat → Nat} {pa : Nat → Nat} {j : Nat} {L : Lo} {r0 : Int32} {K' : Tr} {R' : Tr} {P' : Tr} (F : tF p s m ([.ref (ra 0), .ref (pa (30 + 3 * j))] : List Value).toArray meth c G cA A RX3 cX3_readFormula 5 (some .boolean)) (hB : tqB bA A s s.heap) (hj : j < 3) (k17 : Int32 → Int32 → Int32 → Tr → Tr → Tr → Option (Int32 × Tr × Tr × Tr)) (hk17 : ∀ (x2 : Int32) (x3 : Int32) (x4 : Int32) (K : Tr) (R : Tr) (P : Tr) (H : Heap) (locs : List Loc) (ls : Array Slot), k17 x2 x3 x4 K R P = some (r0, K', R', P') → va_P G vwCl (wRP cA ka ra pa K R P L) H → va_D A (wRP cA ka ra pa K R P L) → va_S A s.heap H locs → lv_has ls 5 [(0, .ref (ra 0)), (1, .ref (pa (30 + 3 * j))), (2, .int x2), (3, .int x3), (4, .int x4)] → G_X3_readFormula p l e s m below meth c G cA A bA ka ra pa j L r0 K' R' P' H locs (F0 m 17 ls [])) (x2 : Int32) (x3 : Int32) (x4 : Int32) (K : Tr) (R : Tr) (P : Tr) (H : Heap) (locs : List Loc) (ls : Array Slot) (h : fJ_X3_readFormula_J130 k17 j x2 x3 x4 K R P = some (r0, K', R', P')) (hP : va_P G vwCl (wRP cA ka ra pa K R P L) H) (hD : va_D A (wRP cA ka ra pa K R P L)) (hS : va_S A s.heap H locs) (hl : lv_has ls 5 [(0, .ref (ra 0)), (1, .ref (pa (30 + 3 * j))), (2, .int x2), (3, .int x3), (4, .int x4)]) : G_X3_readFormula p l e s m below meth c G cA A bA ka ra pa j L r0 K' R' P' H locs (F0 m 130 ls []) := by
  obtain ⟨hx, hb, hr, hml, hT, hown, hlocks, hK, hN, hA⟩ := id F
  unfold fJ_X3_readFormula_J130 at h
  refine lv_iload_n hx hb dX3_readFormula_130 rfl (lv_at hl 3 rfl) ?_
  refine lv_if_eq (tgt := 141) hx hb dX3_readFormula_131 (by decide) (fun c23 => ?_) (fun c23 => ?_)
  · have h := tx_pos c23 h
    obtain ⟨y24, ey24, h⟩ := tx_lt h
    refine lv_iinc (v := y24) (lv' := [(4, .int y24), (0, .ref (ra 0)), (1, .ref (pa (30 + 3 * j))), (2, .int x2), (3, .int x3)]) hx hb dX3_readFormula_141 hl (k := 4) rfl ey24 (by decide) rfl (fun ls hl => ?_)
    refine lv_goto (tgt := 17) hx hb dX3_readFormula_144 (by decide) ?_
    exact hk17 x2 x3 y24 K R P H locs ls h hP hD hS (lv_sub hl [1, 2, 3, 4, 0] rfl)
  · have h := tx_neg c23 h
    refine lv_aload_n hx hb dX3_readFormula_134 rfl (lv_at hl 0 rfl) ?_
    refine va_get (D := G) (ci := 3) (v := .ref (ka 0)) (C := RX3) (T := TX3) (N := 10) hx hb hT ku_3 hown hK hP 3 rfl rfl 0 (by decide) (hT _ kw_2_23) (fun _ h9 => h9) rfl dX3_readFormula_135 ?_
    obtain ⟨K_25, hc26, h⟩ := tx_bd h
    refine tzB_v (As := []) (rest := []) ⟨hx, hb, hml, hown, hT⟩ hP hD hS hA hK hN hB (c_X5_advance l G cA H.size bA ka ra pa K R P L  K_25 hc26) (tq_gV kw_16_23 kw_15_0 kw_15_1 kw_2_22 kw_15_2) rfl rfl dkdV_yX5_advance_0 (Nat.le_of_ble_eq_true rfl) (Nat.le_of_ble_eq_true rfl) (ci := 5) (q0 := 0) rfl rfl rfl hl.1 rfl (Nat.le_of_ble_eq_true rfl) dX3_readFormula_138 ⟨Nat.le_of_ble_eq_true rfl, Nat.le_of_ble_eq_true rfl⟩ (fun _ H locs z27 hP hD hS => ?_)
    have hP : va_P G vwCl (wRP cA ka ra pa K_25 R P L) H := hP
    have hD : va_D A (wRP cA ka ra pa K_25 R P L) := hD
    obtain ⟨y28, ey28, h⟩ := tx_lt h
    refine lv_iinc (v := y28) (lv' := [(4, .int y28), (0, .ref (ra 0)), (1, .ref (pa (30 + 3 * j))), (2, .int x2), (3, .int x3)]) hx hb dX3_readFormula_141 hl (k := 4) rfl ey28 (by decide) rfl (fun ls hl => ?_)
    refine lv_goto (tgt := 17) hx hb dX3_readFormula_144 (by decide) ?_
    exact hk17 x2 x3 y28 K_25 R P H locs ls h hP hD hS (lv_sub hl [1, 2, 3, 4, 0] rfl)
set_option maxHeartbeats 4000000 in
set_option maxRecDepth 100000 in
theorem w_X3_readFormula_J120 {p : Program} {l : Launch} {e : Env} {s : State} {m : MethodId} {below : List Frame} {meth : Method} {c : Code} {G : va_G} {cA : Nat → ClassId} {A : Nat → Prop} {bA : Nat} {ka : Nat → Nat} {ra : Nat → Nat} {pa : Nat → Nat} {j : Nat} {L : Lo} {r0 : Int32} {K' : Tr} {R' : Tr} {P' : Tr} (F : tF p s m ([.ref (ra 0), .ref (pa (30 + 3 * j))] : List Value).toArray meth c G cA A RX3 cX3_readFormula 5 (some .boolean)) (hB : tqB bA A s s.heap) (hj : j < 3) (k17 : Int32 → Int32 → Int32 → Tr → Tr → Tr → Option (Int32 × Tr × Tr × Tr)) (hk17 : ∀ (x2 : Int32) (x3 : Int32) (x4 : Int32) (K : Tr) (R : Tr) (P : Tr) (H : Heap) (locs : List Loc) (ls : Array Slot), k17 x2 x3 x4 K R P = some (r0, K', R', P') → va_P G vwCl (wRP cA ka ra pa K R P L) H → va_D A (wRP cA ka ra pa K R P L) → va_S A s.heap H locs → lv_has ls 5 [(0, .ref (ra 0)), (1, .ref (pa (30 + 3 * j))), (2, .int x2), (3, .int x3), (4, .int x4)] → G_X3_readFormula p l e s m below meth c G cA A bA ka ra pa j L r0 K' R' P' H locs (F0 m 17 ls [])) (x2 : Int32) (x4 : Int32) (s0 : Int32) (K : Tr) (R : Tr) (P : Tr) (H : Heap) (locs : List Loc) (ls : Array Slot) (h : fJ_X3_readFormula_J120 k17 j x2 x4 s0 K R P = some (r0, K', R', P')) (hP : va_P G vwCl (wRP cA ka ra pa K R P L) H) (hD : va_D A (wRP cA ka ra pa K R P L)) (hS : va_S A s.heap H locs) (hl : lv_has ls 5 [(0, .ref (ra 0)), (1, .ref (pa (30 + 3 * j))), (2, .int x2), (4, .int x4)]) : G_X3_readFormula p l e s m below meth c G cA A bA ka ra pa j L r0 K' R' P' H locs (F0 m 120 ls [.int s0]) := by
  obtain ⟨hx, hb, hr, hml, hT, hown, hlocks, hK, hN, hA⟩ := id F
  unfold fJ_X3_readFormula_J120 at h
  refine lv_istore_n (lv' := [(3, .int s0), (0, .ref (ra 0)), (1, .ref (pa (30 + 3 * j))), (2, .int x2), (4, .int x4)]) hx hb dX3_readFormula_120 rfl hl (by decide) rfl (fun ls hl => ?_)
  refine lv_iload_n hx hb dX3_readFormula_121 rfl (lv_at hl 0 rfl) ?_
  refine lv_if_eq (tgt := 130) hx hb dX3_readFormula_122 (by decide) (fun c22 => ?_) (fun c22 => ?_)
  · have h := tx_pos c22 h
    exact w_X3_readFormula_J130 F hB hj k17 hk17 x2 s0 x4 K R P H locs ls h hP hD hS (lv_sub hl [1, 2, 3, 0, 4] rfl)
  · have h := tx_neg c22 h
    refine lv_aload_n hx hb dX3_readFormula_125 rfl (lv_at hl 1 rfl) ?_
    refine lv_aload_n hx hb dX3_readFormula_126 rfl (lv_at hl 2 rfl) ?_
    obtain ⟨⟨R_29, P_30⟩, hc31, h⟩ := tx_bd h
    replace h := tx_let (y := R_29) rfl h
    replace h := tx_let (y := P_30) rfl h
    refine tzB_v (As := [.ref (pa (30 + 3 * j))]) (rest := []) ⟨hx, hb, hml, hown, hT⟩ hP hD hS hA hK hN hB (c_X3_closeBracket l G cA H.size bA ka ra pa j K R P L hj R_29 P_30 hc31) (tq_gV kw_21_22 kw_21_23 kw_22_0 kw_1_15 kw_22_1) rfl rfl dkdV_yX3_closeBracket_1 (Nat.le_of_ble_eq_true rfl) (Nat.le_of_ble_eq_true rfl) (ci := 3) (q0 := 3) rfl rfl rfl hl.1 rfl (Nat.le_of_ble_eq_true rfl) dX3_readFormula_127 ⟨Nat.le_of_ble_eq_true rfl, Nat.le_of_ble_eq_true rfl⟩ (fun _ H locs z32 hP hD hS => ?_)
    have hP : va_P G vwCl (wRP cA ka ra pa K R_29 P_30 L) H := hP
    have hD : va_D A (wRP cA ka ra pa K R_29 P_30 L) := hD
    exact w_X3_readFormula_J130 F hB hj k17 hk17 x2 s0 x4 K R_29 P_30 H locs ls h hP hD hS (lv_sub hl [1, 2, 3, 0, 4] rfl)
set_option maxHeartbeats 4000000 in
set_option maxRecDepth 100000 in
theorem w_X3_readFormula_J119 {p : Program} {l : Launch} {e : Env} {s : State} {m : MethodId} {below : List Frame} {meth : Method} {c : Code} {G : va_G} {cA : Nat → ClassId} {A : Nat → Prop} {bA : Nat} {ka : Nat → Nat} {ra : Nat → Nat} {pa : Nat → Nat} {j : Nat} {L : Lo} {r0 : Int32} {K' : Tr} {R' : Tr} {P' : Tr} (F : tF p s m ([.ref (ra 0), .ref (pa (30 + 3 * j))] : List Value).toArray meth c G cA A RX3 cX3_readFormula 5 (some .boolean)) (hB : tqB bA A s s.heap) (hj : j < 3) (k17 : Int32 → Int32 → Int32 → Tr → Tr → Tr → Option (Int32 × Tr × Tr × Tr)) (hk17 : ∀ (x2 : Int32) (x3 : Int32) (x4 : Int32) (K : Tr) (R : Tr) (P : Tr) (H : Heap) (locs : List Loc) (ls : Array Slot), k17 x2 x3 x4 K R P = some (r0, K', R', P') → va_P G vwCl (wRP cA ka ra pa K R P L) H → va_D A (wRP cA ka ra pa K R P L) → va_S A s.heap H locs → lv_has ls 5 [(0, .ref (ra 0)), (1, .ref (pa (30 + 3 * j))), (2, .int x2), (3, .int x3), (4, .int x4)] → G_X3_readFormula p l e s m below meth c G cA A bA ka ra pa j L r0 K' R' P' H locs (F0 m 17 ls [])) (x2 : Int32) (x4 : Int32) (K : Tr) (R : Tr) (P : Tr) (H : Heap) (locs : List Loc) (ls : Array Slot) (h : fJ_X3_readFormula_J119 k17 j x2 x4 K R P = some (r0, K', R', P')) (hP : va_P G vwCl (wRP cA ka ra pa K R P L) H) (hD : va_D A (wRP cA ka ra pa K R P L)) (hS : va_S A s.heap H locs) (hl : lv_has ls 5 [(0, .ref (ra 0)), (1, .ref (pa (30 + 3 * j))), (2, .int x2), (4, .int x4)]) : G_X3_readFormula p l e s m below meth c G cA A bA ka ra pa j L r0 K' R' P' H locs (F0 m 119 ls []) := by
  obtain ⟨hx, hb, hr, hml, hT, hown, hlocks, hK, hN, hA⟩ := id F
  unfold fJ_X3_readFormula_J119 at h
  refine lv_iconst (v := 0) hx hb dX3_readFormula_119 (by decide) ?_
  exact w_X3_readFormula_J120 F hB hj k17 hk17 x2 x4 0 K R P H locs ls h hP hD hS (lv_sub hl [0, 1, 2, 3] rfl)
set_option maxHeartbeats 4000000 in
set_option maxRecDepth 100000 in
theorem w_X3_readFormula_J62 {p : Program} {l : Launch} {e : Env} {s : State} {m : MethodId} {below : List Frame} {meth : Method} {c : Code} {G : va_G} {cA : Nat → ClassId} {A : Nat → Prop} {bA : Nat} {ka : Nat → Nat} {ra : Nat → Nat} {pa : Nat → Nat} {j : Nat} {L : Lo} {r0 : Int32} {K' : Tr} {R' : Tr} {P' : Tr} (F : tF p s m ([.ref (ra 0), .ref (pa (30 + 3 * j))] : List Value).toArray meth c G cA A RX3 cX3_readFormula 5 (some .boolean)) (hB : tqB bA A s s.heap) (hj : j < 3) (k17 : Int32 → Int32 → Int32 → Tr → Tr → Tr → Option (Int32 × Tr × Tr × Tr)) (hk17 : ∀ (x2 : Int32) (x3 : Int32) (x4 : Int32) (K : Tr) (R : Tr) (P : Tr) (H : Heap) (locs : List Loc) (ls : Array Slot), k17 x2 x3 x4 K R P = some (r0, K', R', P') → va_P G vwCl (wRP cA ka ra pa K R P L) H → va_D A (wRP cA ka ra pa K R P L) → va_S A s.heap H locs → lv_has ls 5 [(0, .ref (ra 0)), (1, .ref (pa (30 + 3 * j))), (2, .int x2), (3, .int x3), (4, .int x4)] → G_X3_readFormula p l e s m below meth c G cA A bA ka ra pa j L r0 K' R' P' H locs (F0 m 17 ls [])) (x4 : Int32) (s0 : Int32) (K : Tr) (R : Tr) (P : Tr) (H : Heap) (locs : List Loc) (ls : Array Slot) (h : fJ_X3_readFormula_J62 k17 j x4 s0 K R P = some (r0, K', R', P')) (hP : va_P G vwCl (wRP cA ka ra pa K R P L) H) (hD : va_D A (wRP cA ka ra pa K R P L)) (hS : va_S A s.heap H locs) (hl : lv_has ls 5 [(0, .ref (ra 0)), (1, .ref (pa (30 + 3 * j))), (4, .int x4)]) : G_X3_readFormula p l e s m below meth c G cA A bA ka ra pa j L r0 K' R' P' H locs (F0 m 62 ls [.int s0]) := by
  obtain ⟨hx, hb, hr, hml, hT, hown, hlocks, hK, hN, hA⟩ := id F
  unfold fJ_X3_readFormula_J62 at h
  refine lv_istore_n (lv' := [(2, .int s0), (0, .ref (ra 0)), (1, .ref (pa (30 + 3 * j))), (4, .int x4)]) hx hb dX3_readFormula_62 rfl hl (by decide) rfl (fun ls hl => ?_)
  refine lv_aload_n hx hb dX3_readFormula_63 rfl (lv_at hl 1 rfl) ?_
  refine lv_aload_n hx hb dX3_readFormula_64 rfl (lv_at hl 2 rfl) ?_
  obtain ⟨⟨r40, R_41, P_42⟩, hc43, h⟩ := tx_bd h
  replace h := tx_let (y := r40) rfl h
  replace h := tx_let (y := R_41) rfl h
  replace h := tx_let (y := P_42) rfl h
  refine tzB_i (As := [.ref (pa (30 + 3 * j))]) (rest := []) ⟨hx, hb, hml, hown, hT⟩ hP hD hS hA hK hN hB (c_X3_readOperand l G cA H.size bA ka ra pa j K R P L hj r40 R_41 P_42 hc43) (tq_gV kw_20_3 kw_20_4 kw_20_5 kw_1_15 kw_20_6) rfl rfl dkdV_yX3_readOperand_1 (Nat.le_of_ble_eq_true rfl) (Nat.le_of_ble_eq_true rfl) (ci := 3) (q0 := 3) rfl rfl rfl hl.1 rfl (Nat.le_of_ble_eq_true rfl) dX3_readFormula_65 ⟨Nat.le_of_ble_eq_true rfl, Nat.le_of_ble_eq_true rfl⟩ (fun _ _ H locs z44 hP hD hS => ?_)
  have z44 := z44.symm
  subst z44
  have hP : va_P G vwCl (wRP cA ka ra pa K R_41 P_42 L) H := hP
  have hD : va_D A (wRP cA ka ra pa K R_41 P_42 L) := hD
  refine lv_istore_n (lv' := [(3, .int r40), (2, .int s0), (0, .ref (ra 0)), (1, .ref (pa (30 + 3 * j))), (4, .int x4)]) hx hb dX3_readFormula_68 rfl hl (by decide) rfl (fun ls hl => ?_)
  refine lv_goto (tgt := 130) hx hb dX3_readFormula_69 (by decide) ?_
  exact w_X3_readFormula_J130 F hB hj k17 hk17 s0 r40 x4 K R_41 P_42 H locs ls h hP hD hS (lv_sub hl [2, 3, 1, 0, 4] rfl)
set_option maxHeartbeats 4000000 in
set_option maxRecDepth 100000 in
theorem w_X3_readFormula_J57 {p : Program} {l : Launch} {e : Env} {s : State} {m : MethodId} {below : List Frame} {meth : Method} {c : Code} {G : va_G} {cA : Nat → ClassId} {A : Nat → Prop} {bA : Nat} {ka : Nat → Nat} {ra : Nat → Nat} {pa : Nat → Nat} {j : Nat} {L : Lo} {r0 : Int32} {K' : Tr} {R' : Tr} {P' : Tr} (F : tF p s m ([.ref (ra 0), .ref (pa (30 + 3 * j))] : List Value).toArray meth c G cA A RX3 cX3_readFormula 5 (some .boolean)) (hB : tqB bA A s s.heap) (hj : j < 3) (k17 : Int32 → Int32 → Int32 → Tr → Tr → Tr → Option (Int32 × Tr × Tr × Tr)) (hk17 : ∀ (x2 : Int32) (x3 : Int32) (x4 : Int32) (K : Tr) (R : Tr) (P : Tr) (H : Heap) (locs : List Loc) (ls : Array Slot), k17 x2 x3 x4 K R P = some (r0, K', R', P') → va_P G vwCl (wRP cA ka ra pa K R P L) H → va_D A (wRP cA ka ra pa K R P L) → va_S A s.heap H locs → lv_has ls 5 [(0, .ref (ra 0)), (1, .ref (pa (30 + 3 * j))), (2, .int x2), (3, .int x3), (4, .int x4)] → G_X3_readFormula p l e s m below meth c G cA A bA ka ra pa j L r0 K' R' P' H locs (F0 m 17 ls [])) (x4 : Int32) (K : Tr) (R : Tr) (P : Tr) (H : Heap) (locs : List Loc) (ls : Array Slot) (h : fJ_X3_readFormula_J57 k17 j x4 K R P = some (r0, K', R', P')) (hP : va_P G vwCl (wRP cA ka ra pa K R P L) H) (hD : va_D A (wRP cA ka ra pa K R P L)) (hS : va_S A s.heap H locs) (hl : lv_has ls 5 [(0, .ref (ra 0)), (1, .ref (pa (30 + 3 * j))), (4, .int x4)]) : G_X3_readFormula p l e s m below meth c G cA A bA ka ra pa j L r0 K' R' P' H locs (F0 m 57 ls []) := by
  obtain ⟨hx, hb, hr, hml, hT, hown, hlocks, hK, hN, hA⟩ := id F
  unfold fJ_X3_readFormula_J57 at h
  refine lv_iconst (v := 1) hx hb dX3_readFormula_57 (by decide) ?_
  refine lv_goto (tgt := 62) hx hb dX3_readFormula_58 (by decide) ?_
  exact w_X3_readFormula_J62 F hB hj k17 hk17 x4 1 K R P H locs ls h hP hD hS (lv_sub hl [0, 1, 2] rfl)
set_option maxHeartbeats 4000000 in
set_option maxRecDepth 100000 in
theorem w_X3_readFormula_L17 {p : Program} {l : Launch} {e : Env} {s : State} {m : MethodId} {below : List Frame} {meth : Method} {c : Code} {G : va_G} {cA : Nat → ClassId} {A : Nat → Prop} {bA : Nat} {ka : Nat → Nat} {ra : Nat → Nat} {pa : Nat → Nat} {j : Nat} {L : Lo} {r0 : Int32} {K' : Tr} {R' : Tr} {P' : Tr} (F : tF p s m ([.ref (ra 0), .ref (pa (30 + 3 * j))] : List Value).toArray meth c G cA A RX3 cX3_readFormula 5 (some .boolean)) (hB : tqB bA A s s.heap) (hj : j < 3)   (N : Nat) : ∀ (x2 : Int32) (x3 : Int32) (x4 : Int32) (K : Tr) (R : Tr) (P : Tr) (H : Heap) (locs : List Loc) (ls : Array Slot), lpF (fun _ _ _ _ _ _ => none) (fB_X3_readFormula_L17 j) N x2 x3 x4 K R P = some (r0, K', R', P') → va_P G vwCl (wRP cA ka ra pa K R P L) H → va_D A (wRP cA ka ra pa K R P L) → va_S A s.heap H locs → lv_has ls 5 [(0, .ref (ra 0)), (1, .ref (pa (30 + 3 * j))), (2, .int x2), (3, .int x3), (4, .int x4)] → G_X3_readFormula p l e s m below meth c G cA A bA ka ra pa j L r0 K' R' P' H locs (F0 m 17 ls []) := by
  obtain ⟨hx, hb, hr, hml, hT, hown, hlocks, hK, hN, hA⟩ := id F
  induction N with
  | zero =>
    intro x2 x3 x4 K R P H locs ls h
    have h : (none : Option (Int32 × Tr × Tr × Tr)) = some (r0, K', R', P') := h
    cases h
  | succ N hk17 =>
    intro x2 x3 x4 K R P H locs ls h hP hD hS hl
    have h : fB_X3_readFormula_L17 j (lpF (fun _ _ _ _ _ _ => none) (fB_X3_readFormula_L17 j) N) x2 x3 x4 K R P = some (r0, K', R', P') := h
    generalize hk17e : lpF (fun _ _ _ _ _ _ => none) (fB_X3_readFormula_L17 j) N = k17 at h hk17
    unfold fB_X3_readFormula_L17 at h
    refine lv_iload hx hb dX3_readFormula_17 (lv_at hl 4 rfl) ?_
    refine lv_sipush (v := 700) hx hb dX3_readFormula_19 (by decide) ?_
    refine lv_icmp_gt (tgt := 147) hx hb dX3_readFormula_22 (by decide) (fun c3 => ?_) (fun c3 => ?_)
    · have h := tx_pos c3 h
      exact w_X3_readFormula_J147 F hB hj K R P H locs ls h hP hD hS (lv_sub hl [0, 1] rfl)
    · have h := tx_neg c3 h
      refine lv_iload_n hx hb dX3_readFormula_25 rfl (lv_at hl 3 rfl) ?_
      refine lv_if_eq (tgt := 147) hx hb dX3_readFormula_26 (by decide) (fun c15 => ?_) (fun c15 => ?_)
      · have h := tx_pos c15 h
        exact w_X3_readFormula_J147 F hB hj K R P H locs ls h hP hD hS (lv_sub hl [0, 1] rfl)
      · have h := tx_neg c15 h
        refine lv_iload_n hx hb dX3_readFormula_29 rfl (lv_at hl 2 rfl) ?_
        refine lv_if_eq (tgt := 72) hx hb dX3_readFormula_30 (by decide) (fun c16 => ?_) (fun c16 => ?_)
        · have h := tx_pos c16 h
          refine lv_aload_n hx hb dX3_readFormula_72 rfl (lv_at hl 0 rfl) ?_
          refine va_get (D := G) (ci := 3) (v := .ref (ka 0)) (C := RX3) (T := TX3) (N := 10) hx hb hT ku_3 hown hK hP 3 rfl rfl 0 (by decide) (hT _ kw_2_23) (fun _ h9 => h9) rfl dX3_readFormula_73 ?_
          refine va_get (D := G) (ci := 5) (v := .int (K 0 1)) (C := RX5) (T := TX5) (N := 8) hx hb hT ku_5 hown hK hP 0 rfl rfl 1 (by decide) (hT _ kw_14_15) (fun _ h9 => h9) rfl dX3_readFormula_76 ?_
          obtain ⟨r17, hc18, h⟩ := tx_bd h
          refine tw_ci (tw_none (ws := wRP cA ka ra pa K R P L)) hP hD hS hA (va_runS (As := [.int (K 0 1)]) (rest := []) ⟨hx, hb, hml, hown, hT⟩ (c_X3_isJoining l G cA H.size (K 0 1)  r17 hc18) (va_cwS 1 hT (tq_gS kw_21_11 kw_21_12 kw_1_15 kw_21_13) rfl rfl rfl dkdS_yX3_isJoining_1 ⟨Nat.le_of_ble_eq_true rfl, Nat.le_of_ble_eq_true rfl⟩) (tw_pre (tw_none (ws := wRP cA ka ra pa K R P L)) hP hD hK hN) rfl rfl hl.1 rfl (lv_room (Nat.le_of_ble_eq_true rfl)) dX3_readFormula_79 ⟨Nat.le_of_ble_eq_true rfl, Nat.le_of_ble_eq_true rfl⟩) (fun _ _ H locs z19 hP hD hS => ?_)
          have z19 := z19.symm
          subst z19
          have hP : va_P G vwCl (wRP cA ka ra pa K R P L) H := hP
          have hD : va_D A (wRP cA ka ra pa K R P L) := hD
          refine lv_if_eq (tgt := 96) hx hb dX3_readFormula_82 (by decide) (fun c20 => ?_) (fun c20 => ?_)
          · have h := tx_pos c20 h
            refine lv_aload_n hx hb dX3_readFormula_96 rfl (lv_at hl 0 rfl) ?_
            refine va_get (D := G) (ci := 3) (v := .ref (ka 0)) (C := RX3) (T := TX3) (N := 10) hx hb hT ku_3 hown hK hP 3 rfl rfl 0 (by decide) (hT _ kw_2_23) (fun _ h9 => h9) rfl dX3_readFormula_97 ?_
            refine va_get (D := G) (ci := 5) (v := .int (K 0 1)) (C := RX5) (T := TX5) (N := 8) hx hb hT ku_5 hown hK hP 0 rfl rfl 1 (by decide) (hT _ kw_14_15) (fun _ h9 => h9) rfl dX3_readFormula_100 ?_
            refine lv_bipush (v := 40) hx hb dX3_readFormula_103 (by decide) ?_
            refine lv_icmp_ne (tgt := 119) hx hb dX3_readFormula_105 (by decide) (fun c21 => ?_) (fun c21 => ?_)
            · have h := tx_neg c21 h
              exact w_X3_readFormula_J119 F hB hj k17 hk17 x2 x4 K R P H locs ls h hP hD hS (lv_sub hl [0, 1, 2, 4] rfl)
            · have h := tx_pos c21 h
              refine lv_aload_n hx hb dX3_readFormula_108 rfl (lv_at hl 0 rfl) ?_
              refine va_get (D := G) (ci := 3) (v := .int (R 0 9)) (C := RX3) (T := TX3) (N := 10) hx hb hT ku_3 hown hK hP 3 rfl rfl 9 (by decide) (hT _ kw_20_2) (fun _ h9 => h9) rfl dX3_readFormula_109 ?_
              refine lv_if_le (tgt := 119) hx hb dX3_readFormula_112 (by decide) (fun c33 => ?_) (fun c33 => ?_)
              · have h := tx_pos c33 h
                exact w_X3_readFormula_J119 F hB hj k17 hk17 x2 x4 K R P H locs ls h hP hD hS (lv_sub hl [0, 1, 2, 4] rfl)
              · have h := tx_neg c33 h
                refine lv_iconst (v := 1) hx hb dX3_readFormula_115 (by decide) ?_
                refine lv_goto (tgt := 120) hx hb dX3_readFormula_116 (by decide) ?_
                exact w_X3_readFormula_J120 F hB hj k17 hk17 x2 x4 1 K R P H locs ls h hP hD hS (lv_sub hl [0, 1, 2, 4] rfl)
          · have h := tx_neg c20 h
            refine lv_iconst (v := 1) hx hb dX3_readFormula_85 (by decide) ?_
            refine lv_istore_n (lv' := [(2, .int 1), (0, .ref (ra 0)), (1, .ref (pa (30 + 3 * j))), (3, .int x3), (4, .int x4)]) hx hb dX3_readFormula_86 rfl hl (by decide) rfl (fun ls hl => ?_)
            refine lv_aload_n hx hb dX3_readFormula_87 rfl (lv_at hl 1 rfl) ?_
            refine lv_aload_n hx hb dX3_readFormula_88 rfl (lv_at hl 2 rfl) ?_
            obtain ⟨⟨r34, R_35, P_36⟩, hc37, h⟩ := tx_bd h
            replace h := tx_let (y := r34) rfl h
            replace h := tx_let (y := R_35) rfl h
            replace h := tx_let (y := P_36) rfl h
            refine tzB_i (As := [.ref (pa (30 + 3 * j))]) (rest := []) ⟨hx, hb, hml, hown, hT⟩ hP hD hS hA hK hN hB (c_X3_readJoining l G cA H.size bA ka ra pa j K R P L hj r34 R_35 P_36 hc37) (tq_gV kw_21_14 kw_21_15 kw_21_16 kw_1_15 kw_21_17) rfl rfl dkdV_yX3_readJoining_1 (Nat.le_of_ble_eq_true rfl) (Nat.le_of_ble_eq_true rfl) (ci := 3) (q0 := 3) rfl rfl rfl hl.1 rfl (Nat.le_of_ble_eq_true rfl) dX3_readFormula_89 ⟨Nat.le_of_ble_eq_true rfl, Nat.le_of_ble_eq_true rfl⟩ (fun _ _ H locs z38 hP hD hS => ?_)
            have z38 := z38.symm
            subst z38
            have hP : va_P G vwCl (wRP cA ka ra pa K R_35 P_36 L) H := hP
            have hD : va_D A (wRP cA ka ra pa K R_35 P_36 L) := hD
            refine lv_istore_n (lv' := [(3, .int r34), (2, .int 1), (0, .ref (ra 0)), (1, .ref (pa (30 + 3 * j))), (4, .int x4)]) hx hb dX3_readFormula_92 rfl hl (by decide) rfl (fun ls hl => ?_)
            refine lv_goto (tgt := 130) hx hb dX3_readFormula_93 (by decide) ?_
            exact w_X3_readFormula_J130 F hB hj k17 hk17 1 r34 x4 K R_35 P_36 H locs ls h hP hD hS (lv_sub hl [2, 3, 1, 0, 4] rfl)
        · have h := tx_neg c16 h
          refine lv_aload_n hx hb dX3_readFormula_33 rfl (lv_at hl 0 rfl) ?_
          refine va_get (D := G) (ci := 3) (v := .ref (ka 0)) (C := RX3) (T := TX3) (N := 10) hx hb hT ku_3 hown hK hP 3 rfl rfl 0 (by decide) (hT _ kw_2_23) (fun _ h9 => h9) rfl dX3_readFormula_34 ?_
          refine va_get (D := G) (ci := 5) (v := .int (K 0 1)) (C := RX5) (T := TX5) (N := 8) hx hb hT ku_5 hown hK hP 0 rfl rfl 1 (by decide) (hT _ kw_14_15) (fun _ h9 => h9) rfl dX3_readFormula_37 ?_
          refine lv_bipush (v := 39) hx hb dX3_readFormula_40 (by decide) ?_
          refine lv_icmp_eq (tgt := 57) hx hb dX3_readFormula_42 (by decide) (fun c39 => ?_) (fun c39 => ?_)
          · have h := tx_pos c39 h
            exact w_X3_readFormula_J57 F hB hj k17 hk17 x4 K R P H locs ls h hP hD hS (lv_sub hl [0, 1, 4] rfl)
          · have h := tx_neg c39 h
            refine lv_aload_n hx hb dX3_readFormula_45 rfl (lv_at hl 0 rfl) ?_
            refine va_get (D := G) (ci := 3) (v := .ref (ka 0)) (C := RX3) (T := TX3) (N := 10) hx hb hT ku_3 hown hK hP 3 rfl rfl 0 (by decide) (hT _ kw_2_23) (fun _ h9 => h9) rfl dX3_readFormula_46 ?_
            refine va_get (D := G) (ci := 5) (v := .int (K 0 1)) (C := RX5) (T := TX5) (N := 8) hx hb hT ku_5 hown hK hP 0 rfl rfl 1 (by decide) (hT _ kw_14_15) (fun _ h9 => h9) rfl dX3_readFormula_49 ?_
            refine lv_bipush (v := 21) hx hb dX3_readFormula_52 (by decide) ?_
            refine lv_icmp_ne (tgt := 61) hx hb dX3_readFormula_54 (by decide) (fun c45 => ?_) (fun c45 => ?_)
            · have h := tx_neg c45 h
              refine lv_iconst (v := 0) hx hb dX3_readFormula_61 (by decide) ?_
              exact w_X3_readFormula_J62 F hB hj k17 hk17 x4 0 K R P H locs ls h hP hD hS (lv_sub hl [0, 1, 4] rfl)
            · have h := tx_pos c45 h
              exact w_X3_readFormula_J57 F hB hj k17 hk17 x4 K R P H locs ls h hP hD hS (lv_sub hl [0, 1, 4] rfl)
set_option maxHeartbeats 4000000 in
set_option maxRecDepth 100000 in
theorem c_X3_readFormula (l : Launch) (G : va_G) (cA : Nat → ClassId) (sz : Nat) (bA : Nat) (ka : Nat → Nat) (ra : Nat → Nat) (pa : Nat → Nat) (j : Nat) (K : Tr) (R : Tr) (P : Tr) (L : Lo) (hj : j < 3) (r0 : Int32) (K' : Tr) (R' : Tr) (P' : Tr) (h : f_X3_readFormula j K R P = some (r0, K', R', P')) : Met l yX3_readFormula (.code yX3_readFormula cX3_readFormula 5 (some .boolean) :: T0) ({ frames := 3, cells := 0, slots := 0, locals := 66 } : Room) (tqPB bA G cA [.ref (ra 0), .ref (pa (30 + 3 * j))] (wRP cA ka ra pa K R P L) sz) (tqQi G cA (fun (r : Int32) (_ : Unit) => r = r0) (fun (_ : Unit) => wRP cA ka ra pa (K') (R') (P') L) (va_A (wRP cA ka ra pa K R P L) sz)) 0 0 (va_A (wRP cA ka ra pa K R P L) sz) := by
  refine Met.ofW (cc := cX3_readFormula) (maxL := 5) (ret := (some .boolean)) (by decide) rfl ?_
  intro p e s m args below meth c s₁ B hml hv
  obtain ⟨rfl, hsz, hP, hK, hD0, hN, hB⟩ := hv
  have hx := B.exec
  have hb := B.bytes
  have hr := B.returns
  have hts := atoms_spec (ws := .code yX3_readFormula cX3_readFormula 5 (some .boolean) :: T0) B.pre
  have hT : ∀ w ∈ T0, w.before _ s = true := fun w h => hts w (List.mem_cons_of_mem _ h)
  have hown : s.vm.findClass RX3 = some m.cls := findClass_of_methodNamed B.named
  have hlocks := B.notSynchronized
  subst hsz
  have hD := hD0.self (sz := s.heap.size)
  generalize hAe : va_A (wRP cA ka ra pa K R P L) s.heap.size = A at hD hB ⊢
  have hA : ∀ q : Nat, s.heap.size ≤ q → A q := fun q h => by rw [← hAe]; exact Or.inr h
  have hS : va_S A s.heap s.heap [] := va_S.rf
  have hl := lv_entry ([.ref (ra 0), .ref (pa (30 + 3 * j))]) (n := 5) (Nat.le_of_ble_eq_true rfl)
  rw [lg_entry_eq]
  generalize (lg_sl ([.ref (ra 0), .ref (pa (30 + 3 * j))]) ++ List.replicate (5 - (lg_sl ([.ref (ra 0), .ref (pa (30 + 3 * j))])).length) Slot.unset).toArray = ls at hl ⊢
  have hl : lv_has ls 5 [(0, .ref (ra 0)), (1, .ref (pa (30 + 3 * j)))] := hl
  have F : tF p s m ([.ref (ra 0), .ref (pa (30 + 3 * j))] : List Value).toArray meth c G cA A RX3 cX3_readFormula 5 (some .boolean) := ⟨hx, hb, hr, hml, hT, hown, hlocks, hK, hN, hA⟩
  obtain ⟨H, hH⟩ : ∃ z, z = s.heap := ⟨_, rfl⟩
  rw [← hH] at hP
  have hS : va_S A s.heap H [] := by rw [hH]; exact hS
  suffices hgo : G_X3_readFormula p l e s m below meth c G cA A bA ka ra pa j L r0 K' R' P' H [] (F0 m 0 ls []) by rw [hH] at hgo; exact hgo
  generalize ([] : List Loc) = locs at hS ⊢
  unfold f_X3_readFormula at h
  refine lv_aload_n hx hb dX3_readFormula_0 rfl (lv_at hl 0 rfl) ?_
  refine lv_iconst (v := 0) hx hb dX3_readFormula_1 (by decide) ?_
  refine va_put (D := G) (ci := 3) (v := .int 0) (ty := .int) (C := RX3) (T := TX3) (N := 10) hx hb hT ku_3 tyX3 tyX3_ok nmX3 hown hK hP hD hS 3 rfl rfl 8 (by decide) (hT _ kw_20_1) (fun _ h9 => h9) rfl (by decide +kernel) rfl rfl (Nat.le_of_ble_eq_true rfl) dX3_readFormula_2 (fun H locs hP hD hS => ?_)
  obtain ⟨R_1, eR_1, h⟩ := tx_lt h
  rw [sRP_ra_f8, eR_1] at hP hD
  refine lv_aload_n hx hb dX3_readFormula_5 rfl (lv_at hl 0 rfl) ?_
  refine lv_iconst (v := 0) hx hb dX3_readFormula_6 (by decide) ?_
  refine va_put (D := G) (ci := 3) (v := .int 0) (ty := .int) (C := RX3) (T := TX3) (N := 10) hx hb hT ku_3 tyX3 tyX3_ok nmX3 hown hK hP hD hS 3 rfl rfl 9 (by decide) (hT _ kw_20_2) (fun _ h9 => h9) rfl (by decide +kernel) rfl rfl (Nat.le_of_ble_eq_true rfl) dX3_readFormula_7 (fun H locs hP hD hS => ?_)
  obtain ⟨R_2, eR_2, h⟩ := tx_lt h
  rw [sRP_ra_f9, eR_2] at hP hD
  refine lv_iconst (v := 1) hx hb dX3_readFormula_10 (by decide) ?_
  refine lv_istore_n (lv' := [(2, .int 1), (0, .ref (ra 0)), (1, .ref (pa (30 + 3 * j)))]) hx hb dX3_readFormula_11 rfl hl (by decide) rfl (fun ls hl => ?_)
  refine lv_iconst (v := 1) hx hb dX3_readFormula_12 (by decide) ?_
  refine lv_istore_n (lv' := [(3, .int 1), (2, .int 1), (0, .ref (ra 0)), (1, .ref (pa (30 + 3 * j)))]) hx hb dX3_readFormula_13 rfl hl (by decide) rfl (fun ls hl => ?_)
  refine lv_iconst (v := 0) hx hb dX3_readFormula_14 (by decide) ?_
  refine lv_istore (lv' := [(4, .int 0), (3, .int 1), (2, .int 1), (0, .ref (ra 0)), (1, .ref (pa (30 + 3 * j)))]) hx hb dX3_readFormula_15 hl (by decide) rfl (fun ls hl => ?_)
  exact w_X3_readFormula_L17 F hB hj 2000 1 1 0 K R_2 P H locs ls h hP hD hS (lv_sub hl [3, 4, 2, 1, 0] rfl)
abbrev G_X3_readLaw (p : Program) (l : Launch) (e : Env) (s : State) (m : MethodId) (below : List Frame) (meth : Method) (c : Code) (G : va_G) (cA : Nat → ClassId) (A : Nat → Prop) (bA : Nat) (ka : Nat → Nat) (ra : Nat → Nat) (pa : Nat → Nat) (L : Lo) (r0 : Int32) (K' : Tr) (R' : Tr) (P' : Tr) (H : Heap) (locs : List Loc) (g : JFrame) : Prop := W p l e (headSpec (.code yX3_readLaw cX3_readLaw 2 (some .boolean) :: T0) ({ frames := 4, cells := 0, slots := 0, locals := 90 } : Room)).room s m ([.ref (ra 0)] : List Value).toArray below meth c H locs 0 0 (MQ below (tqQi G cA (fun (r : Int32) (_ : Unit) => r = r0) (fun (_ : Unit) => wRP cA ka ra pa (K') (R') (P') L) A) ([.ref (ra 0)] : List Value).toArray s 0 0 A) g
set_option maxHeartbeats 4000000 in
set_option maxRecDepth 100000 in
theorem w_X3_readLaw_J61 {p : Program} {l : Launch} {e : Env} {s : State} {m : MethodId} {below : List Frame} {meth : Method} {c : Code} {G : va_G} {cA : Nat → ClassId} {A : Nat → Prop} {bA : Nat} {ka : Nat → Nat} {ra : Nat → Nat} {pa : Nat → Nat} {L : Lo} {r0 : Int32} {K' : Tr} {R' : Tr} {P' : Tr} (F : tF p s m ([.ref (ra 0)] : List Value).toArray meth c G cA A RX3 cX3_readLaw 2 (some .boolean)) (hB : tqB bA A s s.heap)    (x1 : Int32) (s0 : Int32) (K : Tr) (R : Tr) (P : Tr) (H : Heap) (locs : List Loc) (ls : Array Slot) (h : fJ_X3_readLaw_J61 x1 s0 K R P = some (r0, K', R', P')) (hP : va_P G vwCl (wRP cA ka ra pa K R P L) H) (hD : va_D A (wRP cA ka ra pa K R P L)) (hS : va_S A s.heap H locs) (hl : lv_has ls 2 [(0, .ref (ra 0)), (1, .int x1)]) : G_X3_readLaw p l e s m below meth c G cA A bA ka ra pa L r0 K' R' P' H locs (F0 m 61 ls [.int s0, .ref (ra 0)]) := by
  obtain ⟨hx, hb, hr, hml, hT, hown, hlocks, hK, hN, hA⟩ := id F
  unfold fJ_X3_readLaw_J61 at h
  refine lv_iconst (v := 3) hx hb dX3_readLaw_61 (by decide) ?_
  obtain ⟨⟨r13, R_14⟩, hc15, h⟩ := tx_bd h
  replace h := tx_let (y := r13) rfl h
  replace h := tx_let (y := R_14) rfl h
  refine tzB_i (As := [.int s0, .int 3]) (rest := []) ⟨hx, hb, hml, hown, hT⟩ hP hD hS hA hK hN hB (c_X3_expect l G cA H.size bA ka ra pa K R P L s0 (3 : Int32)  r13 R_14 hc15) (tq_gV kw_16_18 kw_16_19 kw_16_20 kw_1_15 kw_16_21) rfl rfl dkdV_yX3_expect_2 (Nat.le_of_ble_eq_true rfl) (Nat.le_of_ble_eq_true rfl) (ci := 3) (q0 := 3) rfl rfl rfl hl.1 rfl (Nat.le_of_ble_eq_true rfl) dX3_readLaw_62 ⟨Nat.le_of_ble_eq_true rfl, Nat.le_of_ble_eq_true rfl⟩ (fun _ _ H locs z16 hP hD hS => ?_)
  have z16 := z16.symm
  subst z16
  have hP : va_P G vwCl (wRP cA ka ra pa K R_14 P L) H := hP
  have hD : va_D A (wRP cA ka ra pa K R_14 P L) := hD
  refine lv_if_ne (tgt := 70) hx hb dX3_readLaw_65 (by decide) (fun c17 => ?_) (fun c17 => ?_)
  · have h := tx_neg c17 h
    refine lv_aload_n hx hb dX3_readLaw_70 rfl (lv_at hl 0 rfl) ?_
    refine va_get (D := G) (ci := 3) (v := .ref (ka 0)) (C := RX3) (T := TX3) (N := 10) hx hb hT ku_3 hown hK hP 3 rfl rfl 0 (by decide) (hT _ kw_2_23) (fun _ h9 => h9) rfl dX3_readLaw_71 ?_
    obtain ⟨K_18, hc19, h⟩ := tx_bd h
    refine tzB_v (As := []) (rest := []) ⟨hx, hb, hml, hown, hT⟩ hP hD hS hA hK hN hB (c_X5_advance l G cA H.size bA ka ra pa K R_14 P L  K_18 hc19) (tq_gV kw_16_23 kw_15_0 kw_15_1 kw_2_22 kw_15_2) rfl rfl dkdV_yX5_advance_0 (Nat.le_of_ble_eq_true rfl) (Nat.le_of_ble_eq_true rfl) (ci := 5) (q0 := 0) rfl rfl rfl hl.1 rfl (Nat.le_of_ble_eq_true rfl) dX3_readLaw_74 ⟨Nat.le_of_ble_eq_true rfl, Nat.le_of_ble_eq_true rfl⟩ (fun _ H locs z20 hP hD hS => ?_)
    have hP : va_P G vwCl (wRP cA ka ra pa K_18 R_14 P L) H := hP
    have hD : va_D A (wRP cA ka ra pa K_18 R_14 P L) := hD
    refine lv_aload_n hx hb dX3_readLaw_77 rfl (lv_at hl 0 rfl) ?_
    refine lv_aload_n hx hb dX3_readLaw_78 rfl (lv_at hl 0 rfl) ?_
    refine va_get (D := G) (ci := 3) (v := .ref (pa 0)) (C := RX3) (T := TX3) (N := 10) hx hb hT ku_3 hown hK hP 3 rfl rfl 4 (by decide) (hT _ kw_3_4) (fun _ h9 => h9) rfl dX3_readLaw_79 ?_
    refine va_get (D := G) (ci := 2) (v := .ref (pa 19)) (C := RX2) (T := TX2) (N := 19) hx hb hT ku_2 hown hK hP 5 rfl rfl 18 (by decide) (hT _ kw_19_19) (fun _ h9 => h9) rfl dX3_readLaw_82 ?_
    refine lv_iload_n hx hb dX3_readLaw_85 rfl (lv_at hl 1 rfl) ?_
    obtain ⟨g21, h⟩ := tx_ck h
    refine va_aldq (i := x1) hx hb hK hP 17 4 rfl rfl (tx_in g21) dX3_readLaw_86 ?_
    refine W.eq (g2 := F0 m 87 ls (.ref (pa (30 + 3 * x1.toNatClampNeg)) :: [.ref (ra 0)])) (by rw [lawsf_at _ (tx_n3 g21)]; rfl) ?_
    obtain ⟨⟨r22, K_23, R_24, P_25⟩, hc26, h⟩ := tx_bd h
    replace h := tx_let (y := r22) rfl h
    replace h := tx_let (y := K_23) rfl h
    replace h := tx_let (y := R_24) rfl h
    replace h := tx_let (y := P_25) rfl h
    refine tzB_i (As := [.ref (pa (30 + 3 * x1.toNatClampNeg))]) (rest := []) ⟨hx, hb, hml, hown, hT⟩ hP hD hS hA hK hN hB (c_X3_readFormula l G cA H.size bA ka ra pa x1.toNatClampNeg K_18 R_14 P L (tx_n3 g21) r22 K_23 R_24 P_25 hc26) (tq_gV kw_19_21 kw_19_22 kw_19_23 kw_1_15 kw_20_0) rfl rfl dkdV_yX3_readFormula_1 (Nat.le_of_ble_eq_true rfl) (Nat.le_of_ble_eq_true rfl) (ci := 3) (q0 := 3) rfl rfl rfl hl.1 rfl (Nat.le_of_ble_eq_true rfl) dX3_readLaw_87 ⟨Nat.le_of_ble_eq_true rfl, Nat.le_of_ble_eq_true rfl⟩ (fun _ _ H locs z27 hP hD hS => ?_)
    have z27 := z27.symm
    subst z27
    have hP : va_P G vwCl (wRP cA ka ra pa K_23 R_24 P_25 L) H := hP
    have hD : va_D A (wRP cA ka ra pa K_23 R_24 P_25 L) := hD
    obtain ⟨g28, h⟩ := tx_ck h
    obtain ⟨rfl, rfl, rfl, rfl⟩ := tx_4 h
    exact W.zret (ty := .boolean) hx hb hr (tx_z g28) (fun t ht hW => ⟨⟨_, (), rfl, rfl, by rw [ht]; exact hP, hD⟩, hS.F ht⟩) hS.2.2 dX3_readLaw_90
  · have h := tx_pos c17 h
    refine lv_iconst (v := 0) hx hb dX3_readLaw_68 (by decide) ?_
    obtain ⟨rfl, rfl, rfl, rfl⟩ := tx_4 h
    exact W.zret (ty := .boolean) hx hb hr rfl (fun t ht hW => ⟨⟨_, (), rfl, rfl, by rw [ht]; exact hP, hD⟩, hS.F ht⟩) hS.2.2 dX3_readLaw_69
set_option maxHeartbeats 4000000 in
set_option maxRecDepth 100000 in
theorem w_X3_readLaw_J33 {p : Program} {l : Launch} {e : Env} {s : State} {m : MethodId} {below : List Frame} {meth : Method} {c : Code} {G : va_G} {cA : Nat → ClassId} {A : Nat → Prop} {bA : Nat} {ka : Nat → Nat} {ra : Nat → Nat} {pa : Nat → Nat} {L : Lo} {r0 : Int32} {K' : Tr} {R' : Tr} {P' : Tr} (F : tF p s m ([.ref (ra 0)] : List Value).toArray meth c G cA A RX3 cX3_readLaw 2 (some .boolean)) (hB : tqB bA A s s.heap)    (x1 : Int32) (s0 : Int32) (K : Tr) (R : Tr) (P : Tr) (H : Heap) (locs : List Loc) (ls : Array Slot) (h : fJ_X3_readLaw_J33 x1 s0 K R P = some (r0, K', R', P')) (hP : va_P G vwCl (wRP cA ka ra pa K R P L) H) (hD : va_D A (wRP cA ka ra pa K R P L)) (hS : va_S A s.heap H locs) (hl : lv_has ls 2 [(0, .ref (ra 0)), (1, .int x1)]) : G_X3_readLaw p l e s m below meth c G cA A bA ka ra pa L r0 K' R' P' H locs (F0 m 33 ls [.int s0, .ref (ra 0)]) := by
  obtain ⟨hx, hb, hr, hml, hT, hown, hlocks, hK, hN, hA⟩ := id F
  unfold fJ_X3_readLaw_J33 at h
  refine lv_iconst (v := 1) hx hb dX3_readLaw_33 (by decide) ?_
  obtain ⟨⟨r6, R_7⟩, hc8, h⟩ := tx_bd h
  replace h := tx_let (y := r6) rfl h
  replace h := tx_let (y := R_7) rfl h
  refine tzB_i (As := [.int s0, .int 1]) (rest := []) ⟨hx, hb, hml, hown, hT⟩ hP hD hS hA hK hN hB (c_X3_expect l G cA H.size bA ka ra pa K R P L s0 (1 : Int32)  r6 R_7 hc8) (tq_gV kw_16_18 kw_16_19 kw_16_20 kw_1_15 kw_16_21) rfl rfl dkdV_yX3_expect_2 (Nat.le_of_ble_eq_true rfl) (Nat.le_of_ble_eq_true rfl) (ci := 3) (q0 := 3) rfl rfl rfl hl.1 rfl (Nat.le_of_ble_eq_true rfl) dX3_readLaw_34 ⟨Nat.le_of_ble_eq_true rfl, Nat.le_of_ble_eq_true rfl⟩ (fun _ _ H locs z9 hP hD hS => ?_)
  have z9 := z9.symm
  subst z9
  have hP : va_P G vwCl (wRP cA ka ra pa K R_7 P L) H := hP
  have hD : va_D A (wRP cA ka ra pa K R_7 P L) := hD
  refine lv_if_eq (tgt := 68) hx hb dX3_readLaw_37 (by decide) (fun c10 => ?_) (fun c10 => ?_)
  · have h := tx_pos c10 h
    refine lv_iconst (v := 0) hx hb dX3_readLaw_68 (by decide) ?_
    obtain ⟨rfl, rfl, rfl, rfl⟩ := tx_4 h
    exact W.zret (ty := .boolean) hx hb hr rfl (fun t ht hW => ⟨⟨_, (), rfl, rfl, by rw [ht]; exact hP, hD⟩, hS.F ht⟩) hS.2.2 dX3_readLaw_69
  · have h := tx_neg c10 h
    refine lv_aload_n hx hb dX3_readLaw_40 rfl (lv_at hl 0 rfl) ?_
    refine lv_aload_n hx hb dX3_readLaw_41 rfl (lv_at hl 0 rfl) ?_
    refine va_get (D := G) (ci := 3) (v := .ref (pa 0)) (C := RX3) (T := TX3) (N := 10) hx hb hT ku_3 hown hK hP 3 rfl rfl 4 (by decide) (hT _ kw_3_4) (fun _ h9 => h9) rfl dX3_readLaw_42 ?_
    refine va_get (D := G) (ci := 2) (v := .ref (pa 19)) (C := RX2) (T := TX2) (N := 19) hx hb hT ku_2 hown hK hP 5 rfl rfl 18 (by decide) (hT _ kw_19_19) (fun _ h9 => h9) rfl dX3_readLaw_45 ?_
    refine lv_iload_n hx hb dX3_readLaw_48 rfl (lv_at hl 1 rfl) ?_
    obtain ⟨g11, h⟩ := tx_ck h
    refine va_aldq (i := x1) hx hb hK hP 17 4 rfl rfl (tx_in g11) dX3_readLaw_49 ?_
    refine W.eq (g2 := F0 m 50 ls (.ref (pa (30 + 3 * x1.toNatClampNeg)) :: [.ref (ra 0)])) (by rw [lawsf_at _ (tx_n3 g11)]; rfl) ?_
    refine va_get (D := G) (ci := 1) (v := .int (P (30 + 3 * x1.toNatClampNeg) 1)) (C := RX1) (T := TX1) (N := 3) hx hb hT ku_1 hown hK hP (18 + 3 * x1.toNatClampNeg) (aLRP_0 (tx_n3 g11)) rfl 1 (by decide) (hT _ kw_19_20) (fun _ h9 => h9) rfl dX3_readLaw_50 ?_
    refine lv_if_ne (tgt := 60) hx hb dX3_readLaw_53 (by decide) (fun c12 => ?_) (fun c12 => ?_)
    · have h := tx_neg c12 h
      refine lv_iconst (v := 0) hx hb dX3_readLaw_60 (by decide) ?_
      exact w_X3_readLaw_J61 F hB x1 0 K R_7 P H locs ls h hP hD hS (lv_sub hl [0, 1] rfl)
    · have h := tx_pos c12 h
      refine lv_iconst (v := 1) hx hb dX3_readLaw_56 (by decide) ?_
      refine lv_goto (tgt := 61) hx hb dX3_readLaw_57 (by decide) ?_
      exact w_X3_readLaw_J61 F hB x1 1 K R_7 P H locs ls h hP hD hS (lv_sub hl [0, 1] rfl)
set_option maxHeartbeats 4000000 in
set_option maxRecDepth 100000 in
theorem w_X3_readLaw_J32 {p : Program} {l : Launch} {e : Env} {s : State} {m : MethodId} {below : List Frame} {meth : Method} {c : Code} {G : va_G} {cA : Nat → ClassId} {A : Nat → Prop} {bA : Nat} {ka : Nat → Nat} {ra : Nat → Nat} {pa : Nat → Nat} {L : Lo} {r0 : Int32} {K' : Tr} {R' : Tr} {P' : Tr} (F : tF p s m ([.ref (ra 0)] : List Value).toArray meth c G cA A RX3 cX3_readLaw 2 (some .boolean)) (hB : tqB bA A s s.heap)    (x1 : Int32) (K : Tr) (R : Tr) (P : Tr) (H : Heap) (locs : List Loc) (ls : Array Slot) (h : fJ_X3_readLaw_J32 x1 K R P = some (r0, K', R', P')) (hP : va_P G vwCl (wRP cA ka ra pa K R P L) H) (hD : va_D A (wRP cA ka ra pa K R P L)) (hS : va_S A s.heap H locs) (hl : lv_has ls 2 [(0, .ref (ra 0)), (1, .int x1)]) : G_X3_readLaw p l e s m below meth c G cA A bA ka ra pa L r0 K' R' P' H locs (F0 m 32 ls [.ref (ra 0)]) := by
  obtain ⟨hx, hb, hr, hml, hT, hown, hlocks, hK, hN, hA⟩ := id F
  unfold fJ_X3_readLaw_J32 at h
  refine lv_iconst (v := 0) hx hb dX3_readLaw_32 (by decide) ?_
  exact w_X3_readLaw_J33 F hB x1 0 K R P H locs ls h hP hD hS (lv_sub hl [0, 1] rfl)
set_option maxHeartbeats 4000000 in
set_option maxRecDepth 100000 in
theorem c_X3_readLaw (l : Launch) (G : va_G) (cA : Nat → ClassId) (sz : Nat) (bA : Nat) (ka : Nat → Nat) (ra : Nat → Nat) (pa : Nat → Nat) (K : Tr) (R : Tr) (P : Tr) (L : Lo)  (r0 : Int32) (K' : Tr) (R' : Tr) (P' : Tr) (h : f_X3_readLaw K R P = some (r0, K', R', P')) : Met l yX3_readLaw (.code yX3_readLaw cX3_readLaw 2 (some .boolean) :: T0) ({ frames := 4, cells := 0, slots := 0, locals := 90 } : Room) (tqPB bA G cA [.ref (ra 0)] (wRP cA ka ra pa K R P L) sz) (tqQi G cA (fun (r : Int32) (_ : Unit) => r = r0) (fun (_ : Unit) => wRP cA ka ra pa (K') (R') (P') L) (va_A (wRP cA ka ra pa K R P L) sz)) 0 0 (va_A (wRP cA ka ra pa K R P L) sz) := by
  refine Met.ofW (cc := cX3_readLaw) (maxL := 2) (ret := (some .boolean)) (by decide) rfl ?_
  intro p e s m args below meth c s₁ B hml hv
  obtain ⟨rfl, hsz, hP, hK, hD0, hN, hB⟩ := hv
  have hx := B.exec
  have hb := B.bytes
  have hr := B.returns
  have hts := atoms_spec (ws := .code yX3_readLaw cX3_readLaw 2 (some .boolean) :: T0) B.pre
  have hT : ∀ w ∈ T0, w.before _ s = true := fun w h => hts w (List.mem_cons_of_mem _ h)
  have hown : s.vm.findClass RX3 = some m.cls := findClass_of_methodNamed B.named
  have hlocks := B.notSynchronized
  subst hsz
  have hD := hD0.self (sz := s.heap.size)
  generalize hAe : va_A (wRP cA ka ra pa K R P L) s.heap.size = A at hD hB ⊢
  have hA : ∀ q : Nat, s.heap.size ≤ q → A q := fun q h => by rw [← hAe]; exact Or.inr h
  have hS : va_S A s.heap s.heap [] := va_S.rf
  have hl := lv_entry ([.ref (ra 0)]) (n := 2) (Nat.le_of_ble_eq_true rfl)
  rw [lg_entry_eq]
  generalize (lg_sl ([.ref (ra 0)]) ++ List.replicate (2 - (lg_sl ([.ref (ra 0)])).length) Slot.unset).toArray = ls at hl ⊢
  have hl : lv_has ls 2 [(0, .ref (ra 0))] := hl
  have F : tF p s m ([.ref (ra 0)] : List Value).toArray meth c G cA A RX3 cX3_readLaw 2 (some .boolean) := ⟨hx, hb, hr, hml, hT, hown, hlocks, hK, hN, hA⟩
  obtain ⟨H, hH⟩ : ∃ z, z = s.heap := ⟨_, rfl⟩
  rw [← hH] at hP
  have hS : va_S A s.heap H [] := by rw [hH]; exact hS
  suffices hgo : G_X3_readLaw p l e s m below meth c G cA A bA ka ra pa L r0 K' R' P' H [] (F0 m 0 ls []) by rw [hH] at hgo; exact hgo
  generalize ([] : List Loc) = locs at hS ⊢
  unfold f_X3_readLaw at h
  refine lv_aload_n hx hb dX3_readLaw_0 rfl (lv_at hl 0 rfl) ?_
  refine va_get (D := G) (ci := 3) (v := .ref (ka 0)) (C := RX3) (T := TX3) (N := 10) hx hb hT ku_3 hown hK hP 3 rfl rfl 0 (by decide) (hT _ kw_2_23) (fun _ h9 => h9) rfl dX3_readLaw_1 ?_
  obtain ⟨K_1, hc2, h⟩ := tx_bd h
  refine tzB_v (As := []) (rest := []) ⟨hx, hb, hml, hown, hT⟩ hP hD hS hA hK hN hB (c_X5_advance l G cA H.size bA ka ra pa K R P L  K_1 hc2) (tq_gV kw_16_23 kw_15_0 kw_15_1 kw_2_22 kw_15_2) rfl rfl dkdV_yX5_advance_0 (Nat.le_of_ble_eq_true rfl) (Nat.le_of_ble_eq_true rfl) (ci := 5) (q0 := 0) rfl rfl rfl hl.1 rfl (Nat.le_of_ble_eq_true rfl) dX3_readLaw_4 ⟨Nat.le_of_ble_eq_true rfl, Nat.le_of_ble_eq_true rfl⟩ (fun _ H locs z3 hP hD hS => ?_)
  have hP : va_P G vwCl (wRP cA ka ra pa K_1 R P L) H := hP
  have hD : va_D A (wRP cA ka ra pa K_1 R P L) := hD
  refine lv_aload_n hx hb dX3_readLaw_7 rfl (lv_at hl 0 rfl) ?_
  refine va_get (D := G) (ci := 3) (v := .ref (ka 0)) (C := RX3) (T := TX3) (N := 10) hx hb hT ku_3 hown hK hP 3 rfl rfl 0 (by decide) (hT _ kw_2_23) (fun _ h9 => h9) rfl dX3_readLaw_8 ?_
  refine va_get (D := G) (ci := 5) (v := .int (K_1 0 1)) (C := RX5) (T := TX5) (N := 8) hx hb hT ku_5 hown hK hP 0 rfl rfl 1 (by decide) (hT _ kw_14_15) (fun _ h9 => h9) rfl dX3_readLaw_11 ?_
  refine lv_bipush (v := 16) hx hb dX3_readLaw_14 (by decide) ?_
  refine lv_isub hx hb dX3_readLaw_16 ?_
  refine lv_topi (fun y4 ey4 => ?_)
  have h := tx_let ey4 h
  refine lv_istore_n (lv' := [(1, .int y4), (0, .ref (ra 0))]) hx hb dX3_readLaw_17 rfl hl (by decide) rfl (fun ls hl => ?_)
  refine lv_aload_n hx hb dX3_readLaw_18 rfl (lv_at hl 1 rfl) ?_
  refine lv_iload_n hx hb dX3_readLaw_19 rfl (lv_at hl 0 rfl) ?_
  refine lv_if_lt (tgt := 32) hx hb dX3_readLaw_20 (by decide) (fun c5 => ?_) (fun c5 => ?_)
  · have h := tx_pos c5 h
    exact w_X3_readLaw_J32 F hB y4 K_1 R P H locs ls h hP hD hS (lv_sub hl [1, 0] rfl)
  · have h := tx_neg c5 h
    refine lv_iload_n hx hb dX3_readLaw_23 rfl (lv_at hl 0 rfl) ?_
    refine lv_iconst (v := 2) hx hb dX3_readLaw_24 (by decide) ?_
    refine lv_icmp_gt (tgt := 32) hx hb dX3_readLaw_25 (by decide) (fun c29 => ?_) (fun c29 => ?_)
    · have h := tx_pos c29 h
      exact w_X3_readLaw_J32 F hB y4 K_1 R P H locs ls h hP hD hS (lv_sub hl [1, 0] rfl)
    · have h := tx_neg c29 h
      refine lv_iconst (v := 1) hx hb dX3_readLaw_28 (by decide) ?_
      refine lv_goto (tgt := 33) hx hb dX3_readLaw_29 (by decide) ?_
      exact w_X3_readLaw_J33 F hB y4 1 K_1 R P H locs ls h hP hD hS (lv_sub hl [1, 0] rfl)
abbrev G_X3_startOnce (p : Program) (l : Launch) (e : Env) (s : State) (m : MethodId) (below : List Frame) (meth : Method) (c : Code) (G : va_G) (cA : Nat → ClassId) (A : Nat → Prop) (bA : Nat) (ka : Nat → Nat) (ra : Nat → Nat) (pa : Nat → Nat) (P : Tr) (L : Lo) (r0 : Int32) (K' : Tr) (R' : Tr) (H : Heap) (locs : List Loc) (g : JFrame) : Prop := W p l e (headSpec (.code yX3_startOnce cX3_startOnce 2 (some .boolean) :: T0) ({ frames := 3, cells := 0, slots := 0, locals := 65 } : Room)).room s m ([.ref (ra 0)] : List Value).toArray below meth c H locs 0 0 (MQ below (tqQi G cA (fun (r : Int32) (_ : Unit) => r = r0) (fun (_ : Unit) => wRP cA ka ra pa (K') (R') P L) A) ([.ref (ra 0)] : List Value).toArray s 0 0 A) g
set_option maxHeartbeats 4000000 in
set_option maxRecDepth 100000 in
theorem w_X3_startOnce_J27 {p : Program} {l : Launch} {e : Env} {s : State} {m : MethodId} {below : List Frame} {meth : Method} {c : Code} {G : va_G} {cA : Nat → ClassId} {A : Nat → Prop} {bA : Nat} {ka : Nat → Nat} {ra : Nat → Nat} {pa : Nat → Nat} {P : Tr} {L : Lo} {r0 : Int32} {K' : Tr} {R' : Tr} (F : tF p s m ([.ref (ra 0)] : List Value).toArray meth c G cA A RX3 cX3_startOnce 2 (some .boolean)) (hB : tqB bA A s s.heap)    (x1 : Int32) (s0 : Int32) (K : Tr) (R : Tr) (H : Heap) (locs : List Loc) (ls : Array Slot) (h : fJ_X3_startOnce_J27 x1 s0 K R = some (r0, K', R')) (hP : va_P G vwCl (wRP cA ka ra pa K R P L) H) (hD : va_D A (wRP cA ka ra pa K R P L)) (hS : va_S A s.heap H locs) (hl : lv_has ls 2 [(0, .ref (ra 0)), (1, .int x1)]) : G_X3_startOnce p l e s m below meth c G cA A bA ka ra pa P L r0 K' R' H locs (F0 m 27 ls [.int s0, .ref (ra 0)]) := by
  obtain ⟨hx, hb, hr, hml, hT, hown, hlocks, hK, hN, hA⟩ := id F
  unfold fJ_X3_startOnce_J27 at h
  refine lv_iconst (v := 3) hx hb dX3_startOnce_27 (by decide) ?_
  obtain ⟨⟨r3, R_4⟩, hc5, h⟩ := tx_bd h
  replace h := tx_let (y := r3) rfl h
  replace h := tx_let (y := R_4) rfl h
  refine tzB_i (As := [.int s0, .int 3]) (rest := []) ⟨hx, hb, hml, hown, hT⟩ hP hD hS hA hK hN hB (c_X3_expect l G cA H.size bA ka ra pa K R P L s0 (3 : Int32)  r3 R_4 hc5) (tq_gV kw_16_18 kw_16_19 kw_16_20 kw_1_15 kw_16_21) rfl rfl dkdV_yX3_expect_2 (Nat.le_of_ble_eq_true rfl) (Nat.le_of_ble_eq_true rfl) (ci := 3) (q0 := 3) rfl rfl rfl hl.1 rfl (Nat.le_of_ble_eq_true rfl) dX3_startOnce_28 ⟨Nat.le_of_ble_eq_true rfl, Nat.le_of_ble_eq_true rfl⟩ (fun _ _ H locs z6 hP hD hS => ?_)
  have z6 := z6.symm
  subst z6
  have hP : va_P G vwCl (wRP cA ka ra pa K R_4 P L) H := hP
  have hD : va_D A (wRP cA ka ra pa K R_4 P L) := hD
  refine lv_if_ne (tgt := 36) hx hb dX3_startOnce_31 (by decide) (fun c7 => ?_) (fun c7 => ?_)
  · have h := tx_neg c7 h
    refine lv_aload_n hx hb dX3_startOnce_36 rfl (lv_at hl 0 rfl) ?_
    refine lv_dup hx hb dX3_startOnce_37 rfl ?_
    refine va_get (D := G) (ci := 3) (v := .int (R_4 0 5)) (C := RX3) (T := TX3) (N := 10) hx hb hT ku_3 hown hK hP 3 rfl rfl 5 (by decide) (hT _ kw_14_13) (fun _ h9 => h9) rfl dX3_startOnce_38 ?_
    refine lv_iload_n hx hb dX3_startOnce_41 rfl (lv_at hl 1 rfl) ?_
    refine lv_ior hx hb dX3_startOnce_42 ?_
    refine va_put (D := G) (ci := 3) (v := .int ((R_4 0 5) ||| x1)) (ty := .int) (C := RX3) (T := TX3) (N := 10) hx hb hT ku_3 tyX3 tyX3_ok nmX3 hown hK hP hD hS 3 rfl rfl 5 (by decide) (hT _ kw_14_13) (fun _ h9 => h9) rfl (by decide +kernel) rfl rfl (Nat.le_of_ble_eq_true rfl) dX3_startOnce_43 (fun H locs hP hD hS => ?_)
    obtain ⟨R_8, eR_8, h⟩ := tx_lt h
    rw [sRP_ra_f5, eR_8] at hP hD
    refine lv_aload_n hx hb dX3_startOnce_46 rfl (lv_at hl 0 rfl) ?_
    refine va_get (D := G) (ci := 3) (v := .ref (ka 0)) (C := RX3) (T := TX3) (N := 10) hx hb hT ku_3 hown hK hP 3 rfl rfl 0 (by decide) (hT _ kw_2_23) (fun _ h9 => h9) rfl dX3_startOnce_47 ?_
    obtain ⟨K_9, hc10, h⟩ := tx_bd h
    refine tzB_v (As := []) (rest := []) ⟨hx, hb, hml, hown, hT⟩ hP hD hS hA hK hN hB (c_X5_advance l G cA H.size bA ka ra pa K R_8 P L  K_9 hc10) (tq_gV kw_16_23 kw_15_0 kw_15_1 kw_2_22 kw_15_2) rfl rfl dkdV_yX5_advance_0 (Nat.le_of_ble_eq_true rfl) (Nat.le_of_ble_eq_true rfl) (ci := 5) (q0 := 0) rfl rfl rfl hl.1 rfl (Nat.le_of_ble_eq_true rfl) dX3_startOnce_50 ⟨Nat.le_of_ble_eq_true rfl, Nat.le_of_ble_eq_true rfl⟩ (fun _ H locs z11 hP hD hS => ?_)
    have hP : va_P G vwCl (wRP cA ka ra pa K_9 R_8 P L) H := hP
    have hD : va_D A (wRP cA ka ra pa K_9 R_8 P L) := hD
    refine lv_iconst (v := 1) hx hb dX3_startOnce_53 (by decide) ?_
    obtain ⟨rfl, rfl, rfl⟩ := tx_3 h
    exact W.zret (ty := .boolean) hx hb hr rfl (fun t ht hW => ⟨⟨_, (), rfl, rfl, by rw [ht]; exact hP, hD⟩, hS.F ht⟩) hS.2.2 dX3_startOnce_54
  · have h := tx_pos c7 h
    refine lv_iconst (v := 0) hx hb dX3_startOnce_34 (by decide) ?_
    obtain ⟨rfl, rfl, rfl⟩ := tx_3 h
    exact W.zret (ty := .boolean) hx hb hr rfl (fun t ht hW => ⟨⟨_, (), rfl, rfl, by rw [ht]; exact hP, hD⟩, hS.F ht⟩) hS.2.2 dX3_startOnce_35
set_option maxHeartbeats 4000000 in
set_option maxRecDepth 100000 in
theorem c_X3_startOnce (l : Launch) (G : va_G) (cA : Nat → ClassId) (sz : Nat) (bA : Nat) (ka : Nat → Nat) (ra : Nat → Nat) (pa : Nat → Nat) (K : Tr) (R : Tr) (P : Tr) (L : Lo)  (r0 : Int32) (K' : Tr) (R' : Tr) (h : f_X3_startOnce K R = some (r0, K', R')) : Met l yX3_startOnce (.code yX3_startOnce cX3_startOnce 2 (some .boolean) :: T0) ({ frames := 3, cells := 0, slots := 0, locals := 65 } : Room) (tqPB bA G cA [.ref (ra 0)] (wRP cA ka ra pa K R P L) sz) (tqQi G cA (fun (r : Int32) (_ : Unit) => r = r0) (fun (_ : Unit) => wRP cA ka ra pa (K') (R') P L) (va_A (wRP cA ka ra pa K R P L) sz)) 0 0 (va_A (wRP cA ka ra pa K R P L) sz) := by
  refine Met.ofW (cc := cX3_startOnce) (maxL := 2) (ret := (some .boolean)) (by decide) rfl ?_
  intro p e s m args below meth c s₁ B hml hv
  obtain ⟨rfl, hsz, hP, hK, hD0, hN, hB⟩ := hv
  have hx := B.exec
  have hb := B.bytes
  have hr := B.returns
  have hts := atoms_spec (ws := .code yX3_startOnce cX3_startOnce 2 (some .boolean) :: T0) B.pre
  have hT : ∀ w ∈ T0, w.before _ s = true := fun w h => hts w (List.mem_cons_of_mem _ h)
  have hown : s.vm.findClass RX3 = some m.cls := findClass_of_methodNamed B.named
  have hlocks := B.notSynchronized
  subst hsz
  have hD := hD0.self (sz := s.heap.size)
  generalize hAe : va_A (wRP cA ka ra pa K R P L) s.heap.size = A at hD hB ⊢
  have hA : ∀ q : Nat, s.heap.size ≤ q → A q := fun q h => by rw [← hAe]; exact Or.inr h
  have hS : va_S A s.heap s.heap [] := va_S.rf
  have hl := lv_entry ([.ref (ra 0)]) (n := 2) (Nat.le_of_ble_eq_true rfl)
  rw [lg_entry_eq]
  generalize (lg_sl ([.ref (ra 0)]) ++ List.replicate (2 - (lg_sl ([.ref (ra 0)])).length) Slot.unset).toArray = ls at hl ⊢
  have hl : lv_has ls 2 [(0, .ref (ra 0))] := hl
  have F : tF p s m ([.ref (ra 0)] : List Value).toArray meth c G cA A RX3 cX3_startOnce 2 (some .boolean) := ⟨hx, hb, hr, hml, hT, hown, hlocks, hK, hN, hA⟩
  obtain ⟨H, hH⟩ : ∃ z, z = s.heap := ⟨_, rfl⟩
  rw [← hH] at hP
  have hS : va_S A s.heap H [] := by rw [hH]; exact hS
  suffices hgo : G_X3_startOnce p l e s m below meth c G cA A bA ka ra pa P L r0 K' R' H [] (F0 m 0 ls []) by rw [hH] at hgo; exact hgo
  generalize ([] : List Loc) = locs at hS ⊢
  unfold f_X3_startOnce at h
  refine lv_iconst (v := 1) hx hb dX3_startOnce_0 (by decide) ?_
  refine lv_aload_n hx hb dX3_startOnce_1 rfl (lv_at hl 0 rfl) ?_
  refine va_get (D := G) (ci := 3) (v := .ref (ka 0)) (C := RX3) (T := TX3) (N := 10) hx hb hT ku_3 hown hK hP 3 rfl rfl 0 (by decide) (hT _ kw_2_23) (fun _ h9 => h9) rfl dX3_startOnce_2 ?_
  refine va_get (D := G) (ci := 5) (v := .int (K 0 1)) (C := RX5) (T := TX5) (N := 8) hx hb hT ku_5 hown hK hP 0 rfl rfl 1 (by decide) (hT _ kw_14_15) (fun _ h9 => h9) rfl dX3_startOnce_5 ?_
  refine lv_iconst (v := 4) hx hb dX3_startOnce_8 (by decide) ?_
  refine lv_isub hx hb dX3_startOnce_9 ?_
  refine lv_ishl hx hb dX3_startOnce_10 ?_
  refine lv_topi (fun y1 ey1 => ?_)
  have h := tx_let ey1 h
  refine lv_istore_n (lv' := [(1, .int y1), (0, .ref (ra 0))]) hx hb dX3_startOnce_11 rfl hl (by decide) rfl (fun ls hl => ?_)
  refine lv_aload_n hx hb dX3_startOnce_12 rfl (lv_at hl 1 rfl) ?_
  refine lv_aload_n hx hb dX3_startOnce_13 rfl (lv_at hl 1 rfl) ?_
  refine va_get (D := G) (ci := 3) (v := .int (R 0 5)) (C := RX3) (T := TX3) (N := 10) hx hb hT ku_3 hown hK hP 3 rfl rfl 5 (by decide) (hT _ kw_14_13) (fun _ h9 => h9) rfl dX3_startOnce_14 ?_
  refine lv_iload_n hx hb dX3_startOnce_17 rfl (lv_at hl 0 rfl) ?_
  refine lv_iand hx hb dX3_startOnce_18 ?_
  refine lv_if_ne (tgt := 26) hx hb dX3_startOnce_19 (by decide) (fun c2 => ?_) (fun c2 => ?_)
  · have h := tx_neg c2 h
    refine lv_iconst (v := 0) hx hb dX3_startOnce_26 (by decide) ?_
    exact w_X3_startOnce_J27 F hB y1 0 K R H locs ls h hP hD hS (lv_sub hl [1, 0] rfl)
  · have h := tx_pos c2 h
    refine lv_iconst (v := 1) hx hb dX3_startOnce_22 (by decide) ?_
    refine lv_goto (tgt := 27) hx hb dX3_startOnce_23 (by decide) ?_
    exact w_X3_startOnce_J27 F hB y1 1 K R H locs ls h hP hD hS (lv_sub hl [1, 0] rfl)
abbrev G_X3_takeNumber (p : Program) (l : Launch) (e : Env) (s : State) (m : MethodId) (below : List Frame) (meth : Method) (c : Code) (G : va_G) (cA : Nat → ClassId) (A : Nat → Prop) (bA : Nat) (ka : Nat → Nat) (ra : Nat → Nat) (pa : Nat → Nat) (P : Tr) (L : Lo) (x1 : Int32) (x2 : Int32) (r0 : Int32) (K' : Tr) (R' : Tr) (H : Heap) (locs : List Loc) (g : JFrame) : Prop := W p l e (headSpec (.code yX3_takeNumber cX3_takeNumber 4 (some .int) :: T0) ({ frames := 3, cells := 0, slots := 0, locals := 65 } : Room)).room s m ([.ref (ra 0), .int x1, .int x2] : List Value).toArray below meth c H locs 0 0 (MQ below (tqQi G cA (fun (r : Int32) (_ : Unit) => r = r0) (fun (_ : Unit) => wRP cA ka ra pa (K') (R') P L) A) ([.ref (ra 0), .int x1, .int x2] : List Value).toArray s 0 0 A) g
set_option maxHeartbeats 4000000 in
set_option maxRecDepth 100000 in
theorem w_X3_takeNumber_J49 {p : Program} {l : Launch} {e : Env} {s : State} {m : MethodId} {below : List Frame} {meth : Method} {c : Code} {G : va_G} {cA : Nat → ClassId} {A : Nat → Prop} {bA : Nat} {ka : Nat → Nat} {ra : Nat → Nat} {pa : Nat → Nat} {P : Tr} {L : Lo} {x1₀ : Int32} {x2₀ : Int32} {r0 : Int32} {K' : Tr} {R' : Tr} (F : tF p s m ([.ref (ra 0), .int x1₀, .int x2₀] : List Value).toArray meth c G cA A RX3 cX3_takeNumber 4 (some .int)) (hB : tqB bA A s s.heap)    (x3 : Int32) (s0 : Int32) (K : Tr) (R : Tr) (H : Heap) (locs : List Loc) (ls : Array Slot) (h : fJ_X3_takeNumber_J49 x3 s0 K R = some (r0, K', R')) (hP : va_P G vwCl (wRP cA ka ra pa K R P L) H) (hD : va_D A (wRP cA ka ra pa K R P L)) (hS : va_S A s.heap H locs) (hl : lv_has ls 4 [(0, .ref (ra 0)), (3, .int x3)]) : G_X3_takeNumber p l e s m below meth c G cA A bA ka ra pa P L x1₀ x2₀ r0 K' R' H locs (F0 m 49 ls [.int s0, .ref (ra 0)]) := by
  obtain ⟨hx, hb, hr, hml, hT, hown, hlocks, hK, hN, hA⟩ := id F
  unfold fJ_X3_takeNumber_J49 at h
  refine lv_iconst (v := 2) hx hb dX3_takeNumber_49 (by decide) ?_
  obtain ⟨⟨r9, R_10⟩, hc11, h⟩ := tx_bd h
  replace h := tx_let (y := r9) rfl h
  replace h := tx_let (y := R_10) rfl h
  refine tzB_i (As := [.int s0, .int 2]) (rest := []) ⟨hx, hb, hml, hown, hT⟩ hP hD hS hA hK hN hB (c_X3_expect l G cA H.size bA ka ra pa K R P L s0 (2 : Int32)  r9 R_10 hc11) (tq_gV kw_16_18 kw_16_19 kw_16_20 kw_1_15 kw_16_21) rfl rfl dkdV_yX3_expect_2 (Nat.le_of_ble_eq_true rfl) (Nat.le_of_ble_eq_true rfl) (ci := 3) (q0 := 3) rfl rfl rfl hl.1 rfl (Nat.le_of_ble_eq_true rfl) dX3_takeNumber_50 ⟨Nat.le_of_ble_eq_true rfl, Nat.le_of_ble_eq_true rfl⟩ (fun _ _ H locs z12 hP hD hS => ?_)
  have z12 := z12.symm
  subst z12
  have hP : va_P G vwCl (wRP cA ka ra pa K R_10 P L) H := hP
  have hD : va_D A (wRP cA ka ra pa K R_10 P L) := hD
  refine lv_if_ne (tgt := 58) hx hb dX3_takeNumber_53 (by decide) (fun c13 => ?_) (fun c13 => ?_)
  · have h := tx_neg c13 h
    refine lv_aload_n hx hb dX3_takeNumber_58 rfl (lv_at hl 0 rfl) ?_
    refine va_get (D := G) (ci := 3) (v := .ref (ka 0)) (C := RX3) (T := TX3) (N := 10) hx hb hT ku_3 hown hK hP 3 rfl rfl 0 (by decide) (hT _ kw_2_23) (fun _ h9 => h9) rfl dX3_takeNumber_59 ?_
    obtain ⟨K_14, hc15, h⟩ := tx_bd h
    refine tzB_v (As := []) (rest := []) ⟨hx, hb, hml, hown, hT⟩ hP hD hS hA hK hN hB (c_X5_advance l G cA H.size bA ka ra pa K R_10 P L  K_14 hc15) (tq_gV kw_16_23 kw_15_0 kw_15_1 kw_2_22 kw_15_2) rfl rfl dkdV_yX5_advance_0 (Nat.le_of_ble_eq_true rfl) (Nat.le_of_ble_eq_true rfl) (ci := 5) (q0 := 0) rfl rfl rfl hl.1 rfl (Nat.le_of_ble_eq_true rfl) dX3_takeNumber_62 ⟨Nat.le_of_ble_eq_true rfl, Nat.le_of_ble_eq_true rfl⟩ (fun _ H locs z16 hP hD hS => ?_)
    have hP : va_P G vwCl (wRP cA ka ra pa K_14 R_10 P L) H := hP
    have hD : va_D A (wRP cA ka ra pa K_14 R_10 P L) := hD
    refine lv_iload_n hx hb dX3_takeNumber_65 rfl (lv_at hl 1 rfl) ?_
    obtain ⟨rfl, rfl, rfl⟩ := tx_3 h
    exact W.iret hx hb hr (fun t ht hW => ⟨⟨_, (), rfl, rfl, by rw [ht]; exact hP, hD⟩, hS.F ht⟩) hS.2.2 dX3_takeNumber_66
  · have h := tx_pos c13 h
    refine lv_iconst (v := (-1)) hx hb dX3_takeNumber_56 (by decide) ?_
    obtain ⟨rfl, rfl, rfl⟩ := tx_3 h
    exact W.iret hx hb hr (fun t ht hW => ⟨⟨_, (), rfl, rfl, by rw [ht]; exact hP, hD⟩, hS.F ht⟩) hS.2.2 dX3_takeNumber_57
set_option maxHeartbeats 4000000 in
set_option maxRecDepth 100000 in
theorem w_X3_takeNumber_J48 {p : Program} {l : Launch} {e : Env} {s : State} {m : MethodId} {below : List Frame} {meth : Method} {c : Code} {G : va_G} {cA : Nat → ClassId} {A : Nat → Prop} {bA : Nat} {ka : Nat → Nat} {ra : Nat → Nat} {pa : Nat → Nat} {P : Tr} {L : Lo} {x1₀ : Int32} {x2₀ : Int32} {r0 : Int32} {K' : Tr} {R' : Tr} (F : tF p s m ([.ref (ra 0), .int x1₀, .int x2₀] : List Value).toArray meth c G cA A RX3 cX3_takeNumber 4 (some .int)) (hB : tqB bA A s s.heap)    (x3 : Int32) (K : Tr) (R : Tr) (H : Heap) (locs : List Loc) (ls : Array Slot) (h : fJ_X3_takeNumber_J48 x3 K R = some (r0, K', R')) (hP : va_P G vwCl (wRP cA ka ra pa K R P L) H) (hD : va_D A (wRP cA ka ra pa K R P L)) (hS : va_S A s.heap H locs) (hl : lv_has ls 4 [(0, .ref (ra 0)), (3, .int x3)]) : G_X3_takeNumber p l e s m below meth c G cA A bA ka ra pa P L x1₀ x2₀ r0 K' R' H locs (F0 m 48 ls [.ref (ra 0)]) := by
  obtain ⟨hx, hb, hr, hml, hT, hown, hlocks, hK, hN, hA⟩ := id F
  unfold fJ_X3_takeNumber_J48 at h
  refine lv_iconst (v := 0) hx hb dX3_takeNumber_48 (by decide) ?_
  exact w_X3_takeNumber_J49 F hB x3 0 K R H locs ls h hP hD hS (lv_sub hl [0, 1] rfl)
set_option maxHeartbeats 4000000 in
set_option maxRecDepth 100000 in
theorem w_X3_takeNumber_J26 {p : Program} {l : Launch} {e : Env} {s : State} {m : MethodId} {below : List Frame} {meth : Method} {c : Code} {G : va_G} {cA : Nat → ClassId} {A : Nat → Prop} {bA : Nat} {ka : Nat → Nat} {ra : Nat → Nat} {pa : Nat → Nat} {P : Tr} {L : Lo} {x1₀ : Int32} {x2₀ : Int32} {r0 : Int32} {K' : Tr} {R' : Tr} (F : tF p s m ([.ref (ra 0), .int x1₀, .int x2₀] : List Value).toArray meth c G cA A RX3 cX3_takeNumber 4 (some .int)) (hB : tqB bA A s s.heap)    (x1 : Int32) (x2 : Int32) (x3 : Int32) (s0 : Int32) (K : Tr) (R : Tr) (H : Heap) (locs : List Loc) (ls : Array Slot) (h : fJ_X3_takeNumber_J26 x1 x2 x3 s0 K R = some (r0, K', R')) (hP : va_P G vwCl (wRP cA ka ra pa K R P L) H) (hD : va_D A (wRP cA ka ra pa K R P L)) (hS : va_S A s.heap H locs) (hl : lv_has ls 4 [(0, .ref (ra 0)), (1, .int x1), (2, .int x2), (3, .int x3)]) : G_X3_takeNumber p l e s m below meth c G cA A bA ka ra pa P L x1₀ x2₀ r0 K' R' H locs (F0 m 26 ls [.int s0, .ref (ra 0)]) := by
  obtain ⟨hx, hb, hr, hml, hT, hown, hlocks, hK, hN, hA⟩ := id F
  unfold fJ_X3_takeNumber_J26 at h
  refine lv_iconst (v := 1) hx hb dX3_takeNumber_26 (by decide) ?_
  obtain ⟨⟨r3, R_4⟩, hc5, h⟩ := tx_bd h
  replace h := tx_let (y := r3) rfl h
  replace h := tx_let (y := R_4) rfl h
  refine tzB_i (As := [.int s0, .int 1]) (rest := []) ⟨hx, hb, hml, hown, hT⟩ hP hD hS hA hK hN hB (c_X3_expect l G cA H.size bA ka ra pa K R P L s0 (1 : Int32)  r3 R_4 hc5) (tq_gV kw_16_18 kw_16_19 kw_16_20 kw_1_15 kw_16_21) rfl rfl dkdV_yX3_expect_2 (Nat.le_of_ble_eq_true rfl) (Nat.le_of_ble_eq_true rfl) (ci := 3) (q0 := 3) rfl rfl rfl hl.1 rfl (Nat.le_of_ble_eq_true rfl) dX3_takeNumber_27 ⟨Nat.le_of_ble_eq_true rfl, Nat.le_of_ble_eq_true rfl⟩ (fun _ _ H locs z6 hP hD hS => ?_)
  have z6 := z6.symm
  subst z6
  have hP : va_P G vwCl (wRP cA ka ra pa K R_4 P L) H := hP
  have hD : va_D A (wRP cA ka ra pa K R_4 P L) := hD
  refine lv_if_eq (tgt := 56) hx hb dX3_takeNumber_30 (by decide) (fun c7 => ?_) (fun c7 => ?_)
  · have h := tx_pos c7 h
    refine lv_iconst (v := (-1)) hx hb dX3_takeNumber_56 (by decide) ?_
    obtain ⟨rfl, rfl, rfl⟩ := tx_3 h
    exact W.iret hx hb hr (fun t ht hW => ⟨⟨_, (), rfl, rfl, by rw [ht]; exact hP, hD⟩, hS.F ht⟩) hS.2.2 dX3_takeNumber_57
  · have h := tx_neg c7 h
    refine lv_aload_n hx hb dX3_takeNumber_33 rfl (lv_at hl 0 rfl) ?_
    refine lv_iload_n hx hb dX3_takeNumber_34 rfl (lv_at hl 3 rfl) ?_
    refine lv_iload_n hx hb dX3_takeNumber_35 rfl (lv_at hl 1 rfl) ?_
    refine lv_icmp_lt (tgt := 48) hx hb dX3_takeNumber_36 (by decide) (fun c8 => ?_) (fun c8 => ?_)
    · have h := tx_pos c8 h
      exact w_X3_takeNumber_J48 F hB x3 K R_4 H locs ls h hP hD hS (lv_sub hl [0, 3] rfl)
    · have h := tx_neg c8 h
      refine lv_iload_n hx hb dX3_takeNumber_39 rfl (lv_at hl 3 rfl) ?_
      refine lv_iload_n hx hb dX3_takeNumber_40 rfl (lv_at hl 2 rfl) ?_
      refine lv_icmp_gt (tgt := 48) hx hb dX3_takeNumber_41 (by decide) (fun c17 => ?_) (fun c17 => ?_)
      · have h := tx_pos c17 h
        exact w_X3_takeNumber_J48 F hB x3 K R_4 H locs ls h hP hD hS (lv_sub hl [0, 3] rfl)
      · have h := tx_neg c17 h
        refine lv_iconst (v := 1) hx hb dX3_takeNumber_44 (by decide) ?_
        refine lv_goto (tgt := 49) hx hb dX3_takeNumber_45 (by decide) ?_
        exact w_X3_takeNumber_J49 F hB x3 1 K R_4 H locs ls h hP hD hS (lv_sub hl [0, 3] rfl)
set_option maxHeartbeats 4000000 in
set_option maxRecDepth 100000 in
theorem c_X3_takeNumber (l : Launch) (G : va_G) (cA : Nat → ClassId) (sz : Nat) (bA : Nat) (ka : Nat → Nat) (ra : Nat → Nat) (pa : Nat → Nat) (K : Tr) (R : Tr) (P : Tr) (L : Lo) (x1 : Int32) (x2 : Int32)  (r0 : Int32) (K' : Tr) (R' : Tr) (h : f_X3_takeNumber K R x1 x2 = some (r0, K', R')) : Met l yX3_takeNumber (.code yX3_takeNumber cX3_takeNumber 4 (some .int) :: T0) ({ frames := 3, cells := 0, slots := 0, locals := 65 } : Room) (tqPB bA G cA [.ref (ra 0), .int x1, .int x2] (wRP cA ka ra pa K R P L) sz) (tqQi G cA (fun (r : Int32) (_ : Unit) => r = r0) (fun (_ : Unit) => wRP cA ka ra pa (K') (R') P L) (va_A (wRP cA ka ra pa K R P L) sz)) 0 0 (va_A (wRP cA ka ra pa K R P L) sz) := by
  refine Met.ofW (cc := cX3_takeNumber) (maxL := 4) (ret := (some .int)) (by decide) rfl ?_
  intro p e s m args below meth c s₁ B hml hv
  obtain ⟨rfl, hsz, hP, hK, hD0, hN, hB⟩ := hv
  have hx := B.exec
  have hb := B.bytes
  have hr := B.returns
  have hts := atoms_spec (ws := .code yX3_takeNumber cX3_takeNumber 4 (some .int) :: T0) B.pre
  have hT : ∀ w ∈ T0, w.before _ s = true := fun w h => hts w (List.mem_cons_of_mem _ h)
  have hown : s.vm.findClass RX3 = some m.cls := findClass_of_methodNamed B.named
  have hlocks := B.notSynchronized
  subst hsz
  have hD := hD0.self (sz := s.heap.size)
  generalize hAe : va_A (wRP cA ka ra pa K R P L) s.heap.size = A at hD hB ⊢
  have hA : ∀ q : Nat, s.heap.size ≤ q → A q := fun q h => by rw [← hAe]; exact Or.inr h
  have hS : va_S A s.heap s.heap [] := va_S.rf
  have hl := lv_entry ([.ref (ra 0), .int x1, .int x2]) (n := 4) (Nat.le_of_ble_eq_true rfl)
  rw [lg_entry_eq]
  generalize (lg_sl ([.ref (ra 0), .int x1, .int x2]) ++ List.replicate (4 - (lg_sl ([.ref (ra 0), .int x1, .int x2])).length) Slot.unset).toArray = ls at hl ⊢
  have hl : lv_has ls 4 [(0, .ref (ra 0)), (1, .int x1), (2, .int x2)] := hl
  have F : tF p s m ([.ref (ra 0), .int x1, .int x2] : List Value).toArray meth c G cA A RX3 cX3_takeNumber 4 (some .int) := ⟨hx, hb, hr, hml, hT, hown, hlocks, hK, hN, hA⟩
  obtain ⟨H, hH⟩ : ∃ z, z = s.heap := ⟨_, rfl⟩
  rw [← hH] at hP
  have hS : va_S A s.heap H [] := by rw [hH]; exact hS
  suffices hgo : G_X3_takeNumber p l e s m below meth c G cA A bA ka ra pa P L x1 x2 r0 K' R' H [] (F0 m 0 ls []) by rw [hH] at hgo; exact hgo
  generalize ([] : List Loc) = locs at hS ⊢
  unfold f_X3_takeNumber at h
  refine lv_aload_n hx hb dX3_takeNumber_0 rfl (lv_at hl 0 rfl) ?_
  refine va_get (D := G) (ci := 3) (v := .ref (ka 0)) (C := RX3) (T := TX3) (N := 10) hx hb hT ku_3 hown hK hP 3 rfl rfl 0 (by decide) (hT _ kw_2_23) (fun _ h9 => h9) rfl dX3_takeNumber_1 ?_
  refine va_get (D := G) (ci := 5) (v := .int (K 0 3)) (C := RX5) (T := TX5) (N := 8) hx hb hT ku_5 hown hK hP 0 rfl rfl 3 (by decide) (hT _ kw_17_8) (fun _ h9 => h9) rfl dX3_takeNumber_4 ?_
  refine lv_topi (fun y1 ey1 => ?_)
  have h := tx_let ey1 h
  refine lv_istore_n (lv' := [(3, .int y1), (0, .ref (ra 0)), (1, .int x1), (2, .int x2)]) hx hb dX3_takeNumber_7 rfl hl (by decide) rfl (fun ls hl => ?_)
  refine lv_aload_n hx hb dX3_takeNumber_8 rfl (lv_at hl 1 rfl) ?_
  refine lv_aload_n hx hb dX3_takeNumber_9 rfl (lv_at hl 1 rfl) ?_
  refine va_get (D := G) (ci := 3) (v := .ref (ka 0)) (C := RX3) (T := TX3) (N := 10) hx hb hT ku_3 hown hK hP 3 rfl rfl 0 (by decide) (hT _ kw_2_23) (fun _ h9 => h9) rfl dX3_takeNumber_10 ?_
  refine va_get (D := G) (ci := 5) (v := .int (K 0 1)) (C := RX5) (T := TX5) (N := 8) hx hb hT ku_5 hown hK hP 0 rfl rfl 1 (by decide) (hT _ kw_14_15) (fun _ h9 => h9) rfl dX3_takeNumber_13 ?_
  refine lv_bipush (v := 42) hx hb dX3_takeNumber_16 (by decide) ?_
  refine lv_icmp_ne (tgt := 25) hx hb dX3_takeNumber_18 (by decide) (fun c2 => ?_) (fun c2 => ?_)
  · have h := tx_neg c2 h
    refine lv_iconst (v := 0) hx hb dX3_takeNumber_25 (by decide) ?_
    exact w_X3_takeNumber_J26 F hB x1 x2 y1 0 K R H locs ls h hP hD hS (lv_sub hl [1, 2, 3, 0] rfl)
  · have h := tx_pos c2 h
    refine lv_iconst (v := 1) hx hb dX3_takeNumber_21 (by decide) ?_
    refine lv_goto (tgt := 26) hx hb dX3_takeNumber_22 (by decide) ?_
    exact w_X3_takeNumber_J26 F hB x1 x2 y1 1 K R H locs ls h hP hD hS (lv_sub hl [1, 2, 3, 0] rfl)
abbrev G_X3_readSeed (p : Program) (l : Launch) (e : Env) (s : State) (m : MethodId) (below : List Frame) (meth : Method) (c : Code) (G : va_G) (cA : Nat → ClassId) (A : Nat → Prop) (bA : Nat) (ka : Nat → Nat) (ra : Nat → Nat) (pa : Nat → Nat) (L : Lo) (r0 : Int32) (K' : Tr) (R' : Tr) (P' : Tr) (H : Heap) (locs : List Loc) (g : JFrame) : Prop := W p l e (headSpec (.code yX3_readSeed cX3_readSeed 1 (some .boolean) :: T0) ({ frames := 4, cells := 0, slots := 0, locals := 88 } : Room)).room s m ([.ref (ra 0)] : List Value).toArray below meth c H locs 0 0 (MQ below (tqQi G cA (fun (r : Int32) (_ : Unit) => r = r0) (fun (_ : Unit) => wRP cA ka ra pa (K') (R') (P') L) A) ([.ref (ra 0)] : List Value).toArray s 0 0 A) g
set_option maxHeartbeats 4000000 in
set_option maxRecDepth 100000 in
theorem c_X3_readSeed (l : Launch) (G : va_G) (cA : Nat → ClassId) (sz : Nat) (bA : Nat) (ka : Nat → Nat) (ra : Nat → Nat) (pa : Nat → Nat) (K : Tr) (R : Tr) (P : Tr) (L : Lo)  (r0 : Int32) (K' : Tr) (R' : Tr) (P' : Tr) (h : f_X3_readSeed K R P = some (r0, K', R', P')) : Met l yX3_readSeed (.code yX3_readSeed cX3_readSeed 1 (some .boolean) :: T0) ({ frames := 4, cells := 0, slots := 0, locals := 88 } : Room) (tqPB bA G cA [.ref (ra 0)] (wRP cA ka ra pa K R P L) sz) (tqQi G cA (fun (r : Int32) (_ : Unit) => r = r0) (fun (_ : Unit) => wRP cA ka ra pa (K') (R') (P') L) (va_A (wRP cA ka ra pa K R P L) sz)) 0 0 (va_A (wRP cA ka ra pa K R P L) sz) := by
  refine Met.ofW (cc := cX3_readSeed) (maxL := 1) (ret := (some .boolean)) (by decide) rfl ?_
  intro p e s m args below meth c s₁ B hml hv
  obtain ⟨rfl, hsz, hP, hK, hD0, hN, hB⟩ := hv
  have hx := B.exec
  have hb := B.bytes
  have hr := B.returns
  have hts := atoms_spec (ws := .code yX3_readSeed cX3_readSeed 1 (some .boolean) :: T0) B.pre
  have hT : ∀ w ∈ T0, w.before _ s = true := fun w h => hts w (List.mem_cons_of_mem _ h)
  have hown : s.vm.findClass RX3 = some m.cls := findClass_of_methodNamed B.named
  have hlocks := B.notSynchronized
  subst hsz
  have hD := hD0.self (sz := s.heap.size)
  generalize hAe : va_A (wRP cA ka ra pa K R P L) s.heap.size = A at hD hB ⊢
  have hA : ∀ q : Nat, s.heap.size ≤ q → A q := fun q h => by rw [← hAe]; exact Or.inr h
  have hS : va_S A s.heap s.heap [] := va_S.rf
  have hl := lv_entry ([.ref (ra 0)]) (n := 1) (Nat.le_of_ble_eq_true rfl)
  rw [lg_entry_eq]
  generalize (lg_sl ([.ref (ra 0)]) ++ List.replicate (1 - (lg_sl ([.ref (ra 0)])).length) Slot.unset).toArray = ls at hl ⊢
  have hl : lv_has ls 1 [(0, .ref (ra 0))] := hl
  have F : tF p s m ([.ref (ra 0)] : List Value).toArray meth c G cA A RX3 cX3_readSeed 1 (some .boolean) := ⟨hx, hb, hr, hml, hT, hown, hlocks, hK, hN, hA⟩
  obtain ⟨H, hH⟩ : ∃ z, z = s.heap := ⟨_, rfl⟩
  rw [← hH] at hP
  have hS : va_S A s.heap H [] := by rw [hH]; exact hS
  suffices hgo : G_X3_readSeed p l e s m below meth c G cA A bA ka ra pa L r0 K' R' P' H [] (F0 m 0 ls []) by rw [hH] at hgo; exact hgo
  generalize ([] : List Loc) = locs at hS ⊢
  unfold f_X3_readSeed at h
  refine lv_aload_n hx hb dX3_readSeed_0 rfl (lv_at hl 0 rfl) ?_
  obtain ⟨⟨r1, K_2, R_3⟩, hc4, h⟩ := tx_bd h
  replace h := tx_let (y := r1) rfl h
  replace h := tx_let (y := K_2) rfl h
  replace h := tx_let (y := R_3) rfl h
  refine tzB_i (As := []) (rest := []) ⟨hx, hb, hml, hown, hT⟩ hP hD hS hA hK hN hB (c_X3_startOnce l G cA H.size bA ka ra pa K R P L  r1 K_2 R_3 hc4) (tq_gV kw_19_0 kw_19_1 kw_19_2 kw_1_15 kw_19_3) rfl rfl dkdV_yX3_startOnce_0 (Nat.le_of_ble_eq_true rfl) (Nat.le_of_ble_eq_true rfl) (ci := 3) (q0 := 3) rfl rfl rfl hl.1 rfl (Nat.le_of_ble_eq_true rfl) dX3_readSeed_1 ⟨Nat.le_of_ble_eq_true rfl, Nat.le_of_ble_eq_true rfl⟩ (fun _ _ H locs z5 hP hD hS => ?_)
  have z5 := z5.symm
  subst z5
  have hP : va_P G vwCl (wRP cA ka ra pa K_2 R_3 P L) H := hP
  have hD : va_D A (wRP cA ka ra pa K_2 R_3 P L) := hD
  refine lv_if_ne (tgt := 9) hx hb dX3_readSeed_4 (by decide) (fun c6 => ?_) (fun c6 => ?_)
  · have h := tx_neg c6 h
    refine lv_aload_n hx hb dX3_readSeed_9 rfl (lv_at hl 0 rfl) ?_
    refine va_get (D := G) (ci := 3) (v := .ref (pa 0)) (C := RX3) (T := TX3) (N := 10) hx hb hT ku_3 hown hK hP 3 rfl rfl 4 (by decide) (hT _ kw_3_4) (fun _ h9 => h9) rfl dX3_readSeed_10 ?_
    refine lv_aload_n hx hb dX3_readSeed_13 rfl (lv_at hl 0 rfl) ?_
    refine lv_iconst (v := 0) hx hb dX3_readSeed_14 (by decide) ?_
    refine lv_ldc (v := 99999) hx hb hown (hT _ kw_19_13) dX3_readSeed_15 ?_
    obtain ⟨⟨r7, K_8, R_9⟩, hc10, h⟩ := tx_bd h
    replace h := tx_let (y := r7) rfl h
    replace h := tx_let (y := K_8) rfl h
    replace h := tx_let (y := R_9) rfl h
    refine tzB_i (As := [.int 0, .int 99999]) (rest := [.ref (pa 0)]) ⟨hx, hb, hml, hown, hT⟩ hP hD hS hA hK hN hB (c_X3_takeNumber l G cA H.size bA ka ra pa K_2 R_3 P L (0 : Int32) (99999 : Int32)  r7 K_8 R_9 hc10) (tq_gV kw_17_4 kw_17_5 kw_17_6 kw_1_15 kw_17_7) rfl rfl dkdV_yX3_takeNumber_2 (Nat.le_of_ble_eq_true rfl) (Nat.le_of_ble_eq_true rfl) (ci := 3) (q0 := 3) rfl rfl rfl hl.1 rfl (Nat.le_of_ble_eq_true rfl) dX3_readSeed_17 ⟨Nat.le_of_ble_eq_true rfl, Nat.le_of_ble_eq_true rfl⟩ (fun _ _ H locs z11 hP hD hS => ?_)
    have z11 := z11.symm
    subst z11
    have hP : va_P G vwCl (wRP cA ka ra pa K_8 R_9 P L) H := hP
    have hD : va_D A (wRP cA ka ra pa K_8 R_9 P L) := hD
    refine va_put (D := G) (ci := 2) (v := .int r7) (ty := .int) (C := RX2) (T := TX2) (N := 19) hx hb hT ku_2 tyX2 tyX2_ok nmX2 hown hK hP hD hS 5 rfl rfl 6 (by decide) (hT _ kw_19_14) (fun _ h9 => h9) rfl (by decide +kernel) rfl rfl (Nat.le_of_ble_eq_true rfl) dX3_readSeed_20 (fun H locs hP hD hS => ?_)
    obtain ⟨P_12, eP_12, h⟩ := tx_lt h
    rw [sRP_pa_f6, eP_12] at hP hD
    refine lv_aload_n hx hb dX3_readSeed_23 rfl (lv_at hl 0 rfl) ?_
    refine va_get (D := G) (ci := 3) (v := .ref (pa 0)) (C := RX3) (T := TX3) (N := 10) hx hb hT ku_3 hown hK hP 3 rfl rfl 4 (by decide) (hT _ kw_3_4) (fun _ h9 => h9) rfl dX3_readSeed_24 ?_
    refine va_get (D := G) (ci := 2) (v := .int (P_12 0 6)) (C := RX2) (T := TX2) (N := 19) hx hb hT ku_2 hown hK hP 5 rfl rfl 6 (by decide) (hT _ kw_19_14) (fun _ h9 => h9) rfl dX3_readSeed_27 ?_
    refine lv_if_lt (tgt := 37) hx hb dX3_readSeed_30 (by decide) (fun c13 => ?_) (fun c13 => ?_)
    · have h := tx_pos c13 h
      refine lv_iconst (v := 0) hx hb dX3_readSeed_37 (by decide) ?_
      obtain ⟨rfl, rfl, rfl, rfl⟩ := tx_4 h
      exact W.zret (ty := .boolean) hx hb hr rfl (fun t ht hW => ⟨⟨_, (), rfl, rfl, by rw [ht]; exact hP, hD⟩, hS.F ht⟩) hS.2.2 dX3_readSeed_38
    · have h := tx_neg c13 h
      refine lv_iconst (v := 1) hx hb dX3_readSeed_33 (by decide) ?_
      refine lv_goto (tgt := 38) hx hb dX3_readSeed_34 (by decide) ?_
      obtain ⟨rfl, rfl, rfl, rfl⟩ := tx_4 h
      exact W.zret (ty := .boolean) hx hb hr rfl (fun t ht hW => ⟨⟨_, (), rfl, rfl, by rw [ht]; exact hP, hD⟩, hS.F ht⟩) hS.2.2 dX3_readSeed_38
  · have h := tx_pos c6 h
    refine lv_iconst (v := 0) hx hb dX3_readSeed_7 (by decide) ?_
    obtain ⟨rfl, rfl, rfl, rfl⟩ := tx_4 h
    exact W.zret (ty := .boolean) hx hb hr rfl (fun t ht hW => ⟨⟨_, (), rfl, rfl, by rw [ht]; exact hP, hD⟩, hS.F ht⟩) hS.2.2 dX3_readSeed_8
abbrev G_X3_readCurve (p : Program) (l : Launch) (e : Env) (s : State) (m : MethodId) (below : List Frame) (meth : Method) (c : Code) (G : va_G) (cA : Nat → ClassId) (A : Nat → Prop) (bA : Nat) (ka : Nat → Nat) (ra : Nat → Nat) (pa : Nat → Nat) (L : Lo) (r0 : Int32) (K' : Tr) (R' : Tr) (P' : Tr) (H : Heap) (locs : List Loc) (g : JFrame) : Prop := W p l e (headSpec (.code yX3_readCurve cX3_readCurve 1 (some .boolean) :: T0) ({ frames := 4, cells := 0, slots := 0, locals := 88 } : Room)).room s m ([.ref (ra 0)] : List Value).toArray below meth c H locs 0 0 (MQ below (tqQi G cA (fun (r : Int32) (_ : Unit) => r = r0) (fun (_ : Unit) => wRP cA ka ra pa (K') (R') (P') L) A) ([.ref (ra 0)] : List Value).toArray s 0 0 A) g
set_option maxHeartbeats 4000000 in
set_option maxRecDepth 100000 in
theorem c_X3_readCurve (l : Launch) (G : va_G) (cA : Nat → ClassId) (sz : Nat) (bA : Nat) (ka : Nat → Nat) (ra : Nat → Nat) (pa : Nat → Nat) (K : Tr) (R : Tr) (P : Tr) (L : Lo)  (r0 : Int32) (K' : Tr) (R' : Tr) (P' : Tr) (h : f_X3_readCurve K R P = some (r0, K', R', P')) : Met l yX3_readCurve (.code yX3_readCurve cX3_readCurve 1 (some .boolean) :: T0) ({ frames := 4, cells := 0, slots := 0, locals := 88 } : Room) (tqPB bA G cA [.ref (ra 0)] (wRP cA ka ra pa K R P L) sz) (tqQi G cA (fun (r : Int32) (_ : Unit) => r = r0) (fun (_ : Unit) => wRP cA ka ra pa (K') (R') (P') L) (va_A (wRP cA ka ra pa K R P L) sz)) 0 0 (va_A (wRP cA ka ra pa K R P L) sz) := by
  refine Met.ofW (cc := cX3_readCurve) (maxL := 1) (ret := (some .boolean)) (by decide) rfl ?_
  intro p e s m args below meth c s₁ B hml hv
  obtain ⟨rfl, hsz, hP, hK, hD0, hN, hB⟩ := hv
  have hx := B.exec
  have hb := B.bytes
  have hr := B.returns
  have hts := atoms_spec (ws := .code yX3_readCurve cX3_readCurve 1 (some .boolean) :: T0) B.pre
  have hT : ∀ w ∈ T0, w.before _ s = true := fun w h => hts w (List.mem_cons_of_mem _ h)
  have hown : s.vm.findClass RX3 = some m.cls := findClass_of_methodNamed B.named
  have hlocks := B.notSynchronized
  subst hsz
  have hD := hD0.self (sz := s.heap.size)
  generalize hAe : va_A (wRP cA ka ra pa K R P L) s.heap.size = A at hD hB ⊢
  have hA : ∀ q : Nat, s.heap.size ≤ q → A q := fun q h => by rw [← hAe]; exact Or.inr h
  have hS : va_S A s.heap s.heap [] := va_S.rf
  have hl := lv_entry ([.ref (ra 0)]) (n := 1) (Nat.le_of_ble_eq_true rfl)
  rw [lg_entry_eq]
  generalize (lg_sl ([.ref (ra 0)]) ++ List.replicate (1 - (lg_sl ([.ref (ra 0)])).length) Slot.unset).toArray = ls at hl ⊢
  have hl : lv_has ls 1 [(0, .ref (ra 0))] := hl
  have F : tF p s m ([.ref (ra 0)] : List Value).toArray meth c G cA A RX3 cX3_readCurve 1 (some .boolean) := ⟨hx, hb, hr, hml, hT, hown, hlocks, hK, hN, hA⟩
  obtain ⟨H, hH⟩ : ∃ z, z = s.heap := ⟨_, rfl⟩
  rw [← hH] at hP
  have hS : va_S A s.heap H [] := by rw [hH]; exact hS
  suffices hgo : G_X3_readCurve p l e s m below meth c G cA A bA ka ra pa L r0 K' R' P' H [] (F0 m 0 ls []) by rw [hH] at hgo; exact hgo
  generalize ([] : List Loc) = locs at hS ⊢
  unfold f_X3_readCurve at h
  refine lv_aload_n hx hb dX3_readCurve_0 rfl (lv_at hl 0 rfl) ?_
  obtain ⟨⟨r1, K_2, R_3⟩, hc4, h⟩ := tx_bd h
  replace h := tx_let (y := r1) rfl h
  replace h := tx_let (y := K_2) rfl h
  replace h := tx_let (y := R_3) rfl h
  refine tzB_i (As := []) (rest := []) ⟨hx, hb, hml, hown, hT⟩ hP hD hS hA hK hN hB (c_X3_startOnce l G cA H.size bA ka ra pa K R P L  r1 K_2 R_3 hc4) (tq_gV kw_19_0 kw_19_1 kw_19_2 kw_1_15 kw_19_3) rfl rfl dkdV_yX3_startOnce_0 (Nat.le_of_ble_eq_true rfl) (Nat.le_of_ble_eq_true rfl) (ci := 3) (q0 := 3) rfl rfl rfl hl.1 rfl (Nat.le_of_ble_eq_true rfl) dX3_readCurve_1 ⟨Nat.le_of_ble_eq_true rfl, Nat.le_of_ble_eq_true rfl⟩ (fun _ _ H locs z5 hP hD hS => ?_)
  have z5 := z5.symm
  subst z5
  have hP : va_P G vwCl (wRP cA ka ra pa K_2 R_3 P L) H := hP
  have hD : va_D A (wRP cA ka ra pa K_2 R_3 P L) := hD
  refine lv_if_ne (tgt := 9) hx hb dX3_readCurve_4 (by decide) (fun c6 => ?_) (fun c6 => ?_)
  · have h := tx_neg c6 h
    refine lv_aload_n hx hb dX3_readCurve_9 rfl (lv_at hl 0 rfl) ?_
    refine va_get (D := G) (ci := 3) (v := .ref (pa 0)) (C := RX3) (T := TX3) (N := 10) hx hb hT ku_3 hown hK hP 3 rfl rfl 4 (by decide) (hT _ kw_3_4) (fun _ h9 => h9) rfl dX3_readCurve_10 ?_
    refine lv_aload_n hx hb dX3_readCurve_13 rfl (lv_at hl 0 rfl) ?_
    refine lv_iconst (v := 0) hx hb dX3_readCurve_14 (by decide) ?_
    refine lv_bipush (v := 99) hx hb dX3_readCurve_15 (by decide) ?_
    obtain ⟨⟨r7, K_8, R_9⟩, hc10, h⟩ := tx_bd h
    replace h := tx_let (y := r7) rfl h
    replace h := tx_let (y := K_8) rfl h
    replace h := tx_let (y := R_9) rfl h
    refine tzB_i (As := [.int 0, .int 99]) (rest := [.ref (pa 0)]) ⟨hx, hb, hml, hown, hT⟩ hP hD hS hA hK hN hB (c_X3_takeNumber l G cA H.size bA ka ra pa K_2 R_3 P L (0 : Int32) (99 : Int32)  r7 K_8 R_9 hc10) (tq_gV kw_17_4 kw_17_5 kw_17_6 kw_1_15 kw_17_7) rfl rfl dkdV_yX3_takeNumber_2 (Nat.le_of_ble_eq_true rfl) (Nat.le_of_ble_eq_true rfl) (ci := 3) (q0 := 3) rfl rfl rfl hl.1 rfl (Nat.le_of_ble_eq_true rfl) dX3_readCurve_17 ⟨Nat.le_of_ble_eq_true rfl, Nat.le_of_ble_eq_true rfl⟩ (fun _ _ H locs z11 hP hD hS => ?_)
    have z11 := z11.symm
    subst z11
    have hP : va_P G vwCl (wRP cA ka ra pa K_8 R_9 P L) H := hP
    have hD : va_D A (wRP cA ka ra pa K_8 R_9 P L) := hD
    refine va_put (D := G) (ci := 2) (v := .int r7) (ty := .int) (C := RX2) (T := TX2) (N := 19) hx hb hT ku_2 tyX2 tyX2_ok nmX2 hown hK hP hD hS 5 rfl rfl 5 (by decide) (hT _ kw_19_8) (fun _ h9 => h9) rfl (by decide +kernel) rfl rfl (Nat.le_of_ble_eq_true rfl) dX3_readCurve_20 (fun H locs hP hD hS => ?_)
    obtain ⟨P_12, eP_12, h⟩ := tx_lt h
    rw [sRP_pa_f5, eP_12] at hP hD
    refine lv_aload_n hx hb dX3_readCurve_23 rfl (lv_at hl 0 rfl) ?_
    refine va_get (D := G) (ci := 3) (v := .ref (pa 0)) (C := RX3) (T := TX3) (N := 10) hx hb hT ku_3 hown hK hP 3 rfl rfl 4 (by decide) (hT _ kw_3_4) (fun _ h9 => h9) rfl dX3_readCurve_24 ?_
    refine va_get (D := G) (ci := 2) (v := .int (P_12 0 5)) (C := RX2) (T := TX2) (N := 19) hx hb hT ku_2 hown hK hP 5 rfl rfl 5 (by decide) (hT _ kw_19_8) (fun _ h9 => h9) rfl dX3_readCurve_27 ?_
    refine lv_if_lt (tgt := 37) hx hb dX3_readCurve_30 (by decide) (fun c13 => ?_) (fun c13 => ?_)
    · have h := tx_pos c13 h
      refine lv_iconst (v := 0) hx hb dX3_readCurve_37 (by decide) ?_
      obtain ⟨rfl, rfl, rfl, rfl⟩ := tx_4 h
      exact W.zret (ty := .boolean) hx hb hr rfl (fun t ht hW => ⟨⟨_, (), rfl, rfl, by rw [ht]; exact hP, hD⟩, hS.F ht⟩) hS.2.2 dX3_readCurve_38
    · have h := tx_neg c13 h
      refine lv_iconst (v := 1) hx hb dX3_readCurve_33 (by decide) ?_
      refine lv_goto (tgt := 38) hx hb dX3_readCurve_34 (by decide) ?_
      obtain ⟨rfl, rfl, rfl, rfl⟩ := tx_4 h
      exact W.zret (ty := .boolean) hx hb hr rfl (fun t ht hW => ⟨⟨_, (), rfl, rfl, by rw [ht]; exact hP, hD⟩, hS.F ht⟩) hS.2.2 dX3_readCurve_38
  · have h := tx_pos c6 h
    refine lv_iconst (v := 0) hx hb dX3_readCurve_7 (by decide) ?_
    obtain ⟨rfl, rfl, rfl, rfl⟩ := tx_4 h
    exact W.zret (ty := .boolean) hx hb hr rfl (fun t ht hW => ⟨⟨_, (), rfl, rfl, by rw [ht]; exact hP, hD⟩, hS.F ht⟩) hS.2.2 dX3_readCurve_8
abbrev G_X3_takeWord (p : Program) (l : Launch) (e : Env) (s : State) (m : MethodId) (below : List Frame) (meth : Method) (c : Code) (G : va_G) (cA : Nat → ClassId) (A : Nat → Prop) (bA : Nat) (ka : Nat → Nat) (ra : Nat → Nat) (pa : Nat → Nat) (P : Tr) (L : Lo) (x1 : Int32) (x2 : Int32) (r0 : Int32) (K' : Tr) (R' : Tr) (H : Heap) (locs : List Loc) (g : JFrame) : Prop := W p l e (headSpec (.code yX3_takeWord cX3_takeWord 4 (some .int) :: T0) ({ frames := 3, cells := 0, slots := 0, locals := 65 } : Room)).room s m ([.ref (ra 0), .int x1, .int x2] : List Value).toArray below meth c H locs 0 0 (MQ below (tqQi G cA (fun (r : Int32) (_ : Unit) => r = r0) (fun (_ : Unit) => wRP cA ka ra pa (K') (R') P L) A) ([.ref (ra 0), .int x1, .int x2] : List Value).toArray s 0 0 A) g
set_option maxHeartbeats 4000000 in
set_option maxRecDepth 100000 in
theorem w_X3_takeWord_J24 {p : Program} {l : Launch} {e : Env} {s : State} {m : MethodId} {below : List Frame} {meth : Method} {c : Code} {G : va_G} {cA : Nat → ClassId} {A : Nat → Prop} {bA : Nat} {ka : Nat → Nat} {ra : Nat → Nat} {pa : Nat → Nat} {P : Tr} {L : Lo} {x1₀ : Int32} {x2₀ : Int32} {r0 : Int32} {K' : Tr} {R' : Tr} (F : tF p s m ([.ref (ra 0), .int x1₀, .int x2₀] : List Value).toArray meth c G cA A RX3 cX3_takeWord 4 (some .int)) (hB : tqB bA A s s.heap)    (x1 : Int32) (x3 : Int32) (s0 : Int32) (K : Tr) (R : Tr) (H : Heap) (locs : List Loc) (ls : Array Slot) (h : fJ_X3_takeWord_J24 x1 x3 s0 K R = some (r0, K', R')) (hP : va_P G vwCl (wRP cA ka ra pa K R P L) H) (hD : va_D A (wRP cA ka ra pa K R P L)) (hS : va_S A s.heap H locs) (hl : lv_has ls 4 [(0, .ref (ra 0)), (1, .int x1), (3, .int x3)]) : G_X3_takeWord p l e s m below meth c G cA A bA ka ra pa P L x1₀ x2₀ r0 K' R' H locs (F0 m 24 ls [.int s0, .ref (ra 0)]) := by
  obtain ⟨hx, hb, hr, hml, hT, hown, hlocks, hK, hN, hA⟩ := id F
  unfold fJ_X3_takeWord_J24 at h
  refine lv_iconst (v := 1) hx hb dX3_takeWord_24 (by decide) ?_
  obtain ⟨⟨r3, R_4⟩, hc5, h⟩ := tx_bd h
  replace h := tx_let (y := r3) rfl h
  replace h := tx_let (y := R_4) rfl h
  refine tzB_i (As := [.int s0, .int 1]) (rest := []) ⟨hx, hb, hml, hown, hT⟩ hP hD hS hA hK hN hB (c_X3_expect l G cA H.size bA ka ra pa K R P L s0 (1 : Int32)  r3 R_4 hc5) (tq_gV kw_16_18 kw_16_19 kw_16_20 kw_1_15 kw_16_21) rfl rfl dkdV_yX3_expect_2 (Nat.le_of_ble_eq_true rfl) (Nat.le_of_ble_eq_true rfl) (ci := 3) (q0 := 3) rfl rfl rfl hl.1 rfl (Nat.le_of_ble_eq_true rfl) dX3_takeWord_25 ⟨Nat.le_of_ble_eq_true rfl, Nat.le_of_ble_eq_true rfl⟩ (fun _ _ H locs z6 hP hD hS => ?_)
  have z6 := z6.symm
  subst z6
  have hP : va_P G vwCl (wRP cA ka ra pa K R_4 P L) H := hP
  have hD : va_D A (wRP cA ka ra pa K R_4 P L) := hD
  refine lv_if_ne (tgt := 33) hx hb dX3_takeWord_28 (by decide) (fun c7 => ?_) (fun c7 => ?_)
  · have h := tx_neg c7 h
    refine lv_aload_n hx hb dX3_takeWord_33 rfl (lv_at hl 0 rfl) ?_
    refine va_get (D := G) (ci := 3) (v := .ref (ka 0)) (C := RX3) (T := TX3) (N := 10) hx hb hT ku_3 hown hK hP 3 rfl rfl 0 (by decide) (hT _ kw_2_23) (fun _ h9 => h9) rfl dX3_takeWord_34 ?_
    obtain ⟨K_8, hc9, h⟩ := tx_bd h
    refine tzB_v (As := []) (rest := []) ⟨hx, hb, hml, hown, hT⟩ hP hD hS hA hK hN hB (c_X5_advance l G cA H.size bA ka ra pa K R_4 P L  K_8 hc9) (tq_gV kw_16_23 kw_15_0 kw_15_1 kw_2_22 kw_15_2) rfl rfl dkdV_yX5_advance_0 (Nat.le_of_ble_eq_true rfl) (Nat.le_of_ble_eq_true rfl) (ci := 5) (q0 := 0) rfl rfl rfl hl.1 rfl (Nat.le_of_ble_eq_true rfl) dX3_takeWord_37 ⟨Nat.le_of_ble_eq_true rfl, Nat.le_of_ble_eq_true rfl⟩ (fun _ H locs z10 hP hD hS => ?_)
    have hP : va_P G vwCl (wRP cA ka ra pa K_8 R_4 P L) H := hP
    have hD : va_D A (wRP cA ka ra pa K_8 R_4 P L) := hD
    refine lv_iload_n hx hb dX3_takeWord_40 rfl (lv_at hl 2 rfl) ?_
    refine lv_iload_n hx hb dX3_takeWord_41 rfl (lv_at hl 1 rfl) ?_
    refine lv_isub hx hb dX3_takeWord_42 ?_
    obtain ⟨rfl, rfl, rfl⟩ := tx_3 h
    exact W.iret hx hb hr (fun t ht hW => ⟨⟨_, (), rfl, rfl, by rw [ht]; exact hP, hD⟩, hS.F ht⟩) hS.2.2 dX3_takeWord_43
  · have h := tx_pos c7 h
    refine lv_iconst (v := (-1)) hx hb dX3_takeWord_31 (by decide) ?_
    obtain ⟨rfl, rfl, rfl⟩ := tx_3 h
    exact W.iret hx hb hr (fun t ht hW => ⟨⟨_, (), rfl, rfl, by rw [ht]; exact hP, hD⟩, hS.F ht⟩) hS.2.2 dX3_takeWord_32
set_option maxHeartbeats 4000000 in
set_option maxRecDepth 100000 in
theorem w_X3_takeWord_J23 {p : Program} {l : Launch} {e : Env} {s : State} {m : MethodId} {below : List Frame} {meth : Method} {c : Code} {G : va_G} {cA : Nat → ClassId} {A : Nat → Prop} {bA : Nat} {ka : Nat → Nat} {ra : Nat → Nat} {pa : Nat → Nat} {P : Tr} {L : Lo} {x1₀ : Int32} {x2₀ : Int32} {r0 : Int32} {K' : Tr} {R' : Tr} (F : tF p s m ([.ref (ra 0), .int x1₀, .int x2₀] : List Value).toArray meth c G cA A RX3 cX3_takeWord 4 (some .int)) (hB : tqB bA A s s.heap)    (x1 : Int32) (x3 : Int32) (K : Tr) (R : Tr) (H : Heap) (locs : List Loc) (ls : Array Slot) (h : fJ_X3_takeWord_J23 x1 x3 K R = some (r0, K', R')) (hP : va_P G vwCl (wRP cA ka ra pa K R P L) H) (hD : va_D A (wRP cA ka ra pa K R P L)) (hS : va_S A s.heap H locs) (hl : lv_has ls 4 [(0, .ref (ra 0)), (1, .int x1), (3, .int x3)]) : G_X3_takeWord p l e s m below meth c G cA A bA ka ra pa P L x1₀ x2₀ r0 K' R' H locs (F0 m 23 ls [.ref (ra 0)]) := by
  obtain ⟨hx, hb, hr, hml, hT, hown, hlocks, hK, hN, hA⟩ := id F
  unfold fJ_X3_takeWord_J23 at h
  refine lv_iconst (v := 0) hx hb dX3_takeWord_23 (by decide) ?_
  exact w_X3_takeWord_J24 F hB x1 x3 0 K R H locs ls h hP hD hS (lv_sub hl [0, 1, 2] rfl)
set_option maxHeartbeats 4000000 in
set_option maxRecDepth 100000 in
theorem c_X3_takeWord (l : Launch) (G : va_G) (cA : Nat → ClassId) (sz : Nat) (bA : Nat) (ka : Nat → Nat) (ra : Nat → Nat) (pa : Nat → Nat) (K : Tr) (R : Tr) (P : Tr) (L : Lo) (x1 : Int32) (x2 : Int32)  (r0 : Int32) (K' : Tr) (R' : Tr) (h : f_X3_takeWord K R x1 x2 = some (r0, K', R')) : Met l yX3_takeWord (.code yX3_takeWord cX3_takeWord 4 (some .int) :: T0) ({ frames := 3, cells := 0, slots := 0, locals := 65 } : Room) (tqPB bA G cA [.ref (ra 0), .int x1, .int x2] (wRP cA ka ra pa K R P L) sz) (tqQi G cA (fun (r : Int32) (_ : Unit) => r = r0) (fun (_ : Unit) => wRP cA ka ra pa (K') (R') P L) (va_A (wRP cA ka ra pa K R P L) sz)) 0 0 (va_A (wRP cA ka ra pa K R P L) sz) := by
  refine Met.ofW (cc := cX3_takeWord) (maxL := 4) (ret := (some .int)) (by decide) rfl ?_
  intro p e s m args below meth c s₁ B hml hv
  obtain ⟨rfl, hsz, hP, hK, hD0, hN, hB⟩ := hv
  have hx := B.exec
  have hb := B.bytes
  have hr := B.returns
  have hts := atoms_spec (ws := .code yX3_takeWord cX3_takeWord 4 (some .int) :: T0) B.pre
  have hT : ∀ w ∈ T0, w.before _ s = true := fun w h => hts w (List.mem_cons_of_mem _ h)
  have hown : s.vm.findClass RX3 = some m.cls := findClass_of_methodNamed B.named
  have hlocks := B.notSynchronized
  subst hsz
  have hD := hD0.self (sz := s.heap.size)
  generalize hAe : va_A (wRP cA ka ra pa K R P L) s.heap.size = A at hD hB ⊢
  have hA : ∀ q : Nat, s.heap.size ≤ q → A q := fun q h => by rw [← hAe]; exact Or.inr h
  have hS : va_S A s.heap s.heap [] := va_S.rf
  have hl := lv_entry ([.ref (ra 0), .int x1, .int x2]) (n := 4) (Nat.le_of_ble_eq_true rfl)
  rw [lg_entry_eq]
  generalize (lg_sl ([.ref (ra 0), .int x1, .int x2]) ++ List.replicate (4 - (lg_sl ([.ref (ra 0), .int x1, .int x2])).length) Slot.unset).toArray = ls at hl ⊢
  have hl : lv_has ls 4 [(0, .ref (ra 0)), (1, .int x1), (2, .int x2)] := hl
  have F : tF p s m ([.ref (ra 0), .int x1, .int x2] : List Value).toArray meth c G cA A RX3 cX3_takeWord 4 (some .int) := ⟨hx, hb, hr, hml, hT, hown, hlocks, hK, hN, hA⟩
  obtain ⟨H, hH⟩ : ∃ z, z = s.heap := ⟨_, rfl⟩
  rw [← hH] at hP
  have hS : va_S A s.heap H [] := by rw [hH]; exact hS
  suffices hgo : G_X3_takeWord p l e s m below meth c G cA A bA ka ra pa P L x1 x2 r0 K' R' H [] (F0 m 0 ls []) by rw [hH] at hgo; exact hgo
  generalize ([] : List Loc) = locs at hS ⊢
  unfold f_X3_takeWord at h
  refine lv_aload_n hx hb dX3_takeWord_0 rfl (lv_at hl 0 rfl) ?_
  refine va_get (D := G) (ci := 3) (v := .ref (ka 0)) (C := RX3) (T := TX3) (N := 10) hx hb hT ku_3 hown hK hP 3 rfl rfl 0 (by decide) (hT _ kw_2_23) (fun _ h9 => h9) rfl dX3_takeWord_1 ?_
  refine va_get (D := G) (ci := 5) (v := .int (K 0 1)) (C := RX5) (T := TX5) (N := 8) hx hb hT ku_5 hown hK hP 0 rfl rfl 1 (by decide) (hT _ kw_14_15) (fun _ h9 => h9) rfl dX3_takeWord_4 ?_
  refine lv_topi (fun y1 ey1 => ?_)
  have h := tx_let ey1 h
  refine lv_istore_n (lv' := [(3, .int y1), (0, .ref (ra 0)), (1, .int x1), (2, .int x2)]) hx hb dX3_takeWord_7 rfl hl (by decide) rfl (fun ls hl => ?_)
  refine lv_aload_n hx hb dX3_takeWord_8 rfl (lv_at hl 1 rfl) ?_
  refine lv_iload_n hx hb dX3_takeWord_9 rfl (lv_at hl 0 rfl) ?_
  refine lv_iload_n hx hb dX3_takeWord_10 rfl (lv_at hl 2 rfl) ?_
  refine lv_icmp_lt (tgt := 23) hx hb dX3_takeWord_11 (by decide) (fun c2 => ?_) (fun c2 => ?_)
  · have h := tx_pos c2 h
    exact w_X3_takeWord_J23 F hB x1 y1 K R H locs ls h hP hD hS (lv_sub hl [1, 2, 0] rfl)
  · have h := tx_neg c2 h
    refine lv_iload_n hx hb dX3_takeWord_14 rfl (lv_at hl 0 rfl) ?_
    refine lv_iload_n hx hb dX3_takeWord_15 rfl (lv_at hl 3 rfl) ?_
    refine lv_icmp_gt (tgt := 23) hx hb dX3_takeWord_16 (by decide) (fun c11 => ?_) (fun c11 => ?_)
    · have h := tx_pos c11 h
      exact w_X3_takeWord_J23 F hB x1 y1 K R H locs ls h hP hD hS (lv_sub hl [1, 2, 0] rfl)
    · have h := tx_neg c11 h
      refine lv_iconst (v := 1) hx hb dX3_takeWord_19 (by decide) ?_
      refine lv_goto (tgt := 24) hx hb dX3_takeWord_20 (by decide) ?_
      exact w_X3_takeWord_J24 F hB x1 y1 1 K R H locs ls h hP hD hS (lv_sub hl [1, 2, 0] rfl)
abbrev G_X3_readRule (p : Program) (l : Launch) (e : Env) (s : State) (m : MethodId) (below : List Frame) (meth : Method) (c : Code) (G : va_G) (cA : Nat → ClassId) (A : Nat → Prop) (bA : Nat) (ka : Nat → Nat) (ra : Nat → Nat) (pa : Nat → Nat) (L : Lo) (r0 : Int32) (K' : Tr) (R' : Tr) (P' : Tr) (H : Heap) (locs : List Loc) (g : JFrame) : Prop := W p l e (headSpec (.code yX3_readRule cX3_readRule 1 (some .boolean) :: T0) ({ frames := 4, cells := 0, slots := 0, locals := 88 } : Room)).room s m ([.ref (ra 0)] : List Value).toArray below meth c H locs 0 0 (MQ below (tqQi G cA (fun (r : Int32) (_ : Unit) => r = r0) (fun (_ : Unit) => wRP cA ka ra pa (K') (R') (P') L) A) ([.ref (ra 0)] : List Value).toArray s 0 0 A) g
set_option maxHeartbeats 4000000 in
set_option maxRecDepth 100000 in
theorem c_X3_readRule (l : Launch) (G : va_G) (cA : Nat → ClassId) (sz : Nat) (bA : Nat) (ka : Nat → Nat) (ra : Nat → Nat) (pa : Nat → Nat) (K : Tr) (R : Tr) (P : Tr) (L : Lo)  (r0 : Int32) (K' : Tr) (R' : Tr) (P' : Tr) (h : f_X3_readRule K R P = some (r0, K', R', P')) : Met l yX3_readRule (.code yX3_readRule cX3_readRule 1 (some .boolean) :: T0) ({ frames := 4, cells := 0, slots := 0, locals := 88 } : Room) (tqPB bA G cA [.ref (ra 0)] (wRP cA ka ra pa K R P L) sz) (tqQi G cA (fun (r : Int32) (_ : Unit) => r = r0) (fun (_ : Unit) => wRP cA ka ra pa (K') (R') (P') L) (va_A (wRP cA ka ra pa K R P L) sz)) 0 0 (va_A (wRP cA ka ra pa K R P L) sz) := by
  refine Met.ofW (cc := cX3_readRule) (maxL := 1) (ret := (some .boolean)) (by decide) rfl ?_
  intro p e s m args below meth c s₁ B hml hv
  obtain ⟨rfl, hsz, hP, hK, hD0, hN, hB⟩ := hv
  have hx := B.exec
  have hb := B.bytes
  have hr := B.returns
  have hts := atoms_spec (ws := .code yX3_readRule cX3_readRule 1 (some .boolean) :: T0) B.pre
  have hT : ∀ w ∈ T0, w.before _ s = true := fun w h => hts w (List.mem_cons_of_mem _ h)
  have hown : s.vm.findClass RX3 = some m.cls := findClass_of_methodNamed B.named
  have hlocks := B.notSynchronized
  subst hsz
  have hD := hD0.self (sz := s.heap.size)
  generalize hAe : va_A (wRP cA ka ra pa K R P L) s.heap.size = A at hD hB ⊢
  have hA : ∀ q : Nat, s.heap.size ≤ q → A q := fun q h => by rw [← hAe]; exact Or.inr h
  have hS : va_S A s.heap s.heap [] := va_S.rf
  have hl := lv_entry ([.ref (ra 0)]) (n := 1) (Nat.le_of_ble_eq_true rfl)
  rw [lg_entry_eq]
  generalize (lg_sl ([.ref (ra 0)]) ++ List.replicate (1 - (lg_sl ([.ref (ra 0)])).length) Slot.unset).toArray = ls at hl ⊢
  have hl : lv_has ls 1 [(0, .ref (ra 0))] := hl
  have F : tF p s m ([.ref (ra 0)] : List Value).toArray meth c G cA A RX3 cX3_readRule 1 (some .boolean) := ⟨hx, hb, hr, hml, hT, hown, hlocks, hK, hN, hA⟩
  obtain ⟨H, hH⟩ : ∃ z, z = s.heap := ⟨_, rfl⟩
  rw [← hH] at hP
  have hS : va_S A s.heap H [] := by rw [hH]; exact hS
  suffices hgo : G_X3_readRule p l e s m below meth c G cA A bA ka ra pa L r0 K' R' P' H [] (F0 m 0 ls []) by rw [hH] at hgo; exact hgo
  generalize ([] : List Loc) = locs at hS ⊢
  unfold f_X3_readRule at h
  refine lv_aload_n hx hb dX3_readRule_0 rfl (lv_at hl 0 rfl) ?_
  obtain ⟨⟨r1, K_2, R_3⟩, hc4, h⟩ := tx_bd h
  replace h := tx_let (y := r1) rfl h
  replace h := tx_let (y := K_2) rfl h
  replace h := tx_let (y := R_3) rfl h
  refine tzB_i (As := []) (rest := []) ⟨hx, hb, hml, hown, hT⟩ hP hD hS hA hK hN hB (c_X3_startOnce l G cA H.size bA ka ra pa K R P L  r1 K_2 R_3 hc4) (tq_gV kw_19_0 kw_19_1 kw_19_2 kw_1_15 kw_19_3) rfl rfl dkdV_yX3_startOnce_0 (Nat.le_of_ble_eq_true rfl) (Nat.le_of_ble_eq_true rfl) (ci := 3) (q0 := 3) rfl rfl rfl hl.1 rfl (Nat.le_of_ble_eq_true rfl) dX3_readRule_1 ⟨Nat.le_of_ble_eq_true rfl, Nat.le_of_ble_eq_true rfl⟩ (fun _ _ H locs z5 hP hD hS => ?_)
  have z5 := z5.symm
  subst z5
  have hP : va_P G vwCl (wRP cA ka ra pa K_2 R_3 P L) H := hP
  have hD : va_D A (wRP cA ka ra pa K_2 R_3 P L) := hD
  refine lv_if_ne (tgt := 9) hx hb dX3_readRule_4 (by decide) (fun c6 => ?_) (fun c6 => ?_)
  · have h := tx_neg c6 h
    refine lv_aload_n hx hb dX3_readRule_9 rfl (lv_at hl 0 rfl) ?_
    refine va_get (D := G) (ci := 3) (v := .ref (pa 0)) (C := RX3) (T := TX3) (N := 10) hx hb hT ku_3 hown hK hP 3 rfl rfl 4 (by decide) (hT _ kw_3_4) (fun _ h9 => h9) rfl dX3_readRule_10 ?_
    refine lv_aload_n hx hb dX3_readRule_13 rfl (lv_at hl 0 rfl) ?_
    refine lv_bipush (v := 13) hx hb dX3_readRule_14 (by decide) ?_
    refine lv_bipush (v := 15) hx hb dX3_readRule_16 (by decide) ?_
    obtain ⟨⟨r7, K_8, R_9⟩, hc10, h⟩ := tx_bd h
    replace h := tx_let (y := r7) rfl h
    replace h := tx_let (y := K_8) rfl h
    replace h := tx_let (y := R_9) rfl h
    refine tzB_i (As := [.int 13, .int 15]) (rest := [.ref (pa 0)]) ⟨hx, hb, hml, hown, hT⟩ hP hD hS hA hK hN hB (c_X3_takeWord l G cA H.size bA ka ra pa K_2 R_3 P L (13 : Int32) (15 : Int32)  r7 K_8 R_9 hc10) (tq_gV kw_17_0 kw_17_1 kw_17_2 kw_1_15 kw_17_3) rfl rfl dkdV_yX3_takeWord_2 (Nat.le_of_ble_eq_true rfl) (Nat.le_of_ble_eq_true rfl) (ci := 3) (q0 := 3) rfl rfl rfl hl.1 rfl (Nat.le_of_ble_eq_true rfl) dX3_readRule_18 ⟨Nat.le_of_ble_eq_true rfl, Nat.le_of_ble_eq_true rfl⟩ (fun _ _ H locs z11 hP hD hS => ?_)
    have z11 := z11.symm
    subst z11
    have hP : va_P G vwCl (wRP cA ka ra pa K_8 R_9 P L) H := hP
    have hD : va_D A (wRP cA ka ra pa K_8 R_9 P L) := hD
    refine va_put (D := G) (ci := 2) (v := .int r7) (ty := .int) (C := RX2) (T := TX2) (N := 19) hx hb hT ku_2 tyX2 tyX2_ok nmX2 hown hK hP hD hS 5 rfl rfl 4 (by decide) (hT _ kw_18_23) (fun _ h9 => h9) rfl (by decide +kernel) rfl rfl (Nat.le_of_ble_eq_true rfl) dX3_readRule_21 (fun H locs hP hD hS => ?_)
    obtain ⟨P_12, eP_12, h⟩ := tx_lt h
    rw [sRP_pa_f4, eP_12] at hP hD
    refine lv_aload_n hx hb dX3_readRule_24 rfl (lv_at hl 0 rfl) ?_
    refine va_get (D := G) (ci := 3) (v := .ref (pa 0)) (C := RX3) (T := TX3) (N := 10) hx hb hT ku_3 hown hK hP 3 rfl rfl 4 (by decide) (hT _ kw_3_4) (fun _ h9 => h9) rfl dX3_readRule_25 ?_
    refine va_get (D := G) (ci := 2) (v := .int (P_12 0 4)) (C := RX2) (T := TX2) (N := 19) hx hb hT ku_2 hown hK hP 5 rfl rfl 4 (by decide) (hT _ kw_18_23) (fun _ h9 => h9) rfl dX3_readRule_28 ?_
    refine lv_if_lt (tgt := 38) hx hb dX3_readRule_31 (by decide) (fun c13 => ?_) (fun c13 => ?_)
    · have h := tx_pos c13 h
      refine lv_iconst (v := 0) hx hb dX3_readRule_38 (by decide) ?_
      obtain ⟨rfl, rfl, rfl, rfl⟩ := tx_4 h
      exact W.zret (ty := .boolean) hx hb hr rfl (fun t ht hW => ⟨⟨_, (), rfl, rfl, by rw [ht]; exact hP, hD⟩, hS.F ht⟩) hS.2.2 dX3_readRule_39
    · have h := tx_neg c13 h
      refine lv_iconst (v := 1) hx hb dX3_readRule_34 (by decide) ?_
      refine lv_goto (tgt := 39) hx hb dX3_readRule_35 (by decide) ?_
      obtain ⟨rfl, rfl, rfl, rfl⟩ := tx_4 h
      exact W.zret (ty := .boolean) hx hb hr rfl (fun t ht hW => ⟨⟨_, (), rfl, rfl, by rw [ht]; exact hP, hD⟩, hS.F ht⟩) hS.2.2 dX3_readRule_39
  · have h := tx_pos c6 h
    refine lv_iconst (v := 0) hx hb dX3_readRule_7 (by decide) ?_
    obtain ⟨rfl, rfl, rfl, rfl⟩ := tx_4 h
    exact W.zret (ty := .boolean) hx hb hr rfl (fun t ht hW => ⟨⟨_, (), rfl, rfl, by rw [ht]; exact hP, hD⟩, hS.F ht⟩) hS.2.2 dX3_readRule_8
abbrev G_J6_bitCount_0f7a4 (p : Program) (l : Launch) (e : Env) (s : State) (m : MethodId) (below : List Frame) (meth : Method) (c : Code) (G : va_G) (cA : Nat → ClassId) (A : Nat → Prop) (x0 : Int32) (r0 : Int32) (H : Heap) (locs : List Loc) (g : JFrame) : Prop := W p l e (headSpec (.code yJ6_bitCount_0f7a4 cJ6_bitCount_0f7a4 1 (some .int) :: T0) ({ frames := 0, cells := 0, slots := 0, locals := 0 } : Room)).room s m ([.int x0] : List Value).toArray below meth c H locs 0 0 (MQ below (tqQi G cA (fun (r : Int32) (_ : Unit) => r = r0) (fun (_ : Unit) => ([] : va_W)) A) ([.int x0] : List Value).toArray s 0 0 A) g
set_option maxHeartbeats 4000000 in
set_option maxRecDepth 100000 in
theorem c_J6_bitCount_0f7a4 (l : Launch) (G : va_G) (cA : Nat → ClassId) (sz : Nat) (x0 : Int32)  (r0 : Int32) (h : f_J6_bitCount_0f7a4 x0 = some r0) : Met l yJ6_bitCount_0f7a4 (.code yJ6_bitCount_0f7a4 cJ6_bitCount_0f7a4 1 (some .int) :: T0) ({ frames := 0, cells := 0, slots := 0, locals := 0 } : Room) (tqP G cA [.int x0] (([] : va_W)) sz) (tqQi G cA (fun (r : Int32) (_ : Unit) => r = r0) (fun (_ : Unit) => ([] : va_W)) (va_A (([] : va_W)) sz)) 0 0 (va_A (([] : va_W)) sz) := by
  refine Met.ofW (cc := cJ6_bitCount_0f7a4) (maxL := 1) (ret := (some .int)) (by decide) rfl ?_
  intro p e s m args below meth c s₁ B hml hv
  obtain ⟨rfl, hsz, hP, hK, hD0, hN⟩ := hv
  have hx := B.exec
  have hb := B.bytes
  have hr := B.returns
  have hts := atoms_spec (ws := .code yJ6_bitCount_0f7a4 cJ6_bitCount_0f7a4 1 (some .int) :: T0) B.pre
  have hT : ∀ w ∈ T0, w.before _ s = true := fun w h => hts w (List.mem_cons_of_mem _ h)
  have hown : s.vm.findClass RJ6 = some m.cls := findClass_of_methodNamed B.named
  have hlocks := B.notSynchronized
  subst hsz
  have hD := hD0.self (sz := s.heap.size)
  generalize hAe : va_A (([] : va_W)) s.heap.size = A at hD ⊢
  have hA : ∀ q : Nat, s.heap.size ≤ q → A q := fun q h => by rw [← hAe]; exact Or.inr h
  have hS : va_S A s.heap s.heap [] := va_S.rf
  have hl := lv_entry ([.int x0]) (n := 1) (Nat.le_of_ble_eq_true rfl)
  rw [lg_entry_eq]
  generalize (lg_sl ([.int x0]) ++ List.replicate (1 - (lg_sl ([.int x0])).length) Slot.unset).toArray = ls at hl ⊢
  have hl : lv_has ls 1 [(0, .int x0)] := hl
  have F : tF p s m ([.int x0] : List Value).toArray meth c G cA A RJ6 cJ6_bitCount_0f7a4 1 (some .int) := ⟨hx, hb, hr, hml, hT, hown, hlocks, hK, hN, hA⟩
  obtain ⟨H, hH⟩ : ∃ z, z = s.heap := ⟨_, rfl⟩
  rw [← hH] at hP
  have hS : va_S A s.heap H [] := by rw [hH]; exact hS
  suffices hgo : G_J6_bitCount_0f7a4 p l e s m below meth c G cA A x0 r0 H [] (F0 m 0 ls []) by rw [hH] at hgo; exact hgo
  generalize ([] : List Loc) = locs at hS ⊢
  unfold f_J6_bitCount_0f7a4 at h
  refine lv_iload_n hx hb dJ6_bitCount_0f7a4_0 rfl (lv_at hl 0 rfl) ?_
  refine lv_iload_n hx hb dJ6_bitCount_0f7a4_1 rfl (lv_at hl 0 rfl) ?_
  refine lv_iconst (v := 1) hx hb dJ6_bitCount_0f7a4_2 (by decide) ?_
  refine lv_iushr hx hb dJ6_bitCount_0f7a4_3 rfl ?_
  refine lv_ldcw (v := 1431655765) hx hb hown (hT _ kw_18_16) dJ6_bitCount_0f7a4_4 ?_
  refine lv_iand hx hb dJ6_bitCount_0f7a4_7 ?_
  refine lv_isub hx hb dJ6_bitCount_0f7a4_8 ?_
  refine lv_topi (fun y1 ey1 => ?_)
  have h := tx_let ey1 h
  refine lv_istore_n (lv' := [(0, .int y1)]) hx hb dJ6_bitCount_0f7a4_9 rfl hl (by decide) rfl (fun ls hl => ?_)
  refine lv_iload_n hx hb dJ6_bitCount_0f7a4_10 rfl (lv_at hl 0 rfl) ?_
  refine lv_ldcw (v := 858993459) hx hb hown (hT _ kw_18_17) dJ6_bitCount_0f7a4_11 ?_
  refine lv_iand hx hb dJ6_bitCount_0f7a4_14 ?_
  refine lv_iload_n hx hb dJ6_bitCount_0f7a4_15 rfl (lv_at hl 0 rfl) ?_
  refine lv_iconst (v := 2) hx hb dJ6_bitCount_0f7a4_16 (by decide) ?_
  refine lv_iushr hx hb dJ6_bitCount_0f7a4_17 rfl ?_
  refine lv_ldcw (v := 858993459) hx hb hown (hT _ kw_18_17) dJ6_bitCount_0f7a4_18 ?_
  refine lv_iand hx hb dJ6_bitCount_0f7a4_21 ?_
  refine lv_iadd hx hb dJ6_bitCount_0f7a4_22 ?_
  refine lv_topi (fun y2 ey2 => ?_)
  have h := tx_let ey2 h
  refine lv_istore_n (lv' := [(0, .int y2)]) hx hb dJ6_bitCount_0f7a4_23 rfl hl (by decide) rfl (fun ls hl => ?_)
  refine lv_iload_n hx hb dJ6_bitCount_0f7a4_24 rfl (lv_at hl 0 rfl) ?_
  refine lv_iload_n hx hb dJ6_bitCount_0f7a4_25 rfl (lv_at hl 0 rfl) ?_
  refine lv_iconst (v := 4) hx hb dJ6_bitCount_0f7a4_26 (by decide) ?_
  refine lv_iushr hx hb dJ6_bitCount_0f7a4_27 rfl ?_
  refine lv_iadd hx hb dJ6_bitCount_0f7a4_28 ?_
  refine lv_ldcw (v := 252645135) hx hb hown (hT _ kw_18_18) dJ6_bitCount_0f7a4_29 ?_
  refine lv_iand hx hb dJ6_bitCount_0f7a4_32 ?_
  refine lv_topi (fun y3 ey3 => ?_)
  have h := tx_let ey3 h
  refine lv_istore_n (lv' := [(0, .int y3)]) hx hb dJ6_bitCount_0f7a4_33 rfl hl (by decide) rfl (fun ls hl => ?_)
  refine lv_iload_n hx hb dJ6_bitCount_0f7a4_34 rfl (lv_at hl 0 rfl) ?_
  refine lv_iload_n hx hb dJ6_bitCount_0f7a4_35 rfl (lv_at hl 0 rfl) ?_
  refine lv_bipush (v := 8) hx hb dJ6_bitCount_0f7a4_36 (by decide) ?_
  refine lv_iushr hx hb dJ6_bitCount_0f7a4_38 rfl ?_
  refine lv_iadd hx hb dJ6_bitCount_0f7a4_39 ?_
  refine lv_topi (fun y4 ey4 => ?_)
  have h := tx_let ey4 h
  refine lv_istore_n (lv' := [(0, .int y4)]) hx hb dJ6_bitCount_0f7a4_40 rfl hl (by decide) rfl (fun ls hl => ?_)
  refine lv_iload_n hx hb dJ6_bitCount_0f7a4_41 rfl (lv_at hl 0 rfl) ?_
  refine lv_iload_n hx hb dJ6_bitCount_0f7a4_42 rfl (lv_at hl 0 rfl) ?_
  refine lv_bipush (v := 16) hx hb dJ6_bitCount_0f7a4_43 (by decide) ?_
  refine lv_iushr hx hb dJ6_bitCount_0f7a4_45 rfl ?_
  refine lv_iadd hx hb dJ6_bitCount_0f7a4_46 ?_
  refine lv_topi (fun y5 ey5 => ?_)
  have h := tx_let ey5 h
  refine lv_istore_n (lv' := [(0, .int y5)]) hx hb dJ6_bitCount_0f7a4_47 rfl hl (by decide) rfl (fun ls hl => ?_)
  refine lv_iload_n hx hb dJ6_bitCount_0f7a4_48 rfl (lv_at hl 0 rfl) ?_
  refine lv_bipush (v := 63) hx hb dJ6_bitCount_0f7a4_49 (by decide) ?_
  refine lv_iand hx hb dJ6_bitCount_0f7a4_51 ?_
  obtain rfl := tx_1 h
  exact W.iret hx hb hr (fun t ht hW => ⟨⟨_, (), rfl, rfl, by rw [ht]; exact hP, hD⟩, hS.F ht⟩) hS.2.2 dJ6_bitCount_0f7a4_52
abbrev G_X3_readWait (p : Program) (l : Launch) (e : Env) (s : State) (m : MethodId) (below : List Frame) (meth : Method) (c : Code) (G : va_G) (cA : Nat → ClassId) (A : Nat → Prop) (bA : Nat) (ka : Nat → Nat) (ra : Nat → Nat) (pa : Nat → Nat) (L : Lo) (r0 : Int32) (K' : Tr) (R' : Tr) (P' : Tr) (H : Heap) (locs : List Loc) (g : JFrame) : Prop := W p l e (headSpec (.code yX3_readWait cX3_readWait 3 (some .boolean) :: T0) ({ frames := 4, cells := 0, slots := 0, locals := 88 } : Room)).room s m ([.ref (ra 0)] : List Value).toArray below meth c H locs 0 0 (MQ below (tqQi G cA (fun (r : Int32) (_ : Unit) => r = r0) (fun (_ : Unit) => wRP cA ka ra pa (K') (R') (P') L) A) ([.ref (ra 0)] : List Value).toArray s 0 0 A) g
set_option maxHeartbeats 4000000 in
set_option maxRecDepth 100000 in
theorem w_X3_readWait_J103 {p : Program} {l : Launch} {e : Env} {s : State} {m : MethodId} {below : List Frame} {meth : Method} {c : Code} {G : va_G} {cA : Nat → ClassId} {A : Nat → Prop} {bA : Nat} {ka : Nat → Nat} {ra : Nat → Nat} {pa : Nat → Nat} {L : Lo} {r0 : Int32} {K' : Tr} {R' : Tr} {P' : Tr} (F : tF p s m ([.ref (ra 0)] : List Value).toArray meth c G cA A RX3 cX3_readWait 3 (some .boolean)) (hB : tqB bA A s s.heap)    (x1 : Int32) (s0 : Int32) (K : Tr) (R : Tr) (P : Tr) (H : Heap) (locs : List Loc) (ls : Array Slot) (h : fJ_X3_readWait_J103 x1 s0 K R P = some (r0, K', R', P')) (hP : va_P G vwCl (wRP cA ka ra pa K R P L) H) (hD : va_D A (wRP cA ka ra pa K R P L)) (hS : va_S A s.heap H locs) (hl : lv_has ls 3 [(0, .ref (ra 0)), (1, .int x1)]) : G_X3_readWait p l e s m below meth c G cA A bA ka ra pa L r0 K' R' P' H locs (F0 m 103 ls [.int s0, .ref (ra 0)]) := by
  obtain ⟨hx, hb, hr, hml, hT, hown, hlocks, hK, hN, hA⟩ := id F
  unfold fJ_X3_readWait_J103 at h
  refine lv_iconst (v := 3) hx hb dX3_readWait_103 (by decide) ?_
  obtain ⟨⟨r27, R_28⟩, hc29, h⟩ := tx_bd h
  replace h := tx_let (y := r27) rfl h
  replace h := tx_let (y := R_28) rfl h
  refine tzB_i (As := [.int s0, .int 3]) (rest := []) ⟨hx, hb, hml, hown, hT⟩ hP hD hS hA hK hN hB (c_X3_expect l G cA H.size bA ka ra pa K R P L s0 (3 : Int32)  r27 R_28 hc29) (tq_gV kw_16_18 kw_16_19 kw_16_20 kw_1_15 kw_16_21) rfl rfl dkdV_yX3_expect_2 (Nat.le_of_ble_eq_true rfl) (Nat.le_of_ble_eq_true rfl) (ci := 3) (q0 := 3) rfl rfl rfl hl.1 rfl (Nat.le_of_ble_eq_true rfl) dX3_readWait_104 ⟨Nat.le_of_ble_eq_true rfl, Nat.le_of_ble_eq_true rfl⟩ (fun _ _ H locs z30 hP hD hS => ?_)
  have z30 := z30.symm
  subst z30
  have hP : va_P G vwCl (wRP cA ka ra pa K R_28 P L) H := hP
  have hD : va_D A (wRP cA ka ra pa K R_28 P L) := hD
  refine lv_if_ne (tgt := 112) hx hb dX3_readWait_107 (by decide) (fun c31 => ?_) (fun c31 => ?_)
  · have h := tx_neg c31 h
    refine lv_aload_n hx hb dX3_readWait_112 rfl (lv_at hl 0 rfl) ?_
    refine va_get (D := G) (ci := 3) (v := .ref (ka 0)) (C := RX3) (T := TX3) (N := 10) hx hb hT ku_3 hown hK hP 3 rfl rfl 0 (by decide) (hT _ kw_2_23) (fun _ h9 => h9) rfl dX3_readWait_113 ?_
    obtain ⟨K_32, hc33, h⟩ := tx_bd h
    refine tzB_v (As := []) (rest := []) ⟨hx, hb, hml, hown, hT⟩ hP hD hS hA hK hN hB (c_X5_advance l G cA H.size bA ka ra pa K R_28 P L  K_32 hc33) (tq_gV kw_16_23 kw_15_0 kw_15_1 kw_2_22 kw_15_2) rfl rfl dkdV_yX5_advance_0 (Nat.le_of_ble_eq_true rfl) (Nat.le_of_ble_eq_true rfl) (ci := 5) (q0 := 0) rfl rfl rfl hl.1 rfl (Nat.le_of_ble_eq_true rfl) dX3_readWait_116 ⟨Nat.le_of_ble_eq_true rfl, Nat.le_of_ble_eq_true rfl⟩ (fun _ H locs z34 hP hD hS => ?_)
    have hP : va_P G vwCl (wRP cA ka ra pa K_32 R_28 P L) H := hP
    have hD : va_D A (wRP cA ka ra pa K_32 R_28 P L) := hD
    refine lv_aload_n hx hb dX3_readWait_119 rfl (lv_at hl 0 rfl) ?_
    refine lv_iconst (v := 0) hx hb dX3_readWait_120 (by decide) ?_
    refine lv_sipush (v := 999) hx hb dX3_readWait_121 (by decide) ?_
    obtain ⟨⟨r35, K_36, R_37⟩, hc38, h⟩ := tx_bd h
    replace h := tx_let (y := r35) rfl h
    replace h := tx_let (y := K_36) rfl h
    replace h := tx_let (y := R_37) rfl h
    refine tzB_i (As := [.int 0, .int 999]) (rest := []) ⟨hx, hb, hml, hown, hT⟩ hP hD hS hA hK hN hB (c_X3_takeNumber l G cA H.size bA ka ra pa K_32 R_28 P L (0 : Int32) (999 : Int32)  r35 K_36 R_37 hc38) (tq_gV kw_17_4 kw_17_5 kw_17_6 kw_1_15 kw_17_7) rfl rfl dkdV_yX3_takeNumber_2 (Nat.le_of_ble_eq_true rfl) (Nat.le_of_ble_eq_true rfl) (ci := 3) (q0 := 3) rfl rfl rfl hl.1 rfl (Nat.le_of_ble_eq_true rfl) dX3_readWait_124 ⟨Nat.le_of_ble_eq_true rfl, Nat.le_of_ble_eq_true rfl⟩ (fun _ _ H locs z39 hP hD hS => ?_)
    have z39 := z39.symm
    subst z39
    have hP : va_P G vwCl (wRP cA ka ra pa K_36 R_37 P L) H := hP
    have hD : va_D A (wRP cA ka ra pa K_36 R_37 P L) := hD
    refine lv_istore_n (lv' := [(2, .int r35), (0, .ref (ra 0)), (1, .int x1)]) hx hb dX3_readWait_127 rfl hl (by decide) rfl (fun ls hl => ?_)
    refine lv_iload_n hx hb dX3_readWait_128 rfl (lv_at hl 0 rfl) ?_
    refine lv_if_ge (tgt := 134) hx hb dX3_readWait_129 (by decide) (fun c40 => ?_) (fun c40 => ?_)
    · have h := tx_pos c40 h
      refine lv_aload_n hx hb dX3_readWait_134 rfl (lv_at hl 1 rfl) ?_
      refine lv_dup hx hb dX3_readWait_135 rfl ?_
      refine va_get (D := G) (ci := 3) (v := .int (R_37 0 6)) (C := RX3) (T := TX3) (N := 10) hx hb hT ku_3 hown hK hP 3 rfl rfl 6 (by decide) (hT _ kw_14_14) (fun _ h9 => h9) rfl dX3_readWait_136 ?_
      refine lv_iconst (v := 1) hx hb dX3_readWait_139 (by decide) ?_
      refine lv_iload_n hx hb dX3_readWait_140 rfl (lv_at hl 2 rfl) ?_
      refine lv_ishl hx hb dX3_readWait_141 ?_
      refine lv_ior hx hb dX3_readWait_142 ?_
      refine va_put (D := G) (ci := 3) (v := .int ((R_37 0 6) ||| ((1 : Int32) <<< (x1 &&& 31)))) (ty := .int) (C := RX3) (T := TX3) (N := 10) hx hb hT ku_3 tyX3 tyX3_ok nmX3 hown hK hP hD hS 3 rfl rfl 6 (by decide) (hT _ kw_14_14) (fun _ h9 => h9) rfl (by decide +kernel) rfl rfl (Nat.le_of_ble_eq_true rfl) dX3_readWait_143 (fun H locs hP hD hS => ?_)
      obtain ⟨R_41, eR_41, h⟩ := tx_lt h
      rw [sRP_ra_f6, eR_41] at hP hD
      refine lv_aload_n hx hb dX3_readWait_146 rfl (lv_at hl 1 rfl) ?_
      refine va_get (D := G) (ci := 3) (v := .ref (pa 0)) (C := RX3) (T := TX3) (N := 10) hx hb hT ku_3 hown hK hP 3 rfl rfl 4 (by decide) (hT _ kw_3_4) (fun _ h9 => h9) rfl dX3_readWait_147 ?_
      refine va_get (D := G) (ci := 2) (v := .ref (pa 18)) (C := RX2) (T := TX2) (N := 19) hx hb hT ku_2 hown hK hP 5 rfl rfl 17 (by decide) (hT _ kw_18_11) (fun _ h9 => h9) rfl dX3_readWait_150 ?_
      refine lv_iload_n hx hb dX3_readWait_153 rfl (lv_at hl 2 rfl) ?_
      refine lv_iload_n hx hb dX3_readWait_154 rfl (lv_at hl 0 rfl) ?_
      obtain ⟨g42, h⟩ := tx_ck h
      refine va_iast (i := x1) hx hb hK hP hD hS 16 0 rfl rfl (tx_in g42) dX3_readWait_155 (fun H locs hP hD hS => ?_)
      obtain ⟨P_43, eP_43, h⟩ := tx_lt h
      rw [sRP_pa_a17, eP_43] at hP hD
      refine lv_iconst (v := 1) hx hb dX3_readWait_156 (by decide) ?_
      obtain ⟨rfl, rfl, rfl, rfl⟩ := tx_4 h
      exact W.zret (ty := .boolean) hx hb hr rfl (fun t ht hW => ⟨⟨_, (), rfl, rfl, by rw [ht]; exact hP, hD⟩, hS.F ht⟩) hS.2.2 dX3_readWait_157
    · have h := tx_neg c40 h
      refine lv_iconst (v := 0) hx hb dX3_readWait_132 (by decide) ?_
      obtain ⟨rfl, rfl, rfl, rfl⟩ := tx_4 h
      exact W.zret (ty := .boolean) hx hb hr rfl (fun t ht hW => ⟨⟨_, (), rfl, rfl, by rw [ht]; exact hP, hD⟩, hS.F ht⟩) hS.2.2 dX3_readWait_133
  · have h := tx_pos c31 h
    refine lv_iconst (v := 0) hx hb dX3_readWait_110 (by decide) ?_
    obtain ⟨rfl, rfl, rfl, rfl⟩ := tx_4 h
    exact W.zret (ty := .boolean) hx hb hr rfl (fun t ht hW => ⟨⟨_, (), rfl, rfl, by rw [ht]; exact hP, hD⟩, hS.F ht⟩) hS.2.2 dX3_readWait_111
set_option maxHeartbeats 4000000 in
set_option maxRecDepth 100000 in
theorem w_X3_readWait_J79 {p : Program} {l : Launch} {e : Env} {s : State} {m : MethodId} {below : List Frame} {meth : Method} {c : Code} {G : va_G} {cA : Nat → ClassId} {A : Nat → Prop} {bA : Nat} {ka : Nat → Nat} {ra : Nat → Nat} {pa : Nat → Nat} {L : Lo} {r0 : Int32} {K' : Tr} {R' : Tr} {P' : Tr} (F : tF p s m ([.ref (ra 0)] : List Value).toArray meth c G cA A RX3 cX3_readWait 3 (some .boolean)) (hB : tqB bA A s s.heap)    (x1 : Int32) (s0 : Int32) (K : Tr) (R : Tr) (P : Tr) (H : Heap) (locs : List Loc) (ls : Array Slot) (h : fJ_X3_readWait_J79 x1 s0 K R P = some (r0, K', R', P')) (hP : va_P G vwCl (wRP cA ka ra pa K R P L) H) (hD : va_D A (wRP cA ka ra pa K R P L)) (hS : va_S A s.heap H locs) (hl : lv_has ls 3 [(0, .ref (ra 0)), (1, .int x1)]) : G_X3_readWait p l e s m below meth c G cA A bA ka ra pa L r0 K' R' P' H locs (F0 m 79 ls [.int s0, .ref (ra 0)]) := by
  obtain ⟨hx, hb, hr, hml, hT, hown, hlocks, hK, hN, hA⟩ := id F
  unfold fJ_X3_readWait_J79 at h
  refine lv_iconst (v := 2) hx hb dX3_readWait_79 (by decide) ?_
  obtain ⟨⟨r21, R_22⟩, hc23, h⟩ := tx_bd h
  replace h := tx_let (y := r21) rfl h
  replace h := tx_let (y := R_22) rfl h
  refine tzB_i (As := [.int s0, .int 2]) (rest := []) ⟨hx, hb, hml, hown, hT⟩ hP hD hS hA hK hN hB (c_X3_expect l G cA H.size bA ka ra pa K R P L s0 (2 : Int32)  r21 R_22 hc23) (tq_gV kw_16_18 kw_16_19 kw_16_20 kw_1_15 kw_16_21) rfl rfl dkdV_yX3_expect_2 (Nat.le_of_ble_eq_true rfl) (Nat.le_of_ble_eq_true rfl) (ci := 3) (q0 := 3) rfl rfl rfl hl.1 rfl (Nat.le_of_ble_eq_true rfl) dX3_readWait_80 ⟨Nat.le_of_ble_eq_true rfl, Nat.le_of_ble_eq_true rfl⟩ (fun _ _ H locs z24 hP hD hS => ?_)
  have z24 := z24.symm
  subst z24
  have hP : va_P G vwCl (wRP cA ka ra pa K R_22 P L) H := hP
  have hD : va_D A (wRP cA ka ra pa K R_22 P L) := hD
  refine lv_if_eq (tgt := 110) hx hb dX3_readWait_83 (by decide) (fun c25 => ?_) (fun c25 => ?_)
  · have h := tx_pos c25 h
    refine lv_iconst (v := 0) hx hb dX3_readWait_110 (by decide) ?_
    obtain ⟨rfl, rfl, rfl, rfl⟩ := tx_4 h
    exact W.zret (ty := .boolean) hx hb hr rfl (fun t ht hW => ⟨⟨_, (), rfl, rfl, by rw [ht]; exact hP, hD⟩, hS.F ht⟩) hS.2.2 dX3_readWait_111
  · have h := tx_neg c25 h
    refine lv_aload_n hx hb dX3_readWait_86 rfl (lv_at hl 0 rfl) ?_
    refine lv_aload_n hx hb dX3_readWait_87 rfl (lv_at hl 0 rfl) ?_
    refine va_get (D := G) (ci := 3) (v := .int (R_22 0 6)) (C := RX3) (T := TX3) (N := 10) hx hb hT ku_3 hown hK hP 3 rfl rfl 6 (by decide) (hT _ kw_14_14) (fun _ h9 => h9) rfl dX3_readWait_88 ?_
    refine lv_iload_n hx hb dX3_readWait_91 rfl (lv_at hl 1 rfl) ?_
    refine lv_ishr hx hb dX3_readWait_92 ?_
    refine lv_iconst (v := 1) hx hb dX3_readWait_93 (by decide) ?_
    refine lv_iand hx hb dX3_readWait_94 ?_
    refine lv_if_ne (tgt := 102) hx hb dX3_readWait_95 (by decide) (fun c26 => ?_) (fun c26 => ?_)
    · have h := tx_neg c26 h
      refine lv_iconst (v := 0) hx hb dX3_readWait_102 (by decide) ?_
      exact w_X3_readWait_J103 F hB x1 0 K R_22 P H locs ls h hP hD hS (lv_sub hl [0, 1] rfl)
    · have h := tx_pos c26 h
      refine lv_iconst (v := 1) hx hb dX3_readWait_98 (by decide) ?_
      refine lv_goto (tgt := 103) hx hb dX3_readWait_99 (by decide) ?_
      exact w_X3_readWait_J103 F hB x1 1 K R_22 P H locs ls h hP hD hS (lv_sub hl [0, 1] rfl)
set_option maxHeartbeats 4000000 in
set_option maxRecDepth 100000 in
theorem w_X3_readWait_J60 {p : Program} {l : Launch} {e : Env} {s : State} {m : MethodId} {below : List Frame} {meth : Method} {c : Code} {G : va_G} {cA : Nat → ClassId} {A : Nat → Prop} {bA : Nat} {ka : Nat → Nat} {ra : Nat → Nat} {pa : Nat → Nat} {L : Lo} {r0 : Int32} {K' : Tr} {R' : Tr} {P' : Tr} (F : tF p s m ([.ref (ra 0)] : List Value).toArray meth c G cA A RX3 cX3_readWait 3 (some .boolean)) (hB : tqB bA A s s.heap)    (x1 : Int32) (s0 : Int32) (K : Tr) (R : Tr) (P : Tr) (H : Heap) (locs : List Loc) (ls : Array Slot) (h : fJ_X3_readWait_J60 x1 s0 K R P = some (r0, K', R', P')) (hP : va_P G vwCl (wRP cA ka ra pa K R P L) H) (hD : va_D A (wRP cA ka ra pa K R P L)) (hS : va_S A s.heap H locs) (hl : lv_has ls 3 [(0, .ref (ra 0)), (1, .int x1)]) : G_X3_readWait p l e s m below meth c G cA A bA ka ra pa L r0 K' R' P' H locs (F0 m 60 ls [.int s0, .ref (ra 0)]) := by
  obtain ⟨hx, hb, hr, hml, hT, hown, hlocks, hK, hN, hA⟩ := id F
  unfold fJ_X3_readWait_J60 at h
  refine lv_iconst (v := 1) hx hb dX3_readWait_60 (by decide) ?_
  obtain ⟨⟨r15, R_16⟩, hc17, h⟩ := tx_bd h
  replace h := tx_let (y := r15) rfl h
  replace h := tx_let (y := R_16) rfl h
  refine tzB_i (As := [.int s0, .int 1]) (rest := []) ⟨hx, hb, hml, hown, hT⟩ hP hD hS hA hK hN hB (c_X3_expect l G cA H.size bA ka ra pa K R P L s0 (1 : Int32)  r15 R_16 hc17) (tq_gV kw_16_18 kw_16_19 kw_16_20 kw_1_15 kw_16_21) rfl rfl dkdV_yX3_expect_2 (Nat.le_of_ble_eq_true rfl) (Nat.le_of_ble_eq_true rfl) (ci := 3) (q0 := 3) rfl rfl rfl hl.1 rfl (Nat.le_of_ble_eq_true rfl) dX3_readWait_61 ⟨Nat.le_of_ble_eq_true rfl, Nat.le_of_ble_eq_true rfl⟩ (fun _ _ H locs z18 hP hD hS => ?_)
  have z18 := z18.symm
  subst z18
  have hP : va_P G vwCl (wRP cA ka ra pa K R_16 P L) H := hP
  have hD : va_D A (wRP cA ka ra pa K R_16 P L) := hD
  refine lv_if_eq (tgt := 110) hx hb dX3_readWait_64 (by decide) (fun c19 => ?_) (fun c19 => ?_)
  · have h := tx_pos c19 h
    refine lv_iconst (v := 0) hx hb dX3_readWait_110 (by decide) ?_
    obtain ⟨rfl, rfl, rfl, rfl⟩ := tx_4 h
    exact W.zret (ty := .boolean) hx hb hr rfl (fun t ht hW => ⟨⟨_, (), rfl, rfl, by rw [ht]; exact hP, hD⟩, hS.F ht⟩) hS.2.2 dX3_readWait_111
  · have h := tx_neg c19 h
    refine lv_aload_n hx hb dX3_readWait_67 rfl (lv_at hl 0 rfl) ?_
    refine lv_iload_n hx hb dX3_readWait_68 rfl (lv_at hl 1 rfl) ?_
    refine lv_bipush (v := 20) hx hb dX3_readWait_69 (by decide) ?_
    refine lv_icmp_ge (tgt := 78) hx hb dX3_readWait_71 (by decide) (fun c20 => ?_) (fun c20 => ?_)
    · have h := tx_pos c20 h
      refine lv_iconst (v := 0) hx hb dX3_readWait_78 (by decide) ?_
      exact w_X3_readWait_J79 F hB x1 0 K R_16 P H locs ls h hP hD hS (lv_sub hl [0, 1] rfl)
    · have h := tx_neg c20 h
      refine lv_iconst (v := 1) hx hb dX3_readWait_74 (by decide) ?_
      refine lv_goto (tgt := 79) hx hb dX3_readWait_75 (by decide) ?_
      exact w_X3_readWait_J79 F hB x1 1 K R_16 P H locs ls h hP hD hS (lv_sub hl [0, 1] rfl)
set_option maxHeartbeats 4000000 in
set_option maxRecDepth 100000 in
theorem w_X3_readWait_J18 {p : Program} {l : Launch} {e : Env} {s : State} {m : MethodId} {below : List Frame} {meth : Method} {c : Code} {G : va_G} {cA : Nat → ClassId} {A : Nat → Prop} {bA : Nat} {ka : Nat → Nat} {ra : Nat → Nat} {pa : Nat → Nat} {L : Lo} {r0 : Int32} {K' : Tr} {R' : Tr} {P' : Tr} (F : tF p s m ([.ref (ra 0)] : List Value).toArray meth c G cA A RX3 cX3_readWait 3 (some .boolean)) (hB : tqB bA A s s.heap)    (s0 : Int32) (K : Tr) (R : Tr) (P : Tr) (H : Heap) (locs : List Loc) (ls : Array Slot) (h : fJ_X3_readWait_J18 s0 K R P = some (r0, K', R', P')) (hP : va_P G vwCl (wRP cA ka ra pa K R P L) H) (hD : va_D A (wRP cA ka ra pa K R P L)) (hS : va_S A s.heap H locs) (hl : lv_has ls 3 [(0, .ref (ra 0))]) : G_X3_readWait p l e s m below meth c G cA A bA ka ra pa L r0 K' R' P' H locs (F0 m 18 ls [.int s0, .ref (ra 0)]) := by
  obtain ⟨hx, hb, hr, hml, hT, hown, hlocks, hK, hN, hA⟩ := id F
  unfold fJ_X3_readWait_J18 at h
  refine lv_iconst (v := 2) hx hb dX3_readWait_18 (by decide) ?_
  obtain ⟨⟨r5, R_6⟩, hc7, h⟩ := tx_bd h
  replace h := tx_let (y := r5) rfl h
  replace h := tx_let (y := R_6) rfl h
  refine tzB_i (As := [.int s0, .int 2]) (rest := []) ⟨hx, hb, hml, hown, hT⟩ hP hD hS hA hK hN hB (c_X3_expect l G cA H.size bA ka ra pa K R P L s0 (2 : Int32)  r5 R_6 hc7) (tq_gV kw_16_18 kw_16_19 kw_16_20 kw_1_15 kw_16_21) rfl rfl dkdV_yX3_expect_2 (Nat.le_of_ble_eq_true rfl) (Nat.le_of_ble_eq_true rfl) (ci := 3) (q0 := 3) rfl rfl rfl hl.1 rfl (Nat.le_of_ble_eq_true rfl) dX3_readWait_19 ⟨Nat.le_of_ble_eq_true rfl, Nat.le_of_ble_eq_true rfl⟩ (fun _ _ H locs z8 hP hD hS => ?_)
  have z8 := z8.symm
  subst z8
  have hP : va_P G vwCl (wRP cA ka ra pa K R_6 P L) H := hP
  have hD : va_D A (wRP cA ka ra pa K R_6 P L) := hD
  refine lv_if_ne (tgt := 27) hx hb dX3_readWait_22 (by decide) (fun c9 => ?_) (fun c9 => ?_)
  · have h := tx_neg c9 h
    refine lv_aload_n hx hb dX3_readWait_27 rfl (lv_at hl 0 rfl) ?_
    refine va_get (D := G) (ci := 3) (v := .ref (ka 0)) (C := RX3) (T := TX3) (N := 10) hx hb hT ku_3 hown hK hP 3 rfl rfl 0 (by decide) (hT _ kw_2_23) (fun _ h9 => h9) rfl dX3_readWait_28 ?_
    obtain ⟨K_10, hc11, h⟩ := tx_bd h
    refine tzB_v (As := []) (rest := []) ⟨hx, hb, hml, hown, hT⟩ hP hD hS hA hK hN hB (c_X5_advance l G cA H.size bA ka ra pa K R_6 P L  K_10 hc11) (tq_gV kw_16_23 kw_15_0 kw_15_1 kw_2_22 kw_15_2) rfl rfl dkdV_yX5_advance_0 (Nat.le_of_ble_eq_true rfl) (Nat.le_of_ble_eq_true rfl) (ci := 5) (q0 := 0) rfl rfl rfl hl.1 rfl (Nat.le_of_ble_eq_true rfl) dX3_readWait_31 ⟨Nat.le_of_ble_eq_true rfl, Nat.le_of_ble_eq_true rfl⟩ (fun _ H locs z12 hP hD hS => ?_)
    have hP : va_P G vwCl (wRP cA ka ra pa K_10 R_6 P L) H := hP
    have hD : va_D A (wRP cA ka ra pa K_10 R_6 P L) := hD
    refine lv_aload_n hx hb dX3_readWait_34 rfl (lv_at hl 0 rfl) ?_
    refine va_get (D := G) (ci := 3) (v := .ref (ka 0)) (C := RX3) (T := TX3) (N := 10) hx hb hT ku_3 hown hK hP 3 rfl rfl 0 (by decide) (hT _ kw_2_23) (fun _ h9 => h9) rfl dX3_readWait_35 ?_
    refine va_get (D := G) (ci := 5) (v := .int (K_10 0 3)) (C := RX5) (T := TX5) (N := 8) hx hb hT ku_5 hown hK hP 0 rfl rfl 3 (by decide) (hT _ kw_17_8) (fun _ h9 => h9) rfl dX3_readWait_38 ?_
    refine lv_topi (fun y13 ey13 => ?_)
    have h := tx_let ey13 h
    refine lv_istore_n (lv' := [(1, .int y13), (0, .ref (ra 0))]) hx hb dX3_readWait_41 rfl hl (by decide) rfl (fun ls hl => ?_)
    refine lv_aload_n hx hb dX3_readWait_42 rfl (lv_at hl 1 rfl) ?_
    refine lv_aload_n hx hb dX3_readWait_43 rfl (lv_at hl 1 rfl) ?_
    refine va_get (D := G) (ci := 3) (v := .ref (ka 0)) (C := RX3) (T := TX3) (N := 10) hx hb hT ku_3 hown hK hP 3 rfl rfl 0 (by decide) (hT _ kw_2_23) (fun _ h9 => h9) rfl dX3_readWait_44 ?_
    refine va_get (D := G) (ci := 5) (v := .int (K_10 0 1)) (C := RX5) (T := TX5) (N := 8) hx hb hT ku_5 hown hK hP 0 rfl rfl 1 (by decide) (hT _ kw_14_15) (fun _ h9 => h9) rfl dX3_readWait_47 ?_
    refine lv_bipush (v := 42) hx hb dX3_readWait_50 (by decide) ?_
    refine lv_icmp_ne (tgt := 59) hx hb dX3_readWait_52 (by decide) (fun c14 => ?_) (fun c14 => ?_)
    · have h := tx_neg c14 h
      refine lv_iconst (v := 0) hx hb dX3_readWait_59 (by decide) ?_
      exact w_X3_readWait_J60 F hB y13 0 K_10 R_6 P H locs ls h hP hD hS (lv_sub hl [1, 0] rfl)
    · have h := tx_pos c14 h
      refine lv_iconst (v := 1) hx hb dX3_readWait_55 (by decide) ?_
      refine lv_goto (tgt := 60) hx hb dX3_readWait_56 (by decide) ?_
      exact w_X3_readWait_J60 F hB y13 1 K_10 R_6 P H locs ls h hP hD hS (lv_sub hl [1, 0] rfl)
  · have h := tx_pos c9 h
    refine lv_iconst (v := 0) hx hb dX3_readWait_25 (by decide) ?_
    obtain ⟨rfl, rfl, rfl, rfl⟩ := tx_4 h
    exact W.zret (ty := .boolean) hx hb hr rfl (fun t ht hW => ⟨⟨_, (), rfl, rfl, by rw [ht]; exact hP, hD⟩, hS.F ht⟩) hS.2.2 dX3_readWait_26
set_option maxHeartbeats 4000000 in
set_option maxRecDepth 100000 in
theorem c_X3_readWait (l : Launch) (G : va_G) (cA : Nat → ClassId) (sz : Nat) (bA : Nat) (ka : Nat → Nat) (ra : Nat → Nat) (pa : Nat → Nat) (K : Tr) (R : Tr) (P : Tr) (L : Lo)  (r0 : Int32) (K' : Tr) (R' : Tr) (P' : Tr) (h : f_X3_readWait K R P = some (r0, K', R', P')) : Met l yX3_readWait (.code yX3_readWait cX3_readWait 3 (some .boolean) :: T0) ({ frames := 4, cells := 0, slots := 0, locals := 88 } : Room) (tqPB bA G cA [.ref (ra 0)] (wRP cA ka ra pa K R P L) sz) (tqQi G cA (fun (r : Int32) (_ : Unit) => r = r0) (fun (_ : Unit) => wRP cA ka ra pa (K') (R') (P') L) (va_A (wRP cA ka ra pa K R P L) sz)) 0 0 (va_A (wRP cA ka ra pa K R P L) sz) := by
  refine Met.ofW (cc := cX3_readWait) (maxL := 3) (ret := (some .boolean)) (by decide) rfl ?_
  intro p e s m args below meth c s₁ B hml hv
  obtain ⟨rfl, hsz, hP, hK, hD0, hN, hB⟩ := hv
  have hx := B.exec
  have hb := B.bytes
  have hr := B.returns
  have hts := atoms_spec (ws := .code yX3_readWait cX3_readWait 3 (some .boolean) :: T0) B.pre
  have hT : ∀ w ∈ T0, w.before _ s = true := fun w h => hts w (List.mem_cons_of_mem _ h)
  have hown : s.vm.findClass RX3 = some m.cls := findClass_of_methodNamed B.named
  have hlocks := B.notSynchronized
  subst hsz
  have hD := hD0.self (sz := s.heap.size)
  generalize hAe : va_A (wRP cA ka ra pa K R P L) s.heap.size = A at hD hB ⊢
  have hA : ∀ q : Nat, s.heap.size ≤ q → A q := fun q h => by rw [← hAe]; exact Or.inr h
  have hS : va_S A s.heap s.heap [] := va_S.rf
  have hl := lv_entry ([.ref (ra 0)]) (n := 3) (Nat.le_of_ble_eq_true rfl)
  rw [lg_entry_eq]
  generalize (lg_sl ([.ref (ra 0)]) ++ List.replicate (3 - (lg_sl ([.ref (ra 0)])).length) Slot.unset).toArray = ls at hl ⊢
  have hl : lv_has ls 3 [(0, .ref (ra 0))] := hl
  have F : tF p s m ([.ref (ra 0)] : List Value).toArray meth c G cA A RX3 cX3_readWait 3 (some .boolean) := ⟨hx, hb, hr, hml, hT, hown, hlocks, hK, hN, hA⟩
  obtain ⟨H, hH⟩ : ∃ z, z = s.heap := ⟨_, rfl⟩
  rw [← hH] at hP
  have hS : va_S A s.heap H [] := by rw [hH]; exact hS
  suffices hgo : G_X3_readWait p l e s m below meth c G cA A bA ka ra pa L r0 K' R' P' H [] (F0 m 0 ls []) by rw [hH] at hgo; exact hgo
  generalize ([] : List Loc) = locs at hS ⊢
  unfold f_X3_readWait at h
  refine lv_aload_n hx hb dX3_readWait_0 rfl (lv_at hl 0 rfl) ?_
  refine lv_aload_n hx hb dX3_readWait_1 rfl (lv_at hl 0 rfl) ?_
  refine va_get (D := G) (ci := 3) (v := .int (R 0 6)) (C := RX3) (T := TX3) (N := 10) hx hb hT ku_3 hown hK hP 3 rfl rfl 6 (by decide) (hT _ kw_14_14) (fun _ h9 => h9) rfl dX3_readWait_2 ?_
  obtain ⟨r1, hc2, h⟩ := tx_bd h
  refine tw_ci (tw_none (ws := wRP cA ka ra pa K R P L)) hP hD hS hA (va_runS (As := [.int (R 0 6)]) (rest := [.ref (ra 0)]) ⟨hx, hb, hml, hown, hT⟩ (c_J6_bitCount_0f7a4 l G cA H.size (R 0 6)  r1 hc2) (va_cwS 1 hT (tq_gS kw_18_12 kw_18_13 kw_18_14 kw_18_15) rfl rfl rfl dkdS_yJ6_bitCount_0f7a4_1 ⟨Nat.le_of_ble_eq_true rfl, Nat.le_of_ble_eq_true rfl⟩) (tw_pre (tw_none (ws := wRP cA ka ra pa K R P L)) hP hD hK hN) rfl rfl hl.1 rfl (lv_room (Nat.le_of_ble_eq_true rfl)) dX3_readWait_5 ⟨Nat.le_of_ble_eq_true rfl, Nat.le_of_ble_eq_true rfl⟩) (fun _ _ H locs z3 hP hD hS => ?_)
  have z3 := z3.symm
  subst z3
  have hP : va_P G vwCl (wRP cA ka ra pa K R P L) H := hP
  have hD : va_D A (wRP cA ka ra pa K R P L) := hD
  refine lv_bipush (v := 10) hx hb dX3_readWait_8 (by decide) ?_
  refine lv_icmp_ge (tgt := 17) hx hb dX3_readWait_10 (by decide) (fun c4 => ?_) (fun c4 => ?_)
  · have h := tx_pos c4 h
    refine lv_iconst (v := 0) hx hb dX3_readWait_17 (by decide) ?_
    exact w_X3_readWait_J18 F hB 0 K R P H locs ls h hP hD hS (lv_sub hl [0] rfl)
  · have h := tx_neg c4 h
    refine lv_iconst (v := 1) hx hb dX3_readWait_13 (by decide) ?_
    refine lv_goto (tgt := 18) hx hb dX3_readWait_14 (by decide) ?_
    exact w_X3_readWait_J18 F hB 1 K R P H locs ls h hP hD hS (lv_sub hl [0] rfl)
abbrev G_X2_personNamed (p : Program) (l : Launch) (e : Env) (s : State) (m : MethodId) (below : List Frame) (meth : Method) (c : Code) (G : va_G) (cA : Nat → ClassId) (A : Nat → Prop) (bA : Nat) (ka : Nat → Nat) (ra : Nat → Nat) (pa : Nat → Nat) (K : Tr) (R : Tr) (P : Tr) (L : Lo) (x1 : Int32) (r0 : Int32) (H : Heap) (locs : List Loc) (g : JFrame) : Prop := W p l e (headSpec (.code yX2_personNamed cX2_personNamed 3 (some .int) :: T0) ({ frames := 0, cells := 0, slots := 0, locals := 0 } : Room)).room s m ([.ref (pa 0), .int x1] : List Value).toArray below meth c H locs 0 0 (MQ below (tqQi G cA (fun (r : Int32) (_ : Unit) => r = r0) (fun (_ : Unit) => wRP cA ka ra pa K R P L) A) ([.ref (pa 0), .int x1] : List Value).toArray s 0 0 A) g
set_option maxHeartbeats 4000000 in
set_option maxRecDepth 100000 in
theorem w_X2_personNamed_L2 {p : Program} {l : Launch} {e : Env} {s : State} {m : MethodId} {below : List Frame} {meth : Method} {c : Code} {G : va_G} {cA : Nat → ClassId} {A : Nat → Prop} {bA : Nat} {ka : Nat → Nat} {ra : Nat → Nat} {pa : Nat → Nat} {K : Tr} {R : Tr} {P : Tr} {L : Lo} {x1₀ : Int32} {r0 : Int32} {x1 : Int32} (F : tF p s m ([.ref (pa 0), .int x1₀] : List Value).toArray meth c G cA A RX2 cX2_personNamed 3 (some .int)) (hB : tqB bA A s s.heap)    (N : Nat) : ∀ (x2 : Int32) (H : Heap) (locs : List Loc) (ls : Array Slot), lpF (fun _ => none) (fB_X2_personNamed_L2 P x1) N x2 = some r0 → va_P G vwCl (wRP cA ka ra pa K R P L) H → va_D A (wRP cA ka ra pa K R P L) → va_S A s.heap H locs → lv_has ls 3 [(0, .ref (pa 0)), (1, .int x1), (2, .int x2)] → G_X2_personNamed p l e s m below meth c G cA A bA ka ra pa K R P L x1₀ r0 H locs (F0 m 2 ls []) := by
  obtain ⟨hx, hb, hr, hml, hT, hown, hlocks, hK, hN, hA⟩ := id F
  induction N with
  | zero =>
    intro x2 H locs ls h
    have h : (none : Option (Int32)) = some r0 := h
    cases h
  | succ N hk2 =>
    intro x2 H locs ls h hP hD hS hl
    have h : fB_X2_personNamed_L2 P x1 (lpF (fun _ => none) (fB_X2_personNamed_L2 P x1) N) x2 = some r0 := h
    generalize hk2e : lpF (fun _ => none) (fB_X2_personNamed_L2 P x1) N = k2 at h hk2
    unfold fB_X2_personNamed_L2 at h
    refine lv_iload_n hx hb dX2_personNamed_2 rfl (lv_at hl 2 rfl) ?_
    refine lv_aload_n hx hb dX2_personNamed_3 rfl (lv_at hl 0 rfl) ?_
    refine va_get (D := G) (ci := 2) (v := .int (P 0 1)) (C := RX2) (T := TX2) (N := 19) hx hb hT ku_2 hown hK hP 5 rfl rfl 1 (by decide) (hT _ kw_6_19) (fun _ h9 => h9) rfl dX2_personNamed_4 ?_
    refine lv_icmp_ge (tgt := 28) hx hb dX2_personNamed_7 (by decide) (fun c1 => ?_) (fun c1 => ?_)
    · have h := tx_pos c1 h
      refine lv_iconst (v := (-1)) hx hb dX2_personNamed_28 (by decide) ?_
      obtain rfl := tx_1 h
      exact W.iret hx hb hr (fun t ht hW => ⟨⟨_, (), rfl, rfl, by rw [ht]; exact hP, hD⟩, hS.F ht⟩) hS.2.2 dX2_personNamed_29
    · have h := tx_neg c1 h
      refine lv_aload_n hx hb dX2_personNamed_10 rfl (lv_at hl 0 rfl) ?_
      refine va_get (D := G) (ci := 2) (v := .ref (pa 10)) (C := RX2) (T := TX2) (N := 19) hx hb hT ku_2 hown hK hP 5 rfl rfl 9 (by decide) (hT _ kw_5_20) (fun _ h9 => h9) rfl dX2_personNamed_11 ?_
      refine lv_iload_n hx hb dX2_personNamed_14 rfl (lv_at hl 2 rfl) ?_
      obtain ⟨g2, h⟩ := tx_ck h
      refine va_iald (i := x2) hx hb hK hP 8 0 rfl rfl (tx_in g2) dX2_personNamed_15 ?_
      refine lv_iload_n hx hb dX2_personNamed_16 rfl (lv_at hl 1 rfl) ?_
      refine lv_icmp_ne (tgt := 22) hx hb dX2_personNamed_17 (by decide) (fun c3 => ?_) (fun c3 => ?_)
      · have h := tx_neg c3 h
        obtain ⟨y4, ey4, h⟩ := tx_lt h
        refine lv_iinc (v := y4) (lv' := [(2, .int y4), (0, .ref (pa 0)), (1, .int x1)]) hx hb dX2_personNamed_22 hl (k := 2) rfl ey4 (by decide) rfl (fun ls hl => ?_)
        refine lv_goto (tgt := 2) hx hb dX2_personNamed_25 (by decide) ?_
        exact hk2 y4 H locs ls h hP hD hS (lv_sub hl [1, 2, 0] rfl)
      · have h := tx_pos c3 h
        refine lv_iload_n hx hb dX2_personNamed_20 rfl (lv_at hl 2 rfl) ?_
        obtain rfl := tx_1 h
        exact W.iret hx hb hr (fun t ht hW => ⟨⟨_, (), rfl, rfl, by rw [ht]; exact hP, hD⟩, hS.F ht⟩) hS.2.2 dX2_personNamed_21
set_option maxHeartbeats 4000000 in
set_option maxRecDepth 100000 in
theorem c_X2_personNamed (l : Launch) (G : va_G) (cA : Nat → ClassId) (sz : Nat) (bA : Nat) (ka : Nat → Nat) (ra : Nat → Nat) (pa : Nat → Nat) (K : Tr) (R : Tr) (P : Tr) (L : Lo) (x1 : Int32)  (r0 : Int32) (h : f_X2_personNamed P x1 = some r0) : Met l yX2_personNamed (.code yX2_personNamed cX2_personNamed 3 (some .int) :: T0) ({ frames := 0, cells := 0, slots := 0, locals := 0 } : Room) (tqPB bA G cA [.ref (pa 0), .int x1] (wRP cA ka ra pa K R P L) sz) (tqQi G cA (fun (r : Int32) (_ : Unit) => r = r0) (fun (_ : Unit) => wRP cA ka ra pa K R P L) (va_A (wRP cA ka ra pa K R P L) sz)) 0 0 (va_A (wRP cA ka ra pa K R P L) sz) := by
  refine Met.ofW (cc := cX2_personNamed) (maxL := 3) (ret := (some .int)) (by decide) rfl ?_
  intro p e s m args below meth c s₁ B hml hv
  obtain ⟨rfl, hsz, hP, hK, hD0, hN, hB⟩ := hv
  have hx := B.exec
  have hb := B.bytes
  have hr := B.returns
  have hts := atoms_spec (ws := .code yX2_personNamed cX2_personNamed 3 (some .int) :: T0) B.pre
  have hT : ∀ w ∈ T0, w.before _ s = true := fun w h => hts w (List.mem_cons_of_mem _ h)
  have hown : s.vm.findClass RX2 = some m.cls := findClass_of_methodNamed B.named
  have hlocks := B.notSynchronized
  subst hsz
  have hD := hD0.self (sz := s.heap.size)
  generalize hAe : va_A (wRP cA ka ra pa K R P L) s.heap.size = A at hD hB ⊢
  have hA : ∀ q : Nat, s.heap.size ≤ q → A q := fun q h => by rw [← hAe]; exact Or.inr h
  have hS : va_S A s.heap s.heap [] := va_S.rf
  have hl := lv_entry ([.ref (pa 0), .int x1]) (n := 3) (Nat.le_of_ble_eq_true rfl)
  rw [lg_entry_eq]
  generalize (lg_sl ([.ref (pa 0), .int x1]) ++ List.replicate (3 - (lg_sl ([.ref (pa 0), .int x1])).length) Slot.unset).toArray = ls at hl ⊢
  have hl : lv_has ls 3 [(0, .ref (pa 0)), (1, .int x1)] := hl
  have F : tF p s m ([.ref (pa 0), .int x1] : List Value).toArray meth c G cA A RX2 cX2_personNamed 3 (some .int) := ⟨hx, hb, hr, hml, hT, hown, hlocks, hK, hN, hA⟩
  obtain ⟨H, hH⟩ : ∃ z, z = s.heap := ⟨_, rfl⟩
  rw [← hH] at hP
  have hS : va_S A s.heap H [] := by rw [hH]; exact hS
  suffices hgo : G_X2_personNamed p l e s m below meth c G cA A bA ka ra pa K R P L x1 r0 H [] (F0 m 0 ls []) by rw [hH] at hgo; exact hgo
  generalize ([] : List Loc) = locs at hS ⊢
  unfold f_X2_personNamed at h
  refine lv_iconst (v := 0) hx hb dX2_personNamed_0 (by decide) ?_
  refine lv_istore_n (lv' := [(2, .int 0), (0, .ref (pa 0)), (1, .int x1)]) hx hb dX2_personNamed_1 rfl hl (by decide) rfl (fun ls hl => ?_)
  exact w_X2_personNamed_L2 F hB 2000 0 H locs ls h hP hD hS (lv_sub hl [1, 2, 0] rfl)
abbrev G_X3_readPiece (p : Program) (l : Launch) (e : Env) (s : State) (m : MethodId) (below : List Frame) (meth : Method) (c : Code) (G : va_G) (cA : Nat → ClassId) (A : Nat → Prop) (bA : Nat) (ka : Nat → Nat) (ra : Nat → Nat) (pa : Nat → Nat) (L : Lo) (r0 : Int32) (K' : Tr) (R' : Tr) (P' : Tr) (H : Heap) (locs : List Loc) (g : JFrame) : Prop := W p l e (headSpec (.code yX3_readPiece cX3_readPiece 6 (some .boolean) :: T0) ({ frames := 4, cells := 0, slots := 0, locals := 88 } : Room)).room s m ([.ref (ra 0)] : List Value).toArray below meth c H locs 0 0 (MQ below (tqQi G cA (fun (r : Int32) (_ : Unit) => r = r0) (fun (_ : Unit) => wRP cA ka ra pa (K') (R') (P') L) A) ([.ref (ra 0)] : List Value).toArray s 0 0 A) g
set_option maxHeartbeats 4000000 in
set_option maxRecDepth 100000 in
theorem w_X3_readPiece_J192 {p : Program} {l : Launch} {e : Env} {s : State} {m : MethodId} {below : List Frame} {meth : Method} {c : Code} {G : va_G} {cA : Nat → ClassId} {A : Nat → Prop} {bA : Nat} {ka : Nat → Nat} {ra : Nat → Nat} {pa : Nat → Nat} {L : Lo} {r0 : Int32} {K' : Tr} {R' : Tr} {P' : Tr} (F : tF p s m ([.ref (ra 0)] : List Value).toArray meth c G cA A RX3 cX3_readPiece 6 (some .boolean)) (hB : tqB bA A s s.heap)    (x1 : Int32) (x2 : Int32) (x3 : Int32) (x4 : Int32) (x5 : Int32) (K : Tr) (R : Tr) (P : Tr) (H : Heap) (locs : List Loc) (ls : Array Slot) (h : fJ_X3_readPiece_J192 x1 x2 x3 x4 x5 K R P = some (r0, K', R', P')) (hP : va_P G vwCl (wRP cA ka ra pa K R P L) H) (hD : va_D A (wRP cA ka ra pa K R P L)) (hS : va_S A s.heap H locs) (hl : lv_has ls 6 [(0, .ref (ra 0)), (1, .int x1), (2, .int x2), (3, .int x3), (4, .int x4), (5, .int x5)]) : G_X3_readPiece p l e s m below meth c G cA A bA ka ra pa L r0 K' R' P' H locs (F0 m 192 ls []) := by
  obtain ⟨hx, hb, hr, hml, hT, hown, hlocks, hK, hN, hA⟩ := id F
  unfold fJ_X3_readPiece_J192 at h
  refine lv_aload_n hx hb dX3_readPiece_192 rfl (lv_at hl 0 rfl) ?_
  refine va_get (D := G) (ci := 3) (v := .ref (pa 0)) (C := RX3) (T := TX3) (N := 10) hx hb hT ku_3 hown hK hP 3 rfl rfl 4 (by decide) (hT _ kw_3_4) (fun _ h9 => h9) rfl dX3_readPiece_193 ?_
  refine va_get (D := G) (ci := 2) (v := .ref (pa 14)) (C := RX2) (T := TX2) (N := 19) hx hb hT ku_2 hown hK hP 5 rfl rfl 13 (by decide) (hT _ kw_18_3) (fun _ h9 => h9) rfl dX3_readPiece_196 ?_
  refine lv_iload_n hx hb dX3_readPiece_199 rfl (lv_at hl 1 rfl) ?_
  refine lv_iload_n hx hb dX3_readPiece_200 rfl (lv_at hl 2 rfl) ?_
  obtain ⟨g42, h⟩ := tx_ck h
  refine va_iast (i := x1) hx hb hK hP hD hS 12 0 rfl rfl (tx_in g42) dX3_readPiece_201 (fun H locs hP hD hS => ?_)
  obtain ⟨P_43, eP_43, h⟩ := tx_lt h
  rw [sRP_pa_a13, eP_43] at hP hD
  refine lv_aload_n hx hb dX3_readPiece_202 rfl (lv_at hl 0 rfl) ?_
  refine va_get (D := G) (ci := 3) (v := .ref (pa 0)) (C := RX3) (T := TX3) (N := 10) hx hb hT ku_3 hown hK hP 3 rfl rfl 4 (by decide) (hT _ kw_3_4) (fun _ h9 => h9) rfl dX3_readPiece_203 ?_
  refine va_get (D := G) (ci := 2) (v := .ref (pa 15)) (C := RX2) (T := TX2) (N := 19) hx hb hT ku_2 hown hK hP 5 rfl rfl 14 (by decide) (hT _ kw_18_4) (fun _ h9 => h9) rfl dX3_readPiece_206 ?_
  refine lv_iload_n hx hb dX3_readPiece_209 rfl (lv_at hl 1 rfl) ?_
  refine lv_iload_n hx hb dX3_readPiece_210 rfl (lv_at hl 3 rfl) ?_
  refine va_iast (i := x1) hx hb hK hP hD hS 13 0 rfl rfl (tx_in g42) dX3_readPiece_211 (fun H locs hP hD hS => ?_)
  obtain ⟨P_44, eP_44, h⟩ := tx_lt h
  rw [sRP_pa_a14, eP_44] at hP hD
  refine lv_aload_n hx hb dX3_readPiece_212 rfl (lv_at hl 0 rfl) ?_
  refine va_get (D := G) (ci := 3) (v := .ref (pa 0)) (C := RX3) (T := TX3) (N := 10) hx hb hT ku_3 hown hK hP 3 rfl rfl 4 (by decide) (hT _ kw_3_4) (fun _ h9 => h9) rfl dX3_readPiece_213 ?_
  refine va_get (D := G) (ci := 2) (v := .ref (pa 16)) (C := RX2) (T := TX2) (N := 19) hx hb hT ku_2 hown hK hP 5 rfl rfl 15 (by decide) (hT _ kw_18_5) (fun _ h9 => h9) rfl dX3_readPiece_216 ?_
  refine lv_iload_n hx hb dX3_readPiece_219 rfl (lv_at hl 1 rfl) ?_
  refine lv_iload hx hb dX3_readPiece_220 (lv_at hl 4 rfl) ?_
  refine va_iast (i := x1) hx hb hK hP hD hS 14 0 rfl rfl (tx_in g42) dX3_readPiece_222 (fun H locs hP hD hS => ?_)
  obtain ⟨P_45, eP_45, h⟩ := tx_lt h
  rw [sRP_pa_a15, eP_45] at hP hD
  refine lv_aload_n hx hb dX3_readPiece_223 rfl (lv_at hl 0 rfl) ?_
  refine va_get (D := G) (ci := 3) (v := .ref (pa 0)) (C := RX3) (T := TX3) (N := 10) hx hb hT ku_3 hown hK hP 3 rfl rfl 4 (by decide) (hT _ kw_3_4) (fun _ h9 => h9) rfl dX3_readPiece_224 ?_
  refine va_get (D := G) (ci := 2) (v := .ref (pa 17)) (C := RX2) (T := TX2) (N := 19) hx hb hT ku_2 hown hK hP 5 rfl rfl 16 (by decide) (hT _ kw_18_6) (fun _ h9 => h9) rfl dX3_readPiece_227 ?_
  refine lv_iload_n hx hb dX3_readPiece_230 rfl (lv_at hl 1 rfl) ?_
  refine lv_iload hx hb dX3_readPiece_231 (lv_at hl 5 rfl) ?_
  refine va_iast (i := x1) hx hb hK hP hD hS 15 0 rfl rfl (tx_in g42) dX3_readPiece_233 (fun H locs hP hD hS => ?_)
  obtain ⟨P_46, eP_46, h⟩ := tx_lt h
  rw [sRP_pa_a16, eP_46] at hP hD
  refine lv_aload_n hx hb dX3_readPiece_234 rfl (lv_at hl 0 rfl) ?_
  refine va_get (D := G) (ci := 3) (v := .ref (pa 0)) (C := RX3) (T := TX3) (N := 10) hx hb hT ku_3 hown hK hP 3 rfl rfl 4 (by decide) (hT _ kw_3_4) (fun _ h9 => h9) rfl dX3_readPiece_235 ?_
  refine lv_dup hx hb dX3_readPiece_238 rfl ?_
  refine va_get (D := G) (ci := 2) (v := .int (P_46 0 2)) (C := RX2) (T := TX2) (N := 19) hx hb hT ku_2 hown hK hP 5 rfl rfl 2 (by decide) (hT _ kw_18_2) (fun _ h9 => h9) rfl dX3_readPiece_239 ?_
  refine lv_iconst (v := 1) hx hb dX3_readPiece_242 (by decide) ?_
  refine lv_iadd hx hb dX3_readPiece_243 ?_
  refine va_put (D := G) (ci := 2) (v := .int ((P_46 0 2) + 1)) (ty := .int) (C := RX2) (T := TX2) (N := 19) hx hb hT ku_2 tyX2 tyX2_ok nmX2 hown hK hP hD hS 5 rfl rfl 2 (by decide) (hT _ kw_18_2) (fun _ h9 => h9) rfl (by decide +kernel) rfl rfl (Nat.le_of_ble_eq_true rfl) dX3_readPiece_244 (fun H locs hP hD hS => ?_)
  obtain ⟨P_47, eP_47, h⟩ := tx_lt h
  rw [sRP_pa_f2, eP_47] at hP hD
  refine lv_iconst (v := 1) hx hb dX3_readPiece_247 (by decide) ?_
  obtain ⟨rfl, rfl, rfl, rfl⟩ := tx_4 h
  exact W.zret (ty := .boolean) hx hb hr rfl (fun t ht hW => ⟨⟨_, (), rfl, rfl, by rw [ht]; exact hP, hD⟩, hS.F ht⟩) hS.2.2 dX3_readPiece_248
set_option maxHeartbeats 4000000 in
set_option maxRecDepth 100000 in
theorem w_X3_readPiece_J176 {p : Program} {l : Launch} {e : Env} {s : State} {m : MethodId} {below : List Frame} {meth : Method} {c : Code} {G : va_G} {cA : Nat → ClassId} {A : Nat → Prop} {bA : Nat} {ka : Nat → Nat} {ra : Nat → Nat} {pa : Nat → Nat} {L : Lo} {r0 : Int32} {K' : Tr} {R' : Tr} {P' : Tr} (F : tF p s m ([.ref (ra 0)] : List Value).toArray meth c G cA A RX3 cX3_readPiece 6 (some .boolean)) (hB : tqB bA A s s.heap)    (x1 : Int32) (x2 : Int32) (x3 : Int32) (x4 : Int32) (x5 : Int32) (s0 : Int32) (K : Tr) (R : Tr) (P : Tr) (H : Heap) (locs : List Loc) (ls : Array Slot) (h : fJ_X3_readPiece_J176 x1 x2 x3 x4 x5 s0 K R P = some (r0, K', R', P')) (hP : va_P G vwCl (wRP cA ka ra pa K R P L) H) (hD : va_D A (wRP cA ka ra pa K R P L)) (hS : va_S A s.heap H locs) (hl : lv_has ls 6 [(0, .ref (ra 0)), (1, .int x1), (2, .int x2), (3, .int x3), (4, .int x4), (5, .int x5)]) : G_X3_readPiece p l e s m below meth c G cA A bA ka ra pa L r0 K' R' P' H locs (F0 m 176 ls [.int s0, .ref (ra 0)]) := by
  obtain ⟨hx, hb, hr, hml, hT, hown, hlocks, hK, hN, hA⟩ := id F
  unfold fJ_X3_readPiece_J176 at h
  refine lv_iconst (v := 4) hx hb dX3_readPiece_176 (by decide) ?_
  obtain ⟨⟨r50, R_51⟩, hc52, h⟩ := tx_bd h
  replace h := tx_let (y := r50) rfl h
  replace h := tx_let (y := R_51) rfl h
  refine tzB_i (As := [.int s0, .int 4]) (rest := []) ⟨hx, hb, hml, hown, hT⟩ hP hD hS hA hK hN hB (c_X3_expect l G cA H.size bA ka ra pa K R P L s0 (4 : Int32)  r50 R_51 hc52) (tq_gV kw_16_18 kw_16_19 kw_16_20 kw_1_15 kw_16_21) rfl rfl dkdV_yX3_expect_2 (Nat.le_of_ble_eq_true rfl) (Nat.le_of_ble_eq_true rfl) (ci := 3) (q0 := 3) rfl rfl rfl hl.1 rfl (Nat.le_of_ble_eq_true rfl) dX3_readPiece_177 ⟨Nat.le_of_ble_eq_true rfl, Nat.le_of_ble_eq_true rfl⟩ (fun _ _ H locs z53 hP hD hS => ?_)
  have z53 := z53.symm
  subst z53
  have hP : va_P G vwCl (wRP cA ka ra pa K R_51 P L) H := hP
  have hD : va_D A (wRP cA ka ra pa K R_51 P L) := hD
  refine lv_if_ne (tgt := 185) hx hb dX3_readPiece_180 (by decide) (fun c54 => ?_) (fun c54 => ?_)
  · have h := tx_neg c54 h
    refine lv_aload_n hx hb dX3_readPiece_185 rfl (lv_at hl 0 rfl) ?_
    refine va_get (D := G) (ci := 3) (v := .ref (ka 0)) (C := RX3) (T := TX3) (N := 10) hx hb hT ku_3 hown hK hP 3 rfl rfl 0 (by decide) (hT _ kw_2_23) (fun _ h9 => h9) rfl dX3_readPiece_186 ?_
    obtain ⟨K_55, hc56, h⟩ := tx_bd h
    refine tzB_v (As := []) (rest := []) ⟨hx, hb, hml, hown, hT⟩ hP hD hS hA hK hN hB (c_X5_advance l G cA H.size bA ka ra pa K R_51 P L  K_55 hc56) (tq_gV kw_16_23 kw_15_0 kw_15_1 kw_2_22 kw_15_2) rfl rfl dkdV_yX5_advance_0 (Nat.le_of_ble_eq_true rfl) (Nat.le_of_ble_eq_true rfl) (ci := 5) (q0 := 0) rfl rfl rfl hl.1 rfl (Nat.le_of_ble_eq_true rfl) dX3_readPiece_189 ⟨Nat.le_of_ble_eq_true rfl, Nat.le_of_ble_eq_true rfl⟩ (fun _ H locs z57 hP hD hS => ?_)
    have hP : va_P G vwCl (wRP cA ka ra pa K_55 R_51 P L) H := hP
    have hD : va_D A (wRP cA ka ra pa K_55 R_51 P L) := hD
    exact w_X3_readPiece_J192 F hB x1 x2 x3 x4 x5 K_55 R_51 P H locs ls h hP hD hS (lv_sub hl [0, 1, 2, 3, 4, 5] rfl)
  · have h := tx_pos c54 h
    refine lv_iconst (v := 0) hx hb dX3_readPiece_183 (by decide) ?_
    obtain ⟨rfl, rfl, rfl, rfl⟩ := tx_4 h
    exact W.zret (ty := .boolean) hx hb hr rfl (fun t ht hW => ⟨⟨_, (), rfl, rfl, by rw [ht]; exact hP, hD⟩, hS.F ht⟩) hS.2.2 dX3_readPiece_184
set_option maxHeartbeats 4000000 in
set_option maxRecDepth 100000 in
theorem w_X3_readPiece_J125 {p : Program} {l : Launch} {e : Env} {s : State} {m : MethodId} {below : List Frame} {meth : Method} {c : Code} {G : va_G} {cA : Nat → ClassId} {A : Nat → Prop} {bA : Nat} {ka : Nat → Nat} {ra : Nat → Nat} {pa : Nat → Nat} {L : Lo} {r0 : Int32} {K' : Tr} {R' : Tr} {P' : Tr} (F : tF p s m ([.ref (ra 0)] : List Value).toArray meth c G cA A RX3 cX3_readPiece 6 (some .boolean)) (hB : tqB bA A s s.heap)    (x1 : Int32) (x2 : Int32) (x3 : Int32) (s0 : Int32) (K : Tr) (R : Tr) (P : Tr) (H : Heap) (locs : List Loc) (ls : Array Slot) (h : fJ_X3_readPiece_J125 x1 x2 x3 s0 K R P = some (r0, K', R', P')) (hP : va_P G vwCl (wRP cA ka ra pa K R P L) H) (hD : va_D A (wRP cA ka ra pa K R P L)) (hS : va_S A s.heap H locs) (hl : lv_has ls 6 [(0, .ref (ra 0)), (1, .int x1), (2, .int x2), (3, .int x3)]) : G_X3_readPiece p l e s m below meth c G cA A bA ka ra pa L r0 K' R' P' H locs (F0 m 125 ls [.int s0]) := by
  obtain ⟨hx, hb, hr, hml, hT, hown, hlocks, hK, hN, hA⟩ := id F
  unfold fJ_X3_readPiece_J125 at h
  refine lv_istore (lv' := [(4, .int s0), (0, .ref (ra 0)), (1, .int x1), (2, .int x2), (3, .int x3)]) hx hb dX3_readPiece_125 hl (by decide) rfl (fun ls hl => ?_)
  refine lv_iload hx hb dX3_readPiece_127 (lv_at hl 0 rfl) ?_
  refine lv_if_ge (tgt := 134) hx hb dX3_readPiece_129 (by decide) (fun c40 => ?_) (fun c40 => ?_)
  · have h := tx_pos c40 h
    refine lv_iconst (v := (-1)) hx hb dX3_readPiece_134 (by decide) ?_
    refine lv_istore (lv' := [(5, .int (-1)), (4, .int s0), (0, .ref (ra 0)), (1, .int x1), (2, .int x2), (3, .int x3)]) hx hb dX3_readPiece_135 hl (by decide) rfl (fun ls hl => ?_)
    refine lv_aload_n hx hb dX3_readPiece_137 rfl (lv_at hl 2 rfl) ?_
    refine va_get (D := G) (ci := 3) (v := .ref (ka 0)) (C := RX3) (T := TX3) (N := 10) hx hb hT ku_3 hown hK hP 3 rfl rfl 0 (by decide) (hT _ kw_2_23) (fun _ h9 => h9) rfl dX3_readPiece_138 ?_
    refine va_get (D := G) (ci := 5) (v := .int (K 0 1)) (C := RX5) (T := TX5) (N := 8) hx hb hT ku_5 hown hK hP 0 rfl rfl 1 (by decide) (hT _ kw_14_15) (fun _ h9 => h9) rfl dX3_readPiece_141 ?_
    refine lv_bipush (v := 42) hx hb dX3_readPiece_144 (by decide) ?_
    refine lv_icmp_ne (tgt := 192) hx hb dX3_readPiece_146 (by decide) (fun c41 => ?_) (fun c41 => ?_)
    · have h := tx_neg c41 h
      exact w_X3_readPiece_J192 F hB x1 x2 x3 s0 (-1) K R P H locs ls h hP hD hS (lv_sub hl [2, 3, 4, 5, 1, 0] rfl)
    · have h := tx_pos c41 h
      refine lv_aload_n hx hb dX3_readPiece_149 rfl (lv_at hl 2 rfl) ?_
      refine va_get (D := G) (ci := 3) (v := .ref (ka 0)) (C := RX3) (T := TX3) (N := 10) hx hb hT ku_3 hown hK hP 3 rfl rfl 0 (by decide) (hT _ kw_2_23) (fun _ h9 => h9) rfl dX3_readPiece_150 ?_
      refine va_get (D := G) (ci := 5) (v := .int (K 0 3)) (C := RX5) (T := TX5) (N := 8) hx hb hT ku_5 hown hK hP 0 rfl rfl 3 (by decide) (hT _ kw_17_8) (fun _ h9 => h9) rfl dX3_readPiece_153 ?_
      refine lv_topi (fun y48 ey48 => ?_)
      have h := tx_let ey48 h
      refine lv_istore (lv' := [(5, .int y48), (4, .int s0), (0, .ref (ra 0)), (1, .int x1), (2, .int x2), (3, .int x3)]) hx hb dX3_readPiece_156 hl (by decide) rfl (fun ls hl => ?_)
      refine lv_aload_n hx hb dX3_readPiece_158 rfl (lv_at hl 2 rfl) ?_
      refine lv_iload hx hb dX3_readPiece_159 (lv_at hl 0 rfl) ?_
      refine lv_aload_n hx hb dX3_readPiece_161 rfl (lv_at hl 2 rfl) ?_
      refine va_get (D := G) (ci := 3) (v := .ref (pa 0)) (C := RX3) (T := TX3) (N := 10) hx hb hT ku_3 hown hK hP 3 rfl rfl 4 (by decide) (hT _ kw_3_4) (fun _ h9 => h9) rfl dX3_readPiece_162 ?_
      refine va_get (D := G) (ci := 2) (v := .int (P 0 0)) (C := RX2) (T := TX2) (N := 19) hx hb hT ku_2 hown hK hP 5 rfl rfl 0 (by decide) (hT _ kw_16_15) (fun _ h9 => h9) rfl dX3_readPiece_165 ?_
      refine lv_icmp_ge (tgt := 175) hx hb dX3_readPiece_168 (by decide) (fun c49 => ?_) (fun c49 => ?_)
      · have h := tx_pos c49 h
        refine lv_iconst (v := 0) hx hb dX3_readPiece_175 (by decide) ?_
        exact w_X3_readPiece_J176 F hB x1 x2 x3 s0 y48 0 K R P H locs ls h hP hD hS (lv_sub hl [2, 3, 4, 5, 1, 0] rfl)
      · have h := tx_neg c49 h
        refine lv_iconst (v := 1) hx hb dX3_readPiece_171 (by decide) ?_
        refine lv_goto (tgt := 176) hx hb dX3_readPiece_172 (by decide) ?_
        exact w_X3_readPiece_J176 F hB x1 x2 x3 s0 y48 1 K R P H locs ls h hP hD hS (lv_sub hl [2, 3, 4, 5, 1, 0] rfl)
  · have h := tx_neg c40 h
    refine lv_iconst (v := 0) hx hb dX3_readPiece_132 (by decide) ?_
    obtain ⟨rfl, rfl, rfl, rfl⟩ := tx_4 h
    exact W.zret (ty := .boolean) hx hb hr rfl (fun t ht hW => ⟨⟨_, (), rfl, rfl, by rw [ht]; exact hP, hD⟩, hS.F ht⟩) hS.2.2 dX3_readPiece_133
set_option maxHeartbeats 4000000 in
set_option maxRecDepth 100000 in
theorem w_X3_readPiece_J86 {p : Program} {l : Launch} {e : Env} {s : State} {m : MethodId} {below : List Frame} {meth : Method} {c : Code} {G : va_G} {cA : Nat → ClassId} {A : Nat → Prop} {bA : Nat} {ka : Nat → Nat} {ra : Nat → Nat} {pa : Nat → Nat} {L : Lo} {r0 : Int32} {K' : Tr} {R' : Tr} {P' : Tr} (F : tF p s m ([.ref (ra 0)] : List Value).toArray meth c G cA A RX3 cX3_readPiece 6 (some .boolean)) (hB : tqB bA A s s.heap)    (x1 : Int32) (x2 : Int32) (s0 : Int32) (K : Tr) (R : Tr) (P : Tr) (H : Heap) (locs : List Loc) (ls : Array Slot) (h : fJ_X3_readPiece_J86 x1 x2 s0 K R P = some (r0, K', R', P')) (hP : va_P G vwCl (wRP cA ka ra pa K R P L) H) (hD : va_D A (wRP cA ka ra pa K R P L)) (hS : va_S A s.heap H locs) (hl : lv_has ls 6 [(0, .ref (ra 0)), (1, .int x1), (2, .int x2)]) : G_X3_readPiece p l e s m below meth c G cA A bA ka ra pa L r0 K' R' P' H locs (F0 m 86 ls [.int s0, .ref (ra 0)]) := by
  obtain ⟨hx, hb, hr, hml, hT, hown, hlocks, hK, hN, hA⟩ := id F
  unfold fJ_X3_readPiece_J86 at h
  refine lv_iconst (v := 4) hx hb dX3_readPiece_86 (by decide) ?_
  obtain ⟨⟨r21, R_22⟩, hc23, h⟩ := tx_bd h
  replace h := tx_let (y := r21) rfl h
  replace h := tx_let (y := R_22) rfl h
  refine tzB_i (As := [.int s0, .int 4]) (rest := []) ⟨hx, hb, hml, hown, hT⟩ hP hD hS hA hK hN hB (c_X3_expect l G cA H.size bA ka ra pa K R P L s0 (4 : Int32)  r21 R_22 hc23) (tq_gV kw_16_18 kw_16_19 kw_16_20 kw_1_15 kw_16_21) rfl rfl dkdV_yX3_expect_2 (Nat.le_of_ble_eq_true rfl) (Nat.le_of_ble_eq_true rfl) (ci := 3) (q0 := 3) rfl rfl rfl hl.1 rfl (Nat.le_of_ble_eq_true rfl) dX3_readPiece_87 ⟨Nat.le_of_ble_eq_true rfl, Nat.le_of_ble_eq_true rfl⟩ (fun _ _ H locs z24 hP hD hS => ?_)
  have z24 := z24.symm
  subst z24
  have hP : va_P G vwCl (wRP cA ka ra pa K R_22 P L) H := hP
  have hD : va_D A (wRP cA ka ra pa K R_22 P L) := hD
  refine lv_if_ne (tgt := 95) hx hb dX3_readPiece_90 (by decide) (fun c25 => ?_) (fun c25 => ?_)
  · have h := tx_neg c25 h
    refine lv_aload_n hx hb dX3_readPiece_95 rfl (lv_at hl 0 rfl) ?_
    refine va_get (D := G) (ci := 3) (v := .ref (ka 0)) (C := RX3) (T := TX3) (N := 10) hx hb hT ku_3 hown hK hP 3 rfl rfl 0 (by decide) (hT _ kw_2_23) (fun _ h9 => h9) rfl dX3_readPiece_96 ?_
    obtain ⟨K_26, hc27, h⟩ := tx_bd h
    refine tzB_v (As := []) (rest := []) ⟨hx, hb, hml, hown, hT⟩ hP hD hS hA hK hN hB (c_X5_advance l G cA H.size bA ka ra pa K R_22 P L  K_26 hc27) (tq_gV kw_16_23 kw_15_0 kw_15_1 kw_2_22 kw_15_2) rfl rfl dkdV_yX5_advance_0 (Nat.le_of_ble_eq_true rfl) (Nat.le_of_ble_eq_true rfl) (ci := 5) (q0 := 0) rfl rfl rfl hl.1 rfl (Nat.le_of_ble_eq_true rfl) dX3_readPiece_99 ⟨Nat.le_of_ble_eq_true rfl, Nat.le_of_ble_eq_true rfl⟩ (fun _ H locs z28 hP hD hS => ?_)
    have hP : va_P G vwCl (wRP cA ka ra pa K_26 R_22 P L) H := hP
    have hD : va_D A (wRP cA ka ra pa K_26 R_22 P L) := hD
    refine lv_aload_n hx hb dX3_readPiece_102 rfl (lv_at hl 0 rfl) ?_
    refine lv_iconst (v := 1) hx hb dX3_readPiece_103 (by decide) ?_
    refine lv_bipush (v := 99) hx hb dX3_readPiece_104 (by decide) ?_
    obtain ⟨⟨r29, K_30, R_31⟩, hc32, h⟩ := tx_bd h
    replace h := tx_let (y := r29) rfl h
    replace h := tx_let (y := K_30) rfl h
    replace h := tx_let (y := R_31) rfl h
    refine tzB_i (As := [.int 1, .int 99]) (rest := []) ⟨hx, hb, hml, hown, hT⟩ hP hD hS hA hK hN hB (c_X3_takeNumber l G cA H.size bA ka ra pa K_26 R_22 P L (1 : Int32) (99 : Int32)  r29 K_30 R_31 hc32) (tq_gV kw_17_4 kw_17_5 kw_17_6 kw_1_15 kw_17_7) rfl rfl dkdV_yX3_takeNumber_2 (Nat.le_of_ble_eq_true rfl) (Nat.le_of_ble_eq_true rfl) (ci := 3) (q0 := 3) rfl rfl rfl hl.1 rfl (Nat.le_of_ble_eq_true rfl) dX3_readPiece_106 ⟨Nat.le_of_ble_eq_true rfl, Nat.le_of_ble_eq_true rfl⟩ (fun _ _ H locs z33 hP hD hS => ?_)
    have z33 := z33.symm
    subst z33
    have hP : va_P G vwCl (wRP cA ka ra pa K_30 R_31 P L) H := hP
    have hD : va_D A (wRP cA ka ra pa K_30 R_31 P L) := hD
    refine lv_istore_n (lv' := [(3, .int r29), (0, .ref (ra 0)), (1, .int x1), (2, .int x2)]) hx hb dX3_readPiece_109 rfl hl (by decide) rfl (fun ls hl => ?_)
    refine lv_iload_n hx hb dX3_readPiece_110 rfl (lv_at hl 0 rfl) ?_
    refine lv_if_ge (tgt := 118) hx hb dX3_readPiece_111 (by decide) (fun c34 => ?_) (fun c34 => ?_)
    · have h := tx_pos c34 h
      refine lv_aload_n hx hb dX3_readPiece_118 rfl (lv_at hl 1 rfl) ?_
      refine lv_iconst (v := 0) hx hb dX3_readPiece_119 (by decide) ?_
      refine lv_bipush (v := 9) hx hb dX3_readPiece_120 (by decide) ?_
      obtain ⟨⟨r35, K_36, R_37⟩, hc38, h⟩ := tx_bd h
      replace h := tx_let (y := r35) rfl h
      replace h := tx_let (y := K_36) rfl h
      replace h := tx_let (y := R_37) rfl h
      refine tzB_i (As := [.int 0, .int 9]) (rest := []) ⟨hx, hb, hml, hown, hT⟩ hP hD hS hA hK hN hB (c_X3_takeNumber l G cA H.size bA ka ra pa K_30 R_31 P L (0 : Int32) (9 : Int32)  r35 K_36 R_37 hc38) (tq_gV kw_17_4 kw_17_5 kw_17_6 kw_1_15 kw_17_7) rfl rfl dkdV_yX3_takeNumber_2 (Nat.le_of_ble_eq_true rfl) (Nat.le_of_ble_eq_true rfl) (ci := 3) (q0 := 3) rfl rfl rfl hl.1 rfl (Nat.le_of_ble_eq_true rfl) dX3_readPiece_122 ⟨Nat.le_of_ble_eq_true rfl, Nat.le_of_ble_eq_true rfl⟩ (fun _ _ H locs z39 hP hD hS => ?_)
      have z39 := z39.symm
      subst z39
      have hP : va_P G vwCl (wRP cA ka ra pa K_36 R_37 P L) H := hP
      have hD : va_D A (wRP cA ka ra pa K_36 R_37 P L) := hD
      exact w_X3_readPiece_J125 F hB x1 x2 r29 r35 K_36 R_37 P H locs ls h hP hD hS (lv_sub hl [1, 2, 3, 0] rfl)
    · have h := tx_neg c34 h
      refine lv_iconst (v := (-1)) hx hb dX3_readPiece_114 (by decide) ?_
      refine lv_goto (tgt := 125) hx hb dX3_readPiece_115 (by decide) ?_
      exact w_X3_readPiece_J125 F hB x1 x2 r29 (-1) K_30 R_31 P H locs ls h hP hD hS (lv_sub hl [1, 2, 3, 0] rfl)
  · have h := tx_pos c25 h
    refine lv_iconst (v := 0) hx hb dX3_readPiece_93 (by decide) ?_
    obtain ⟨rfl, rfl, rfl, rfl⟩ := tx_4 h
    exact W.zret (ty := .boolean) hx hb hr rfl (fun t ht hW => ⟨⟨_, (), rfl, rfl, by rw [ht]; exact hP, hD⟩, hS.F ht⟩) hS.2.2 dX3_readPiece_94
set_option maxHeartbeats 4000000 in
set_option maxRecDepth 100000 in
theorem w_X3_readPiece_J69 {p : Program} {l : Launch} {e : Env} {s : State} {m : MethodId} {below : List Frame} {meth : Method} {c : Code} {G : va_G} {cA : Nat → ClassId} {A : Nat → Prop} {bA : Nat} {ka : Nat → Nat} {ra : Nat → Nat} {pa : Nat → Nat} {L : Lo} {r0 : Int32} {K' : Tr} {R' : Tr} {P' : Tr} (F : tF p s m ([.ref (ra 0)] : List Value).toArray meth c G cA A RX3 cX3_readPiece 6 (some .boolean)) (hB : tqB bA A s s.heap)    (x1 : Int32) (x2 : Int32) (s0 : Int32) (K : Tr) (R : Tr) (P : Tr) (H : Heap) (locs : List Loc) (ls : Array Slot) (h : fJ_X3_readPiece_J69 x1 x2 s0 K R P = some (r0, K', R', P')) (hP : va_P G vwCl (wRP cA ka ra pa K R P L) H) (hD : va_D A (wRP cA ka ra pa K R P L)) (hS : va_S A s.heap H locs) (hl : lv_has ls 6 [(0, .ref (ra 0)), (1, .int x1), (2, .int x2)]) : G_X3_readPiece p l e s m below meth c G cA A bA ka ra pa L r0 K' R' P' H locs (F0 m 69 ls [.int s0, .ref (ra 0)]) := by
  obtain ⟨hx, hb, hr, hml, hT, hown, hlocks, hK, hN, hA⟩ := id F
  unfold fJ_X3_readPiece_J69 at h
  refine lv_iconst (v := 1) hx hb dX3_readPiece_69 (by decide) ?_
  obtain ⟨⟨r15, R_16⟩, hc17, h⟩ := tx_bd h
  replace h := tx_let (y := r15) rfl h
  replace h := tx_let (y := R_16) rfl h
  refine tzB_i (As := [.int s0, .int 1]) (rest := []) ⟨hx, hb, hml, hown, hT⟩ hP hD hS hA hK hN hB (c_X3_expect l G cA H.size bA ka ra pa K R P L s0 (1 : Int32)  r15 R_16 hc17) (tq_gV kw_16_18 kw_16_19 kw_16_20 kw_1_15 kw_16_21) rfl rfl dkdV_yX3_expect_2 (Nat.le_of_ble_eq_true rfl) (Nat.le_of_ble_eq_true rfl) (ci := 3) (q0 := 3) rfl rfl rfl hl.1 rfl (Nat.le_of_ble_eq_true rfl) dX3_readPiece_70 ⟨Nat.le_of_ble_eq_true rfl, Nat.le_of_ble_eq_true rfl⟩ (fun _ _ H locs z18 hP hD hS => ?_)
  have z18 := z18.symm
  subst z18
  have hP : va_P G vwCl (wRP cA ka ra pa K R_16 P L) H := hP
  have hD : va_D A (wRP cA ka ra pa K R_16 P L) := hD
  refine lv_if_eq (tgt := 93) hx hb dX3_readPiece_73 (by decide) (fun c19 => ?_) (fun c19 => ?_)
  · have h := tx_pos c19 h
    refine lv_iconst (v := 0) hx hb dX3_readPiece_93 (by decide) ?_
    obtain ⟨rfl, rfl, rfl, rfl⟩ := tx_4 h
    exact W.zret (ty := .boolean) hx hb hr rfl (fun t ht hW => ⟨⟨_, (), rfl, rfl, by rw [ht]; exact hP, hD⟩, hS.F ht⟩) hS.2.2 dX3_readPiece_94
  · have h := tx_neg c19 h
    refine lv_aload_n hx hb dX3_readPiece_76 rfl (lv_at hl 0 rfl) ?_
    refine lv_iload_n hx hb dX3_readPiece_77 rfl (lv_at hl 2 rfl) ?_
    refine lv_if_lt (tgt := 85) hx hb dX3_readPiece_78 (by decide) (fun c20 => ?_) (fun c20 => ?_)
    · have h := tx_pos c20 h
      refine lv_iconst (v := 0) hx hb dX3_readPiece_85 (by decide) ?_
      exact w_X3_readPiece_J86 F hB x1 x2 0 K R_16 P H locs ls h hP hD hS (lv_sub hl [0, 1, 2] rfl)
    · have h := tx_neg c20 h
      refine lv_iconst (v := 1) hx hb dX3_readPiece_81 (by decide) ?_
      refine lv_goto (tgt := 86) hx hb dX3_readPiece_82 (by decide) ?_
      exact w_X3_readPiece_J86 F hB x1 x2 1 K R_16 P H locs ls h hP hD hS (lv_sub hl [0, 1, 2] rfl)
set_option maxHeartbeats 4000000 in
set_option maxRecDepth 100000 in
theorem w_X3_readPiece_J20 {p : Program} {l : Launch} {e : Env} {s : State} {m : MethodId} {below : List Frame} {meth : Method} {c : Code} {G : va_G} {cA : Nat → ClassId} {A : Nat → Prop} {bA : Nat} {ka : Nat → Nat} {ra : Nat → Nat} {pa : Nat → Nat} {L : Lo} {r0 : Int32} {K' : Tr} {R' : Tr} {P' : Tr} (F : tF p s m ([.ref (ra 0)] : List Value).toArray meth c G cA A RX3 cX3_readPiece 6 (some .boolean)) (hB : tqB bA A s s.heap)    (x1 : Int32) (s0 : Int32) (K : Tr) (R : Tr) (P : Tr) (H : Heap) (locs : List Loc) (ls : Array Slot) (h : fJ_X3_readPiece_J20 x1 s0 K R P = some (r0, K', R', P')) (hP : va_P G vwCl (wRP cA ka ra pa K R P L) H) (hD : va_D A (wRP cA ka ra pa K R P L)) (hS : va_S A s.heap H locs) (hl : lv_has ls 6 [(0, .ref (ra 0)), (1, .int x1)]) : G_X3_readPiece p l e s m below meth c G cA A bA ka ra pa L r0 K' R' P' H locs (F0 m 20 ls [.int s0, .ref (ra 0)]) := by
  obtain ⟨hx, hb, hr, hml, hT, hown, hlocks, hK, hN, hA⟩ := id F
  unfold fJ_X3_readPiece_J20 at h
  refine lv_iconst (v := 2) hx hb dX3_readPiece_20 (by decide) ?_
  obtain ⟨⟨r3, R_4⟩, hc5, h⟩ := tx_bd h
  replace h := tx_let (y := r3) rfl h
  replace h := tx_let (y := R_4) rfl h
  refine tzB_i (As := [.int s0, .int 2]) (rest := []) ⟨hx, hb, hml, hown, hT⟩ hP hD hS hA hK hN hB (c_X3_expect l G cA H.size bA ka ra pa K R P L s0 (2 : Int32)  r3 R_4 hc5) (tq_gV kw_16_18 kw_16_19 kw_16_20 kw_1_15 kw_16_21) rfl rfl dkdV_yX3_expect_2 (Nat.le_of_ble_eq_true rfl) (Nat.le_of_ble_eq_true rfl) (ci := 3) (q0 := 3) rfl rfl rfl hl.1 rfl (Nat.le_of_ble_eq_true rfl) dX3_readPiece_21 ⟨Nat.le_of_ble_eq_true rfl, Nat.le_of_ble_eq_true rfl⟩ (fun _ _ H locs z6 hP hD hS => ?_)
  have z6 := z6.symm
  subst z6
  have hP : va_P G vwCl (wRP cA ka ra pa K R_4 P L) H := hP
  have hD : va_D A (wRP cA ka ra pa K R_4 P L) := hD
  refine lv_if_ne (tgt := 29) hx hb dX3_readPiece_24 (by decide) (fun c7 => ?_) (fun c7 => ?_)
  · have h := tx_neg c7 h
    refine lv_aload_n hx hb dX3_readPiece_29 rfl (lv_at hl 0 rfl) ?_
    refine va_get (D := G) (ci := 3) (v := .ref (ka 0)) (C := RX3) (T := TX3) (N := 10) hx hb hT ku_3 hown hK hP 3 rfl rfl 0 (by decide) (hT _ kw_2_23) (fun _ h9 => h9) rfl dX3_readPiece_30 ?_
    obtain ⟨K_8, hc9, h⟩ := tx_bd h
    refine tzB_v (As := []) (rest := []) ⟨hx, hb, hml, hown, hT⟩ hP hD hS hA hK hN hB (c_X5_advance l G cA H.size bA ka ra pa K R_4 P L  K_8 hc9) (tq_gV kw_16_23 kw_15_0 kw_15_1 kw_2_22 kw_15_2) rfl rfl dkdV_yX5_advance_0 (Nat.le_of_ble_eq_true rfl) (Nat.le_of_ble_eq_true rfl) (ci := 5) (q0 := 0) rfl rfl rfl hl.1 rfl (Nat.le_of_ble_eq_true rfl) dX3_readPiece_33 ⟨Nat.le_of_ble_eq_true rfl, Nat.le_of_ble_eq_true rfl⟩ (fun _ H locs z10 hP hD hS => ?_)
    have hP : va_P G vwCl (wRP cA ka ra pa K_8 R_4 P L) H := hP
    have hD : va_D A (wRP cA ka ra pa K_8 R_4 P L) := hD
    refine lv_aload_n hx hb dX3_readPiece_36 rfl (lv_at hl 0 rfl) ?_
    refine va_get (D := G) (ci := 3) (v := .ref (pa 0)) (C := RX3) (T := TX3) (N := 10) hx hb hT ku_3 hown hK hP 3 rfl rfl 4 (by decide) (hT _ kw_3_4) (fun _ h9 => h9) rfl dX3_readPiece_37 ?_
    refine lv_aload_n hx hb dX3_readPiece_40 rfl (lv_at hl 0 rfl) ?_
    refine va_get (D := G) (ci := 3) (v := .ref (ka 0)) (C := RX3) (T := TX3) (N := 10) hx hb hT ku_3 hown hK hP 3 rfl rfl 0 (by decide) (hT _ kw_2_23) (fun _ h9 => h9) rfl dX3_readPiece_41 ?_
    refine va_get (D := G) (ci := 5) (v := .int (K_8 0 3)) (C := RX5) (T := TX5) (N := 8) hx hb hT ku_5 hown hK hP 0 rfl rfl 3 (by decide) (hT _ kw_17_8) (fun _ h9 => h9) rfl dX3_readPiece_44 ?_
    obtain ⟨r11, hc12, h⟩ := tx_bd h
    refine tzB_i (As := [.int (K_8 0 3)]) (rest := []) ⟨hx, hb, hml, hown, hT⟩ hP hD hS hA hK hN hB (c_X2_personNamed l G cA H.size bA ka ra pa K_8 R_4 P L (K_8 0 3)  r11 hc12) (tq_gV kw_17_18 kw_17_19 kw_17_20 kw_1_19 kw_17_21) rfl rfl dkdV_yX2_personNamed_1 (Nat.le_of_ble_eq_true rfl) (Nat.le_of_ble_eq_true rfl) (ci := 2) (q0 := 5) rfl rfl rfl hl.1 rfl (Nat.le_of_ble_eq_true rfl) dX3_readPiece_47 ⟨Nat.le_of_ble_eq_true rfl, Nat.le_of_ble_eq_true rfl⟩ (fun _ _ H locs z13 hP hD hS => ?_)
    have z13 := z13.symm
    subst z13
    have hP : va_P G vwCl (wRP cA ka ra pa K_8 R_4 P L) H := hP
    have hD : va_D A (wRP cA ka ra pa K_8 R_4 P L) := hD
    refine lv_istore_n (lv' := [(2, .int r11), (0, .ref (ra 0)), (1, .int x1)]) hx hb dX3_readPiece_50 rfl hl (by decide) rfl (fun ls hl => ?_)
    refine lv_aload_n hx hb dX3_readPiece_51 rfl (lv_at hl 1 rfl) ?_
    refine lv_aload_n hx hb dX3_readPiece_52 rfl (lv_at hl 1 rfl) ?_
    refine va_get (D := G) (ci := 3) (v := .ref (ka 0)) (C := RX3) (T := TX3) (N := 10) hx hb hT ku_3 hown hK hP 3 rfl rfl 0 (by decide) (hT _ kw_2_23) (fun _ h9 => h9) rfl dX3_readPiece_53 ?_
    refine va_get (D := G) (ci := 5) (v := .int (K_8 0 1)) (C := RX5) (T := TX5) (N := 8) hx hb hT ku_5 hown hK hP 0 rfl rfl 1 (by decide) (hT _ kw_14_15) (fun _ h9 => h9) rfl dX3_readPiece_56 ?_
    refine lv_bipush (v := 43) hx hb dX3_readPiece_59 (by decide) ?_
    refine lv_icmp_ne (tgt := 68) hx hb dX3_readPiece_61 (by decide) (fun c14 => ?_) (fun c14 => ?_)
    · have h := tx_neg c14 h
      refine lv_iconst (v := 0) hx hb dX3_readPiece_68 (by decide) ?_
      exact w_X3_readPiece_J69 F hB x1 r11 0 K_8 R_4 P H locs ls h hP hD hS (lv_sub hl [1, 2, 0] rfl)
    · have h := tx_pos c14 h
      refine lv_iconst (v := 1) hx hb dX3_readPiece_64 (by decide) ?_
      refine lv_goto (tgt := 69) hx hb dX3_readPiece_65 (by decide) ?_
      exact w_X3_readPiece_J69 F hB x1 r11 1 K_8 R_4 P H locs ls h hP hD hS (lv_sub hl [1, 2, 0] rfl)
  · have h := tx_pos c7 h
    refine lv_iconst (v := 0) hx hb dX3_readPiece_27 (by decide) ?_
    obtain ⟨rfl, rfl, rfl, rfl⟩ := tx_4 h
    exact W.zret (ty := .boolean) hx hb hr rfl (fun t ht hW => ⟨⟨_, (), rfl, rfl, by rw [ht]; exact hP, hD⟩, hS.F ht⟩) hS.2.2 dX3_readPiece_28
set_option maxHeartbeats 4000000 in
set_option maxRecDepth 100000 in
theorem c_X3_readPiece (l : Launch) (G : va_G) (cA : Nat → ClassId) (sz : Nat) (bA : Nat) (ka : Nat → Nat) (ra : Nat → Nat) (pa : Nat → Nat) (K : Tr) (R : Tr) (P : Tr) (L : Lo)  (r0 : Int32) (K' : Tr) (R' : Tr) (P' : Tr) (h : f_X3_readPiece K R P = some (r0, K', R', P')) : Met l yX3_readPiece (.code yX3_readPiece cX3_readPiece 6 (some .boolean) :: T0) ({ frames := 4, cells := 0, slots := 0, locals := 88 } : Room) (tqPB bA G cA [.ref (ra 0)] (wRP cA ka ra pa K R P L) sz) (tqQi G cA (fun (r : Int32) (_ : Unit) => r = r0) (fun (_ : Unit) => wRP cA ka ra pa (K') (R') (P') L) (va_A (wRP cA ka ra pa K R P L) sz)) 0 0 (va_A (wRP cA ka ra pa K R P L) sz) := by
  refine Met.ofW (cc := cX3_readPiece) (maxL := 6) (ret := (some .boolean)) (by decide) rfl ?_
  intro p e s m args below meth c s₁ B hml hv
  obtain ⟨rfl, hsz, hP, hK, hD0, hN, hB⟩ := hv
  have hx := B.exec
  have hb := B.bytes
  have hr := B.returns
  have hts := atoms_spec (ws := .code yX3_readPiece cX3_readPiece 6 (some .boolean) :: T0) B.pre
  have hT : ∀ w ∈ T0, w.before _ s = true := fun w h => hts w (List.mem_cons_of_mem _ h)
  have hown : s.vm.findClass RX3 = some m.cls := findClass_of_methodNamed B.named
  have hlocks := B.notSynchronized
  subst hsz
  have hD := hD0.self (sz := s.heap.size)
  generalize hAe : va_A (wRP cA ka ra pa K R P L) s.heap.size = A at hD hB ⊢
  have hA : ∀ q : Nat, s.heap.size ≤ q → A q := fun q h => by rw [← hAe]; exact Or.inr h
  have hS : va_S A s.heap s.heap [] := va_S.rf
  have hl := lv_entry ([.ref (ra 0)]) (n := 6) (Nat.le_of_ble_eq_true rfl)
  rw [lg_entry_eq]
  generalize (lg_sl ([.ref (ra 0)]) ++ List.replicate (6 - (lg_sl ([.ref (ra 0)])).length) Slot.unset).toArray = ls at hl ⊢
  have hl : lv_has ls 6 [(0, .ref (ra 0))] := hl
  have F : tF p s m ([.ref (ra 0)] : List Value).toArray meth c G cA A RX3 cX3_readPiece 6 (some .boolean) := ⟨hx, hb, hr, hml, hT, hown, hlocks, hK, hN, hA⟩
  obtain ⟨H, hH⟩ : ∃ z, z = s.heap := ⟨_, rfl⟩
  rw [← hH] at hP
  have hS : va_S A s.heap H [] := by rw [hH]; exact hS
  suffices hgo : G_X3_readPiece p l e s m below meth c G cA A bA ka ra pa L r0 K' R' P' H [] (F0 m 0 ls []) by rw [hH] at hgo; exact hgo
  generalize ([] : List Loc) = locs at hS ⊢
  unfold f_X3_readPiece at h
  refine lv_aload_n hx hb dX3_readPiece_0 rfl (lv_at hl 0 rfl) ?_
  refine va_get (D := G) (ci := 3) (v := .ref (pa 0)) (C := RX3) (T := TX3) (N := 10) hx hb hT ku_3 hown hK hP 3 rfl rfl 4 (by decide) (hT _ kw_3_4) (fun _ h9 => h9) rfl dX3_readPiece_1 ?_
  refine va_get (D := G) (ci := 2) (v := .int (P 0 2)) (C := RX2) (T := TX2) (N := 19) hx hb hT ku_2 hown hK hP 5 rfl rfl 2 (by decide) (hT _ kw_18_2) (fun _ h9 => h9) rfl dX3_readPiece_4 ?_
  refine lv_topi (fun y1 ey1 => ?_)
  have h := tx_let ey1 h
  refine lv_istore_n (lv' := [(1, .int y1), (0, .ref (ra 0))]) hx hb dX3_readPiece_7 rfl hl (by decide) rfl (fun ls hl => ?_)
  refine lv_aload_n hx hb dX3_readPiece_8 rfl (lv_at hl 1 rfl) ?_
  refine lv_iload_n hx hb dX3_readPiece_9 rfl (lv_at hl 0 rfl) ?_
  refine lv_bipush (v := 10) hx hb dX3_readPiece_10 (by decide) ?_
  refine lv_icmp_ge (tgt := 19) hx hb dX3_readPiece_12 (by decide) (fun c2 => ?_) (fun c2 => ?_)
  · have h := tx_pos c2 h
    refine lv_iconst (v := 0) hx hb dX3_readPiece_19 (by decide) ?_
    exact w_X3_readPiece_J20 F hB y1 0 K R P H locs ls h hP hD hS (lv_sub hl [1, 0] rfl)
  · have h := tx_neg c2 h
    refine lv_iconst (v := 1) hx hb dX3_readPiece_15 (by decide) ?_
    refine lv_goto (tgt := 20) hx hb dX3_readPiece_16 (by decide) ?_
    exact w_X3_readPiece_J20 F hB y1 1 K R P H locs ls h hP hD hS (lv_sub hl [1, 0] rfl)
abbrev G_X3_readPerson (p : Program) (l : Launch) (e : Env) (s : State) (m : MethodId) (below : List Frame) (meth : Method) (c : Code) (G : va_G) (cA : Nat → ClassId) (A : Nat → Prop) (bA : Nat) (ka : Nat → Nat) (ra : Nat → Nat) (pa : Nat → Nat) (L : Lo) (r0 : Int32) (K' : Tr) (R' : Tr) (P' : Tr) (H : Heap) (locs : List Loc) (g : JFrame) : Prop := W p l e (headSpec (.code yX3_readPerson cX3_readPerson 6 (some .boolean) :: T0) ({ frames := 4, cells := 0, slots := 0, locals := 88 } : Room)).room s m ([.ref (ra 0)] : List Value).toArray below meth c H locs 0 0 (MQ below (tqQi G cA (fun (r : Int32) (_ : Unit) => r = r0) (fun (_ : Unit) => wRP cA ka ra pa (K') (R') (P') L) A) ([.ref (ra 0)] : List Value).toArray s 0 0 A) g
set_option maxHeartbeats 4000000 in
set_option maxRecDepth 100000 in
theorem w_X3_readPerson_J145 {p : Program} {l : Launch} {e : Env} {s : State} {m : MethodId} {below : List Frame} {meth : Method} {c : Code} {G : va_G} {cA : Nat → ClassId} {A : Nat → Prop} {bA : Nat} {ka : Nat → Nat} {ra : Nat → Nat} {pa : Nat → Nat} {L : Lo} {r0 : Int32} {K' : Tr} {R' : Tr} {P' : Tr} (F : tF p s m ([.ref (ra 0)] : List Value).toArray meth c G cA A RX3 cX3_readPerson 6 (some .boolean)) (hB : tqB bA A s s.heap)    (x1 : Int32) (x2 : Int32) (x3 : Int32) (x4 : Int32) (s0 : Int32) (K : Tr) (R : Tr) (P : Tr) (H : Heap) (locs : List Loc) (ls : Array Slot) (h : fJ_X3_readPerson_J145 x1 x2 x3 x4 s0 K R P = some (r0, K', R', P')) (hP : va_P G vwCl (wRP cA ka ra pa K R P L) H) (hD : va_D A (wRP cA ka ra pa K R P L)) (hS : va_S A s.heap H locs) (hl : lv_has ls 6 [(0, .ref (ra 0)), (1, .int x1), (2, .int x2), (3, .int x3), (4, .int x4)]) : G_X3_readPerson p l e s m below meth c G cA A bA ka ra pa L r0 K' R' P' H locs (F0 m 145 ls [.int s0]) := by
  obtain ⟨hx, hb, hr, hml, hT, hown, hlocks, hK, hN, hA⟩ := id F
  unfold fJ_X3_readPerson_J145 at h
  refine lv_istore (lv' := [(5, .int s0), (0, .ref (ra 0)), (1, .int x1), (2, .int x2), (3, .int x3), (4, .int x4)]) hx hb dX3_readPerson_145 hl (by decide) rfl (fun ls hl => ?_)
  refine lv_iload hx hb dX3_readPerson_147 (lv_at hl 0 rfl) ?_
  refine lv_if_ge (tgt := 154) hx hb dX3_readPerson_149 (by decide) (fun c47 => ?_) (fun c47 => ?_)
  · have h := tx_pos c47 h
    refine lv_aload_n hx hb dX3_readPerson_154 rfl (lv_at hl 1 rfl) ?_
    refine va_get (D := G) (ci := 3) (v := .ref (pa 0)) (C := RX3) (T := TX3) (N := 10) hx hb hT ku_3 hown hK hP 3 rfl rfl 4 (by decide) (hT _ kw_3_4) (fun _ h9 => h9) rfl dX3_readPerson_155 ?_
    refine va_get (D := G) (ci := 2) (v := .ref (pa 10)) (C := RX2) (T := TX2) (N := 19) hx hb hT ku_2 hown hK hP 5 rfl rfl 9 (by decide) (hT _ kw_17_14) (fun _ h9 => h9) rfl dX3_readPerson_158 ?_
    refine lv_iload_n hx hb dX3_readPerson_161 rfl (lv_at hl 2 rfl) ?_
    refine lv_iload_n hx hb dX3_readPerson_162 rfl (lv_at hl 3 rfl) ?_
    obtain ⟨g48, h⟩ := tx_ck h
    refine va_iast (i := x1) hx hb hK hP hD hS 8 0 rfl rfl (tx_in g48) dX3_readPerson_163 (fun H locs hP hD hS => ?_)
    obtain ⟨P_49, eP_49, h⟩ := tx_lt h
    rw [sRP_pa_a9, eP_49] at hP hD
    refine lv_aload_n hx hb dX3_readPerson_164 rfl (lv_at hl 1 rfl) ?_
    refine va_get (D := G) (ci := 3) (v := .ref (pa 0)) (C := RX3) (T := TX3) (N := 10) hx hb hT ku_3 hown hK hP 3 rfl rfl 4 (by decide) (hT _ kw_3_4) (fun _ h9 => h9) rfl dX3_readPerson_165 ?_
    refine va_get (D := G) (ci := 2) (v := .ref (pa 11)) (C := RX2) (T := TX2) (N := 19) hx hb hT ku_2 hown hK hP 5 rfl rfl 10 (by decide) (hT _ kw_17_15) (fun _ h9 => h9) rfl dX3_readPerson_168 ?_
    refine lv_iload_n hx hb dX3_readPerson_171 rfl (lv_at hl 2 rfl) ?_
    refine lv_iload_n hx hb dX3_readPerson_172 rfl (lv_at hl 4 rfl) ?_
    refine va_iast (i := x1) hx hb hK hP hD hS 9 0 rfl rfl (tx_in g48) dX3_readPerson_173 (fun H locs hP hD hS => ?_)
    obtain ⟨P_50, eP_50, h⟩ := tx_lt h
    rw [sRP_pa_a10, eP_50] at hP hD
    refine lv_aload_n hx hb dX3_readPerson_174 rfl (lv_at hl 1 rfl) ?_
    refine va_get (D := G) (ci := 3) (v := .ref (pa 0)) (C := RX3) (T := TX3) (N := 10) hx hb hT ku_3 hown hK hP 3 rfl rfl 4 (by decide) (hT _ kw_3_4) (fun _ h9 => h9) rfl dX3_readPerson_175 ?_
    refine va_get (D := G) (ci := 2) (v := .ref (pa 12)) (C := RX2) (T := TX2) (N := 19) hx hb hT ku_2 hown hK hP 5 rfl rfl 11 (by decide) (hT _ kw_17_16) (fun _ h9 => h9) rfl dX3_readPerson_178 ?_
    refine lv_iload_n hx hb dX3_readPerson_181 rfl (lv_at hl 2 rfl) ?_
    refine lv_iload hx hb dX3_readPerson_182 (lv_at hl 5 rfl) ?_
    refine va_iast (i := x1) hx hb hK hP hD hS 10 0 rfl rfl (tx_in g48) dX3_readPerson_184 (fun H locs hP hD hS => ?_)
    obtain ⟨P_51, eP_51, h⟩ := tx_lt h
    rw [sRP_pa_a11, eP_51] at hP hD
    refine lv_aload_n hx hb dX3_readPerson_185 rfl (lv_at hl 1 rfl) ?_
    refine va_get (D := G) (ci := 3) (v := .ref (pa 0)) (C := RX3) (T := TX3) (N := 10) hx hb hT ku_3 hown hK hP 3 rfl rfl 4 (by decide) (hT _ kw_3_4) (fun _ h9 => h9) rfl dX3_readPerson_186 ?_
    refine va_get (D := G) (ci := 2) (v := .ref (pa 13)) (C := RX2) (T := TX2) (N := 19) hx hb hT ku_2 hown hK hP 5 rfl rfl 12 (by decide) (hT _ kw_17_17) (fun _ h9 => h9) rfl dX3_readPerson_189 ?_
    refine lv_iload_n hx hb dX3_readPerson_192 rfl (lv_at hl 2 rfl) ?_
    refine lv_iload hx hb dX3_readPerson_193 (lv_at hl 0 rfl) ?_
    refine va_iast (i := x1) hx hb hK hP hD hS 11 0 rfl rfl (tx_in g48) dX3_readPerson_195 (fun H locs hP hD hS => ?_)
    obtain ⟨P_52, eP_52, h⟩ := tx_lt h
    rw [sRP_pa_a12, eP_52] at hP hD
    refine lv_aload_n hx hb dX3_readPerson_196 rfl (lv_at hl 1 rfl) ?_
    refine va_get (D := G) (ci := 3) (v := .ref (pa 0)) (C := RX3) (T := TX3) (N := 10) hx hb hT ku_3 hown hK hP 3 rfl rfl 4 (by decide) (hT _ kw_3_4) (fun _ h9 => h9) rfl dX3_readPerson_197 ?_
    refine lv_dup hx hb dX3_readPerson_200 rfl ?_
    refine va_get (D := G) (ci := 2) (v := .int (P_52 0 1)) (C := RX2) (T := TX2) (N := 19) hx hb hT ku_2 hown hK hP 5 rfl rfl 1 (by decide) (hT _ kw_17_13) (fun _ h9 => h9) rfl dX3_readPerson_201 ?_
    refine lv_iconst (v := 1) hx hb dX3_readPerson_204 (by decide) ?_
    refine lv_iadd hx hb dX3_readPerson_205 ?_
    refine va_put (D := G) (ci := 2) (v := .int ((P_52 0 1) + 1)) (ty := .int) (C := RX2) (T := TX2) (N := 19) hx hb hT ku_2 tyX2 tyX2_ok nmX2 hown hK hP hD hS 5 rfl rfl 1 (by decide) (hT _ kw_17_13) (fun _ h9 => h9) rfl (by decide +kernel) rfl rfl (Nat.le_of_ble_eq_true rfl) dX3_readPerson_206 (fun H locs hP hD hS => ?_)
    obtain ⟨P_53, eP_53, h⟩ := tx_lt h
    rw [sRP_pa_f1, eP_53] at hP hD
    refine lv_iconst (v := 1) hx hb dX3_readPerson_209 (by decide) ?_
    obtain ⟨rfl, rfl, rfl, rfl⟩ := tx_4 h
    exact W.zret (ty := .boolean) hx hb hr rfl (fun t ht hW => ⟨⟨_, (), rfl, rfl, by rw [ht]; exact hP, hD⟩, hS.F ht⟩) hS.2.2 dX3_readPerson_210
  · have h := tx_neg c47 h
    refine lv_iconst (v := 0) hx hb dX3_readPerson_152 (by decide) ?_
    obtain ⟨rfl, rfl, rfl, rfl⟩ := tx_4 h
    exact W.zret (ty := .boolean) hx hb hr rfl (fun t ht hW => ⟨⟨_, (), rfl, rfl, by rw [ht]; exact hP, hD⟩, hS.F ht⟩) hS.2.2 dX3_readPerson_153
set_option maxHeartbeats 4000000 in
set_option maxRecDepth 100000 in
theorem w_X3_readPerson_J127 {p : Program} {l : Launch} {e : Env} {s : State} {m : MethodId} {below : List Frame} {meth : Method} {c : Code} {G : va_G} {cA : Nat → ClassId} {A : Nat → Prop} {bA : Nat} {ka : Nat → Nat} {ra : Nat → Nat} {pa : Nat → Nat} {L : Lo} {r0 : Int32} {K' : Tr} {R' : Tr} {P' : Tr} (F : tF p s m ([.ref (ra 0)] : List Value).toArray meth c G cA A RX3 cX3_readPerson 6 (some .boolean)) (hB : tqB bA A s s.heap)    (x1 : Int32) (x2 : Int32) (x3 : Int32) (s0 : Int32) (K : Tr) (R : Tr) (P : Tr) (H : Heap) (locs : List Loc) (ls : Array Slot) (h : fJ_X3_readPerson_J127 x1 x2 x3 s0 K R P = some (r0, K', R', P')) (hP : va_P G vwCl (wRP cA ka ra pa K R P L) H) (hD : va_D A (wRP cA ka ra pa K R P L)) (hS : va_S A s.heap H locs) (hl : lv_has ls 6 [(0, .ref (ra 0)), (1, .int x1), (2, .int x2), (3, .int x3)]) : G_X3_readPerson p l e s m below meth c G cA A bA ka ra pa L r0 K' R' P' H locs (F0 m 127 ls [.int s0]) := by
  obtain ⟨hx, hb, hr, hml, hT, hown, hlocks, hK, hN, hA⟩ := id F
  unfold fJ_X3_readPerson_J127 at h
  refine lv_istore (lv' := [(4, .int s0), (0, .ref (ra 0)), (1, .int x1), (2, .int x2), (3, .int x3)]) hx hb dX3_readPerson_127 hl (by decide) rfl (fun ls hl => ?_)
  refine lv_iload hx hb dX3_readPerson_129 (lv_at hl 0 rfl) ?_
  refine lv_if_ge (tgt := 138) hx hb dX3_readPerson_131 (by decide) (fun c41 => ?_) (fun c41 => ?_)
  · have h := tx_pos c41 h
    refine lv_aload_n hx hb dX3_readPerson_138 rfl (lv_at hl 1 rfl) ?_
    refine lv_iconst (v := 1) hx hb dX3_readPerson_139 (by decide) ?_
    refine lv_bipush (v := 99) hx hb dX3_readPerson_140 (by decide) ?_
    obtain ⟨⟨r42, K_43, R_44⟩, hc45, h⟩ := tx_bd h
    replace h := tx_let (y := r42) rfl h
    replace h := tx_let (y := K_43) rfl h
    replace h := tx_let (y := R_44) rfl h
    refine tzB_i (As := [.int 1, .int 99]) (rest := []) ⟨hx, hb, hml, hown, hT⟩ hP hD hS hA hK hN hB (c_X3_takeNumber l G cA H.size bA ka ra pa K R P L (1 : Int32) (99 : Int32)  r42 K_43 R_44 hc45) (tq_gV kw_17_4 kw_17_5 kw_17_6 kw_1_15 kw_17_7) rfl rfl dkdV_yX3_takeNumber_2 (Nat.le_of_ble_eq_true rfl) (Nat.le_of_ble_eq_true rfl) (ci := 3) (q0 := 3) rfl rfl rfl hl.1 rfl (Nat.le_of_ble_eq_true rfl) dX3_readPerson_142 ⟨Nat.le_of_ble_eq_true rfl, Nat.le_of_ble_eq_true rfl⟩ (fun _ _ H locs z46 hP hD hS => ?_)
    have z46 := z46.symm
    subst z46
    have hP : va_P G vwCl (wRP cA ka ra pa K_43 R_44 P L) H := hP
    have hD : va_D A (wRP cA ka ra pa K_43 R_44 P L) := hD
    exact w_X3_readPerson_J145 F hB x1 x2 x3 s0 r42 K_43 R_44 P H locs ls h hP hD hS (lv_sub hl [1, 2, 3, 4, 0] rfl)
  · have h := tx_neg c41 h
    refine lv_iconst (v := (-1)) hx hb dX3_readPerson_134 (by decide) ?_
    refine lv_goto (tgt := 145) hx hb dX3_readPerson_135 (by decide) ?_
    exact w_X3_readPerson_J145 F hB x1 x2 x3 s0 (-1) K R P H locs ls h hP hD hS (lv_sub hl [1, 2, 3, 4, 0] rfl)
set_option maxHeartbeats 4000000 in
set_option maxRecDepth 100000 in
theorem w_X3_readPerson_J86 {p : Program} {l : Launch} {e : Env} {s : State} {m : MethodId} {below : List Frame} {meth : Method} {c : Code} {G : va_G} {cA : Nat → ClassId} {A : Nat → Prop} {bA : Nat} {ka : Nat → Nat} {ra : Nat → Nat} {pa : Nat → Nat} {L : Lo} {r0 : Int32} {K' : Tr} {R' : Tr} {P' : Tr} (F : tF p s m ([.ref (ra 0)] : List Value).toArray meth c G cA A RX3 cX3_readPerson 6 (some .boolean)) (hB : tqB bA A s s.heap)    (x1 : Int32) (x2 : Int32) (s0 : Int32) (K : Tr) (R : Tr) (P : Tr) (H : Heap) (locs : List Loc) (ls : Array Slot) (h : fJ_X3_readPerson_J86 x1 x2 s0 K R P = some (r0, K', R', P')) (hP : va_P G vwCl (wRP cA ka ra pa K R P L) H) (hD : va_D A (wRP cA ka ra pa K R P L)) (hS : va_S A s.heap H locs) (hl : lv_has ls 6 [(0, .ref (ra 0)), (1, .int x1), (2, .int x2)]) : G_X3_readPerson p l e s m below meth c G cA A bA ka ra pa L r0 K' R' P' H locs (F0 m 86 ls [.int s0, .ref (ra 0)]) := by
  obtain ⟨hx, hb, hr, hml, hT, hown, hlocks, hK, hN, hA⟩ := id F
  unfold fJ_X3_readPerson_J86 at h
  refine lv_iconst (v := 3) hx hb dX3_readPerson_86 (by decide) ?_
  obtain ⟨⟨r22, R_23⟩, hc24, h⟩ := tx_bd h
  replace h := tx_let (y := r22) rfl h
  replace h := tx_let (y := R_23) rfl h
  refine tzB_i (As := [.int s0, .int 3]) (rest := []) ⟨hx, hb, hml, hown, hT⟩ hP hD hS hA hK hN hB (c_X3_expect l G cA H.size bA ka ra pa K R P L s0 (3 : Int32)  r22 R_23 hc24) (tq_gV kw_16_18 kw_16_19 kw_16_20 kw_1_15 kw_16_21) rfl rfl dkdV_yX3_expect_2 (Nat.le_of_ble_eq_true rfl) (Nat.le_of_ble_eq_true rfl) (ci := 3) (q0 := 3) rfl rfl rfl hl.1 rfl (Nat.le_of_ble_eq_true rfl) dX3_readPerson_87 ⟨Nat.le_of_ble_eq_true rfl, Nat.le_of_ble_eq_true rfl⟩ (fun _ _ H locs z25 hP hD hS => ?_)
  have z25 := z25.symm
  subst z25
  have hP : va_P G vwCl (wRP cA ka ra pa K R_23 P L) H := hP
  have hD : va_D A (wRP cA ka ra pa K R_23 P L) := hD
  refine lv_if_ne (tgt := 95) hx hb dX3_readPerson_90 (by decide) (fun c26 => ?_) (fun c26 => ?_)
  · have h := tx_neg c26 h
    refine lv_aload_n hx hb dX3_readPerson_95 rfl (lv_at hl 0 rfl) ?_
    refine va_get (D := G) (ci := 3) (v := .ref (ka 0)) (C := RX3) (T := TX3) (N := 10) hx hb hT ku_3 hown hK hP 3 rfl rfl 0 (by decide) (hT _ kw_2_23) (fun _ h9 => h9) rfl dX3_readPerson_96 ?_
    obtain ⟨K_27, hc28, h⟩ := tx_bd h
    refine tzB_v (As := []) (rest := []) ⟨hx, hb, hml, hown, hT⟩ hP hD hS hA hK hN hB (c_X5_advance l G cA H.size bA ka ra pa K R_23 P L  K_27 hc28) (tq_gV kw_16_23 kw_15_0 kw_15_1 kw_2_22 kw_15_2) rfl rfl dkdV_yX5_advance_0 (Nat.le_of_ble_eq_true rfl) (Nat.le_of_ble_eq_true rfl) (ci := 5) (q0 := 0) rfl rfl rfl hl.1 rfl (Nat.le_of_ble_eq_true rfl) dX3_readPerson_99 ⟨Nat.le_of_ble_eq_true rfl, Nat.le_of_ble_eq_true rfl⟩ (fun _ H locs z29 hP hD hS => ?_)
    have hP : va_P G vwCl (wRP cA ka ra pa K_27 R_23 P L) H := hP
    have hD : va_D A (wRP cA ka ra pa K_27 R_23 P L) := hD
    refine lv_aload_n hx hb dX3_readPerson_102 rfl (lv_at hl 0 rfl) ?_
    refine lv_iconst (v := 0) hx hb dX3_readPerson_103 (by decide) ?_
    refine lv_bipush (v := 19) hx hb dX3_readPerson_104 (by decide) ?_
    obtain ⟨⟨r30, K_31, R_32⟩, hc33, h⟩ := tx_bd h
    replace h := tx_let (y := r30) rfl h
    replace h := tx_let (y := K_31) rfl h
    replace h := tx_let (y := R_32) rfl h
    refine tzB_i (As := [.int 0, .int 19]) (rest := []) ⟨hx, hb, hml, hown, hT⟩ hP hD hS hA hK hN hB (c_X3_takeNumber l G cA H.size bA ka ra pa K_27 R_23 P L (0 : Int32) (19 : Int32)  r30 K_31 R_32 hc33) (tq_gV kw_17_4 kw_17_5 kw_17_6 kw_1_15 kw_17_7) rfl rfl dkdV_yX3_takeNumber_2 (Nat.le_of_ble_eq_true rfl) (Nat.le_of_ble_eq_true rfl) (ci := 3) (q0 := 3) rfl rfl rfl hl.1 rfl (Nat.le_of_ble_eq_true rfl) dX3_readPerson_106 ⟨Nat.le_of_ble_eq_true rfl, Nat.le_of_ble_eq_true rfl⟩ (fun _ _ H locs z34 hP hD hS => ?_)
    have z34 := z34.symm
    subst z34
    have hP : va_P G vwCl (wRP cA ka ra pa K_31 R_32 P L) H := hP
    have hD : va_D A (wRP cA ka ra pa K_31 R_32 P L) := hD
    refine lv_istore_n (lv' := [(3, .int r30), (0, .ref (ra 0)), (1, .int x1), (2, .int x2)]) hx hb dX3_readPerson_109 rfl hl (by decide) rfl (fun ls hl => ?_)
    refine lv_iload_n hx hb dX3_readPerson_110 rfl (lv_at hl 0 rfl) ?_
    refine lv_if_ge (tgt := 118) hx hb dX3_readPerson_111 (by decide) (fun c35 => ?_) (fun c35 => ?_)
    · have h := tx_pos c35 h
      refine lv_aload_n hx hb dX3_readPerson_118 rfl (lv_at hl 1 rfl) ?_
      refine lv_iload_n hx hb dX3_readPerson_119 rfl (lv_at hl 0 rfl) ?_
      refine lv_iconst (v := 1) hx hb dX3_readPerson_120 (by decide) ?_
      refine lv_iadd hx hb dX3_readPerson_121 ?_
      refine lv_bipush (v := 20) hx hb dX3_readPerson_122 (by decide) ?_
      obtain ⟨⟨r36, K_37, R_38⟩, hc39, h⟩ := tx_bd h
      replace h := tx_let (y := r36) rfl h
      replace h := tx_let (y := K_37) rfl h
      replace h := tx_let (y := R_38) rfl h
      refine tzB_i (As := [.int (r30 + 1), .int 20]) (rest := []) ⟨hx, hb, hml, hown, hT⟩ hP hD hS hA hK hN hB (c_X3_takeNumber l G cA H.size bA ka ra pa K_31 R_32 P L (r30 + 1) (20 : Int32)  r36 K_37 R_38 hc39) (tq_gV kw_17_4 kw_17_5 kw_17_6 kw_1_15 kw_17_7) rfl rfl dkdV_yX3_takeNumber_2 (Nat.le_of_ble_eq_true rfl) (Nat.le_of_ble_eq_true rfl) (ci := 3) (q0 := 3) rfl rfl rfl hl.1 rfl (Nat.le_of_ble_eq_true rfl) dX3_readPerson_124 ⟨Nat.le_of_ble_eq_true rfl, Nat.le_of_ble_eq_true rfl⟩ (fun _ _ H locs z40 hP hD hS => ?_)
      have z40 := z40.symm
      subst z40
      have hP : va_P G vwCl (wRP cA ka ra pa K_37 R_38 P L) H := hP
      have hD : va_D A (wRP cA ka ra pa K_37 R_38 P L) := hD
      exact w_X3_readPerson_J127 F hB x1 x2 r30 r36 K_37 R_38 P H locs ls h hP hD hS (lv_sub hl [1, 2, 3, 0] rfl)
    · have h := tx_neg c35 h
      refine lv_iconst (v := (-1)) hx hb dX3_readPerson_114 (by decide) ?_
      refine lv_goto (tgt := 127) hx hb dX3_readPerson_115 (by decide) ?_
      exact w_X3_readPerson_J127 F hB x1 x2 r30 (-1) K_31 R_32 P H locs ls h hP hD hS (lv_sub hl [1, 2, 3, 0] rfl)
  · have h := tx_pos c26 h
    refine lv_iconst (v := 0) hx hb dX3_readPerson_93 (by decide) ?_
    obtain ⟨rfl, rfl, rfl, rfl⟩ := tx_4 h
    exact W.zret (ty := .boolean) hx hb hr rfl (fun t ht hW => ⟨⟨_, (), rfl, rfl, by rw [ht]; exact hP, hD⟩, hS.F ht⟩) hS.2.2 dX3_readPerson_94
set_option maxHeartbeats 4000000 in
set_option maxRecDepth 100000 in
theorem w_X3_readPerson_J62 {p : Program} {l : Launch} {e : Env} {s : State} {m : MethodId} {below : List Frame} {meth : Method} {c : Code} {G : va_G} {cA : Nat → ClassId} {A : Nat → Prop} {bA : Nat} {ka : Nat → Nat} {ra : Nat → Nat} {pa : Nat → Nat} {L : Lo} {r0 : Int32} {K' : Tr} {R' : Tr} {P' : Tr} (F : tF p s m ([.ref (ra 0)] : List Value).toArray meth c G cA A RX3 cX3_readPerson 6 (some .boolean)) (hB : tqB bA A s s.heap)    (x1 : Int32) (x2 : Int32) (s0 : Int32) (K : Tr) (R : Tr) (P : Tr) (H : Heap) (locs : List Loc) (ls : Array Slot) (h : fJ_X3_readPerson_J62 x1 x2 s0 K R P = some (r0, K', R', P')) (hP : va_P G vwCl (wRP cA ka ra pa K R P L) H) (hD : va_D A (wRP cA ka ra pa K R P L)) (hS : va_S A s.heap H locs) (hl : lv_has ls 6 [(0, .ref (ra 0)), (1, .int x1), (2, .int x2)]) : G_X3_readPerson p l e s m below meth c G cA A bA ka ra pa L r0 K' R' P' H locs (F0 m 62 ls [.int s0, .ref (ra 0)]) := by
  obtain ⟨hx, hb, hr, hml, hT, hown, hlocks, hK, hN, hA⟩ := id F
  unfold fJ_X3_readPerson_J62 at h
  refine lv_iconst (v := 1) hx hb dX3_readPerson_62 (by decide) ?_
  obtain ⟨⟨r13, R_14⟩, hc15, h⟩ := tx_bd h
  replace h := tx_let (y := r13) rfl h
  replace h := tx_let (y := R_14) rfl h
  refine tzB_i (As := [.int s0, .int 1]) (rest := []) ⟨hx, hb, hml, hown, hT⟩ hP hD hS hA hK hN hB (c_X3_expect l G cA H.size bA ka ra pa K R P L s0 (1 : Int32)  r13 R_14 hc15) (tq_gV kw_16_18 kw_16_19 kw_16_20 kw_1_15 kw_16_21) rfl rfl dkdV_yX3_expect_2 (Nat.le_of_ble_eq_true rfl) (Nat.le_of_ble_eq_true rfl) (ci := 3) (q0 := 3) rfl rfl rfl hl.1 rfl (Nat.le_of_ble_eq_true rfl) dX3_readPerson_63 ⟨Nat.le_of_ble_eq_true rfl, Nat.le_of_ble_eq_true rfl⟩ (fun _ _ H locs z16 hP hD hS => ?_)
  have z16 := z16.symm
  subst z16
  have hP : va_P G vwCl (wRP cA ka ra pa K R_14 P L) H := hP
  have hD : va_D A (wRP cA ka ra pa K R_14 P L) := hD
  refine lv_if_eq (tgt := 93) hx hb dX3_readPerson_66 (by decide) (fun c17 => ?_) (fun c17 => ?_)
  · have h := tx_pos c17 h
    refine lv_iconst (v := 0) hx hb dX3_readPerson_93 (by decide) ?_
    obtain ⟨rfl, rfl, rfl, rfl⟩ := tx_4 h
    exact W.zret (ty := .boolean) hx hb hr rfl (fun t ht hW => ⟨⟨_, (), rfl, rfl, by rw [ht]; exact hP, hD⟩, hS.F ht⟩) hS.2.2 dX3_readPerson_94
  · have h := tx_neg c17 h
    refine lv_aload_n hx hb dX3_readPerson_69 rfl (lv_at hl 0 rfl) ?_
    refine lv_aload_n hx hb dX3_readPerson_70 rfl (lv_at hl 0 rfl) ?_
    refine va_get (D := G) (ci := 3) (v := .ref (pa 0)) (C := RX3) (T := TX3) (N := 10) hx hb hT ku_3 hown hK hP 3 rfl rfl 4 (by decide) (hT _ kw_3_4) (fun _ h9 => h9) rfl dX3_readPerson_71 ?_
    refine lv_iload_n hx hb dX3_readPerson_74 rfl (lv_at hl 2 rfl) ?_
    obtain ⟨r18, hc19, h⟩ := tx_bd h
    refine tzB_i (As := [.int x2]) (rest := [.ref (ra 0)]) ⟨hx, hb, hml, hown, hT⟩ hP hD hS hA hK hN hB (c_X2_personNamed l G cA H.size bA ka ra pa K R_14 P L x2  r18 hc19) (tq_gV kw_17_18 kw_17_19 kw_17_20 kw_1_19 kw_17_21) rfl rfl dkdV_yX2_personNamed_1 (Nat.le_of_ble_eq_true rfl) (Nat.le_of_ble_eq_true rfl) (ci := 2) (q0 := 5) rfl rfl rfl hl.1 rfl (Nat.le_of_ble_eq_true rfl) dX3_readPerson_75 ⟨Nat.le_of_ble_eq_true rfl, Nat.le_of_ble_eq_true rfl⟩ (fun _ _ H locs z20 hP hD hS => ?_)
    have z20 := z20.symm
    subst z20
    have hP : va_P G vwCl (wRP cA ka ra pa K R_14 P L) H := hP
    have hD : va_D A (wRP cA ka ra pa K R_14 P L) := hD
    refine lv_if_ge (tgt := 85) hx hb dX3_readPerson_78 (by decide) (fun c21 => ?_) (fun c21 => ?_)
    · have h := tx_pos c21 h
      refine lv_iconst (v := 0) hx hb dX3_readPerson_85 (by decide) ?_
      exact w_X3_readPerson_J86 F hB x1 x2 0 K R_14 P H locs ls h hP hD hS (lv_sub hl [0, 1, 2] rfl)
    · have h := tx_neg c21 h
      refine lv_iconst (v := 1) hx hb dX3_readPerson_81 (by decide) ?_
      refine lv_goto (tgt := 86) hx hb dX3_readPerson_82 (by decide) ?_
      exact w_X3_readPerson_J86 F hB x1 x2 1 K R_14 P H locs ls h hP hD hS (lv_sub hl [0, 1, 2] rfl)
set_option maxHeartbeats 4000000 in
set_option maxRecDepth 100000 in
theorem w_X3_readPerson_J20 {p : Program} {l : Launch} {e : Env} {s : State} {m : MethodId} {below : List Frame} {meth : Method} {c : Code} {G : va_G} {cA : Nat → ClassId} {A : Nat → Prop} {bA : Nat} {ka : Nat → Nat} {ra : Nat → Nat} {pa : Nat → Nat} {L : Lo} {r0 : Int32} {K' : Tr} {R' : Tr} {P' : Tr} (F : tF p s m ([.ref (ra 0)] : List Value).toArray meth c G cA A RX3 cX3_readPerson 6 (some .boolean)) (hB : tqB bA A s s.heap)    (x1 : Int32) (s0 : Int32) (K : Tr) (R : Tr) (P : Tr) (H : Heap) (locs : List Loc) (ls : Array Slot) (h : fJ_X3_readPerson_J20 x1 s0 K R P = some (r0, K', R', P')) (hP : va_P G vwCl (wRP cA ka ra pa K R P L) H) (hD : va_D A (wRP cA ka ra pa K R P L)) (hS : va_S A s.heap H locs) (hl : lv_has ls 6 [(0, .ref (ra 0)), (1, .int x1)]) : G_X3_readPerson p l e s m below meth c G cA A bA ka ra pa L r0 K' R' P' H locs (F0 m 20 ls [.int s0, .ref (ra 0)]) := by
  obtain ⟨hx, hb, hr, hml, hT, hown, hlocks, hK, hN, hA⟩ := id F
  unfold fJ_X3_readPerson_J20 at h
  refine lv_iconst (v := 2) hx hb dX3_readPerson_20 (by decide) ?_
  obtain ⟨⟨r3, R_4⟩, hc5, h⟩ := tx_bd h
  replace h := tx_let (y := r3) rfl h
  replace h := tx_let (y := R_4) rfl h
  refine tzB_i (As := [.int s0, .int 2]) (rest := []) ⟨hx, hb, hml, hown, hT⟩ hP hD hS hA hK hN hB (c_X3_expect l G cA H.size bA ka ra pa K R P L s0 (2 : Int32)  r3 R_4 hc5) (tq_gV kw_16_18 kw_16_19 kw_16_20 kw_1_15 kw_16_21) rfl rfl dkdV_yX3_expect_2 (Nat.le_of_ble_eq_true rfl) (Nat.le_of_ble_eq_true rfl) (ci := 3) (q0 := 3) rfl rfl rfl hl.1 rfl (Nat.le_of_ble_eq_true rfl) dX3_readPerson_21 ⟨Nat.le_of_ble_eq_true rfl, Nat.le_of_ble_eq_true rfl⟩ (fun _ _ H locs z6 hP hD hS => ?_)
  have z6 := z6.symm
  subst z6
  have hP : va_P G vwCl (wRP cA ka ra pa K R_4 P L) H := hP
  have hD : va_D A (wRP cA ka ra pa K R_4 P L) := hD
  refine lv_if_ne (tgt := 29) hx hb dX3_readPerson_24 (by decide) (fun c7 => ?_) (fun c7 => ?_)
  · have h := tx_neg c7 h
    refine lv_aload_n hx hb dX3_readPerson_29 rfl (lv_at hl 0 rfl) ?_
    refine va_get (D := G) (ci := 3) (v := .ref (ka 0)) (C := RX3) (T := TX3) (N := 10) hx hb hT ku_3 hown hK hP 3 rfl rfl 0 (by decide) (hT _ kw_2_23) (fun _ h9 => h9) rfl dX3_readPerson_30 ?_
    obtain ⟨K_8, hc9, h⟩ := tx_bd h
    refine tzB_v (As := []) (rest := []) ⟨hx, hb, hml, hown, hT⟩ hP hD hS hA hK hN hB (c_X5_advance l G cA H.size bA ka ra pa K R_4 P L  K_8 hc9) (tq_gV kw_16_23 kw_15_0 kw_15_1 kw_2_22 kw_15_2) rfl rfl dkdV_yX5_advance_0 (Nat.le_of_ble_eq_true rfl) (Nat.le_of_ble_eq_true rfl) (ci := 5) (q0 := 0) rfl rfl rfl hl.1 rfl (Nat.le_of_ble_eq_true rfl) dX3_readPerson_33 ⟨Nat.le_of_ble_eq_true rfl, Nat.le_of_ble_eq_true rfl⟩ (fun _ H locs z10 hP hD hS => ?_)
    have hP : va_P G vwCl (wRP cA ka ra pa K_8 R_4 P L) H := hP
    have hD : va_D A (wRP cA ka ra pa K_8 R_4 P L) := hD
    refine lv_aload_n hx hb dX3_readPerson_36 rfl (lv_at hl 0 rfl) ?_
    refine va_get (D := G) (ci := 3) (v := .ref (ka 0)) (C := RX3) (T := TX3) (N := 10) hx hb hT ku_3 hown hK hP 3 rfl rfl 0 (by decide) (hT _ kw_2_23) (fun _ h9 => h9) rfl dX3_readPerson_37 ?_
    refine va_get (D := G) (ci := 5) (v := .int (K_8 0 3)) (C := RX5) (T := TX5) (N := 8) hx hb hT ku_5 hown hK hP 0 rfl rfl 3 (by decide) (hT _ kw_17_8) (fun _ h9 => h9) rfl dX3_readPerson_40 ?_
    refine lv_topi (fun y11 ey11 => ?_)
    have h := tx_let ey11 h
    refine lv_istore_n (lv' := [(2, .int y11), (0, .ref (ra 0)), (1, .int x1)]) hx hb dX3_readPerson_43 rfl hl (by decide) rfl (fun ls hl => ?_)
    refine lv_aload_n hx hb dX3_readPerson_44 rfl (lv_at hl 1 rfl) ?_
    refine lv_aload_n hx hb dX3_readPerson_45 rfl (lv_at hl 1 rfl) ?_
    refine va_get (D := G) (ci := 3) (v := .ref (ka 0)) (C := RX3) (T := TX3) (N := 10) hx hb hT ku_3 hown hK hP 3 rfl rfl 0 (by decide) (hT _ kw_2_23) (fun _ h9 => h9) rfl dX3_readPerson_46 ?_
    refine va_get (D := G) (ci := 5) (v := .int (K_8 0 1)) (C := RX5) (T := TX5) (N := 8) hx hb hT ku_5 hown hK hP 0 rfl rfl 1 (by decide) (hT _ kw_14_15) (fun _ h9 => h9) rfl dX3_readPerson_49 ?_
    refine lv_bipush (v := 43) hx hb dX3_readPerson_52 (by decide) ?_
    refine lv_icmp_ne (tgt := 61) hx hb dX3_readPerson_54 (by decide) (fun c12 => ?_) (fun c12 => ?_)
    · have h := tx_neg c12 h
      refine lv_iconst (v := 0) hx hb dX3_readPerson_61 (by decide) ?_
      exact w_X3_readPerson_J62 F hB x1 y11 0 K_8 R_4 P H locs ls h hP hD hS (lv_sub hl [1, 2, 0] rfl)
    · have h := tx_pos c12 h
      refine lv_iconst (v := 1) hx hb dX3_readPerson_57 (by decide) ?_
      refine lv_goto (tgt := 62) hx hb dX3_readPerson_58 (by decide) ?_
      exact w_X3_readPerson_J62 F hB x1 y11 1 K_8 R_4 P H locs ls h hP hD hS (lv_sub hl [1, 2, 0] rfl)
  · have h := tx_pos c7 h
    refine lv_iconst (v := 0) hx hb dX3_readPerson_27 (by decide) ?_
    obtain ⟨rfl, rfl, rfl, rfl⟩ := tx_4 h
    exact W.zret (ty := .boolean) hx hb hr rfl (fun t ht hW => ⟨⟨_, (), rfl, rfl, by rw [ht]; exact hP, hD⟩, hS.F ht⟩) hS.2.2 dX3_readPerson_28
set_option maxHeartbeats 4000000 in
set_option maxRecDepth 100000 in
theorem c_X3_readPerson (l : Launch) (G : va_G) (cA : Nat → ClassId) (sz : Nat) (bA : Nat) (ka : Nat → Nat) (ra : Nat → Nat) (pa : Nat → Nat) (K : Tr) (R : Tr) (P : Tr) (L : Lo)  (r0 : Int32) (K' : Tr) (R' : Tr) (P' : Tr) (h : f_X3_readPerson K R P = some (r0, K', R', P')) : Met l yX3_readPerson (.code yX3_readPerson cX3_readPerson 6 (some .boolean) :: T0) ({ frames := 4, cells := 0, slots := 0, locals := 88 } : Room) (tqPB bA G cA [.ref (ra 0)] (wRP cA ka ra pa K R P L) sz) (tqQi G cA (fun (r : Int32) (_ : Unit) => r = r0) (fun (_ : Unit) => wRP cA ka ra pa (K') (R') (P') L) (va_A (wRP cA ka ra pa K R P L) sz)) 0 0 (va_A (wRP cA ka ra pa K R P L) sz) := by
  refine Met.ofW (cc := cX3_readPerson) (maxL := 6) (ret := (some .boolean)) (by decide) rfl ?_
  intro p e s m args below meth c s₁ B hml hv
  obtain ⟨rfl, hsz, hP, hK, hD0, hN, hB⟩ := hv
  have hx := B.exec
  have hb := B.bytes
  have hr := B.returns
  have hts := atoms_spec (ws := .code yX3_readPerson cX3_readPerson 6 (some .boolean) :: T0) B.pre
  have hT : ∀ w ∈ T0, w.before _ s = true := fun w h => hts w (List.mem_cons_of_mem _ h)
  have hown : s.vm.findClass RX3 = some m.cls := findClass_of_methodNamed B.named
  have hlocks := B.notSynchronized
  subst hsz
  have hD := hD0.self (sz := s.heap.size)
  generalize hAe : va_A (wRP cA ka ra pa K R P L) s.heap.size = A at hD hB ⊢
  have hA : ∀ q : Nat, s.heap.size ≤ q → A q := fun q h => by rw [← hAe]; exact Or.inr h
  have hS : va_S A s.heap s.heap [] := va_S.rf
  have hl := lv_entry ([.ref (ra 0)]) (n := 6) (Nat.le_of_ble_eq_true rfl)
  rw [lg_entry_eq]
  generalize (lg_sl ([.ref (ra 0)]) ++ List.replicate (6 - (lg_sl ([.ref (ra 0)])).length) Slot.unset).toArray = ls at hl ⊢
  have hl : lv_has ls 6 [(0, .ref (ra 0))] := hl
  have F : tF p s m ([.ref (ra 0)] : List Value).toArray meth c G cA A RX3 cX3_readPerson 6 (some .boolean) := ⟨hx, hb, hr, hml, hT, hown, hlocks, hK, hN, hA⟩
  obtain ⟨H, hH⟩ : ∃ z, z = s.heap := ⟨_, rfl⟩
  rw [← hH] at hP
  have hS : va_S A s.heap H [] := by rw [hH]; exact hS
  suffices hgo : G_X3_readPerson p l e s m below meth c G cA A bA ka ra pa L r0 K' R' P' H [] (F0 m 0 ls []) by rw [hH] at hgo; exact hgo
  generalize ([] : List Loc) = locs at hS ⊢
  unfold f_X3_readPerson at h
  refine lv_aload_n hx hb dX3_readPerson_0 rfl (lv_at hl 0 rfl) ?_
  refine va_get (D := G) (ci := 3) (v := .ref (pa 0)) (C := RX3) (T := TX3) (N := 10) hx hb hT ku_3 hown hK hP 3 rfl rfl 4 (by decide) (hT _ kw_3_4) (fun _ h9 => h9) rfl dX3_readPerson_1 ?_
  refine va_get (D := G) (ci := 2) (v := .int (P 0 1)) (C := RX2) (T := TX2) (N := 19) hx hb hT ku_2 hown hK hP 5 rfl rfl 1 (by decide) (hT _ kw_17_13) (fun _ h9 => h9) rfl dX3_readPerson_4 ?_
  refine lv_topi (fun y1 ey1 => ?_)
  have h := tx_let ey1 h
  refine lv_istore_n (lv' := [(1, .int y1), (0, .ref (ra 0))]) hx hb dX3_readPerson_7 rfl hl (by decide) rfl (fun ls hl => ?_)
  refine lv_aload_n hx hb dX3_readPerson_8 rfl (lv_at hl 1 rfl) ?_
  refine lv_iload_n hx hb dX3_readPerson_9 rfl (lv_at hl 0 rfl) ?_
  refine lv_bipush (v := 6) hx hb dX3_readPerson_10 (by decide) ?_
  refine lv_icmp_ge (tgt := 19) hx hb dX3_readPerson_12 (by decide) (fun c2 => ?_) (fun c2 => ?_)
  · have h := tx_pos c2 h
    refine lv_iconst (v := 0) hx hb dX3_readPerson_19 (by decide) ?_
    exact w_X3_readPerson_J20 F hB y1 0 K R P H locs ls h hP hD hS (lv_sub hl [1, 0] rfl)
  · have h := tx_neg c2 h
    refine lv_iconst (v := 1) hx hb dX3_readPerson_15 (by decide) ?_
    refine lv_goto (tgt := 20) hx hb dX3_readPerson_16 (by decide) ?_
    exact w_X3_readPerson_J20 F hB y1 1 K R P H locs ls h hP hD hS (lv_sub hl [1, 0] rfl)
abbrev G_X3_readPlace (p : Program) (l : Launch) (e : Env) (s : State) (m : MethodId) (below : List Frame) (meth : Method) (c : Code) (G : va_G) (cA : Nat → ClassId) (A : Nat → Prop) (bA : Nat) (ka : Nat → Nat) (ra : Nat → Nat) (pa : Nat → Nat) (L : Lo) (r0 : Int32) (K' : Tr) (R' : Tr) (P' : Tr) (H : Heap) (locs : List Loc) (g : JFrame) : Prop := W p l e (headSpec (.code yX3_readPlace cX3_readPlace 4 (some .boolean) :: T0) ({ frames := 4, cells := 0, slots := 0, locals := 88 } : Room)).room s m ([.ref (ra 0)] : List Value).toArray below meth c H locs 0 0 (MQ below (tqQi G cA (fun (r : Int32) (_ : Unit) => r = r0) (fun (_ : Unit) => wRP cA ka ra pa (K') (R') (P') L) A) ([.ref (ra 0)] : List Value).toArray s 0 0 A) g
set_option maxHeartbeats 4000000 in
set_option maxRecDepth 100000 in
theorem w_X3_readPlace_J60 {p : Program} {l : Launch} {e : Env} {s : State} {m : MethodId} {below : List Frame} {meth : Method} {c : Code} {G : va_G} {cA : Nat → ClassId} {A : Nat → Prop} {bA : Nat} {ka : Nat → Nat} {ra : Nat → Nat} {pa : Nat → Nat} {L : Lo} {r0 : Int32} {K' : Tr} {R' : Tr} {P' : Tr} (F : tF p s m ([.ref (ra 0)] : List Value).toArray meth c G cA A RX3 cX3_readPlace 4 (some .boolean)) (hB : tqB bA A s s.heap)    (x1 : Int32) (x2 : Int32) (s0 : Int32) (K : Tr) (R : Tr) (P : Tr) (H : Heap) (locs : List Loc) (ls : Array Slot) (h : fJ_X3_readPlace_J60 x1 x2 s0 K R P = some (r0, K', R', P')) (hP : va_P G vwCl (wRP cA ka ra pa K R P L) H) (hD : va_D A (wRP cA ka ra pa K R P L)) (hS : va_S A s.heap H locs) (hl : lv_has ls 4 [(0, .ref (ra 0)), (1, .int x1), (2, .int x2)]) : G_X3_readPlace p l e s m below meth c G cA A bA ka ra pa L r0 K' R' P' H locs (F0 m 60 ls [.int s0]) := by
  obtain ⟨hx, hb, hr, hml, hT, hown, hlocks, hK, hN, hA⟩ := id F
  unfold fJ_X3_readPlace_J60 at h
  refine lv_istore_n (lv' := [(3, .int s0), (0, .ref (ra 0)), (1, .int x1), (2, .int x2)]) hx hb dX3_readPlace_60 rfl hl (by decide) rfl (fun ls hl => ?_)
  refine lv_iload_n hx hb dX3_readPlace_61 rfl (lv_at hl 0 rfl) ?_
  refine lv_if_ge (tgt := 67) hx hb dX3_readPlace_62 (by decide) (fun c22 => ?_) (fun c22 => ?_)
  · have h := tx_pos c22 h
    refine lv_aload_n hx hb dX3_readPlace_67 rfl (lv_at hl 1 rfl) ?_
    refine va_get (D := G) (ci := 3) (v := .ref (pa 0)) (C := RX3) (T := TX3) (N := 10) hx hb hT ku_3 hown hK hP 3 rfl rfl 4 (by decide) (hT _ kw_3_4) (fun _ h9 => h9) rfl dX3_readPlace_68 ?_
    refine va_get (D := G) (ci := 2) (v := .ref (pa 8)) (C := RX2) (T := TX2) (N := 19) hx hb hT ku_2 hown hK hP 5 rfl rfl 7 (by decide) (hT _ kw_16_16) (fun _ h9 => h9) rfl dX3_readPlace_71 ?_
    refine lv_iload_n hx hb dX3_readPlace_74 rfl (lv_at hl 2 rfl) ?_
    refine lv_iload_n hx hb dX3_readPlace_75 rfl (lv_at hl 3 rfl) ?_
    obtain ⟨g23, h⟩ := tx_ck h
    refine va_iast (i := x1) hx hb hK hP hD hS 6 0 rfl rfl (tx_in g23) dX3_readPlace_76 (fun H locs hP hD hS => ?_)
    obtain ⟨P_24, eP_24, h⟩ := tx_lt h
    rw [sRP_pa_a7, eP_24] at hP hD
    refine lv_aload_n hx hb dX3_readPlace_77 rfl (lv_at hl 1 rfl) ?_
    refine va_get (D := G) (ci := 3) (v := .ref (pa 0)) (C := RX3) (T := TX3) (N := 10) hx hb hT ku_3 hown hK hP 3 rfl rfl 4 (by decide) (hT _ kw_3_4) (fun _ h9 => h9) rfl dX3_readPlace_78 ?_
    refine va_get (D := G) (ci := 2) (v := .ref (pa 9)) (C := RX2) (T := TX2) (N := 19) hx hb hT ku_2 hown hK hP 5 rfl rfl 8 (by decide) (hT _ kw_16_17) (fun _ h9 => h9) rfl dX3_readPlace_81 ?_
    refine lv_iload_n hx hb dX3_readPlace_84 rfl (lv_at hl 2 rfl) ?_
    refine lv_iload_n hx hb dX3_readPlace_85 rfl (lv_at hl 0 rfl) ?_
    refine va_iast (i := x1) hx hb hK hP hD hS 7 0 rfl rfl (tx_in g23) dX3_readPlace_86 (fun H locs hP hD hS => ?_)
    obtain ⟨P_25, eP_25, h⟩ := tx_lt h
    rw [sRP_pa_a8, eP_25] at hP hD
    refine lv_aload_n hx hb dX3_readPlace_87 rfl (lv_at hl 1 rfl) ?_
    refine va_get (D := G) (ci := 3) (v := .ref (pa 0)) (C := RX3) (T := TX3) (N := 10) hx hb hT ku_3 hown hK hP 3 rfl rfl 4 (by decide) (hT _ kw_3_4) (fun _ h9 => h9) rfl dX3_readPlace_88 ?_
    refine lv_dup hx hb dX3_readPlace_91 rfl ?_
    refine va_get (D := G) (ci := 2) (v := .int (P_25 0 0)) (C := RX2) (T := TX2) (N := 19) hx hb hT ku_2 hown hK hP 5 rfl rfl 0 (by decide) (hT _ kw_16_15) (fun _ h9 => h9) rfl dX3_readPlace_92 ?_
    refine lv_iconst (v := 1) hx hb dX3_readPlace_95 (by decide) ?_
    refine lv_iadd hx hb dX3_readPlace_96 ?_
    refine va_put (D := G) (ci := 2) (v := .int ((P_25 0 0) + 1)) (ty := .int) (C := RX2) (T := TX2) (N := 19) hx hb hT ku_2 tyX2 tyX2_ok nmX2 hown hK hP hD hS 5 rfl rfl 0 (by decide) (hT _ kw_16_15) (fun _ h9 => h9) rfl (by decide +kernel) rfl rfl (Nat.le_of_ble_eq_true rfl) dX3_readPlace_97 (fun H locs hP hD hS => ?_)
    obtain ⟨P_26, eP_26, h⟩ := tx_lt h
    rw [sRP_pa_f0, eP_26] at hP hD
    refine lv_iconst (v := 1) hx hb dX3_readPlace_100 (by decide) ?_
    obtain ⟨rfl, rfl, rfl, rfl⟩ := tx_4 h
    exact W.zret (ty := .boolean) hx hb hr rfl (fun t ht hW => ⟨⟨_, (), rfl, rfl, by rw [ht]; exact hP, hD⟩, hS.F ht⟩) hS.2.2 dX3_readPlace_101
  · have h := tx_neg c22 h
    refine lv_iconst (v := 0) hx hb dX3_readPlace_65 (by decide) ?_
    obtain ⟨rfl, rfl, rfl, rfl⟩ := tx_4 h
    exact W.zret (ty := .boolean) hx hb hr rfl (fun t ht hW => ⟨⟨_, (), rfl, rfl, by rw [ht]; exact hP, hD⟩, hS.F ht⟩) hS.2.2 dX3_readPlace_66
set_option maxHeartbeats 4000000 in
set_option maxRecDepth 100000 in
theorem w_X3_readPlace_J19 {p : Program} {l : Launch} {e : Env} {s : State} {m : MethodId} {below : List Frame} {meth : Method} {c : Code} {G : va_G} {cA : Nat → ClassId} {A : Nat → Prop} {bA : Nat} {ka : Nat → Nat} {ra : Nat → Nat} {pa : Nat → Nat} {L : Lo} {r0 : Int32} {K' : Tr} {R' : Tr} {P' : Tr} (F : tF p s m ([.ref (ra 0)] : List Value).toArray meth c G cA A RX3 cX3_readPlace 4 (some .boolean)) (hB : tqB bA A s s.heap)    (x1 : Int32) (s0 : Int32) (K : Tr) (R : Tr) (P : Tr) (H : Heap) (locs : List Loc) (ls : Array Slot) (h : fJ_X3_readPlace_J19 x1 s0 K R P = some (r0, K', R', P')) (hP : va_P G vwCl (wRP cA ka ra pa K R P L) H) (hD : va_D A (wRP cA ka ra pa K R P L)) (hS : va_S A s.heap H locs) (hl : lv_has ls 4 [(0, .ref (ra 0)), (1, .int x1)]) : G_X3_readPlace p l e s m below meth c G cA A bA ka ra pa L r0 K' R' P' H locs (F0 m 19 ls [.int s0, .ref (ra 0)]) := by
  obtain ⟨hx, hb, hr, hml, hT, hown, hlocks, hK, hN, hA⟩ := id F
  unfold fJ_X3_readPlace_J19 at h
  refine lv_iconst (v := 2) hx hb dX3_readPlace_19 (by decide) ?_
  obtain ⟨⟨r3, R_4⟩, hc5, h⟩ := tx_bd h
  replace h := tx_let (y := r3) rfl h
  replace h := tx_let (y := R_4) rfl h
  refine tzB_i (As := [.int s0, .int 2]) (rest := []) ⟨hx, hb, hml, hown, hT⟩ hP hD hS hA hK hN hB (c_X3_expect l G cA H.size bA ka ra pa K R P L s0 (2 : Int32)  r3 R_4 hc5) (tq_gV kw_16_18 kw_16_19 kw_16_20 kw_1_15 kw_16_21) rfl rfl dkdV_yX3_expect_2 (Nat.le_of_ble_eq_true rfl) (Nat.le_of_ble_eq_true rfl) (ci := 3) (q0 := 3) rfl rfl rfl hl.1 rfl (Nat.le_of_ble_eq_true rfl) dX3_readPlace_20 ⟨Nat.le_of_ble_eq_true rfl, Nat.le_of_ble_eq_true rfl⟩ (fun _ _ H locs z6 hP hD hS => ?_)
  have z6 := z6.symm
  subst z6
  have hP : va_P G vwCl (wRP cA ka ra pa K R_4 P L) H := hP
  have hD : va_D A (wRP cA ka ra pa K R_4 P L) := hD
  refine lv_if_ne (tgt := 28) hx hb dX3_readPlace_23 (by decide) (fun c7 => ?_) (fun c7 => ?_)
  · have h := tx_neg c7 h
    refine lv_aload_n hx hb dX3_readPlace_28 rfl (lv_at hl 0 rfl) ?_
    refine va_get (D := G) (ci := 3) (v := .ref (ka 0)) (C := RX3) (T := TX3) (N := 10) hx hb hT ku_3 hown hK hP 3 rfl rfl 0 (by decide) (hT _ kw_2_23) (fun _ h9 => h9) rfl dX3_readPlace_29 ?_
    obtain ⟨K_8, hc9, h⟩ := tx_bd h
    refine tzB_v (As := []) (rest := []) ⟨hx, hb, hml, hown, hT⟩ hP hD hS hA hK hN hB (c_X5_advance l G cA H.size bA ka ra pa K R_4 P L  K_8 hc9) (tq_gV kw_16_23 kw_15_0 kw_15_1 kw_2_22 kw_15_2) rfl rfl dkdV_yX5_advance_0 (Nat.le_of_ble_eq_true rfl) (Nat.le_of_ble_eq_true rfl) (ci := 5) (q0 := 0) rfl rfl rfl hl.1 rfl (Nat.le_of_ble_eq_true rfl) dX3_readPlace_32 ⟨Nat.le_of_ble_eq_true rfl, Nat.le_of_ble_eq_true rfl⟩ (fun _ H locs z10 hP hD hS => ?_)
    have hP : va_P G vwCl (wRP cA ka ra pa K_8 R_4 P L) H := hP
    have hD : va_D A (wRP cA ka ra pa K_8 R_4 P L) := hD
    refine lv_aload_n hx hb dX3_readPlace_35 rfl (lv_at hl 0 rfl) ?_
    refine lv_bipush (v := 8) hx hb dX3_readPlace_36 (by decide) ?_
    refine lv_bipush (v := 12) hx hb dX3_readPlace_38 (by decide) ?_
    obtain ⟨⟨r11, K_12, R_13⟩, hc14, h⟩ := tx_bd h
    replace h := tx_let (y := r11) rfl h
    replace h := tx_let (y := K_12) rfl h
    replace h := tx_let (y := R_13) rfl h
    refine tzB_i (As := [.int 8, .int 12]) (rest := []) ⟨hx, hb, hml, hown, hT⟩ hP hD hS hA hK hN hB (c_X3_takeWord l G cA H.size bA ka ra pa K_8 R_4 P L (8 : Int32) (12 : Int32)  r11 K_12 R_13 hc14) (tq_gV kw_17_0 kw_17_1 kw_17_2 kw_1_15 kw_17_3) rfl rfl dkdV_yX3_takeWord_2 (Nat.le_of_ble_eq_true rfl) (Nat.le_of_ble_eq_true rfl) (ci := 3) (q0 := 3) rfl rfl rfl hl.1 rfl (Nat.le_of_ble_eq_true rfl) dX3_readPlace_40 ⟨Nat.le_of_ble_eq_true rfl, Nat.le_of_ble_eq_true rfl⟩ (fun _ _ H locs z15 hP hD hS => ?_)
    have z15 := z15.symm
    subst z15
    have hP : va_P G vwCl (wRP cA ka ra pa K_12 R_13 P L) H := hP
    have hD : va_D A (wRP cA ka ra pa K_12 R_13 P L) := hD
    refine lv_istore_n (lv' := [(2, .int r11), (0, .ref (ra 0)), (1, .int x1)]) hx hb dX3_readPlace_43 rfl hl (by decide) rfl (fun ls hl => ?_)
    refine lv_iload_n hx hb dX3_readPlace_44 rfl (lv_at hl 0 rfl) ?_
    refine lv_if_ge (tgt := 52) hx hb dX3_readPlace_45 (by decide) (fun c16 => ?_) (fun c16 => ?_)
    · have h := tx_pos c16 h
      refine lv_aload_n hx hb dX3_readPlace_52 rfl (lv_at hl 1 rfl) ?_
      refine lv_iconst (v := 0) hx hb dX3_readPlace_53 (by decide) ?_
      refine lv_sipush (v := 999) hx hb dX3_readPlace_54 (by decide) ?_
      obtain ⟨⟨r17, K_18, R_19⟩, hc20, h⟩ := tx_bd h
      replace h := tx_let (y := r17) rfl h
      replace h := tx_let (y := K_18) rfl h
      replace h := tx_let (y := R_19) rfl h
      refine tzB_i (As := [.int 0, .int 999]) (rest := []) ⟨hx, hb, hml, hown, hT⟩ hP hD hS hA hK hN hB (c_X3_takeNumber l G cA H.size bA ka ra pa K_12 R_13 P L (0 : Int32) (999 : Int32)  r17 K_18 R_19 hc20) (tq_gV kw_17_4 kw_17_5 kw_17_6 kw_1_15 kw_17_7) rfl rfl dkdV_yX3_takeNumber_2 (Nat.le_of_ble_eq_true rfl) (Nat.le_of_ble_eq_true rfl) (ci := 3) (q0 := 3) rfl rfl rfl hl.1 rfl (Nat.le_of_ble_eq_true rfl) dX3_readPlace_57 ⟨Nat.le_of_ble_eq_true rfl, Nat.le_of_ble_eq_true rfl⟩ (fun _ _ H locs z21 hP hD hS => ?_)
      have z21 := z21.symm
      subst z21
      have hP : va_P G vwCl (wRP cA ka ra pa K_18 R_19 P L) H := hP
      have hD : va_D A (wRP cA ka ra pa K_18 R_19 P L) := hD
      exact w_X3_readPlace_J60 F hB x1 r11 r17 K_18 R_19 P H locs ls h hP hD hS (lv_sub hl [1, 2, 0] rfl)
    · have h := tx_neg c16 h
      refine lv_iconst (v := (-1)) hx hb dX3_readPlace_48 (by decide) ?_
      refine lv_goto (tgt := 60) hx hb dX3_readPlace_49 (by decide) ?_
      exact w_X3_readPlace_J60 F hB x1 r11 (-1) K_12 R_13 P H locs ls h hP hD hS (lv_sub hl [1, 2, 0] rfl)
  · have h := tx_pos c7 h
    refine lv_iconst (v := 0) hx hb dX3_readPlace_26 (by decide) ?_
    obtain ⟨rfl, rfl, rfl, rfl⟩ := tx_4 h
    exact W.zret (ty := .boolean) hx hb hr rfl (fun t ht hW => ⟨⟨_, (), rfl, rfl, by rw [ht]; exact hP, hD⟩, hS.F ht⟩) hS.2.2 dX3_readPlace_27
set_option maxHeartbeats 4000000 in
set_option maxRecDepth 100000 in
theorem c_X3_readPlace (l : Launch) (G : va_G) (cA : Nat → ClassId) (sz : Nat) (bA : Nat) (ka : Nat → Nat) (ra : Nat → Nat) (pa : Nat → Nat) (K : Tr) (R : Tr) (P : Tr) (L : Lo)  (r0 : Int32) (K' : Tr) (R' : Tr) (P' : Tr) (h : f_X3_readPlace K R P = some (r0, K', R', P')) : Met l yX3_readPlace (.code yX3_readPlace cX3_readPlace 4 (some .boolean) :: T0) ({ frames := 4, cells := 0, slots := 0, locals := 88 } : Room) (tqPB bA G cA [.ref (ra 0)] (wRP cA ka ra pa K R P L) sz) (tqQi G cA (fun (r : Int32) (_ : Unit) => r = r0) (fun (_ : Unit) => wRP cA ka ra pa (K') (R') (P') L) (va_A (wRP cA ka ra pa K R P L) sz)) 0 0 (va_A (wRP cA ka ra pa K R P L) sz) := by
  refine Met.ofW (cc := cX3_readPlace) (maxL := 4) (ret := (some .boolean)) (by decide) rfl ?_
  intro p e s m args below meth c s₁ B hml hv
  obtain ⟨rfl, hsz, hP, hK, hD0, hN, hB⟩ := hv
  have hx := B.exec
  have hb := B.bytes
  have hr := B.returns
  have hts := atoms_spec (ws := .code yX3_readPlace cX3_readPlace 4 (some .boolean) :: T0) B.pre
  have hT : ∀ w ∈ T0, w.before _ s = true := fun w h => hts w (List.mem_cons_of_mem _ h)
  have hown : s.vm.findClass RX3 = some m.cls := findClass_of_methodNamed B.named
  have hlocks := B.notSynchronized
  subst hsz
  have hD := hD0.self (sz := s.heap.size)
  generalize hAe : va_A (wRP cA ka ra pa K R P L) s.heap.size = A at hD hB ⊢
  have hA : ∀ q : Nat, s.heap.size ≤ q → A q := fun q h => by rw [← hAe]; exact Or.inr h
  have hS : va_S A s.heap s.heap [] := va_S.rf
  have hl := lv_entry ([.ref (ra 0)]) (n := 4) (Nat.le_of_ble_eq_true rfl)
  rw [lg_entry_eq]
  generalize (lg_sl ([.ref (ra 0)]) ++ List.replicate (4 - (lg_sl ([.ref (ra 0)])).length) Slot.unset).toArray = ls at hl ⊢
  have hl : lv_has ls 4 [(0, .ref (ra 0))] := hl
  have F : tF p s m ([.ref (ra 0)] : List Value).toArray meth c G cA A RX3 cX3_readPlace 4 (some .boolean) := ⟨hx, hb, hr, hml, hT, hown, hlocks, hK, hN, hA⟩
  obtain ⟨H, hH⟩ : ∃ z, z = s.heap := ⟨_, rfl⟩
  rw [← hH] at hP
  have hS : va_S A s.heap H [] := by rw [hH]; exact hS
  suffices hgo : G_X3_readPlace p l e s m below meth c G cA A bA ka ra pa L r0 K' R' P' H [] (F0 m 0 ls []) by rw [hH] at hgo; exact hgo
  generalize ([] : List Loc) = locs at hS ⊢
  unfold f_X3_readPlace at h
  refine lv_aload_n hx hb dX3_readPlace_0 rfl (lv_at hl 0 rfl) ?_
  refine va_get (D := G) (ci := 3) (v := .ref (pa 0)) (C := RX3) (T := TX3) (N := 10) hx hb hT ku_3 hown hK hP 3 rfl rfl 4 (by decide) (hT _ kw_3_4) (fun _ h9 => h9) rfl dX3_readPlace_1 ?_
  refine va_get (D := G) (ci := 2) (v := .int (P 0 0)) (C := RX2) (T := TX2) (N := 19) hx hb hT ku_2 hown hK hP 5 rfl rfl 0 (by decide) (hT _ kw_16_15) (fun _ h9 => h9) rfl dX3_readPlace_4 ?_
  refine lv_topi (fun y1 ey1 => ?_)
  have h := tx_let ey1 h
  refine lv_istore_n (lv' := [(1, .int y1), (0, .ref (ra 0))]) hx hb dX3_readPlace_7 rfl hl (by decide) rfl (fun ls hl => ?_)
  refine lv_aload_n hx hb dX3_readPlace_8 rfl (lv_at hl 1 rfl) ?_
  refine lv_iload_n hx hb dX3_readPlace_9 rfl (lv_at hl 0 rfl) ?_
  refine lv_iconst (v := 5) hx hb dX3_readPlace_10 (by decide) ?_
  refine lv_icmp_ge (tgt := 18) hx hb dX3_readPlace_11 (by decide) (fun c2 => ?_) (fun c2 => ?_)
  · have h := tx_pos c2 h
    refine lv_iconst (v := 0) hx hb dX3_readPlace_18 (by decide) ?_
    exact w_X3_readPlace_J19 F hB y1 0 K R P H locs ls h hP hD hS (lv_sub hl [1, 0] rfl)
  · have h := tx_neg c2 h
    refine lv_iconst (v := 1) hx hb dX3_readPlace_14 (by decide) ?_
    refine lv_goto (tgt := 19) hx hb dX3_readPlace_15 (by decide) ?_
    exact w_X3_readPlace_J19 F hB y1 1 K R P H locs ls h hP hD hS (lv_sub hl [1, 0] rfl)
abbrev G_X3_readLine (p : Program) (l : Launch) (e : Env) (s : State) (m : MethodId) (below : List Frame) (meth : Method) (c : Code) (G : va_G) (cA : Nat → ClassId) (A : Nat → Prop) (bA : Nat) (ka : Nat → Nat) (ra : Nat → Nat) (pa : Nat → Nat) (L : Lo) (r0 : Int32) (K' : Tr) (R' : Tr) (P' : Tr) (H : Heap) (locs : List Loc) (g : JFrame) : Prop := W p l e (headSpec (.code yX3_readLine cX3_readLine 1 (some .boolean) :: T0) ({ frames := 5, cells := 0, slots := 0, locals := 113 } : Room)).room s m ([.ref (ra 0)] : List Value).toArray below meth c H locs 0 0 (MQ below (tqQi G cA (fun (r : Int32) (_ : Unit) => r = r0) (fun (_ : Unit) => wRP cA ka ra pa (K') (R') (P') L) A) ([.ref (ra 0)] : List Value).toArray s 0 0 A) g
set_option maxHeartbeats 4000000 in
set_option maxRecDepth 100000 in
theorem c_X3_readLine (l : Launch) (G : va_G) (cA : Nat → ClassId) (sz : Nat) (bA : Nat) (ka : Nat → Nat) (ra : Nat → Nat) (pa : Nat → Nat) (K : Tr) (R : Tr) (P : Tr) (L : Lo)  (r0 : Int32) (K' : Tr) (R' : Tr) (P' : Tr) (h : f_X3_readLine K R P = some (r0, K', R', P')) : Met l yX3_readLine (.code yX3_readLine cX3_readLine 1 (some .boolean) :: T0) ({ frames := 5, cells := 0, slots := 0, locals := 113 } : Room) (tqPB bA G cA [.ref (ra 0)] (wRP cA ka ra pa K R P L) sz) (tqQi G cA (fun (r : Int32) (_ : Unit) => r = r0) (fun (_ : Unit) => wRP cA ka ra pa (K') (R') (P') L) (va_A (wRP cA ka ra pa K R P L) sz)) 0 0 (va_A (wRP cA ka ra pa K R P L) sz) := by
  refine Met.ofW (cc := cX3_readLine) (maxL := 1) (ret := (some .boolean)) (by decide) rfl ?_
  intro p e s m args below meth c s₁ B hml hv
  obtain ⟨rfl, hsz, hP, hK, hD0, hN, hB⟩ := hv
  have hx := B.exec
  have hb := B.bytes
  have hr := B.returns
  have hts := atoms_spec (ws := .code yX3_readLine cX3_readLine 1 (some .boolean) :: T0) B.pre
  have hT : ∀ w ∈ T0, w.before _ s = true := fun w h => hts w (List.mem_cons_of_mem _ h)
  have hown : s.vm.findClass RX3 = some m.cls := findClass_of_methodNamed B.named
  have hlocks := B.notSynchronized
  subst hsz
  have hD := hD0.self (sz := s.heap.size)
  generalize hAe : va_A (wRP cA ka ra pa K R P L) s.heap.size = A at hD hB ⊢
  have hA : ∀ q : Nat, s.heap.size ≤ q → A q := fun q h => by rw [← hAe]; exact Or.inr h
  have hS : va_S A s.heap s.heap [] := va_S.rf
  have hl := lv_entry ([.ref (ra 0)]) (n := 1) (Nat.le_of_ble_eq_true rfl)
  rw [lg_entry_eq]
  generalize (lg_sl ([.ref (ra 0)]) ++ List.replicate (1 - (lg_sl ([.ref (ra 0)])).length) Slot.unset).toArray = ls at hl ⊢
  have hl : lv_has ls 1 [(0, .ref (ra 0))] := hl
  have F : tF p s m ([.ref (ra 0)] : List Value).toArray meth c G cA A RX3 cX3_readLine 1 (some .boolean) := ⟨hx, hb, hr, hml, hT, hown, hlocks, hK, hN, hA⟩
  obtain ⟨H, hH⟩ : ∃ z, z = s.heap := ⟨_, rfl⟩
  rw [← hH] at hP
  have hS : va_S A s.heap H [] := by rw [hH]; exact hS
  suffices hgo : G_X3_readLine p l e s m below meth c G cA A bA ka ra pa L r0 K' R' P' H [] (F0 m 0 ls []) by rw [hH] at hgo; exact hgo
  generalize ([] : List Loc) = locs at hS ⊢
  unfold f_X3_readLine at h
  refine lv_aload_n hx hb dX3_readLine_0 rfl (lv_at hl 0 rfl) ?_
  refine va_get (D := G) (ci := 3) (v := .ref (ka 0)) (C := RX3) (T := TX3) (N := 10) hx hb hT ku_3 hown hK hP 3 rfl rfl 0 (by decide) (hT _ kw_2_23) (fun _ h9 => h9) rfl dX3_readLine_1 ?_
  refine va_get (D := G) (ci := 5) (v := .int (K 0 1)) (C := RX5) (T := TX5) (N := 8) hx hb hT ku_5 hown hK hP 0 rfl rfl 1 (by decide) (hT _ kw_14_15) (fun _ h9 => h9) rfl dX3_readLine_4 ?_
  refine lv_topi (fun y1 ey1 => ?_)
  have h := tx_let ey1 h
  by_cases c2 : y1 = 0
  · have h := tx_pos c2 h
    refine lv_tableIn (off := 45) (tgt := 52) hx hb dX3_readLine_7 (by rw [c2]; decide) (by rw [c2]; decide) (by rw [c2]; decide) (by decide) ?_
    refine lv_aload_n hx hb dX3_readLine_52 rfl (lv_at hl 0 rfl) ?_
    obtain ⟨⟨r3, K_4, R_5, P_6⟩, hc7, h⟩ := tx_bd h
    replace h := tx_let (y := r3) rfl h
    replace h := tx_let (y := K_4) rfl h
    replace h := tx_let (y := R_5) rfl h
    replace h := tx_let (y := P_6) rfl h
    refine tzB_i (As := []) (rest := []) ⟨hx, hb, hml, hown, hT⟩ hP hD hS hA hK hN hB (c_X3_readPlace l G cA H.size bA ka ra pa K R P L  r3 K_4 R_5 P_6 hc7) (tq_gV kw_16_11 kw_16_12 kw_16_13 kw_1_15 kw_16_14) rfl rfl dkdV_yX3_readPlace_0 (Nat.le_of_ble_eq_true rfl) (Nat.le_of_ble_eq_true rfl) (ci := 3) (q0 := 3) rfl rfl rfl hl.1 rfl (Nat.le_of_ble_eq_true rfl) dX3_readLine_53 ⟨Nat.le_of_ble_eq_true rfl, Nat.le_of_ble_eq_true rfl⟩ (fun _ _ H locs z8 hP hD hS => ?_)
    have z8 := z8.symm
    subst z8
    have hP : va_P G vwCl (wRP cA ka ra pa K_4 R_5 P_6 L) H := hP
    have hD : va_D A (wRP cA ka ra pa K_4 R_5 P_6 L) := hD
    obtain ⟨g9, h⟩ := tx_ck h
    obtain ⟨rfl, rfl, rfl, rfl⟩ := tx_4 h
    exact W.zret (ty := .boolean) hx hb hr (tx_z g9) (fun t ht hW => ⟨⟨_, (), rfl, rfl, by rw [ht]; exact hP, hD⟩, hS.F ht⟩) hS.2.2 dX3_readLine_56
  · have h := tx_neg c2 h
    by_cases c10 : y1 = 1
    · have h := tx_pos c10 h
      refine lv_tableIn (off := 50) (tgt := 57) hx hb dX3_readLine_7 (by rw [c10]; decide) (by rw [c10]; decide) (by rw [c10]; decide) (by decide) ?_
      refine lv_aload_n hx hb dX3_readLine_57 rfl (lv_at hl 0 rfl) ?_
      obtain ⟨⟨r11, K_12, R_13, P_14⟩, hc15, h⟩ := tx_bd h
      replace h := tx_let (y := r11) rfl h
      replace h := tx_let (y := K_12) rfl h
      replace h := tx_let (y := R_13) rfl h
      replace h := tx_let (y := P_14) rfl h
      refine tzB_i (As := []) (rest := []) ⟨hx, hb, hml, hown, hT⟩ hP hD hS hA hK hN hB (c_X3_readPerson l G cA H.size bA ka ra pa K R P L  r11 K_12 R_13 P_14 hc15) (tq_gV kw_17_9 kw_17_10 kw_17_11 kw_1_15 kw_17_12) rfl rfl dkdV_yX3_readPerson_0 (Nat.le_of_ble_eq_true rfl) (Nat.le_of_ble_eq_true rfl) (ci := 3) (q0 := 3) rfl rfl rfl hl.1 rfl (Nat.le_of_ble_eq_true rfl) dX3_readLine_58 ⟨Nat.le_of_ble_eq_true rfl, Nat.le_of_ble_eq_true rfl⟩ (fun _ _ H locs z16 hP hD hS => ?_)
      have z16 := z16.symm
      subst z16
      have hP : va_P G vwCl (wRP cA ka ra pa K_12 R_13 P_14 L) H := hP
      have hD : va_D A (wRP cA ka ra pa K_12 R_13 P_14 L) := hD
      obtain ⟨g17, h⟩ := tx_ck h
      obtain ⟨rfl, rfl, rfl, rfl⟩ := tx_4 h
      exact W.zret (ty := .boolean) hx hb hr (tx_z g17) (fun t ht hW => ⟨⟨_, (), rfl, rfl, by rw [ht]; exact hP, hD⟩, hS.F ht⟩) hS.2.2 dX3_readLine_61
    · have h := tx_neg c10 h
      by_cases c18 : y1 = 2
      · have h := tx_pos c18 h
        refine lv_tableIn (off := 55) (tgt := 62) hx hb dX3_readLine_7 (by rw [c18]; decide) (by rw [c18]; decide) (by rw [c18]; decide) (by decide) ?_
        refine lv_aload_n hx hb dX3_readLine_62 rfl (lv_at hl 0 rfl) ?_
        obtain ⟨⟨r19, K_20, R_21, P_22⟩, hc23, h⟩ := tx_bd h
        replace h := tx_let (y := r19) rfl h
        replace h := tx_let (y := K_20) rfl h
        replace h := tx_let (y := R_21) rfl h
        replace h := tx_let (y := P_22) rfl h
        refine tzB_i (As := []) (rest := []) ⟨hx, hb, hml, hown, hT⟩ hP hD hS hA hK hN hB (c_X3_readPiece l G cA H.size bA ka ra pa K R P L  r19 K_20 R_21 P_22 hc23) (tq_gV kw_17_22 kw_17_23 kw_18_0 kw_1_15 kw_18_1) rfl rfl dkdV_yX3_readPiece_0 (Nat.le_of_ble_eq_true rfl) (Nat.le_of_ble_eq_true rfl) (ci := 3) (q0 := 3) rfl rfl rfl hl.1 rfl (Nat.le_of_ble_eq_true rfl) dX3_readLine_63 ⟨Nat.le_of_ble_eq_true rfl, Nat.le_of_ble_eq_true rfl⟩ (fun _ _ H locs z24 hP hD hS => ?_)
        have z24 := z24.symm
        subst z24
        have hP : va_P G vwCl (wRP cA ka ra pa K_20 R_21 P_22 L) H := hP
        have hD : va_D A (wRP cA ka ra pa K_20 R_21 P_22 L) := hD
        obtain ⟨g25, h⟩ := tx_ck h
        obtain ⟨rfl, rfl, rfl, rfl⟩ := tx_4 h
        exact W.zret (ty := .boolean) hx hb hr (tx_z g25) (fun t ht hW => ⟨⟨_, (), rfl, rfl, by rw [ht]; exact hP, hD⟩, hS.F ht⟩) hS.2.2 dX3_readLine_66
      · have h := tx_neg c18 h
        by_cases c26 : y1 = 3
        · have h := tx_pos c26 h
          refine lv_tableIn (off := 60) (tgt := 67) hx hb dX3_readLine_7 (by rw [c26]; decide) (by rw [c26]; decide) (by rw [c26]; decide) (by decide) ?_
          refine lv_aload_n hx hb dX3_readLine_67 rfl (lv_at hl 0 rfl) ?_
          obtain ⟨⟨r27, K_28, R_29, P_30⟩, hc31, h⟩ := tx_bd h
          replace h := tx_let (y := r27) rfl h
          replace h := tx_let (y := K_28) rfl h
          replace h := tx_let (y := R_29) rfl h
          replace h := tx_let (y := P_30) rfl h
          refine tzB_i (As := []) (rest := []) ⟨hx, hb, hml, hown, hT⟩ hP hD hS hA hK hN hB (c_X3_readWait l G cA H.size bA ka ra pa K R P L  r27 K_28 R_29 P_30 hc31) (tq_gV kw_18_7 kw_18_8 kw_18_9 kw_1_15 kw_18_10) rfl rfl dkdV_yX3_readWait_0 (Nat.le_of_ble_eq_true rfl) (Nat.le_of_ble_eq_true rfl) (ci := 3) (q0 := 3) rfl rfl rfl hl.1 rfl (Nat.le_of_ble_eq_true rfl) dX3_readLine_68 ⟨Nat.le_of_ble_eq_true rfl, Nat.le_of_ble_eq_true rfl⟩ (fun _ _ H locs z32 hP hD hS => ?_)
          have z32 := z32.symm
          subst z32
          have hP : va_P G vwCl (wRP cA ka ra pa K_28 R_29 P_30 L) H := hP
          have hD : va_D A (wRP cA ka ra pa K_28 R_29 P_30 L) := hD
          obtain ⟨g33, h⟩ := tx_ck h
          obtain ⟨rfl, rfl, rfl, rfl⟩ := tx_4 h
          exact W.zret (ty := .boolean) hx hb hr (tx_z g33) (fun t ht hW => ⟨⟨_, (), rfl, rfl, by rw [ht]; exact hP, hD⟩, hS.F ht⟩) hS.2.2 dX3_readLine_71
        · have h := tx_neg c26 h
          by_cases c34 : y1 = 4
          · have h := tx_pos c34 h
            refine lv_tableIn (off := 65) (tgt := 72) hx hb dX3_readLine_7 (by rw [c34]; decide) (by rw [c34]; decide) (by rw [c34]; decide) (by decide) ?_
            refine lv_aload_n hx hb dX3_readLine_72 rfl (lv_at hl 0 rfl) ?_
            obtain ⟨⟨r35, K_36, R_37, P_38⟩, hc39, h⟩ := tx_bd h
            replace h := tx_let (y := r35) rfl h
            replace h := tx_let (y := K_36) rfl h
            replace h := tx_let (y := R_37) rfl h
            replace h := tx_let (y := P_38) rfl h
            refine tzB_i (As := []) (rest := []) ⟨hx, hb, hml, hown, hT⟩ hP hD hS hA hK hN hB (c_X3_readRule l G cA H.size bA ka ra pa K R P L  r35 K_36 R_37 P_38 hc39) (tq_gV kw_18_19 kw_18_20 kw_18_21 kw_1_15 kw_18_22) rfl rfl dkdV_yX3_readRule_0 (Nat.le_of_ble_eq_true rfl) (Nat.le_of_ble_eq_true rfl) (ci := 3) (q0 := 3) rfl rfl rfl hl.1 rfl (Nat.le_of_ble_eq_true rfl) dX3_readLine_73 ⟨Nat.le_of_ble_eq_true rfl, Nat.le_of_ble_eq_true rfl⟩ (fun _ _ H locs z40 hP hD hS => ?_)
            have z40 := z40.symm
            subst z40
            have hP : va_P G vwCl (wRP cA ka ra pa K_36 R_37 P_38 L) H := hP
            have hD : va_D A (wRP cA ka ra pa K_36 R_37 P_38 L) := hD
            obtain ⟨g41, h⟩ := tx_ck h
            obtain ⟨rfl, rfl, rfl, rfl⟩ := tx_4 h
            exact W.zret (ty := .boolean) hx hb hr (tx_z g41) (fun t ht hW => ⟨⟨_, (), rfl, rfl, by rw [ht]; exact hP, hD⟩, hS.F ht⟩) hS.2.2 dX3_readLine_76
          · have h := tx_neg c34 h
            by_cases c42 : y1 = 5
            · have h := tx_pos c42 h
              refine lv_tableIn (off := 70) (tgt := 77) hx hb dX3_readLine_7 (by rw [c42]; decide) (by rw [c42]; decide) (by rw [c42]; decide) (by decide) ?_
              refine lv_aload_n hx hb dX3_readLine_77 rfl (lv_at hl 0 rfl) ?_
              obtain ⟨⟨r43, K_44, R_45, P_46⟩, hc47, h⟩ := tx_bd h
              replace h := tx_let (y := r43) rfl h
              replace h := tx_let (y := K_44) rfl h
              replace h := tx_let (y := R_45) rfl h
              replace h := tx_let (y := P_46) rfl h
              refine tzB_i (As := []) (rest := []) ⟨hx, hb, hml, hown, hT⟩ hP hD hS hA hK hN hB (c_X3_readCurve l G cA H.size bA ka ra pa K R P L  r43 K_44 R_45 P_46 hc47) (tq_gV kw_19_4 kw_19_5 kw_19_6 kw_1_15 kw_19_7) rfl rfl dkdV_yX3_readCurve_0 (Nat.le_of_ble_eq_true rfl) (Nat.le_of_ble_eq_true rfl) (ci := 3) (q0 := 3) rfl rfl rfl hl.1 rfl (Nat.le_of_ble_eq_true rfl) dX3_readLine_78 ⟨Nat.le_of_ble_eq_true rfl, Nat.le_of_ble_eq_true rfl⟩ (fun _ _ H locs z48 hP hD hS => ?_)
              have z48 := z48.symm
              subst z48
              have hP : va_P G vwCl (wRP cA ka ra pa K_44 R_45 P_46 L) H := hP
              have hD : va_D A (wRP cA ka ra pa K_44 R_45 P_46 L) := hD
              obtain ⟨g49, h⟩ := tx_ck h
              obtain ⟨rfl, rfl, rfl, rfl⟩ := tx_4 h
              exact W.zret (ty := .boolean) hx hb hr (tx_z g49) (fun t ht hW => ⟨⟨_, (), rfl, rfl, by rw [ht]; exact hP, hD⟩, hS.F ht⟩) hS.2.2 dX3_readLine_81
            · have h := tx_neg c42 h
              by_cases c50 : y1 = 6
              · have h := tx_pos c50 h
                refine lv_tableIn (off := 75) (tgt := 82) hx hb dX3_readLine_7 (by rw [c50]; decide) (by rw [c50]; decide) (by rw [c50]; decide) (by decide) ?_
                refine lv_aload_n hx hb dX3_readLine_82 rfl (lv_at hl 0 rfl) ?_
                obtain ⟨⟨r51, K_52, R_53, P_54⟩, hc55, h⟩ := tx_bd h
                replace h := tx_let (y := r51) rfl h
                replace h := tx_let (y := K_52) rfl h
                replace h := tx_let (y := R_53) rfl h
                replace h := tx_let (y := P_54) rfl h
                refine tzB_i (As := []) (rest := []) ⟨hx, hb, hml, hown, hT⟩ hP hD hS hA hK hN hB (c_X3_readSeed l G cA H.size bA ka ra pa K R P L  r51 K_52 R_53 P_54 hc55) (tq_gV kw_19_9 kw_19_10 kw_19_11 kw_1_15 kw_19_12) rfl rfl dkdV_yX3_readSeed_0 (Nat.le_of_ble_eq_true rfl) (Nat.le_of_ble_eq_true rfl) (ci := 3) (q0 := 3) rfl rfl rfl hl.1 rfl (Nat.le_of_ble_eq_true rfl) dX3_readLine_83 ⟨Nat.le_of_ble_eq_true rfl, Nat.le_of_ble_eq_true rfl⟩ (fun _ _ H locs z56 hP hD hS => ?_)
                have z56 := z56.symm
                subst z56
                have hP : va_P G vwCl (wRP cA ka ra pa K_52 R_53 P_54 L) H := hP
                have hD : va_D A (wRP cA ka ra pa K_52 R_53 P_54 L) := hD
                obtain ⟨g57, h⟩ := tx_ck h
                obtain ⟨rfl, rfl, rfl, rfl⟩ := tx_4 h
                exact W.zret (ty := .boolean) hx hb hr (tx_z g57) (fun t ht hW => ⟨⟨_, (), rfl, rfl, by rw [ht]; exact hP, hD⟩, hS.F ht⟩) hS.2.2 dX3_readLine_86
              · have h := tx_neg c50 h
                by_cases c58 : y1 = 7
                · have h := tx_pos c58 h
                  refine lv_tableIn (off := 80) (tgt := 87) hx hb dX3_readLine_7 (by rw [c58]; decide) (by rw [c58]; decide) (by rw [c58]; decide) (by decide) ?_
                  refine lv_aload_n hx hb dX3_readLine_87 rfl (lv_at hl 0 rfl) ?_
                  obtain ⟨⟨r59, K_60, R_61, P_62⟩, hc63, h⟩ := tx_bd h
                  replace h := tx_let (y := r59) rfl h
                  replace h := tx_let (y := K_60) rfl h
                  replace h := tx_let (y := R_61) rfl h
                  replace h := tx_let (y := P_62) rfl h
                  refine tzB_i (As := []) (rest := []) ⟨hx, hb, hml, hown, hT⟩ hP hD hS hA hK hN hB (c_X3_readLaw l G cA H.size bA ka ra pa K R P L  r59 K_60 R_61 P_62 hc63) (tq_gV kw_19_15 kw_19_16 kw_19_17 kw_1_15 kw_19_18) rfl rfl dkdV_yX3_readLaw_0 (Nat.le_of_ble_eq_true rfl) (Nat.le_of_ble_eq_true rfl) (ci := 3) (q0 := 3) rfl rfl rfl hl.1 rfl (Nat.le_of_ble_eq_true rfl) dX3_readLine_88 ⟨Nat.le_of_ble_eq_true rfl, Nat.le_of_ble_eq_true rfl⟩ (fun _ _ H locs z64 hP hD hS => ?_)
                  have z64 := z64.symm
                  subst z64
                  have hP : va_P G vwCl (wRP cA ka ra pa K_60 R_61 P_62 L) H := hP
                  have hD : va_D A (wRP cA ka ra pa K_60 R_61 P_62 L) := hD
                  obtain ⟨g65, h⟩ := tx_ck h
                  obtain ⟨rfl, rfl, rfl, rfl⟩ := tx_4 h
                  exact W.zret (ty := .boolean) hx hb hr (tx_z g65) (fun t ht hW => ⟨⟨_, (), rfl, rfl, by rw [ht]; exact hP, hD⟩, hS.F ht⟩) hS.2.2 dX3_readLine_91
                · have h := tx_neg c58 h
                  have kc2 := tq_eqn (a := y1.toInt) (b := 0) rfl (by decide) c2
                  have kc10 := tq_eqn (a := y1.toInt) (b := 1) rfl (by decide) c10
                  have kc18 := tq_eqn (a := y1.toInt) (b := 2) rfl (by decide) c18
                  have kc26 := tq_eqn (a := y1.toInt) (b := 3) rfl (by decide) c26
                  have kc34 := tq_eqn (a := y1.toInt) (b := 4) rfl (by decide) c34
                  have kc42 := tq_eqn (a := y1.toInt) (b := 5) rfl (by decide) c42
                  have kc50 := tq_eqn (a := y1.toInt) (b := 6) rfl (by decide) c50
                  have kc58 := tq_eqn (a := y1.toInt) (b := 7) rfl (by decide) c58
                  refine lv_tableOut (tgt := 92) hx hb dX3_readLine_7 (by omega) (by decide) ?_
                  refine lv_aload_n hx hb dX3_readLine_92 rfl (lv_at hl 0 rfl) ?_
                  refine lv_iconst (v := 0) hx hb dX3_readLine_93 (by decide) ?_
                  refine lv_iconst (v := 1) hx hb dX3_readLine_94 (by decide) ?_
                  obtain ⟨⟨r66, R_67⟩, hc68, h⟩ := tx_bd h
                  replace h := tx_let (y := r66) rfl h
                  replace h := tx_let (y := R_67) rfl h
                  refine tzB_i (As := [.int 0, .int 1]) (rest := []) ⟨hx, hb, hml, hown, hT⟩ hP hD hS hA hK hN hB (c_X3_expect l G cA H.size bA ka ra pa K R P L (0 : Int32) (1 : Int32)  r66 R_67 hc68) (tq_gV kw_16_18 kw_16_19 kw_16_20 kw_1_15 kw_16_21) rfl rfl dkdV_yX3_expect_2 (Nat.le_of_ble_eq_true rfl) (Nat.le_of_ble_eq_true rfl) (ci := 3) (q0 := 3) rfl rfl rfl hl.1 rfl (Nat.le_of_ble_eq_true rfl) dX3_readLine_95 ⟨Nat.le_of_ble_eq_true rfl, Nat.le_of_ble_eq_true rfl⟩ (fun _ _ H locs z69 hP hD hS => ?_)
                  have z69 := z69.symm
                  subst z69
                  have hP : va_P G vwCl (wRP cA ka ra pa K R_67 P L) H := hP
                  have hD : va_D A (wRP cA ka ra pa K R_67 P L) := hD
                  obtain ⟨g70, h⟩ := tx_ck h
                  obtain ⟨rfl, rfl, rfl, rfl⟩ := tx_4 h
                  exact W.zret (ty := .boolean) hx hb hr (tx_z g70) (fun t ht hW => ⟨⟨_, (), rfl, rfl, by rw [ht]; exact hP, hD⟩, hS.F ht⟩) hS.2.2 dX3_readLine_98
abbrev G_X3_readText (p : Program) (l : Launch) (e : Env) (s : State) (m : MethodId) (below : List Frame) (meth : Method) (c : Code) (G : va_G) (cA : Nat → ClassId) (A : Nat → Prop) (bA : Nat) (ka : Nat → Nat) (ra : Nat → Nat) (pa : Nat → Nat) (L : Lo) (x1 : Int32) (r0 : Int32) (K' : Tr) (R' : Tr) (P' : Tr) (H : Heap) (locs : List Loc) (g : JFrame) : Prop := W p l e (headSpec (.code yX3_readText cX3_readText 3 (some .boolean) :: T0) ({ frames := 6, cells := 0, slots := 0, locals := 133 } : Room)).room s m ([.ref (ra 0), .int x1] : List Value).toArray below meth c H locs 0 0 (MQ below (tqQi G cA (fun (r : Int32) (_ : Unit) => r = r0) (fun (_ : Unit) => wRP cA ka ra pa (K') (R') (P') L) A) ([.ref (ra 0), .int x1] : List Value).toArray s 0 0 A) g
set_option maxHeartbeats 4000000 in
set_option maxRecDepth 100000 in
theorem w_X3_readText_J123 {p : Program} {l : Launch} {e : Env} {s : State} {m : MethodId} {below : List Frame} {meth : Method} {c : Code} {G : va_G} {cA : Nat → ClassId} {A : Nat → Prop} {bA : Nat} {ka : Nat → Nat} {ra : Nat → Nat} {pa : Nat → Nat} {L : Lo} {x1₀ : Int32} {r0 : Int32} {K' : Tr} {R' : Tr} {P' : Tr} (F : tF p s m ([.ref (ra 0), .int x1₀] : List Value).toArray meth c G cA A RX3 cX3_readText 3 (some .boolean)) (hB : tqB bA A s s.heap)    (K : Tr) (R : Tr) (P : Tr) (H : Heap) (locs : List Loc) (ls : Array Slot) (h : fJ_X3_readText_J123 K R P = some (r0, K', R', P')) (hP : va_P G vwCl (wRP cA ka ra pa K R P L) H) (hD : va_D A (wRP cA ka ra pa K R P L)) (hS : va_S A s.heap H locs) (hl : lv_has ls 3 [(0, .ref (ra 0))]) : G_X3_readText p l e s m below meth c G cA A bA ka ra pa L x1₀ r0 K' R' P' H locs (F0 m 123 ls []) := by
  obtain ⟨hx, hb, hr, hml, hT, hown, hlocks, hK, hN, hA⟩ := id F
  unfold fJ_X3_readText_J123 at h
  refine lv_aload_n hx hb dX3_readText_123 rfl (lv_at hl 0 rfl) ?_
  refine va_get (D := G) (ci := 3) (v := .int (R 0 1)) (C := RX3) (T := TX3) (N := 10) hx hb hT ku_3 hown hK hP 3 rfl rfl 1 (by decide) (hT _ kw_3_0) (fun _ h9 => h9) rfl dX3_readText_124 ?_
  refine lv_if_ne (tgt := 134) hx hb dX3_readText_127 (by decide) (fun c13 => ?_) (fun c13 => ?_)
  · have h := tx_neg c13 h
    refine lv_iconst (v := 0) hx hb dX3_readText_134 (by decide) ?_
    obtain ⟨rfl, rfl, rfl, rfl⟩ := tx_4 h
    exact W.zret (ty := .boolean) hx hb hr rfl (fun t ht hW => ⟨⟨_, (), rfl, rfl, by rw [ht]; exact hP, hD⟩, hS.F ht⟩) hS.2.2 dX3_readText_135
  · have h := tx_pos c13 h
    refine lv_iconst (v := 1) hx hb dX3_readText_130 (by decide) ?_
    refine lv_goto (tgt := 135) hx hb dX3_readText_131 (by decide) ?_
    obtain ⟨rfl, rfl, rfl, rfl⟩ := tx_4 h
    exact W.zret (ty := .boolean) hx hb hr rfl (fun t ht hW => ⟨⟨_, (), rfl, rfl, by rw [ht]; exact hP, hD⟩, hS.F ht⟩) hS.2.2 dX3_readText_135
set_option maxHeartbeats 4000000 in
set_option maxRecDepth 100000 in
theorem w_X3_readText_J93 {p : Program} {l : Launch} {e : Env} {s : State} {m : MethodId} {below : List Frame} {meth : Method} {c : Code} {G : va_G} {cA : Nat → ClassId} {A : Nat → Prop} {bA : Nat} {ka : Nat → Nat} {ra : Nat → Nat} {pa : Nat → Nat} {L : Lo} {x1₀ : Int32} {r0 : Int32} {K' : Tr} {R' : Tr} {P' : Tr} (F : tF p s m ([.ref (ra 0), .int x1₀] : List Value).toArray meth c G cA A RX3 cX3_readText 3 (some .boolean)) (hB : tqB bA A s s.heap)  (k42 : Int32 → Tr → Tr → Tr → Option (Int32 × Tr × Tr × Tr)) (hk42 : ∀ (x2 : Int32) (K : Tr) (R : Tr) (P : Tr) (H : Heap) (locs : List Loc) (ls : Array Slot), k42 x2 K R P = some (r0, K', R', P') → va_P G vwCl (wRP cA ka ra pa K R P L) H → va_D A (wRP cA ka ra pa K R P L) → va_S A s.heap H locs → lv_has ls 3 [(0, .ref (ra 0)), (2, .int x2)] → G_X3_readText p l e s m below meth c G cA A bA ka ra pa L x1₀ r0 K' R' P' H locs (F0 m 42 ls [])) (x2 : Int32) (s0 : Int32) (K : Tr) (R : Tr) (P : Tr) (H : Heap) (locs : List Loc) (ls : Array Slot) (h : fJ_X3_readText_J93 k42 x2 s0 K R P = some (r0, K', R', P')) (hP : va_P G vwCl (wRP cA ka ra pa K R P L) H) (hD : va_D A (wRP cA ka ra pa K R P L)) (hS : va_S A s.heap H locs) (hl : lv_has ls 3 [(0, .ref (ra 0)), (2, .int x2)]) : G_X3_readText p l e s m below meth c G cA A bA ka ra pa L x1₀ r0 K' R' P' H locs (F0 m 93 ls [.int s0, .ref (ra 0)]) := by
  obtain ⟨hx, hb, hr, hml, hT, hown, hlocks, hK, hN, hA⟩ := id F
  unfold fJ_X3_readText_J93 at h
  refine lv_iconst (v := 1) hx hb dX3_readText_93 (by decide) ?_
  obtain ⟨⟨r25, R_26⟩, hc27, h⟩ := tx_bd h
  replace h := tx_let (y := r25) rfl h
  replace h := tx_let (y := R_26) rfl h
  refine tzB_i (As := [.int s0, .int 1]) (rest := []) ⟨hx, hb, hml, hown, hT⟩ hP hD hS hA hK hN hB (c_X3_expect l G cA H.size bA ka ra pa K R P L s0 (1 : Int32)  r25 R_26 hc27) (tq_gV kw_16_18 kw_16_19 kw_16_20 kw_1_15 kw_16_21) rfl rfl dkdV_yX3_expect_2 (Nat.le_of_ble_eq_true rfl) (Nat.le_of_ble_eq_true rfl) (ci := 3) (q0 := 3) rfl rfl rfl hl.1 rfl (Nat.le_of_ble_eq_true rfl) dX3_readText_94 ⟨Nat.le_of_ble_eq_true rfl, Nat.le_of_ble_eq_true rfl⟩ (fun _ _ H locs z28 hP hD hS => ?_)
  have z28 := z28.symm
  subst z28
  have hP : va_P G vwCl (wRP cA ka ra pa K R_26 P L) H := hP
  have hD : va_D A (wRP cA ka ra pa K R_26 P L) := hD
  refine lv_if_eq (tgt := 117) hx hb dX3_readText_97 (by decide) (fun c29 => ?_) (fun c29 => ?_)
  · have h := tx_pos c29 h
    obtain ⟨y30, ey30, h⟩ := tx_lt h
    refine lv_iinc (v := y30) (lv' := [(2, .int y30), (0, .ref (ra 0))]) hx hb dX3_readText_117 hl (k := 1) rfl ey30 (by decide) rfl (fun ls hl => ?_)
    refine lv_goto (tgt := 42) hx hb dX3_readText_120 (by decide) ?_
    exact hk42 y30 K R_26 P H locs ls h hP hD hS (lv_sub hl [1, 0] rfl)
  · have h := tx_neg c29 h
    refine lv_aload_n hx hb dX3_readText_100 rfl (lv_at hl 0 rfl) ?_
    refine va_get (D := G) (ci := 3) (v := .ref (ka 0)) (C := RX3) (T := TX3) (N := 10) hx hb hT ku_3 hown hK hP 3 rfl rfl 0 (by decide) (hT _ kw_2_23) (fun _ h9 => h9) rfl dX3_readText_101 ?_
    obtain ⟨K_31, hc32, h⟩ := tx_bd h
    refine tzB_v (As := []) (rest := []) ⟨hx, hb, hml, hown, hT⟩ hP hD hS hA hK hN hB (c_X5_advance l G cA H.size bA ka ra pa K R_26 P L  K_31 hc32) (tq_gV kw_16_23 kw_15_0 kw_15_1 kw_2_22 kw_15_2) rfl rfl dkdV_yX5_advance_0 (Nat.le_of_ble_eq_true rfl) (Nat.le_of_ble_eq_true rfl) (ci := 5) (q0 := 0) rfl rfl rfl hl.1 rfl (Nat.le_of_ble_eq_true rfl) dX3_readText_104 ⟨Nat.le_of_ble_eq_true rfl, Nat.le_of_ble_eq_true rfl⟩ (fun _ H locs z33 hP hD hS => ?_)
    have hP : va_P G vwCl (wRP cA ka ra pa K_31 R_26 P L) H := hP
    have hD : va_D A (wRP cA ka ra pa K_31 R_26 P L) := hD
    refine lv_aload_n hx hb dX3_readText_107 rfl (lv_at hl 0 rfl) ?_
    refine lv_dup hx hb dX3_readText_108 rfl ?_
    refine va_get (D := G) (ci := 3) (v := .int (R_26 0 3)) (C := RX3) (T := TX3) (N := 10) hx hb hT ku_3 hown hK hP 3 rfl rfl 3 (by decide) (hT _ kw_3_2) (fun _ h9 => h9) rfl dX3_readText_109 ?_
    refine lv_iconst (v := 1) hx hb dX3_readText_112 (by decide) ?_
    refine lv_iadd hx hb dX3_readText_113 ?_
    refine va_put (D := G) (ci := 3) (v := .int ((R_26 0 3) + 1)) (ty := .int) (C := RX3) (T := TX3) (N := 10) hx hb hT ku_3 tyX3 tyX3_ok nmX3 hown hK hP hD hS 3 rfl rfl 3 (by decide) (hT _ kw_3_2) (fun _ h9 => h9) rfl (by decide +kernel) rfl rfl (Nat.le_of_ble_eq_true rfl) dX3_readText_114 (fun H locs hP hD hS => ?_)
    obtain ⟨R_34, eR_34, h⟩ := tx_lt h
    rw [sRP_ra_f3, eR_34] at hP hD
    obtain ⟨y35, ey35, h⟩ := tx_lt h
    refine lv_iinc (v := y35) (lv' := [(2, .int y35), (0, .ref (ra 0))]) hx hb dX3_readText_117 hl (k := 1) rfl ey35 (by decide) rfl (fun ls hl => ?_)
    refine lv_goto (tgt := 42) hx hb dX3_readText_120 (by decide) ?_
    exact hk42 y35 K_31 R_34 P H locs ls h hP hD hS (lv_sub hl [1, 0] rfl)
set_option maxHeartbeats 4000000 in
set_option maxRecDepth 100000 in
theorem w_X3_readText_L42 {p : Program} {l : Launch} {e : Env} {s : State} {m : MethodId} {below : List Frame} {meth : Method} {c : Code} {G : va_G} {cA : Nat → ClassId} {A : Nat → Prop} {bA : Nat} {ka : Nat → Nat} {ra : Nat → Nat} {pa : Nat → Nat} {L : Lo} {x1₀ : Int32} {r0 : Int32} {K' : Tr} {R' : Tr} {P' : Tr} (F : tF p s m ([.ref (ra 0), .int x1₀] : List Value).toArray meth c G cA A RX3 cX3_readText 3 (some .boolean)) (hB : tqB bA A s s.heap)    (N : Nat) : ∀ (x2 : Int32) (K : Tr) (R : Tr) (P : Tr) (H : Heap) (locs : List Loc) (ls : Array Slot), lpF (fun _ _ _ _ => none) (fB_X3_readText_L42 ) N x2 K R P = some (r0, K', R', P') → va_P G vwCl (wRP cA ka ra pa K R P L) H → va_D A (wRP cA ka ra pa K R P L) → va_S A s.heap H locs → lv_has ls 3 [(0, .ref (ra 0)), (2, .int x2)] → G_X3_readText p l e s m below meth c G cA A bA ka ra pa L x1₀ r0 K' R' P' H locs (F0 m 42 ls []) := by
  obtain ⟨hx, hb, hr, hml, hT, hown, hlocks, hK, hN, hA⟩ := id F
  induction N with
  | zero =>
    intro x2 K R P H locs ls h
    have h : (none : Option (Int32 × Tr × Tr × Tr)) = some (r0, K', R', P') := h
    cases h
  | succ N hk42 =>
    intro x2 K R P H locs ls h hP hD hS hl
    have h : fB_X3_readText_L42  (lpF (fun _ _ _ _ => none) (fB_X3_readText_L42 ) N) x2 K R P = some (r0, K', R', P') := h
    generalize hk42e : lpF (fun _ _ _ _ => none) (fB_X3_readText_L42 ) N = k42 at h hk42
    unfold fB_X3_readText_L42 at h
    refine lv_iload_n hx hb dX3_readText_42 rfl (lv_at hl 1 rfl) ?_
    refine lv_sipush (v := 700) hx hb dX3_readText_43 (by decide) ?_
    refine lv_icmp_gt (tgt := 123) hx hb dX3_readText_46 (by decide) (fun c12 => ?_) (fun c12 => ?_)
    · have h := tx_pos c12 h
      exact w_X3_readText_J123 F hB K R P H locs ls h hP hD hS (lv_sub hl [0] rfl)
    · have h := tx_neg c12 h
      refine lv_aload_n hx hb dX3_readText_49 rfl (lv_at hl 0 rfl) ?_
      refine va_get (D := G) (ci := 3) (v := .int (R 0 1)) (C := RX3) (T := TX3) (N := 10) hx hb hT ku_3 hown hK hP 3 rfl rfl 1 (by decide) (hT _ kw_3_0) (fun _ h9 => h9) rfl dX3_readText_50 ?_
      refine lv_if_ne (tgt := 123) hx hb dX3_readText_53 (by decide) (fun c14 => ?_) (fun c14 => ?_)
      · have h := tx_neg c14 h
        exact w_X3_readText_J123 F hB K R P H locs ls h hP hD hS (lv_sub hl [0] rfl)
      · have h := tx_pos c14 h
        refine lv_aload_n hx hb dX3_readText_56 rfl (lv_at hl 0 rfl) ?_
        refine va_get (D := G) (ci := 3) (v := .ref (ka 0)) (C := RX3) (T := TX3) (N := 10) hx hb hT ku_3 hown hK hP 3 rfl rfl 0 (by decide) (hT _ kw_2_23) (fun _ h9 => h9) rfl dX3_readText_57 ?_
        refine va_get (D := G) (ci := 5) (v := .int (K 0 1)) (C := RX5) (T := TX5) (N := 8) hx hb hT ku_5 hown hK hP 0 rfl rfl 1 (by decide) (hT _ kw_14_15) (fun _ h9 => h9) rfl dX3_readText_60 ?_
        refine lv_bipush (v := 45) hx hb dX3_readText_63 (by decide) ?_
        refine lv_icmp_eq (tgt := 123) hx hb dX3_readText_65 (by decide) (fun c15 => ?_) (fun c15 => ?_)
        · have h := tx_pos c15 h
          exact w_X3_readText_J123 F hB K R P H locs ls h hP hD hS (lv_sub hl [0] rfl)
        · have h := tx_neg c15 h
          refine lv_aload_n hx hb dX3_readText_68 rfl (lv_at hl 0 rfl) ?_
          obtain ⟨⟨r16, K_17, R_18, P_19⟩, hc20, h⟩ := tx_bd h
          replace h := tx_let (y := r16) rfl h
          replace h := tx_let (y := K_17) rfl h
          replace h := tx_let (y := R_18) rfl h
          replace h := tx_let (y := P_19) rfl h
          refine tzB_i (As := []) (rest := []) ⟨hx, hb, hml, hown, hT⟩ hP hD hS hA hK hN hB (c_X3_readLine l G cA H.size bA ka ra pa K R P L  r16 K_17 R_18 P_19 hc20) (tq_gV kw_16_7 kw_16_8 kw_16_9 kw_1_15 kw_16_10) rfl rfl dkdV_yX3_readLine_0 (Nat.le_of_ble_eq_true rfl) (Nat.le_of_ble_eq_true rfl) (ci := 3) (q0 := 3) rfl rfl rfl hl.1 rfl (Nat.le_of_ble_eq_true rfl) dX3_readText_69 ⟨Nat.le_of_ble_eq_true rfl, Nat.le_of_ble_eq_true rfl⟩ (fun _ _ H locs z21 hP hD hS => ?_)
          have z21 := z21.symm
          subst z21
          have hP : va_P G vwCl (wRP cA ka ra pa K_17 R_18 P_19 L) H := hP
          have hD : va_D A (wRP cA ka ra pa K_17 R_18 P_19 L) := hD
          refine lv_if_eq (tgt := 117) hx hb dX3_readText_72 (by decide) (fun c22 => ?_) (fun c22 => ?_)
          · have h := tx_pos c22 h
            obtain ⟨y23, ey23, h⟩ := tx_lt h
            refine lv_iinc (v := y23) (lv' := [(2, .int y23), (0, .ref (ra 0))]) hx hb dX3_readText_117 hl (k := 1) rfl ey23 (by decide) rfl (fun ls hl => ?_)
            refine lv_goto (tgt := 42) hx hb dX3_readText_120 (by decide) ?_
            exact hk42 y23 K_17 R_18 P_19 H locs ls h hP hD hS (lv_sub hl [1, 0] rfl)
          · have h := tx_neg c22 h
            refine lv_aload_n hx hb dX3_readText_75 rfl (lv_at hl 0 rfl) ?_
            refine lv_aload_n hx hb dX3_readText_76 rfl (lv_at hl 0 rfl) ?_
            refine va_get (D := G) (ci := 3) (v := .ref (ka 0)) (C := RX3) (T := TX3) (N := 10) hx hb hT ku_3 hown hK hP 3 rfl rfl 0 (by decide) (hT _ kw_2_23) (fun _ h9 => h9) rfl dX3_readText_77 ?_
            refine va_get (D := G) (ci := 5) (v := .int (K_17 0 1)) (C := RX5) (T := TX5) (N := 8) hx hb hT ku_5 hown hK hP 0 rfl rfl 1 (by decide) (hT _ kw_14_15) (fun _ h9 => h9) rfl dX3_readText_80 ?_
            refine lv_bipush (v := 41) hx hb dX3_readText_83 (by decide) ?_
            refine lv_icmp_ne (tgt := 92) hx hb dX3_readText_85 (by decide) (fun c24 => ?_) (fun c24 => ?_)
            · have h := tx_neg c24 h
              refine lv_iconst (v := 0) hx hb dX3_readText_92 (by decide) ?_
              exact w_X3_readText_J93 F hB k42 hk42 x2 0 K_17 R_18 P_19 H locs ls h hP hD hS (lv_sub hl [0, 1] rfl)
            · have h := tx_pos c24 h
              refine lv_iconst (v := 1) hx hb dX3_readText_88 (by decide) ?_
              refine lv_goto (tgt := 93) hx hb dX3_readText_89 (by decide) ?_
              exact w_X3_readText_J93 F hB k42 hk42 x2 1 K_17 R_18 P_19 H locs ls h hP hD hS (lv_sub hl [0, 1] rfl)
set_option maxHeartbeats 4000000 in
set_option maxRecDepth 100000 in
theorem c_X3_readText (l : Launch) (G : va_G) (cA : Nat → ClassId) (sz : Nat) (bA : Nat) (ka : Nat → Nat) (ra : Nat → Nat) (pa : Nat → Nat) (K : Tr) (R : Tr) (P : Tr) (L : Lo) (x1 : Int32)  (r0 : Int32) (K' : Tr) (R' : Tr) (P' : Tr) (h : f_X3_readText K R P x1 = some (r0, K', R', P')) : Met l yX3_readText (.code yX3_readText cX3_readText 3 (some .boolean) :: T0) ({ frames := 6, cells := 0, slots := 0, locals := 133 } : Room) (tqPB bA G cA [.ref (ra 0), .int x1] (wRP cA ka ra pa K R P L) sz) (tqQi G cA (fun (r : Int32) (_ : Unit) => r = r0) (fun (_ : Unit) => wRP cA ka ra pa (K') (R') (P') L) (va_A (wRP cA ka ra pa K R P L) sz)) 0 0 (va_A (wRP cA ka ra pa K R P L) sz) := by
  refine Met.ofW (cc := cX3_readText) (maxL := 3) (ret := (some .boolean)) (by decide) rfl ?_
  intro p e s m args below meth c s₁ B hml hv
  obtain ⟨rfl, hsz, hP, hK, hD0, hN, hB⟩ := hv
  have hx := B.exec
  have hb := B.bytes
  have hr := B.returns
  have hts := atoms_spec (ws := .code yX3_readText cX3_readText 3 (some .boolean) :: T0) B.pre
  have hT : ∀ w ∈ T0, w.before _ s = true := fun w h => hts w (List.mem_cons_of_mem _ h)
  have hown : s.vm.findClass RX3 = some m.cls := findClass_of_methodNamed B.named
  have hlocks := B.notSynchronized
  subst hsz
  have hD := hD0.self (sz := s.heap.size)
  generalize hAe : va_A (wRP cA ka ra pa K R P L) s.heap.size = A at hD hB ⊢
  have hA : ∀ q : Nat, s.heap.size ≤ q → A q := fun q h => by rw [← hAe]; exact Or.inr h
  have hS : va_S A s.heap s.heap [] := va_S.rf
  have hl := lv_entry ([.ref (ra 0), .int x1]) (n := 3) (Nat.le_of_ble_eq_true rfl)
  rw [lg_entry_eq]
  generalize (lg_sl ([.ref (ra 0), .int x1]) ++ List.replicate (3 - (lg_sl ([.ref (ra 0), .int x1])).length) Slot.unset).toArray = ls at hl ⊢
  have hl : lv_has ls 3 [(0, .ref (ra 0)), (1, .int x1)] := hl
  have F : tF p s m ([.ref (ra 0), .int x1] : List Value).toArray meth c G cA A RX3 cX3_readText 3 (some .boolean) := ⟨hx, hb, hr, hml, hT, hown, hlocks, hK, hN, hA⟩
  obtain ⟨H, hH⟩ : ∃ z, z = s.heap := ⟨_, rfl⟩
  rw [← hH] at hP
  have hS : va_S A s.heap H [] := by rw [hH]; exact hS
  suffices hgo : G_X3_readText p l e s m below meth c G cA A bA ka ra pa L x1 r0 K' R' P' H [] (F0 m 0 ls []) by rw [hH] at hgo; exact hgo
  generalize ([] : List Loc) = locs at hS ⊢
  unfold f_X3_readText at h
  refine lv_aload_n hx hb dX3_readText_0 rfl (lv_at hl 0 rfl) ?_
  refine va_get (D := G) (ci := 3) (v := .ref (pa 0)) (C := RX3) (T := TX3) (N := 10) hx hb hT ku_3 hown hK hP 3 rfl rfl 4 (by decide) (hT _ kw_3_4) (fun _ h9 => h9) rfl dX3_readText_1 ?_
  obtain ⟨P_1, hc2, h⟩ := tx_bd h
  refine tzB_v (As := []) (rest := []) ⟨hx, hb, hml, hown, hT⟩ hP hD hS hA hK hN hB (c_X2_clear l G cA H.size bA ka ra pa K R P L  P_1 hc2) (tq_gV kw_14_16 kw_6_15 kw_6_16 kw_1_19 kw_6_17) rfl rfl dkdV_yX2_clear_0 (Nat.le_of_ble_eq_true rfl) (Nat.le_of_ble_eq_true rfl) (ci := 2) (q0 := 5) rfl rfl rfl hl.1 rfl (Nat.le_of_ble_eq_true rfl) dX3_readText_4 ⟨Nat.le_of_ble_eq_true rfl, Nat.le_of_ble_eq_true rfl⟩ (fun _ H locs z3 hP hD hS => ?_)
  have hP : va_P G vwCl (wRP cA ka ra pa K R P_1 L) H := hP
  have hD : va_D A (wRP cA ka ra pa K R P_1 L) := hD
  refine lv_aload_n hx hb dX3_readText_7 rfl (lv_at hl 0 rfl) ?_
  refine lv_iconst (v := 0) hx hb dX3_readText_8 (by decide) ?_
  refine va_put (D := G) (ci := 3) (v := .int 0) (ty := .int) (C := RX3) (T := TX3) (N := 10) hx hb hT ku_3 tyX3 tyX3_ok nmX3 hown hK hP hD hS 3 rfl rfl 1 (by decide) (hT _ kw_3_0) (fun _ h9 => h9) rfl (by decide +kernel) rfl rfl (Nat.le_of_ble_eq_true rfl) dX3_readText_9 (fun H locs hP hD hS => ?_)
  obtain ⟨R_4, eR_4, h⟩ := tx_lt h
  rw [sRP_ra_f1, eR_4] at hP hD
  refine lv_aload_n hx hb dX3_readText_12 rfl (lv_at hl 0 rfl) ?_
  refine lv_iconst (v := (-1)) hx hb dX3_readText_13 (by decide) ?_
  refine va_put (D := G) (ci := 3) (v := .int (-1)) (ty := .int) (C := RX3) (T := TX3) (N := 10) hx hb hT ku_3 tyX3 tyX3_ok nmX3 hown hK hP hD hS 3 rfl rfl 2 (by decide) (hT _ kw_3_1) (fun _ h9 => h9) rfl (by decide +kernel) rfl rfl (Nat.le_of_ble_eq_true rfl) dX3_readText_14 (fun H locs hP hD hS => ?_)
  obtain ⟨R_5, eR_5, h⟩ := tx_lt h
  rw [sRP_ra_f2, eR_5] at hP hD
  refine lv_aload_n hx hb dX3_readText_17 rfl (lv_at hl 0 rfl) ?_
  refine lv_iconst (v := 0) hx hb dX3_readText_18 (by decide) ?_
  refine va_put (D := G) (ci := 3) (v := .int 0) (ty := .int) (C := RX3) (T := TX3) (N := 10) hx hb hT ku_3 tyX3 tyX3_ok nmX3 hown hK hP hD hS 3 rfl rfl 3 (by decide) (hT _ kw_3_2) (fun _ h9 => h9) rfl (by decide +kernel) rfl rfl (Nat.le_of_ble_eq_true rfl) dX3_readText_19 (fun H locs hP hD hS => ?_)
  obtain ⟨R_6, eR_6, h⟩ := tx_lt h
  rw [sRP_ra_f3, eR_6] at hP hD
  refine lv_aload_n hx hb dX3_readText_22 rfl (lv_at hl 0 rfl) ?_
  refine lv_iconst (v := 0) hx hb dX3_readText_23 (by decide) ?_
  refine va_put (D := G) (ci := 3) (v := .int 0) (ty := .int) (C := RX3) (T := TX3) (N := 10) hx hb hT ku_3 tyX3 tyX3_ok nmX3 hown hK hP hD hS 3 rfl rfl 5 (by decide) (hT _ kw_14_13) (fun _ h9 => h9) rfl (by decide +kernel) rfl rfl (Nat.le_of_ble_eq_true rfl) dX3_readText_24 (fun H locs hP hD hS => ?_)
  obtain ⟨R_7, eR_7, h⟩ := tx_lt h
  rw [sRP_ra_f5, eR_7] at hP hD
  refine lv_aload_n hx hb dX3_readText_27 rfl (lv_at hl 0 rfl) ?_
  refine lv_iconst (v := 0) hx hb dX3_readText_28 (by decide) ?_
  refine va_put (D := G) (ci := 3) (v := .int 0) (ty := .int) (C := RX3) (T := TX3) (N := 10) hx hb hT ku_3 tyX3 tyX3_ok nmX3 hown hK hP hD hS 3 rfl rfl 6 (by decide) (hT _ kw_14_14) (fun _ h9 => h9) rfl (by decide +kernel) rfl rfl (Nat.le_of_ble_eq_true rfl) dX3_readText_29 (fun H locs hP hD hS => ?_)
  obtain ⟨R_8, eR_8, h⟩ := tx_lt h
  rw [sRP_ra_f6, eR_8] at hP hD
  refine lv_aload_n hx hb dX3_readText_32 rfl (lv_at hl 0 rfl) ?_
  refine va_get (D := G) (ci := 3) (v := .ref (ka 0)) (C := RX3) (T := TX3) (N := 10) hx hb hT ku_3 hown hK hP 3 rfl rfl 0 (by decide) (hT _ kw_2_23) (fun _ h9 => h9) rfl dX3_readText_33 ?_
  refine lv_iload_n hx hb dX3_readText_36 rfl (lv_at hl 1 rfl) ?_
  obtain ⟨K_9, hc10, h⟩ := tx_bd h
  refine tzB_v (As := [.int x1]) (rest := []) ⟨hx, hb, hml, hown, hT⟩ hP hD hS hA hK hN hB (c_X5_begin l G cA H.size bA ka ra pa K R_8 P_1 L x1  K_9 hc10) (tq_gV kw_14_17 kw_14_18 kw_14_19 kw_2_22 kw_14_20) rfl rfl dkdV_yX5_begin_1 (Nat.le_of_ble_eq_true rfl) (Nat.le_of_ble_eq_true rfl) (ci := 5) (q0 := 0) rfl rfl rfl hl.1 rfl (Nat.le_of_ble_eq_true rfl) dX3_readText_37 ⟨Nat.le_of_ble_eq_true rfl, Nat.le_of_ble_eq_true rfl⟩ (fun _ H locs z11 hP hD hS => ?_)
  have hP : va_P G vwCl (wRP cA ka ra pa K_9 R_8 P_1 L) H := hP
  have hD : va_D A (wRP cA ka ra pa K_9 R_8 P_1 L) := hD
  refine lv_iconst (v := 0) hx hb dX3_readText_40 (by decide) ?_
  refine lv_istore_n (lv' := [(2, .int 0), (0, .ref (ra 0)), (1, .int x1)]) hx hb dX3_readText_41 rfl hl (by decide) rfl (fun ls hl => ?_)
  exact w_X3_readText_L42 F hB 2000 0 K_9 R_8 P_1 H locs ls h hP hD hS (lv_sub hl [1, 0] rfl)
