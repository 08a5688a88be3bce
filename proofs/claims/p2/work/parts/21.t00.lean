abbrev G_X6_level (p : Program) (l : Launch) (e : Env) (s : State) (m : MethodId) (below : List Frame) (meth : Method) (c : Code) (G : va_G) (cA : Nat → ClassId) (A : Nat → Prop) (ta : Nat → Nat) (pa : Nat → Nat) (T : Tr) (P : Tr) (L : Lo) (x1 : Int32) (r0 : Int32) (H : Heap) (locs : List Loc) (g : JFrame) : Prop := W p l e (headSpec (.code yX6_level cX6_level 4 (some .int) :: T0) ({ frames := 0, cells := 0, slots := 0, locals := 0 } : Room)).room s m ([.ref (ta 0), .int x1] : List Value).toArray below meth c H locs 0 0 (MQ below (tqQi G cA (fun (r : Int32) (_ : Unit) => r = r0) (fun (_ : Unit) => wTP cA ta pa T P L) A) ([.ref (ta 0), .int x1] : List Value).toArray s 0 0 A) g
set_option maxHeartbeats 4000000 in
set_option maxRecDepth 100000 in
theorem w_X6_level_L13 {p : Program} {l : Launch} {e : Env} {s : State} {m : MethodId} {below : List Frame} {meth : Method} {c : Code} {G : va_G} {cA : Nat → ClassId} {A : Nat → Prop} {ta : Nat → Nat} {pa : Nat → Nat} {T : Tr} {P : Tr} {L : Lo} {x1₀ : Int32} {r0 : Int32} {x1 : Int32} {x2 : Int32} (F : tF p s m ([.ref (ta 0), .int x1₀] : List Value).toArray meth c G cA A RX6 cX6_level 4 (some .int))    (N : Nat) : ∀ (x3 : Int32) (H : Heap) (locs : List Loc) (ls : Array Slot), lpF (fun _ => none) (fB_X6_level_L13 T x1 x2) N x3 = some r0 → va_P G vwCl (wTP cA ta pa T P L) H → va_D A (wTP cA ta pa T P L) → va_S A s.heap H locs → lv_has ls 4 [(0, .ref (ta 0)), (1, .int x1), (2, .int x2), (3, .int x3)] → G_X6_level p l e s m below meth c G cA A ta pa T P L x1₀ r0 H locs (F0 m 13 ls []) := by
  obtain ⟨hx, hb, hr, hml, hT, hown, hlocks, hK, hN, hA⟩ := id F
  induction N with
  | zero =>
    intro x3 H locs ls h
    have h : (none : Option (Int32)) = some r0 := h
    cases h
  | succ N hk13 =>
    intro x3 H locs ls h hP hD hS hl
    have h : fB_X6_level_L13 T x1 x2 (lpF (fun _ => none) (fB_X6_level_L13 T x1 x2) N) x3 = some r0 := h
    generalize hk13e : lpF (fun _ => none) (fB_X6_level_L13 T x1 x2) N = k13 at h hk13
    unfold fB_X6_level_L13 at h
    refine lv_iload_n hx hb dX6_level_13 rfl (lv_at hl 3 rfl) ?_
    refine lv_aload_n hx hb dX6_level_14 rfl (lv_at hl 0 rfl) ?_
    refine va_get (D := G) (ci := 6) (v := .ref (ta 17)) (C := RX6) (T := TX6) (N := 20) hx hb hT ku_6 hown hK hP 0 rfl rfl 16 (by decide) (hT _ kw_7_15) (fun _ h9 => h9) rfl dX6_level_15 ?_
    refine lv_iload_n hx hb dX6_level_18 rfl (lv_at hl 2 rfl) ?_
    obtain ⟨g4, h⟩ := tx_ck h
    refine va_iald (i := x2) hx hb hK hP 9 0 rfl rfl (tx_in g4) dX6_level_19 ?_
    refine lv_icmp_ge (tgt := 46) hx hb dX6_level_20 (by decide) (fun c5 => ?_) (fun c5 => ?_)
    · have h := tx_pos c5 h
      refine lv_iconst (v := (-1)) hx hb dX6_level_46 (by decide) ?_
      obtain rfl := tx_1 h
      exact W.iret hx hb hr (fun t ht hW => ⟨⟨_, (), rfl, rfl, by rw [ht]; exact hP, hD⟩, hS.F ht⟩) hS.2.2 dX6_level_47
    · have h := tx_neg c5 h
      refine lv_aload_n hx hb dX6_level_23 rfl (lv_at hl 0 rfl) ?_
      refine va_get (D := G) (ci := 6) (v := .ref (ta 16)) (C := RX6) (T := TX6) (N := 20) hx hb hT ku_6 hown hK hP 0 rfl rfl 15 (by decide) (hT _ kw_7_14) (fun _ h9 => h9) rfl dX6_level_24 ?_
      refine lv_iload_n hx hb dX6_level_27 rfl (lv_at hl 2 rfl) ?_
      refine lv_bipush (v := 10) hx hb dX6_level_28 (by decide) ?_
      refine lv_imul hx hb dX6_level_30 ?_
      refine lv_iload_n hx hb dX6_level_31 rfl (lv_at hl 3 rfl) ?_
      refine lv_iadd hx hb dX6_level_32 ?_
      obtain ⟨g6, h⟩ := tx_ck h
      refine va_iald (i := ((x2 * 10) + x3)) hx hb hK hP 8 0 rfl rfl (tx_in g6) dX6_level_33 ?_
      refine lv_iload_n hx hb dX6_level_34 rfl (lv_at hl 1 rfl) ?_
      refine lv_icmp_ne (tgt := 40) hx hb dX6_level_35 (by decide) (fun c7 => ?_) (fun c7 => ?_)
      · have h := tx_neg c7 h
        obtain ⟨y8, ey8, h⟩ := tx_lt h
        refine lv_iinc (v := y8) (lv' := [(3, .int y8), (0, .ref (ta 0)), (1, .int x1), (2, .int x2)]) hx hb dX6_level_40 hl (k := 3) rfl ey8 (by decide) rfl (fun ls hl => ?_)
        refine lv_goto (tgt := 13) hx hb dX6_level_43 (by decide) ?_
        exact hk13 y8 H locs ls h hP hD hS (lv_sub hl [1, 2, 3, 0] rfl)
      · have h := tx_pos c7 h
        refine lv_iload_n hx hb dX6_level_38 rfl (lv_at hl 3 rfl) ?_
        obtain rfl := tx_1 h
        exact W.iret hx hb hr (fun t ht hW => ⟨⟨_, (), rfl, rfl, by rw [ht]; exact hP, hD⟩, hS.F ht⟩) hS.2.2 dX6_level_39
set_option maxHeartbeats 4000000 in
set_option maxRecDepth 100000 in
theorem c_X6_level (l : Launch) (G : va_G) (cA : Nat → ClassId) (sz : Nat) (ta : Nat → Nat) (pa : Nat → Nat) (T : Tr) (P : Tr) (L : Lo) (x1 : Int32)  (r0 : Int32) (h : f_X6_level T x1 = some r0) : Met l yX6_level (.code yX6_level cX6_level 4 (some .int) :: T0) ({ frames := 0, cells := 0, slots := 0, locals := 0 } : Room) (tqP G cA [.ref (ta 0), .int x1] (wTP cA ta pa T P L) sz) (tqQi G cA (fun (r : Int32) (_ : Unit) => r = r0) (fun (_ : Unit) => wTP cA ta pa T P L) (va_A (wTP cA ta pa T P L) sz)) 0 0 (va_A (wTP cA ta pa T P L) sz) := by
  refine Met.ofW (cc := cX6_level) (maxL := 4) (ret := (some .int)) (by decide) rfl ?_
  intro p e s m args below meth c s₁ B hml hv
  obtain ⟨rfl, hsz, hP, hK, hD0, hN⟩ := hv
  have hx := B.exec
  have hb := B.bytes
  have hr := B.returns
  have hts := atoms_spec (ws := .code yX6_level cX6_level 4 (some .int) :: T0) B.pre
  have hT : ∀ w ∈ T0, w.before _ s = true := fun w h => hts w (List.mem_cons_of_mem _ h)
  have hown : s.vm.findClass RX6 = some m.cls := findClass_of_methodNamed B.named
  have hlocks := B.notSynchronized
  subst hsz
  have hD := hD0.self (sz := s.heap.size)
  generalize hAe : va_A (wTP cA ta pa T P L) s.heap.size = A at hD ⊢
  have hA : ∀ q : Nat, s.heap.size ≤ q → A q := fun q h => by rw [← hAe]; exact Or.inr h
  have hS : va_S A s.heap s.heap [] := va_S.rf
  have hl := lv_entry ([.ref (ta 0), .int x1]) (n := 4) (Nat.le_of_ble_eq_true rfl)
  rw [lg_entry_eq]
  generalize (lg_sl ([.ref (ta 0), .int x1]) ++ List.replicate (4 - (lg_sl ([.ref (ta 0), .int x1])).length) Slot.unset).toArray = ls at hl ⊢
  have hl : lv_has ls 4 [(0, .ref (ta 0)), (1, .int x1)] := hl
  have F : tF p s m ([.ref (ta 0), .int x1] : List Value).toArray meth c G cA A RX6 cX6_level 4 (some .int) := ⟨hx, hb, hr, hml, hT, hown, hlocks, hK, hN, hA⟩
  obtain ⟨H, hH⟩ : ∃ z, z = s.heap := ⟨_, rfl⟩
  rw [← hH] at hP
  have hS : va_S A s.heap H [] := by rw [hH]; exact hS
  suffices hgo : G_X6_level p l e s m below meth c G cA A ta pa T P L x1 r0 H [] (F0 m 0 ls []) by rw [hH] at hgo; exact hgo
  generalize ([] : List Loc) = locs at hS ⊢
  unfold f_X6_level at h
  refine lv_aload_n hx hb dX6_level_0 rfl (lv_at hl 0 rfl) ?_
  refine va_get (D := G) (ci := 6) (v := .ref (ta 15)) (C := RX6) (T := TX6) (N := 20) hx hb hT ku_6 hown hK hP 0 rfl rfl 14 (by decide) (hT _ kw_7_13) (fun _ h9 => h9) rfl dX6_level_1 ?_
  refine lv_iload_n hx hb dX6_level_4 rfl (lv_at hl 1 rfl) ?_
  obtain ⟨g1, h⟩ := tx_ck h
  refine va_iald (i := x1) hx hb hK hP 7 0 rfl rfl (tx_in g1) dX6_level_5 ?_
  refine lv_topi (fun y2 ey2 => ?_)
  have h := tx_let ey2 h
  refine lv_istore_n (lv' := [(2, .int y2), (0, .ref (ta 0)), (1, .int x1)]) hx hb dX6_level_6 rfl hl (by decide) rfl (fun ls hl => ?_)
  refine lv_iload_n hx hb dX6_level_7 rfl (lv_at hl 0 rfl) ?_
  refine lv_if_lt (tgt := 46) hx hb dX6_level_8 (by decide) (fun c3 => ?_) (fun c3 => ?_)
  · have h := tx_pos c3 h
    refine lv_iconst (v := (-1)) hx hb dX6_level_46 (by decide) ?_
    obtain rfl := tx_1 h
    exact W.iret hx hb hr (fun t ht hW => ⟨⟨_, (), rfl, rfl, by rw [ht]; exact hP, hD⟩, hS.F ht⟩) hS.2.2 dX6_level_47
  · have h := tx_neg c3 h
    refine lv_iconst (v := 0) hx hb dX6_level_11 (by decide) ?_
    refine lv_istore_n (lv' := [(3, .int 0), (2, .int y2), (0, .ref (ta 0)), (1, .int x1)]) hx hb dX6_level_12 rfl hl (by decide) rfl (fun ls hl => ?_)
    exact w_X6_level_L13 F 2000 0 H locs ls h hP hD hS (lv_sub hl [2, 3, 1, 0] rfl)
abbrev G_X6_above (p : Program) (l : Launch) (e : Env) (s : State) (m : MethodId) (below : List Frame) (meth : Method) (c : Code) (G : va_G) (cA : Nat → ClassId) (A : Nat → Prop) (ta : Nat → Nat) (pa : Nat → Nat) (T : Tr) (P : Tr) (L : Lo) (x1 : Int32) (r0 : Int32) (H : Heap) (locs : List Loc) (g : JFrame) : Prop := W p l e (headSpec (.code yX6_above cX6_above 3 (some .int) :: T0) ({ frames := 1, cells := 0, slots := 0, locals := 23 } : Room)).room s m ([.ref (ta 0), .int x1] : List Value).toArray below meth c H locs 0 0 (MQ below (tqQi G cA (fun (r : Int32) (_ : Unit) => r = r0) (fun (_ : Unit) => wTP cA ta pa T P L) A) ([.ref (ta 0), .int x1] : List Value).toArray s 0 0 A) g
set_option maxHeartbeats 4000000 in
set_option maxRecDepth 100000 in
theorem c_X6_above (l : Launch) (G : va_G) (cA : Nat → ClassId) (sz : Nat) (ta : Nat → Nat) (pa : Nat → Nat) (T : Tr) (P : Tr) (L : Lo) (x1 : Int32)  (r0 : Int32) (h : f_X6_above T x1 = some r0) : Met l yX6_above (.code yX6_above cX6_above 3 (some .int) :: T0) ({ frames := 1, cells := 0, slots := 0, locals := 23 } : Room) (tqP G cA [.ref (ta 0), .int x1] (wTP cA ta pa T P L) sz) (tqQi G cA (fun (r : Int32) (_ : Unit) => r = r0) (fun (_ : Unit) => wTP cA ta pa T P L) (va_A (wTP cA ta pa T P L) sz)) 0 0 (va_A (wTP cA ta pa T P L) sz) := by
  refine Met.ofW (cc := cX6_above) (maxL := 3) (ret := (some .int)) (by decide) rfl ?_
  intro p e s m args below meth c s₁ B hml hv
  obtain ⟨rfl, hsz, hP, hK, hD0, hN⟩ := hv
  have hx := B.exec
  have hb := B.bytes
  have hr := B.returns
  have hts := atoms_spec (ws := .code yX6_above cX6_above 3 (some .int) :: T0) B.pre
  have hT : ∀ w ∈ T0, w.before _ s = true := fun w h => hts w (List.mem_cons_of_mem _ h)
  have hown : s.vm.findClass RX6 = some m.cls := findClass_of_methodNamed B.named
  have hlocks := B.notSynchronized
  subst hsz
  have hD := hD0.self (sz := s.heap.size)
  generalize hAe : va_A (wTP cA ta pa T P L) s.heap.size = A at hD ⊢
  have hA : ∀ q : Nat, s.heap.size ≤ q → A q := fun q h => by rw [← hAe]; exact Or.inr h
  have hS : va_S A s.heap s.heap [] := va_S.rf
  have hl := lv_entry ([.ref (ta 0), .int x1]) (n := 3) (Nat.le_of_ble_eq_true rfl)
  rw [lg_entry_eq]
  generalize (lg_sl ([.ref (ta 0), .int x1]) ++ List.replicate (3 - (lg_sl ([.ref (ta 0), .int x1])).length) Slot.unset).toArray = ls at hl ⊢
  have hl : lv_has ls 3 [(0, .ref (ta 0)), (1, .int x1)] := hl
  have F : tF p s m ([.ref (ta 0), .int x1] : List Value).toArray meth c G cA A RX6 cX6_above 3 (some .int) := ⟨hx, hb, hr, hml, hT, hown, hlocks, hK, hN, hA⟩
  obtain ⟨H, hH⟩ : ∃ z, z = s.heap := ⟨_, rfl⟩
  rw [← hH] at hP
  have hS : va_S A s.heap H [] := by rw [hH]; exact hS
  suffices hgo : G_X6_above p l e s m below meth c G cA A ta pa T P L x1 r0 H [] (F0 m 0 ls []) by rw [hH] at hgo; exact hgo
  generalize ([] : List Loc) = locs at hS ⊢
  unfold f_X6_above at h
  refine lv_aload_n hx hb dX6_above_0 rfl (lv_at hl 0 rfl) ?_
  refine va_get (D := G) (ci := 6) (v := .ref (ta 15)) (C := RX6) (T := TX6) (N := 20) hx hb hT ku_6 hown hK hP 0 rfl rfl 14 (by decide) (hT _ kw_7_13) (fun _ h9 => h9) rfl dX6_above_1 ?_
  refine lv_iload_n hx hb dX6_above_4 rfl (lv_at hl 1 rfl) ?_
  obtain ⟨g1, h⟩ := tx_ck h
  refine va_iald (i := x1) hx hb hK hP 7 0 rfl rfl (tx_in g1) dX6_above_5 ?_
  refine lv_topi (fun y2 ey2 => ?_)
  have h := tx_let ey2 h
  refine lv_istore_n (lv' := [(2, .int y2), (0, .ref (ta 0)), (1, .int x1)]) hx hb dX6_above_6 rfl hl (by decide) rfl (fun ls hl => ?_)
  refine lv_iload_n hx hb dX6_above_7 rfl (lv_at hl 0 rfl) ?_
  refine lv_if_ge (tgt := 15) hx hb dX6_above_8 (by decide) (fun c3 => ?_) (fun c3 => ?_)
  · have h := tx_pos c3 h
    refine lv_aload_n hx hb dX6_above_15 rfl (lv_at hl 1 rfl) ?_
    refine va_get (D := G) (ci := 6) (v := .ref (ta 17)) (C := RX6) (T := TX6) (N := 20) hx hb hT ku_6 hown hK hP 0 rfl rfl 16 (by decide) (hT _ kw_7_15) (fun _ h9 => h9) rfl dX6_above_16 ?_
    refine lv_iload_n hx hb dX6_above_19 rfl (lv_at hl 0 rfl) ?_
    obtain ⟨g4, h⟩ := tx_ck h
    refine va_iald (i := y2) hx hb hK hP 9 0 rfl rfl (tx_in g4) dX6_above_20 ?_
    refine lv_iconst (v := 1) hx hb dX6_above_21 (by decide) ?_
    refine lv_isub hx hb dX6_above_22 ?_
    refine lv_aload_n hx hb dX6_above_23 rfl (lv_at hl 1 rfl) ?_
    refine lv_iload_n hx hb dX6_above_24 rfl (lv_at hl 2 rfl) ?_
    obtain ⟨r5, hc6, h⟩ := tx_bd h
    refine tw_ci tw_all hP hD hS hA (va_runV (As := [.int x1]) (rest := [.int ((T 17 y2.toNatClampNeg) - 1)]) ⟨hx, hb, hml, hown, hT⟩ (c_X6_level l G cA H.size ta pa T P L x1  r5 hc6) (cwV 1 hT (tq_gV kw_30_14 kw_30_15 kw_30_16 kw_1_23 kw_30_17) rfl rfl rfl (by decide +kernel) ⟨Nat.le_of_ble_eq_true rfl, Nat.le_of_ble_eq_true rfl⟩) ⟨(tw_pre tw_all hP hD hK hN).1, va_recv hK hP (ci := 6) (q0 := 0) rfl rfl, (tw_pre tw_all hP hD hK hN).2⟩ rfl rfl hl.1 rfl (lv_room (Nat.le_of_ble_eq_true rfl)) dX6_above_25 ⟨Nat.le_of_ble_eq_true rfl, Nat.le_of_ble_eq_true rfl⟩) (fun _ _ H locs z7 hP hD hS => ?_)
    subst z7
    rw [List.append_nil] at hP hD
    have hP : va_P G vwCl (wTP cA ta pa T P L) H := hP
    have hD : va_D A (wTP cA ta pa T P L) := hD
    refine lv_isub hx hb dX6_above_28 ?_
    obtain rfl := tx_1 h
    exact W.iret hx hb hr (fun t ht hW => ⟨⟨_, (), rfl, rfl, by rw [ht]; exact hP, hD⟩, hS.F ht⟩) hS.2.2 dX6_above_29
  · have h := tx_neg c3 h
    refine lv_iconst (v := 0) hx hb dX6_above_11 (by decide) ?_
    refine lv_goto (tgt := 29) hx hb dX6_above_12 (by decide) ?_
    obtain rfl := tx_1 h
    exact W.iret hx hb hr (fun t ht hW => ⟨⟨_, (), rfl, rfl, by rw [ht]; exact hP, hD⟩, hS.F ht⟩) hS.2.2 dX6_above_29
abbrev G_X6_top (p : Program) (l : Launch) (e : Env) (s : State) (m : MethodId) (below : List Frame) (meth : Method) (c : Code) (G : va_G) (cA : Nat → ClassId) (A : Nat → Prop) (ta : Nat → Nat) (pa : Nat → Nat) (T : Tr) (P : Tr) (L : Lo) (x1 : Int32) (r0 : Int32) (H : Heap) (locs : List Loc) (g : JFrame) : Prop := W p l e (headSpec (.code yX6_top cX6_top 2 (some .int) :: T0) ({ frames := 0, cells := 0, slots := 0, locals := 0 } : Room)).room s m ([.ref (ta 0), .int x1] : List Value).toArray below meth c H locs 0 0 (MQ below (tqQi G cA (fun (r : Int32) (_ : Unit) => r = r0) (fun (_ : Unit) => wTP cA ta pa T P L) A) ([.ref (ta 0), .int x1] : List Value).toArray s 0 0 A) g
set_option maxHeartbeats 4000000 in
set_option maxRecDepth 100000 in
theorem c_X6_top (l : Launch) (G : va_G) (cA : Nat → ClassId) (sz : Nat) (ta : Nat → Nat) (pa : Nat → Nat) (T : Tr) (P : Tr) (L : Lo) (x1 : Int32)  (r0 : Int32) (h : f_X6_top T x1 = some r0) : Met l yX6_top (.code yX6_top cX6_top 2 (some .int) :: T0) ({ frames := 0, cells := 0, slots := 0, locals := 0 } : Room) (tqP G cA [.ref (ta 0), .int x1] (wTP cA ta pa T P L) sz) (tqQi G cA (fun (r : Int32) (_ : Unit) => r = r0) (fun (_ : Unit) => wTP cA ta pa T P L) (va_A (wTP cA ta pa T P L) sz)) 0 0 (va_A (wTP cA ta pa T P L) sz) := by
  refine Met.ofW (cc := cX6_top) (maxL := 2) (ret := (some .int)) (by decide) rfl ?_
  intro p e s m args below meth c s₁ B hml hv
  obtain ⟨rfl, hsz, hP, hK, hD0, hN⟩ := hv
  have hx := B.exec
  have hb := B.bytes
  have hr := B.returns
  have hts := atoms_spec (ws := .code yX6_top cX6_top 2 (some .int) :: T0) B.pre
  have hT : ∀ w ∈ T0, w.before _ s = true := fun w h => hts w (List.mem_cons_of_mem _ h)
  have hown : s.vm.findClass RX6 = some m.cls := findClass_of_methodNamed B.named
  have hlocks := B.notSynchronized
  subst hsz
  have hD := hD0.self (sz := s.heap.size)
  generalize hAe : va_A (wTP cA ta pa T P L) s.heap.size = A at hD ⊢
  have hA : ∀ q : Nat, s.heap.size ≤ q → A q := fun q h => by rw [← hAe]; exact Or.inr h
  have hS : va_S A s.heap s.heap [] := va_S.rf
  have hl := lv_entry ([.ref (ta 0), .int x1]) (n := 2) (Nat.le_of_ble_eq_true rfl)
  rw [lg_entry_eq]
  generalize (lg_sl ([.ref (ta 0), .int x1]) ++ List.replicate (2 - (lg_sl ([.ref (ta 0), .int x1])).length) Slot.unset).toArray = ls at hl ⊢
  have hl : lv_has ls 2 [(0, .ref (ta 0)), (1, .int x1)] := hl
  have F : tF p s m ([.ref (ta 0), .int x1] : List Value).toArray meth c G cA A RX6 cX6_top 2 (some .int) := ⟨hx, hb, hr, hml, hT, hown, hlocks, hK, hN, hA⟩
  obtain ⟨H, hH⟩ : ∃ z, z = s.heap := ⟨_, rfl⟩
  rw [← hH] at hP
  have hS : va_S A s.heap H [] := by rw [hH]; exact hS
  suffices hgo : G_X6_top p l e s m below meth c G cA A ta pa T P L x1 r0 H [] (F0 m 0 ls []) by rw [hH] at hgo; exact hgo
  generalize ([] : List Loc) = locs at hS ⊢
  unfold f_X6_top at h
  refine lv_aload_n hx hb dX6_top_0 rfl (lv_at hl 0 rfl) ?_
  refine va_get (D := G) (ci := 6) (v := .ref (ta 17)) (C := RX6) (T := TX6) (N := 20) hx hb hT ku_6 hown hK hP 0 rfl rfl 16 (by decide) (hT _ kw_7_15) (fun _ h9 => h9) rfl dX6_top_1 ?_
  refine lv_iload_n hx hb dX6_top_4 rfl (lv_at hl 1 rfl) ?_
  obtain ⟨g1, h⟩ := tx_ck h
  refine va_iald (i := x1) hx hb hK hP 9 0 rfl rfl (tx_in g1) dX6_top_5 ?_
  refine lv_if_ne (tgt := 13) hx hb dX6_top_6 (by decide) (fun c2 => ?_) (fun c2 => ?_)
  · have h := tx_neg c2 h
    refine lv_aload_n hx hb dX6_top_13 rfl (lv_at hl 0 rfl) ?_
    refine va_get (D := G) (ci := 6) (v := .ref (ta 16)) (C := RX6) (T := TX6) (N := 20) hx hb hT ku_6 hown hK hP 0 rfl rfl 15 (by decide) (hT _ kw_7_14) (fun _ h9 => h9) rfl dX6_top_14 ?_
    refine lv_iload_n hx hb dX6_top_17 rfl (lv_at hl 1 rfl) ?_
    refine lv_bipush (v := 10) hx hb dX6_top_18 (by decide) ?_
    refine lv_imul hx hb dX6_top_20 ?_
    refine lv_aload_n hx hb dX6_top_21 rfl (lv_at hl 0 rfl) ?_
    refine va_get (D := G) (ci := 6) (v := .ref (ta 17)) (C := RX6) (T := TX6) (N := 20) hx hb hT ku_6 hown hK hP 0 rfl rfl 16 (by decide) (hT _ kw_7_15) (fun _ h9 => h9) rfl dX6_top_22 ?_
    refine lv_iload_n hx hb dX6_top_25 rfl (lv_at hl 1 rfl) ?_
    refine va_iald (i := x1) hx hb hK hP 9 0 rfl rfl (tx_in g1) dX6_top_26 ?_
    refine lv_iadd hx hb dX6_top_27 ?_
    refine lv_iconst (v := 1) hx hb dX6_top_28 (by decide) ?_
    refine lv_isub hx hb dX6_top_29 ?_
    obtain ⟨g3, h⟩ := tx_ck h
    refine va_iald (i := (((x1 * 10) + (T 17 x1.toNatClampNeg)) - 1)) hx hb hK hP 8 0 rfl rfl (tx_in g3) dX6_top_30 ?_
    obtain rfl := tx_1 h
    exact W.iret hx hb hr (fun t ht hW => ⟨⟨_, (), rfl, rfl, by rw [ht]; exact hP, hD⟩, hS.F ht⟩) hS.2.2 dX6_top_31
  · have h := tx_pos c2 h
    refine lv_iconst (v := (-1)) hx hb dX6_top_9 (by decide) ?_
    refine lv_goto (tgt := 31) hx hb dX6_top_10 (by decide) ?_
    obtain rfl := tx_1 h
    exact W.iret hx hb hr (fun t ht hW => ⟨⟨_, (), rfl, rfl, by rw [ht]; exact hP, hD⟩, hS.F ht⟩) hS.2.2 dX6_top_31
abbrev G_X6_isRack (p : Program) (l : Launch) (e : Env) (s : State) (m : MethodId) (below : List Frame) (meth : Method) (c : Code) (G : va_G) (cA : Nat → ClassId) (A : Nat → Prop) (ta : Nat → Nat) (pa : Nat → Nat) (T : Tr) (P : Tr) (L : Lo) (x1 : Int32) (r0 : Int32) (H : Heap) (locs : List Loc) (g : JFrame) : Prop := W p l e (headSpec (.code yX6_isRack cX6_isRack 2 (some .boolean) :: T0) ({ frames := 0, cells := 0, slots := 0, locals := 0 } : Room)).room s m ([.ref (ta 0), .int x1] : List Value).toArray below meth c H locs 0 0 (MQ below (tqQi G cA (fun (r : Int32) (_ : Unit) => r = r0) (fun (_ : Unit) => wTP cA ta pa T P L) A) ([.ref (ta 0), .int x1] : List Value).toArray s 0 0 A) g
set_option maxHeartbeats 4000000 in
set_option maxRecDepth 100000 in
theorem c_X6_isRack (l : Launch) (G : va_G) (cA : Nat → ClassId) (sz : Nat) (ta : Nat → Nat) (pa : Nat → Nat) (T : Tr) (P : Tr) (L : Lo) (x1 : Int32)  (r0 : Int32) (h : f_X6_isRack P x1 = some r0) : Met l yX6_isRack (.code yX6_isRack cX6_isRack 2 (some .boolean) :: T0) ({ frames := 0, cells := 0, slots := 0, locals := 0 } : Room) (tqP G cA [.ref (ta 0), .int x1] (wTP cA ta pa T P L) sz) (tqQi G cA (fun (r : Int32) (_ : Unit) => r = r0) (fun (_ : Unit) => wTP cA ta pa T P L) (va_A (wTP cA ta pa T P L) sz)) 0 0 (va_A (wTP cA ta pa T P L) sz) := by
  refine Met.ofW (cc := cX6_isRack) (maxL := 2) (ret := (some .boolean)) (by decide) rfl ?_
  intro p e s m args below meth c s₁ B hml hv
  obtain ⟨rfl, hsz, hP, hK, hD0, hN⟩ := hv
  have hx := B.exec
  have hb := B.bytes
  have hr := B.returns
  have hts := atoms_spec (ws := .code yX6_isRack cX6_isRack 2 (some .boolean) :: T0) B.pre
  have hT : ∀ w ∈ T0, w.before _ s = true := fun w h => hts w (List.mem_cons_of_mem _ h)
  have hown : s.vm.findClass RX6 = some m.cls := findClass_of_methodNamed B.named
  have hlocks := B.notSynchronized
  subst hsz
  have hD := hD0.self (sz := s.heap.size)
  generalize hAe : va_A (wTP cA ta pa T P L) s.heap.size = A at hD ⊢
  have hA : ∀ q : Nat, s.heap.size ≤ q → A q := fun q h => by rw [← hAe]; exact Or.inr h
  have hS : va_S A s.heap s.heap [] := va_S.rf
  have hl := lv_entry ([.ref (ta 0), .int x1]) (n := 2) (Nat.le_of_ble_eq_true rfl)
  rw [lg_entry_eq]
  generalize (lg_sl ([.ref (ta 0), .int x1]) ++ List.replicate (2 - (lg_sl ([.ref (ta 0), .int x1])).length) Slot.unset).toArray = ls at hl ⊢
  have hl : lv_has ls 2 [(0, .ref (ta 0)), (1, .int x1)] := hl
  have F : tF p s m ([.ref (ta 0), .int x1] : List Value).toArray meth c G cA A RX6 cX6_isRack 2 (some .boolean) := ⟨hx, hb, hr, hml, hT, hown, hlocks, hK, hN, hA⟩
  obtain ⟨H, hH⟩ : ∃ z, z = s.heap := ⟨_, rfl⟩
  rw [← hH] at hP
  have hS : va_S A s.heap H [] := by rw [hH]; exact hS
  suffices hgo : G_X6_isRack p l e s m below meth c G cA A ta pa T P L x1 r0 H [] (F0 m 0 ls []) by rw [hH] at hgo; exact hgo
  generalize ([] : List Loc) = locs at hS ⊢
  unfold f_X6_isRack at h
  refine lv_aload_n hx hb dX6_isRack_0 rfl (lv_at hl 0 rfl) ?_
  refine va_get (D := G) (ci := 6) (v := .ref (pa 0)) (C := RX6) (T := TX6) (N := 20) hx hb hT ku_6 hown hK hP 0 rfl rfl 19 (by decide) (hT _ kw_8_1) (fun _ h9 => h9) rfl dX6_isRack_1 ?_
  refine va_get (D := G) (ci := 2) (v := .ref (pa 8)) (C := RX2) (T := TX2) (N := 19) hx hb hT ku_2 hown hK hP 12 rfl rfl 7 (by decide) (hT _ kw_33_18) (fun _ h9 => h9) rfl dX6_isRack_4 ?_
  refine lv_iload_n hx hb dX6_isRack_7 rfl (lv_at hl 1 rfl) ?_
  obtain ⟨g1, h⟩ := tx_ck h
  refine va_iald (i := x1) hx hb hK hP 13 0 rfl rfl (tx_in g1) dX6_isRack_8 ?_
  refine lv_if_eq (tgt := 25) hx hb dX6_isRack_9 (by decide) (fun c2 => ?_) (fun c2 => ?_)
  · have h := tx_pos c2 h
    refine lv_iconst (v := 1) hx hb dX6_isRack_25 (by decide) ?_
    refine lv_goto (tgt := 30) hx hb dX6_isRack_26 (by decide) ?_
    obtain rfl := tx_1 h
    exact W.zret (ty := .boolean) hx hb hr rfl (fun t ht hW => ⟨⟨_, (), rfl, rfl, by rw [ht]; exact hP, hD⟩, hS.F ht⟩) hS.2.2 dX6_isRack_30
  · have h := tx_neg c2 h
    refine lv_aload_n hx hb dX6_isRack_12 rfl (lv_at hl 0 rfl) ?_
    refine va_get (D := G) (ci := 6) (v := .ref (pa 0)) (C := RX6) (T := TX6) (N := 20) hx hb hT ku_6 hown hK hP 0 rfl rfl 19 (by decide) (hT _ kw_8_1) (fun _ h9 => h9) rfl dX6_isRack_13 ?_
    refine va_get (D := G) (ci := 2) (v := .ref (pa 8)) (C := RX2) (T := TX2) (N := 19) hx hb hT ku_2 hown hK hP 12 rfl rfl 7 (by decide) (hT _ kw_33_18) (fun _ h9 => h9) rfl dX6_isRack_16 ?_
    refine lv_iload_n hx hb dX6_isRack_19 rfl (lv_at hl 1 rfl) ?_
    refine va_iald (i := x1) hx hb hK hP 13 0 rfl rfl (tx_in g1) dX6_isRack_20 ?_
    refine lv_iconst (v := 1) hx hb dX6_isRack_21 (by decide) ?_
    refine lv_icmp_ne (tgt := 29) hx hb dX6_isRack_22 (by decide) (fun c3 => ?_) (fun c3 => ?_)
    · have h := tx_neg c3 h
      refine lv_iconst (v := 0) hx hb dX6_isRack_29 (by decide) ?_
      obtain rfl := tx_1 h
      exact W.zret (ty := .boolean) hx hb hr rfl (fun t ht hW => ⟨⟨_, (), rfl, rfl, by rw [ht]; exact hP, hD⟩, hS.F ht⟩) hS.2.2 dX6_isRack_30
    · have h := tx_pos c3 h
      refine lv_iconst (v := 1) hx hb dX6_isRack_25 (by decide) ?_
      refine lv_goto (tgt := 30) hx hb dX6_isRack_26 (by decide) ?_
      obtain rfl := tx_1 h
      exact W.zret (ty := .boolean) hx hb hr rfl (fun t ht hW => ⟨⟨_, (), rfl, rfl, by rw [ht]; exact hP, hD⟩, hS.F ht⟩) hS.2.2 dX6_isRack_30
abbrev G_X1_joined (p : Program) (l : Launch) (e : Env) (s : State) (m : MethodId) (below : List Frame) (meth : Method) (c : Code) (G : va_G) (cA : Nat → ClassId) (A : Nat → Prop) (x0 : Int32) (x1 : Int64) (x3 : Int64) (r0 : Int64) (H : Heap) (locs : List Loc) (g : JFrame) : Prop := W p l e (headSpec (.code yX1_joined cX1_joined 7 (some .long) :: T0) ({ frames := 0, cells := 0, slots := 0, locals := 0 } : Room)).room s m ([.int x0, .long x1, .long x3] : List Value).toArray below meth c H locs 0 0 (MQ below (tqQl G cA (fun (r : Int64) (_ : Unit) => r = r0) (fun (_ : Unit) => ([] : va_W)) A) ([.int x0, .long x1, .long x3] : List Value).toArray s 0 0 A) g
set_option maxHeartbeats 4000000 in
set_option maxRecDepth 100000 in
theorem w_X1_joined_J231 {p : Program} {l : Launch} {e : Env} {s : State} {m : MethodId} {below : List Frame} {meth : Method} {c : Code} {G : va_G} {cA : Nat → ClassId} {A : Nat → Prop} {x0₀ : Int32} {x1₀ : Int64} {x3₀ : Int64} {r0 : Int64} (F : tF p s m ([.int x0₀, .long x1₀, .long x3₀] : List Value).toArray meth c G cA A RX1 cX1_joined 7 (some .long))    (x1 : Int64) (x3 : Int64) (s0 : Int64) (s1 : Int64) (H : Heap) (locs : List Loc) (ls : Array Slot) (h : fJ_X1_joined_J231 x1 x3 s0 s1 = some r0) (hP : va_P G vwCl (([] : va_W)) H) (hD : va_D A (([] : va_W))) (hS : va_S A s.heap H locs) (hl : lv_has ls 7 [(5, .long y25), (1, .long x1), (3, .long x3)]) : G_X1_joined p l e s m below meth c G cA A x0₀ x1₀ x3₀ r0 H locs (F0 m 231 ls []) := by
  obtain ⟨hx, hb, hr, hml, hT, hown, hlocks, hK, hN, hA⟩ := id F
  unfold fJ_X1_joined_J231 at h
  obtain ⟨g24, h⟩ := tx_ck h
  refine lv_ldiv hx hb dX1_joined_231 (tx_nzl g24) ?_
  refine lv_topl (fun y25 ey25 => ?_)
  have h := tx_let ey25 h
  refine lv_lstore (lv' := [(5, .long y25), (1, .long x1), (3, .long x3)]) hx hb dX1_joined_232 hl (by decide) rfl (fun ls hl => ?_)
  refine lv_lload_n hx hb dX1_joined_234 rfl (lv_at hl 2 rfl) ?_
  refine lv_lload hx hb dX1_joined_235 (lv_at hl 0 rfl) ?_
  refine W.lcmp hx hb dX1_joined_237 ?_
  refine lv_if_gt (tgt := 249) hx hb dX1_joined_238 (by decide) (fun c26 => ?_) (fun c26 => ?_)
  · have h := tx_pos c26 h
    refine lv_ldc2 (v := (-9223372036854775808)) hx hb hown (hT _ kw_34_1) dX1_joined_249 ?_
    refine lv_goto (tgt := 258) hx hb dX1_joined_252 (by decide) ?_
    obtain rfl := tx_1 h
    exact W.lret hx hb hr (fun t ht hW => ⟨⟨_, (), rfl, rfl, by rw [ht]; exact hP, hD⟩, hS.F ht⟩) hS.2.2 dX1_joined_258
  · have h := tx_neg c26 h
    refine lv_lload_n hx hb dX1_joined_241 rfl (lv_at hl 2 rfl) ?_
    refine lv_lload hx hb dX1_joined_242 (lv_at hl 0 rfl) ?_
    refine lv_lneg hx hb dX1_joined_244 ?_
    refine W.lcmp hx hb dX1_joined_245 ?_
    refine lv_if_ge (tgt := 255) hx hb dX1_joined_246 (by decide) (fun c27 => ?_) (fun c27 => ?_)
    · have h := tx_pos c27 h
      refine lv_lload_n hx hb dX1_joined_255 rfl (lv_at hl 1 rfl) ?_
      refine lv_lload_n hx hb dX1_joined_256 rfl (lv_at hl 2 rfl) ?_
      refine lv_lmul hx hb dX1_joined_257 ?_
      obtain rfl := tx_1 h
      exact W.lret hx hb hr (fun t ht hW => ⟨⟨_, (), rfl, rfl, by rw [ht]; exact hP, hD⟩, hS.F ht⟩) hS.2.2 dX1_joined_258
    · have h := tx_neg c27 h
      refine lv_ldc2 (v := (-9223372036854775808)) hx hb hown (hT _ kw_34_1) dX1_joined_249 ?_
      refine lv_goto (tgt := 258) hx hb dX1_joined_252 (by decide) ?_
      obtain rfl := tx_1 h
      exact W.lret hx hb hr (fun t ht hW => ⟨⟨_, (), rfl, rfl, by rw [ht]; exact hP, hD⟩, hS.F ht⟩) hS.2.2 dX1_joined_258
set_option maxHeartbeats 4000000 in
set_option maxRecDepth 100000 in
theorem c_X1_joined (l : Launch) (G : va_G) (cA : Nat → ClassId) (sz : Nat) (x0 : Int32) (x1 : Int64) (x3 : Int64)  (r0 : Int64) (h : f_X1_joined x0 x1 x3 = some r0) : Met l yX1_joined (.code yX1_joined cX1_joined 7 (some .long) :: T0) ({ frames := 0, cells := 0, slots := 0, locals := 0 } : Room) (tqP G cA [.int x0, .long x1, .long x3] (([] : va_W)) sz) (tqQl G cA (fun (r : Int64) (_ : Unit) => r = r0) (fun (_ : Unit) => ([] : va_W)) (va_A (([] : va_W)) sz)) 0 0 (va_A (([] : va_W)) sz) := by
  refine Met.ofW (cc := cX1_joined) (maxL := 7) (ret := (some .long)) (by decide) rfl ?_
  intro p e s m args below meth c s₁ B hml hv
  obtain ⟨rfl, hsz, hP, hK, hD0, hN⟩ := hv
  have hx := B.exec
  have hb := B.bytes
  have hr := B.returns
  have hts := atoms_spec (ws := .code yX1_joined cX1_joined 7 (some .long) :: T0) B.pre
  have hT : ∀ w ∈ T0, w.before _ s = true := fun w h => hts w (List.mem_cons_of_mem _ h)
  have hown : s.vm.findClass RX1 = some m.cls := findClass_of_methodNamed B.named
  have hlocks := B.notSynchronized
  subst hsz
  have hD := hD0.self (sz := s.heap.size)
  generalize hAe : va_A (([] : va_W)) s.heap.size = A at hD ⊢
  have hA : ∀ q : Nat, s.heap.size ≤ q → A q := fun q h => by rw [← hAe]; exact Or.inr h
  have hS : va_S A s.heap s.heap [] := va_S.rf
  have hl := lv_entry ([.int x0, .long x1, .long x3]) (n := 7) (Nat.le_of_ble_eq_true rfl)
  rw [lg_entry_eq]
  generalize (lg_sl ([.int x0, .long x1, .long x3]) ++ List.replicate (7 - (lg_sl ([.int x0, .long x1, .long x3])).length) Slot.unset).toArray = ls at hl ⊢
  have hl : lv_has ls 7 [(0, .int x0), (1, .long x1), (3, .long x3)] := hl
  have F : tF p s m ([.int x0, .long x1, .long x3] : List Value).toArray meth c G cA A RX1 cX1_joined 7 (some .long) := ⟨hx, hb, hr, hml, hT, hown, hlocks, hK, hN, hA⟩
  obtain ⟨H, hH⟩ : ∃ z, z = s.heap := ⟨_, rfl⟩
  rw [← hH] at hP
  have hS : va_S A s.heap H [] := by rw [hH]; exact hS
  suffices hgo : G_X1_joined p l e s m below meth c G cA A x0 x1 x3 r0 H [] (F0 m 0 ls []) by rw [hH] at hgo; exact hgo
  generalize ([] : List Loc) = locs at hS ⊢
  unfold f_X1_joined at h
  refine lv_iload_n hx hb dX1_joined_0 rfl (lv_at hl 0 rfl) ?_
  by_cases c1 : x0 = 19
  · have h := tx_pos c1 h
    refine lv_tableIn (off := 91) (tgt := 98) hx hb dX1_joined_1 (by rw [c1]; decide) (by rw [c1]; decide) (by rw [c1]; decide) (by decide) ?_
    refine lv_lload_n hx hb dX1_joined_92 rfl (lv_at hl 1 rfl) ?_
    refine lv_lconst (v := 0) hx hb dX1_joined_93 (by decide) ?_
    refine W.lcmp hx hb dX1_joined_94 ?_
    refine lv_if_ne (tgt := 104) hx hb dX1_joined_95 (by decide) (fun c2 => ?_) (fun c2 => ?_)
    · have h := tx_neg c2 h
      refine lv_lconst (v := 1) hx hb dX1_joined_104 (by decide) ?_
      refine lv_goto (tgt := 109) hx hb dX1_joined_105 (by decide) ?_
      obtain rfl := tx_1 h
      exact W.lret hx hb hr (fun t ht hW => ⟨⟨_, (), rfl, rfl, by rw [ht]; exact hP, hD⟩, hS.F ht⟩) hS.2.2 dX1_joined_109
    · have h := tx_pos c2 h
      refine lv_lload_n hx hb dX1_joined_98 rfl (lv_at hl 2 rfl) ?_
      refine lv_lconst (v := 0) hx hb dX1_joined_99 (by decide) ?_
      refine W.lcmp hx hb dX1_joined_100 ?_
      refine lv_if_eq (tgt := 108) hx hb dX1_joined_101 (by decide) (fun c3 => ?_) (fun c3 => ?_)
      · have h := tx_pos c3 h
        refine lv_lconst (v := 0) hx hb dX1_joined_108 (by decide) ?_
        obtain rfl := tx_1 h
        exact W.lret hx hb hr (fun t ht hW => ⟨⟨_, (), rfl, rfl, by rw [ht]; exact hP, hD⟩, hS.F ht⟩) hS.2.2 dX1_joined_109
      · have h := tx_neg c3 h
        refine lv_lconst (v := 1) hx hb dX1_joined_104 (by decide) ?_
        refine lv_goto (tgt := 109) hx hb dX1_joined_105 (by decide) ?_
        obtain rfl := tx_1 h
        exact W.lret hx hb hr (fun t ht hW => ⟨⟨_, (), rfl, rfl, by rw [ht]; exact hP, hD⟩, hS.F ht⟩) hS.2.2 dX1_joined_109
  · have h := tx_neg c1 h
    by_cases c4 : x0 = 20
    · have h := tx_pos c4 h
      refine lv_tableIn (off := 109) (tgt := 116) hx hb dX1_joined_1 (by rw [c4]; decide) (by rw [c4]; decide) (by rw [c4]; decide) (by decide) ?_
      refine lv_lload_n hx hb dX1_joined_110 rfl (lv_at hl 1 rfl) ?_
      refine lv_lconst (v := 0) hx hb dX1_joined_111 (by decide) ?_
      refine W.lcmp hx hb dX1_joined_112 ?_
      refine lv_if_eq (tgt := 126) hx hb dX1_joined_113 (by decide) (fun c5 => ?_) (fun c5 => ?_)
      · have h := tx_pos c5 h
        refine lv_lconst (v := 0) hx hb dX1_joined_126 (by decide) ?_
        obtain rfl := tx_1 h
        exact W.lret hx hb hr (fun t ht hW => ⟨⟨_, (), rfl, rfl, by rw [ht]; exact hP, hD⟩, hS.F ht⟩) hS.2.2 dX1_joined_127
      · have h := tx_neg c5 h
        refine lv_lload_n hx hb dX1_joined_116 rfl (lv_at hl 2 rfl) ?_
        refine lv_lconst (v := 0) hx hb dX1_joined_117 (by decide) ?_
        refine W.lcmp hx hb dX1_joined_118 ?_
        refine lv_if_eq (tgt := 126) hx hb dX1_joined_119 (by decide) (fun c6 => ?_) (fun c6 => ?_)
        · have h := tx_pos c6 h
          refine lv_lconst (v := 0) hx hb dX1_joined_126 (by decide) ?_
          obtain rfl := tx_1 h
          exact W.lret hx hb hr (fun t ht hW => ⟨⟨_, (), rfl, rfl, by rw [ht]; exact hP, hD⟩, hS.F ht⟩) hS.2.2 dX1_joined_127
        · have h := tx_neg c6 h
          refine lv_lconst (v := 1) hx hb dX1_joined_122 (by decide) ?_
          refine lv_goto (tgt := 127) hx hb dX1_joined_123 (by decide) ?_
          obtain rfl := tx_1 h
          exact W.lret hx hb hr (fun t ht hW => ⟨⟨_, (), rfl, rfl, by rw [ht]; exact hP, hD⟩, hS.F ht⟩) hS.2.2 dX1_joined_127
    · have h := tx_neg c4 h
      by_cases c7 : x0 = 29
      · have h := tx_pos c7 h
        refine lv_tableIn (off := 127) (tgt := 134) hx hb dX1_joined_1 (by rw [c7]; decide) (by rw [c7]; decide) (by rw [c7]; decide) (by decide) ?_
        refine lv_lload_n hx hb dX1_joined_128 rfl (lv_at hl 1 rfl) ?_
        refine lv_lload_n hx hb dX1_joined_129 rfl (lv_at hl 2 rfl) ?_
        refine W.lcmp hx hb dX1_joined_130 ?_
        refine lv_if_ge (tgt := 138) hx hb dX1_joined_131 (by decide) (fun c8 => ?_) (fun c8 => ?_)
        · have h := tx_pos c8 h
          refine lv_lconst (v := 0) hx hb dX1_joined_138 (by decide) ?_
          obtain rfl := tx_1 h
          exact W.lret hx hb hr (fun t ht hW => ⟨⟨_, (), rfl, rfl, by rw [ht]; exact hP, hD⟩, hS.F ht⟩) hS.2.2 dX1_joined_139
        · have h := tx_neg c8 h
          refine lv_lconst (v := 1) hx hb dX1_joined_134 (by decide) ?_
          refine lv_goto (tgt := 139) hx hb dX1_joined_135 (by decide) ?_
          obtain rfl := tx_1 h
          exact W.lret hx hb hr (fun t ht hW => ⟨⟨_, (), rfl, rfl, by rw [ht]; exact hP, hD⟩, hS.F ht⟩) hS.2.2 dX1_joined_139
      · have h := tx_neg c7 h
        by_cases c9 : x0 = 30
        · have h := tx_pos c9 h
          refine lv_tableIn (off := 139) (tgt := 146) hx hb dX1_joined_1 (by rw [c9]; decide) (by rw [c9]; decide) (by rw [c9]; decide) (by decide) ?_
          refine lv_lload_n hx hb dX1_joined_140 rfl (lv_at hl 1 rfl) ?_
          refine lv_lload_n hx hb dX1_joined_141 rfl (lv_at hl 2 rfl) ?_
          refine W.lcmp hx hb dX1_joined_142 ?_
          refine lv_if_gt (tgt := 150) hx hb dX1_joined_143 (by decide) (fun c10 => ?_) (fun c10 => ?_)
          · have h := tx_pos c10 h
            refine lv_lconst (v := 0) hx hb dX1_joined_150 (by decide) ?_
            obtain rfl := tx_1 h
            exact W.lret hx hb hr (fun t ht hW => ⟨⟨_, (), rfl, rfl, by rw [ht]; exact hP, hD⟩, hS.F ht⟩) hS.2.2 dX1_joined_151
          · have h := tx_neg c10 h
            refine lv_lconst (v := 1) hx hb dX1_joined_146 (by decide) ?_
            refine lv_goto (tgt := 151) hx hb dX1_joined_147 (by decide) ?_
            obtain rfl := tx_1 h
            exact W.lret hx hb hr (fun t ht hW => ⟨⟨_, (), rfl, rfl, by rw [ht]; exact hP, hD⟩, hS.F ht⟩) hS.2.2 dX1_joined_151
        · have h := tx_neg c9 h
          by_cases c11 : x0 = 31
          · have h := tx_pos c11 h
            refine lv_tableIn (off := 151) (tgt := 158) hx hb dX1_joined_1 (by rw [c11]; decide) (by rw [c11]; decide) (by rw [c11]; decide) (by decide) ?_
            refine lv_lload_n hx hb dX1_joined_152 rfl (lv_at hl 1 rfl) ?_
            refine lv_lload_n hx hb dX1_joined_153 rfl (lv_at hl 2 rfl) ?_
            refine W.lcmp hx hb dX1_joined_154 ?_
            refine lv_if_ne (tgt := 162) hx hb dX1_joined_155 (by decide) (fun c12 => ?_) (fun c12 => ?_)
            · have h := tx_neg c12 h
              refine lv_lconst (v := 0) hx hb dX1_joined_162 (by decide) ?_
              obtain rfl := tx_1 h
              exact W.lret hx hb hr (fun t ht hW => ⟨⟨_, (), rfl, rfl, by rw [ht]; exact hP, hD⟩, hS.F ht⟩) hS.2.2 dX1_joined_163
            · have h := tx_pos c12 h
              refine lv_lconst (v := 1) hx hb dX1_joined_158 (by decide) ?_
              refine lv_goto (tgt := 163) hx hb dX1_joined_159 (by decide) ?_
              obtain rfl := tx_1 h
              exact W.lret hx hb hr (fun t ht hW => ⟨⟨_, (), rfl, rfl, by rw [ht]; exact hP, hD⟩, hS.F ht⟩) hS.2.2 dX1_joined_163
          · have h := tx_neg c11 h
            by_cases c13 : x0 = 32
            · have h := tx_pos c13 h
              refine lv_tableIn (off := 163) (tgt := 170) hx hb dX1_joined_1 (by rw [c13]; decide) (by rw [c13]; decide) (by rw [c13]; decide) (by decide) ?_
              refine lv_lload_n hx hb dX1_joined_164 rfl (lv_at hl 1 rfl) ?_
              refine lv_lload_n hx hb dX1_joined_165 rfl (lv_at hl 2 rfl) ?_
              refine W.lcmp hx hb dX1_joined_166 ?_
              refine lv_if_eq (tgt := 174) hx hb dX1_joined_167 (by decide) (fun c14 => ?_) (fun c14 => ?_)
              · have h := tx_pos c14 h
                refine lv_lconst (v := 0) hx hb dX1_joined_174 (by decide) ?_
                obtain rfl := tx_1 h
                exact W.lret hx hb hr (fun t ht hW => ⟨⟨_, (), rfl, rfl, by rw [ht]; exact hP, hD⟩, hS.F ht⟩) hS.2.2 dX1_joined_175
              · have h := tx_neg c14 h
                refine lv_lconst (v := 1) hx hb dX1_joined_170 (by decide) ?_
                refine lv_goto (tgt := 175) hx hb dX1_joined_171 (by decide) ?_
                obtain rfl := tx_1 h
                exact W.lret hx hb hr (fun t ht hW => ⟨⟨_, (), rfl, rfl, by rw [ht]; exact hP, hD⟩, hS.F ht⟩) hS.2.2 dX1_joined_175
            · have h := tx_neg c13 h
              by_cases c15 : x0 = 33
              · have h := tx_pos c15 h
                refine lv_tableIn (off := 175) (tgt := 182) hx hb dX1_joined_1 (by rw [c15]; decide) (by rw [c15]; decide) (by rw [c15]; decide) (by decide) ?_
                refine lv_lload_n hx hb dX1_joined_176 rfl (lv_at hl 1 rfl) ?_
                refine lv_lload_n hx hb dX1_joined_177 rfl (lv_at hl 2 rfl) ?_
                refine W.lcmp hx hb dX1_joined_178 ?_
                refine lv_if_lt (tgt := 186) hx hb dX1_joined_179 (by decide) (fun c16 => ?_) (fun c16 => ?_)
                · have h := tx_pos c16 h
                  refine lv_lconst (v := 0) hx hb dX1_joined_186 (by decide) ?_
                  obtain rfl := tx_1 h
                  exact W.lret hx hb hr (fun t ht hW => ⟨⟨_, (), rfl, rfl, by rw [ht]; exact hP, hD⟩, hS.F ht⟩) hS.2.2 dX1_joined_187
                · have h := tx_neg c16 h
                  refine lv_lconst (v := 1) hx hb dX1_joined_182 (by decide) ?_
                  refine lv_goto (tgt := 187) hx hb dX1_joined_183 (by decide) ?_
                  obtain rfl := tx_1 h
                  exact W.lret hx hb hr (fun t ht hW => ⟨⟨_, (), rfl, rfl, by rw [ht]; exact hP, hD⟩, hS.F ht⟩) hS.2.2 dX1_joined_187
              · have h := tx_neg c15 h
                by_cases c17 : x0 = 34
                · have h := tx_pos c17 h
                  refine lv_tableIn (off := 187) (tgt := 194) hx hb dX1_joined_1 (by rw [c17]; decide) (by rw [c17]; decide) (by rw [c17]; decide) (by decide) ?_
                  refine lv_lload_n hx hb dX1_joined_188 rfl (lv_at hl 1 rfl) ?_
                  refine lv_lload_n hx hb dX1_joined_189 rfl (lv_at hl 2 rfl) ?_
                  refine W.lcmp hx hb dX1_joined_190 ?_
                  refine lv_if_le (tgt := 198) hx hb dX1_joined_191 (by decide) (fun c18 => ?_) (fun c18 => ?_)
                  · have h := tx_pos c18 h
                    refine lv_lconst (v := 0) hx hb dX1_joined_198 (by decide) ?_
                    obtain rfl := tx_1 h
                    exact W.lret hx hb hr (fun t ht hW => ⟨⟨_, (), rfl, rfl, by rw [ht]; exact hP, hD⟩, hS.F ht⟩) hS.2.2 dX1_joined_199
                  · have h := tx_neg c18 h
                    refine lv_lconst (v := 1) hx hb dX1_joined_194 (by decide) ?_
                    refine lv_goto (tgt := 199) hx hb dX1_joined_195 (by decide) ?_
                    obtain rfl := tx_1 h
                    exact W.lret hx hb hr (fun t ht hW => ⟨⟨_, (), rfl, rfl, by rw [ht]; exact hP, hD⟩, hS.F ht⟩) hS.2.2 dX1_joined_199
                · have h := tx_neg c17 h
                  by_cases c19 : x0 = 35
                  · have h := tx_pos c19 h
                    refine lv_tableIn (off := 199) (tgt := 204) hx hb dX1_joined_1 (by rw [c19]; decide) (by rw [c19]; decide) (by rw [c19]; decide) (by decide) ?_
                    refine lv_lload_n hx hb dX1_joined_200 rfl (lv_at hl 1 rfl) ?_
                    refine lv_lload_n hx hb dX1_joined_201 rfl (lv_at hl 2 rfl) ?_
                    refine lv_ladd hx hb dX1_joined_202 ?_
                    obtain rfl := tx_1 h
                    exact W.lret hx hb hr (fun t ht hW => ⟨⟨_, (), rfl, rfl, by rw [ht]; exact hP, hD⟩, hS.F ht⟩) hS.2.2 dX1_joined_203
                  · have h := tx_neg c19 h
                    by_cases c20 : x0 = 36
                    · have h := tx_pos c20 h
                      refine lv_tableIn (off := 203) (tgt := 208) hx hb dX1_joined_1 (by rw [c20]; decide) (by rw [c20]; decide) (by rw [c20]; decide) (by decide) ?_
                      refine lv_lload_n hx hb dX1_joined_204 rfl (lv_at hl 1 rfl) ?_
                      refine lv_lload_n hx hb dX1_joined_205 rfl (lv_at hl 2 rfl) ?_
                      refine lv_lsub hx hb dX1_joined_206 ?_
                      obtain rfl := tx_1 h
                      exact W.lret hx hb hr (fun t ht hW => ⟨⟨_, (), rfl, rfl, by rw [ht]; exact hP, hD⟩, hS.F ht⟩) hS.2.2 dX1_joined_207
                    · have h := tx_neg c20 h
                      by_cases c21 : x0 = 37
                      · have h := tx_pos c21 h
                        refine lv_tableIn (off := 207) (tgt := 214) hx hb dX1_joined_1 (by rw [c21]; decide) (by rw [c21]; decide) (by rw [c21]; decide) (by decide) ?_
                        refine lv_lload_n hx hb dX1_joined_208 rfl (lv_at hl 1 rfl) ?_
                        refine lv_lconst (v := 0) hx hb dX1_joined_209 (by decide) ?_
                        refine W.lcmp hx hb dX1_joined_210 ?_
                        refine lv_if_ne (tgt := 216) hx hb dX1_joined_211 (by decide) (fun c22 => ?_) (fun c22 => ?_)
                        · have h := tx_neg c22 h
                          refine lv_ldc2 (v := 1000000000000) hx hb hown (hT _ kw_34_0) dX1_joined_216 ?_
                          refine lv_lload_n hx hb dX1_joined_219 rfl (lv_at hl 1 rfl) ?_
                          refine lv_lconst (v := 0) hx hb dX1_joined_220 (by decide) ?_
                          refine W.lcmp hx hb dX1_joined_221 ?_
                          refine lv_if_ge (tgt := 230) hx hb dX1_joined_222 (by decide) (fun c23 => ?_) (fun c23 => ?_)
                          · have h := tx_pos c23 h
                            refine lv_lload_n hx hb dX1_joined_230 rfl (lv_at hl 1 rfl) ?_
                            exact w_X1_joined_J231 F x1 x3 x1 1000000000000 H locs ls h hP hD hS (lv_sub hl [1, 2] rfl)
                          · have h := tx_neg c23 h
                            refine lv_lload_n hx hb dX1_joined_225 rfl (lv_at hl 1 rfl) ?_
                            refine lv_lneg hx hb dX1_joined_226 ?_
                            refine lv_goto (tgt := 231) hx hb dX1_joined_227 (by decide) ?_
                            exact w_X1_joined_J231 F x1 x3 (-x1) 1000000000000 H locs ls h hP hD hS (lv_sub hl [1, 2] rfl)
                        · have h := tx_pos c22 h
                          refine lv_lconst (v := 0) hx hb dX1_joined_214 (by decide) ?_
                          obtain rfl := tx_1 h
                          exact W.lret hx hb hr (fun t ht hW => ⟨⟨_, (), rfl, rfl, by rw [ht]; exact hP, hD⟩, hS.F ht⟩) hS.2.2 dX1_joined_215
                      · have h := tx_neg c21 h
                        have kc1 := tq_eqn (a := x0.toInt) (b := 19) rfl (by decide) c1
                        have kc4 := tq_eqn (a := x0.toInt) (b := 20) rfl (by decide) c4
                        have kc7 := tq_eqn (a := x0.toInt) (b := 29) rfl (by decide) c7
                        have kc9 := tq_eqn (a := x0.toInt) (b := 30) rfl (by decide) c9
                        have kc11 := tq_eqn (a := x0.toInt) (b := 31) rfl (by decide) c11
                        have kc13 := tq_eqn (a := x0.toInt) (b := 32) rfl (by decide) c13
                        have kc15 := tq_eqn (a := x0.toInt) (b := 33) rfl (by decide) c15
                        have kc17 := tq_eqn (a := x0.toInt) (b := 34) rfl (by decide) c17
                        have kc19 := tq_eqn (a := x0.toInt) (b := 35) rfl (by decide) c19
                        have kc20 := tq_eqn (a := x0.toInt) (b := 36) rfl (by decide) c20
                        have kc21 := tq_eqn (a := x0.toInt) (b := 37) rfl (by decide) c21
                        rcases (show (x0.toInt < 19 ∨ 37 < x0.toInt) ∨ x0.toInt = 21 ∨ x0.toInt = 22 ∨ x0.toInt = 23 ∨ x0.toInt = 24 ∨ x0.toInt = 25 ∨ x0.toInt = 26 ∨ x0.toInt = 27 ∨ x0.toInt = 28 by omega) with k30 | k30 | k30 | k30 | k30 | k30 | k30 | k30 | k30
                        · refine lv_tableOut (tgt := 259) hx hb dX1_joined_1 k30 (by decide) ?_
                          refine lv_lload_n hx hb dX1_joined_259 rfl (lv_at hl 2 rfl) ?_
                          refine lv_lconst (v := 0) hx hb dX1_joined_260 (by decide) ?_
                          refine W.lcmp hx hb dX1_joined_261 ?_
                          refine lv_if_ne (tgt := 271) hx hb dX1_joined_262 (by decide) (fun c28 => ?_) (fun c28 => ?_)
                          · have h := tx_neg c28 h
                            refine lv_lload_n hx hb dX1_joined_271 rfl (lv_at hl 1 rfl) ?_
                            refine lv_lload_n hx hb dX1_joined_272 rfl (lv_at hl 2 rfl) ?_
                            obtain ⟨g29, h⟩ := tx_ck h
                            refine lv_ldiv hx hb dX1_joined_273 (tx_nzl g29) ?_
                            obtain rfl := tx_1 h
                            exact W.lret hx hb hr (fun t ht hW => ⟨⟨_, (), rfl, rfl, by rw [ht]; exact hP, hD⟩, hS.F ht⟩) hS.2.2 dX1_joined_274
                          · have h := tx_pos c28 h
                            refine lv_ldc2 (v := (-9223372036854775808)) hx hb hown (hT _ kw_34_1) dX1_joined_265 ?_
                            refine lv_goto (tgt := 274) hx hb dX1_joined_268 (by decide) ?_
                            obtain rfl := tx_1 h
                            exact W.lret hx hb hr (fun t ht hW => ⟨⟨_, (), rfl, rfl, by rw [ht]; exact hP, hD⟩, hS.F ht⟩) hS.2.2 dX1_joined_274
                        · refine lv_tableIn (off := 258) (tgt := 259) hx hb dX1_joined_1 (by omega) (by omega) (by rw [k30]; rfl) (by decide) ?_
                          refine lv_lload_n hx hb dX1_joined_259 rfl (lv_at hl 2 rfl) ?_
                          refine lv_lconst (v := 0) hx hb dX1_joined_260 (by decide) ?_
                          refine W.lcmp hx hb dX1_joined_261 ?_
                          refine lv_if_ne (tgt := 271) hx hb dX1_joined_262 (by decide) (fun c28 => ?_) (fun c28 => ?_)
                          · have h := tx_neg c28 h
                            refine lv_lload_n hx hb dX1_joined_271 rfl (lv_at hl 1 rfl) ?_
                            refine lv_lload_n hx hb dX1_joined_272 rfl (lv_at hl 2 rfl) ?_
                            obtain ⟨g29, h⟩ := tx_ck h
                            refine lv_ldiv hx hb dX1_joined_273 (tx_nzl g29) ?_
                            obtain rfl := tx_1 h
                            exact W.lret hx hb hr (fun t ht hW => ⟨⟨_, (), rfl, rfl, by rw [ht]; exact hP, hD⟩, hS.F ht⟩) hS.2.2 dX1_joined_274
                          · have h := tx_pos c28 h
                            refine lv_ldc2 (v := (-9223372036854775808)) hx hb hown (hT _ kw_34_1) dX1_joined_265 ?_
                            refine lv_goto (tgt := 274) hx hb dX1_joined_268 (by decide) ?_
                            obtain rfl := tx_1 h
                            exact W.lret hx hb hr (fun t ht hW => ⟨⟨_, (), rfl, rfl, by rw [ht]; exact hP, hD⟩, hS.F ht⟩) hS.2.2 dX1_joined_274
                        · refine lv_tableIn (off := 258) (tgt := 259) hx hb dX1_joined_1 (by omega) (by omega) (by rw [k30]; rfl) (by decide) ?_
                          refine lv_lload_n hx hb dX1_joined_259 rfl (lv_at hl 2 rfl) ?_
                          refine lv_lconst (v := 0) hx hb dX1_joined_260 (by decide) ?_
                          refine W.lcmp hx hb dX1_joined_261 ?_
                          refine lv_if_ne (tgt := 271) hx hb dX1_joined_262 (by decide) (fun c28 => ?_) (fun c28 => ?_)
                          · have h := tx_neg c28 h
                            refine lv_lload_n hx hb dX1_joined_271 rfl (lv_at hl 1 rfl) ?_
                            refine lv_lload_n hx hb dX1_joined_272 rfl (lv_at hl 2 rfl) ?_
                            obtain ⟨g29, h⟩ := tx_ck h
                            refine lv_ldiv hx hb dX1_joined_273 (tx_nzl g29) ?_
                            obtain rfl := tx_1 h
                            exact W.lret hx hb hr (fun t ht hW => ⟨⟨_, (), rfl, rfl, by rw [ht]; exact hP, hD⟩, hS.F ht⟩) hS.2.2 dX1_joined_274
                          · have h := tx_pos c28 h
                            refine lv_ldc2 (v := (-9223372036854775808)) hx hb hown (hT _ kw_34_1) dX1_joined_265 ?_
                            refine lv_goto (tgt := 274) hx hb dX1_joined_268 (by decide) ?_
                            obtain rfl := tx_1 h
                            exact W.lret hx hb hr (fun t ht hW => ⟨⟨_, (), rfl, rfl, by rw [ht]; exact hP, hD⟩, hS.F ht⟩) hS.2.2 dX1_joined_274
                        · refine lv_tableIn (off := 258) (tgt := 259) hx hb dX1_joined_1 (by omega) (by omega) (by rw [k30]; rfl) (by decide) ?_
                          refine lv_lload_n hx hb dX1_joined_259 rfl (lv_at hl 2 rfl) ?_
                          refine lv_lconst (v := 0) hx hb dX1_joined_260 (by decide) ?_
                          refine W.lcmp hx hb dX1_joined_261 ?_
                          refine lv_if_ne (tgt := 271) hx hb dX1_joined_262 (by decide) (fun c28 => ?_) (fun c28 => ?_)
                          · have h := tx_neg c28 h
                            refine lv_lload_n hx hb dX1_joined_271 rfl (lv_at hl 1 rfl) ?_
                            refine lv_lload_n hx hb dX1_joined_272 rfl (lv_at hl 2 rfl) ?_
                            obtain ⟨g29, h⟩ := tx_ck h
                            refine lv_ldiv hx hb dX1_joined_273 (tx_nzl g29) ?_
                            obtain rfl := tx_1 h
                            exact W.lret hx hb hr (fun t ht hW => ⟨⟨_, (), rfl, rfl, by rw [ht]; exact hP, hD⟩, hS.F ht⟩) hS.2.2 dX1_joined_274
                          · have h := tx_pos c28 h
                            refine lv_ldc2 (v := (-9223372036854775808)) hx hb hown (hT _ kw_34_1) dX1_joined_265 ?_
                            refine lv_goto (tgt := 274) hx hb dX1_joined_268 (by decide) ?_
                            obtain rfl := tx_1 h
                            exact W.lret hx hb hr (fun t ht hW => ⟨⟨_, (), rfl, rfl, by rw [ht]; exact hP, hD⟩, hS.F ht⟩) hS.2.2 dX1_joined_274
                        · refine lv_tableIn (off := 258) (tgt := 259) hx hb dX1_joined_1 (by omega) (by omega) (by rw [k30]; rfl) (by decide) ?_
                          refine lv_lload_n hx hb dX1_joined_259 rfl (lv_at hl 2 rfl) ?_
                          refine lv_lconst (v := 0) hx hb dX1_joined_260 (by decide) ?_
                          refine W.lcmp hx hb dX1_joined_261 ?_
                          refine lv_if_ne (tgt := 271) hx hb dX1_joined_262 (by decide) (fun c28 => ?_) (fun c28 => ?_)
                          · have h := tx_neg c28 h
                            refine lv_lload_n hx hb dX1_joined_271 rfl (lv_at hl 1 rfl) ?_
                            refine lv_lload_n hx hb dX1_joined_272 rfl (lv_at hl 2 rfl) ?_
                            obtain ⟨g29, h⟩ := tx_ck h
                            refine lv_ldiv hx hb dX1_joined_273 (tx_nzl g29) ?_
                            obtain rfl := tx_1 h
                            exact W.lret hx hb hr (fun t ht hW => ⟨⟨_, (), rfl, rfl, by rw [ht]; exact hP, hD⟩, hS.F ht⟩) hS.2.2 dX1_joined_274
                          · have h := tx_pos c28 h
                            refine lv_ldc2 (v := (-9223372036854775808)) hx hb hown (hT _ kw_34_1) dX1_joined_265 ?_
                            refine lv_goto (tgt := 274) hx hb dX1_joined_268 (by decide) ?_
                            obtain rfl := tx_1 h
                            exact W.lret hx hb hr (fun t ht hW => ⟨⟨_, (), rfl, rfl, by rw [ht]; exact hP, hD⟩, hS.F ht⟩) hS.2.2 dX1_joined_274
                        · refine lv_tableIn (off := 258) (tgt := 259) hx hb dX1_joined_1 (by omega) (by omega) (by rw [k30]; rfl) (by decide) ?_
                          refine lv_lload_n hx hb dX1_joined_259 rfl (lv_at hl 2 rfl) ?_
                          refine lv_lconst (v := 0) hx hb dX1_joined_260 (by decide) ?_
                          refine W.lcmp hx hb dX1_joined_261 ?_
                          refine lv_if_ne (tgt := 271) hx hb dX1_joined_262 (by decide) (fun c28 => ?_) (fun c28 => ?_)
                          · have h := tx_neg c28 h
                            refine lv_lload_n hx hb dX1_joined_271 rfl (lv_at hl 1 rfl) ?_
                            refine lv_lload_n hx hb dX1_joined_272 rfl (lv_at hl 2 rfl) ?_
                            obtain ⟨g29, h⟩ := tx_ck h
                            refine lv_ldiv hx hb dX1_joined_273 (tx_nzl g29) ?_
                            obtain rfl := tx_1 h
                            exact W.lret hx hb hr (fun t ht hW => ⟨⟨_, (), rfl, rfl, by rw [ht]; exact hP, hD⟩, hS.F ht⟩) hS.2.2 dX1_joined_274
                          · have h := tx_pos c28 h
                            refine lv_ldc2 (v := (-9223372036854775808)) hx hb hown (hT _ kw_34_1) dX1_joined_265 ?_
                            refine lv_goto (tgt := 274) hx hb dX1_joined_268 (by decide) ?_
                            obtain rfl := tx_1 h
                            exact W.lret hx hb hr (fun t ht hW => ⟨⟨_, (), rfl, rfl, by rw [ht]; exact hP, hD⟩, hS.F ht⟩) hS.2.2 dX1_joined_274
                        · refine lv_tableIn (off := 258) (tgt := 259) hx hb dX1_joined_1 (by omega) (by omega) (by rw [k30]; rfl) (by decide) ?_
                          refine lv_lload_n hx hb dX1_joined_259 rfl (lv_at hl 2 rfl) ?_
                          refine lv_lconst (v := 0) hx hb dX1_joined_260 (by decide) ?_
                          refine W.lcmp hx hb dX1_joined_261 ?_
                          refine lv_if_ne (tgt := 271) hx hb dX1_joined_262 (by decide) (fun c28 => ?_) (fun c28 => ?_)
                          · have h := tx_neg c28 h
                            refine lv_lload_n hx hb dX1_joined_271 rfl (lv_at hl 1 rfl) ?_
                            refine lv_lload_n hx hb dX1_joined_272 rfl (lv_at hl 2 rfl) ?_
                            obtain ⟨g29, h⟩ := tx_ck h
                            refine lv_ldiv hx hb dX1_joined_273 (tx_nzl g29) ?_
                            obtain rfl := tx_1 h
                            exact W.lret hx hb hr (fun t ht hW => ⟨⟨_, (), rfl, rfl, by rw [ht]; exact hP, hD⟩, hS.F ht⟩) hS.2.2 dX1_joined_274
                          · have h := tx_pos c28 h
                            refine lv_ldc2 (v := (-9223372036854775808)) hx hb hown (hT _ kw_34_1) dX1_joined_265 ?_
                            refine lv_goto (tgt := 274) hx hb dX1_joined_268 (by decide) ?_
                            obtain rfl := tx_1 h
                            exact W.lret hx hb hr (fun t ht hW => ⟨⟨_, (), rfl, rfl, by rw [ht]; exact hP, hD⟩, hS.F ht⟩) hS.2.2 dX1_joined_274
                        · refine lv_tableIn (off := 258) (tgt := 259) hx hb dX1_joined_1 (by omega) (by omega) (by rw [k30]; rfl) (by decide) ?_
                          refine lv_lload_n hx hb dX1_joined_259 rfl (lv_at hl 2 rfl) ?_
                          refine lv_lconst (v := 0) hx hb dX1_joined_260 (by decide) ?_
                          refine W.lcmp hx hb dX1_joined_261 ?_
                          refine lv_if_ne (tgt := 271) hx hb dX1_joined_262 (by decide) (fun c28 => ?_) (fun c28 => ?_)
                          · have h := tx_neg c28 h
                            refine lv_lload_n hx hb dX1_joined_271 rfl (lv_at hl 1 rfl) ?_
                            refine lv_lload_n hx hb dX1_joined_272 rfl (lv_at hl 2 rfl) ?_
                            obtain ⟨g29, h⟩ := tx_ck h
                            refine lv_ldiv hx hb dX1_joined_273 (tx_nzl g29) ?_
                            obtain rfl := tx_1 h
                            exact W.lret hx hb hr (fun t ht hW => ⟨⟨_, (), rfl, rfl, by rw [ht]; exact hP, hD⟩, hS.F ht⟩) hS.2.2 dX1_joined_274
                          · have h := tx_pos c28 h
                            refine lv_ldc2 (v := (-9223372036854775808)) hx hb hown (hT _ kw_34_1) dX1_joined_265 ?_
                            refine lv_goto (tgt := 274) hx hb dX1_joined_268 (by decide) ?_
                            obtain rfl := tx_1 h
                            exact W.lret hx hb hr (fun t ht hW => ⟨⟨_, (), rfl, rfl, by rw [ht]; exact hP, hD⟩, hS.F ht⟩) hS.2.2 dX1_joined_274
                        · refine lv_tableIn (off := 258) (tgt := 259) hx hb dX1_joined_1 (by omega) (by omega) (by rw [k30]; rfl) (by decide) ?_
                          refine lv_lload_n hx hb dX1_joined_259 rfl (lv_at hl 2 rfl) ?_
                          refine lv_lconst (v := 0) hx hb dX1_joined_260 (by decide) ?_
                          refine W.lcmp hx hb dX1_joined_261 ?_
                          refine lv_if_ne (tgt := 271) hx hb dX1_joined_262 (by decide) (fun c28 => ?_) (fun c28 => ?_)
                          · have h := tx_neg c28 h
                            refine lv_lload_n hx hb dX1_joined_271 rfl (lv_at hl 1 rfl) ?_
                            refine lv_lload_n hx hb dX1_joined_272 rfl (lv_at hl 2 rfl) ?_
                            obtain ⟨g29, h⟩ := tx_ck h
                            refine lv_ldiv hx hb dX1_joined_273 (tx_nzl g29) ?_
                            obtain rfl := tx_1 h
                            exact W.lret hx hb hr (fun t ht hW => ⟨⟨_, (), rfl, rfl, by rw [ht]; exact hP, hD⟩, hS.F ht⟩) hS.2.2 dX1_joined_274
                          · have h := tx_pos c28 h
                            refine lv_ldc2 (v := (-9223372036854775808)) hx hb hown (hT _ kw_34_1) dX1_joined_265 ?_
                            refine lv_goto (tgt := 274) hx hb dX1_joined_268 (by decide) ?_
                            obtain rfl := tx_1 h
                            exact W.lret hx hb hr (fun t ht hW => ⟨⟨_, (), rfl, rfl, by rw [ht]; exact hP, hD⟩, hS.F ht⟩) hS.2.2 dX1_joined_274
abbrev G_X1_value (p : Program) (l : Launch) (e : Env) (s : State) (m : MethodId) (below : List Frame) (meth : Method) (c : Code) (G : va_G) (cA : Nat → ClassId) (A : Nat → Prop) (ta : Nat → Nat) (pa : Nat → Nat) (j : Nat) (T : Tr) (P : Tr) (r0 : Int64) (L' : Lo) (H : Heap) (locs : List Loc) (g : JFrame) : Prop := W p l e (headSpec (.code yX1_value cX1_value 8 (some .long) :: T0) ({ frames := 1, cells := 0, slots := 0, locals := 26 } : Room)).room s m ([.ref (pa (30 + 3 * j)), .ref (ta 19)] : List Value).toArray below meth c H locs 0 0 (MQ below (tqQl G cA (fun (r : Int64) (_ : Unit) => r = r0) (fun (_ : Unit) => wTP cA ta pa T P (L')) A) ([.ref (pa (30 + 3 * j)), .ref (ta 19)] : List Value).toArray s 0 0 A) g
set_option maxHeartbeats 4000000 in
set_option maxRecDepth 100000 in
theorem w_X1_value_J190 {p : Program} {l : Launch} {e : Env} {s : State} {m : MethodId} {below : List Frame} {meth : Method} {c : Code} {G : va_G} {cA : Nat → ClassId} {A : Nat → Prop} {ta : Nat → Nat} {pa : Nat → Nat} {j : Nat} {T : Tr} {P : Tr} {r0 : Int64} {L' : Lo} (F : tF p s m ([.ref (pa (30 + 3 * j)), .ref (ta 19)] : List Value).toArray meth c G cA A RX1 cX1_value 8 (some .long)) (hj : j < 3)   (x2 : Int32) (L : Lo) (H : Heap) (locs : List Loc) (ls : Array Slot) (h : fJ_X1_value_J190 j T P x2 L = some (r0, L')) (hP : va_P G vwCl (wTP cA ta pa T P L) H) (hD : va_D A (wTP cA ta pa T P L)) (hS : va_S A s.heap H locs) (hl : lv_has ls 8 [(0, .ref (pa (30 + 3 * j))), (2, .int x2)]) : G_X1_value p l e s m below meth c G cA A ta pa j T P r0 L' H locs (F0 m 190 ls []) := by
  obtain ⟨hx, hb, hr, hml, hT, hown, hlocks, hK, hN, hA⟩ := id F
  unfold fJ_X1_value_J190 at h
  refine lv_iload_n hx hb dX1_value_190 rfl (lv_at hl 1 rfl) ?_
  refine lv_iconst (v := 1) hx hb dX1_value_191 (by decide) ?_
  refine lv_icmp_ne (tgt := 204) hx hb dX1_value_192 (by decide) (fun c2 => ?_) (fun c2 => ?_)
  · have h := tx_neg c2 h
    refine lv_ldc2 (v := (-9223372036854775808)) hx hb hown (hT _ kw_34_1) dX1_value_204 ?_
    obtain ⟨rfl, rfl⟩ := tx_2 h
    exact W.lret hx hb hr (fun t ht hW => ⟨⟨_, (), rfl, rfl, by rw [ht]; exact hP, hD⟩, hS.F ht⟩) hS.2.2 dX1_value_207
  · have h := tx_pos c2 h
    refine lv_aload_n hx hb dX1_value_195 rfl (lv_at hl 0 rfl) ?_
    refine va_get (D := G) (ci := 1) (v := .ref (pa (32 + 3 * j))) (C := RX1) (T := TX1) (N := 3) hx hb hT ku_1 hown hK hP (25 + 3 * j) (aLTP_0 hj) rfl 2 (by decide) (hT _ kw_6_13) (fun _ h9 => h9) rfl dX1_value_196 ?_
    refine lv_iconst (v := 0) hx hb dX1_value_199 (by decide) ?_
    refine va_lald (i := 0) hx hb hK hP (27 + 3 * j) 2 (aLTP_2 hj) rfl (tq_in (by decide)) dX1_value_200 ?_
    refine tq_l (w := (L (32 + 3 * j) 0)) rfl ?_
    refine lv_goto (tgt := 207) hx hb dX1_value_201 (by decide) ?_
    obtain ⟨rfl, rfl⟩ := tx_2 h
    exact W.lret hx hb hr (fun t ht hW => ⟨⟨_, (), rfl, rfl, by rw [ht]; exact hP, hD⟩, hS.F ht⟩) hS.2.2 dX1_value_207
set_option maxHeartbeats 4000000 in
set_option maxRecDepth 100000 in
theorem w_X1_value_J123 {p : Program} {l : Launch} {e : Env} {s : State} {m : MethodId} {below : List Frame} {meth : Method} {c : Code} {G : va_G} {cA : Nat → ClassId} {A : Nat → Prop} {ta : Nat → Nat} {pa : Nat → Nat} {j : Nat} {T : Tr} {P : Tr} {r0 : Int64} {L' : Lo} (F : tF p s m ([.ref (pa (30 + 3 * j)), .ref (ta 19)] : List Value).toArray meth c G cA A RX1 cX1_value 8 (some .long)) (hj : j < 3) (k4 : Int32 → Int32 → Lo → Option (Int64 × Lo)) (hk4 : ∀ (x2 : Int32) (x3 : Int32) (L : Lo) (H : Heap) (locs : List Loc) (ls : Array Slot), k4 x2 x3 L = some (r0, L') → va_P G vwCl (wTP cA ta pa T P L) H → va_D A (wTP cA ta pa T P L) → va_S A s.heap H locs → lv_has ls 8 [(0, .ref (pa (30 + 3 * j))), (1, .ref (ta 19)), (2, .int x2), (3, .int x3)] → G_X1_value p l e s m below meth c G cA A ta pa j T P r0 L' H locs (F0 m 4 ls [])) (x2 : Int32) (x3 : Int32) (x5 : Int32) (L : Lo) (H : Heap) (locs : List Loc) (ls : Array Slot) (h : fJ_X1_value_J123 k4 j T P x2 x3 x5 L = some (r0, L')) (hP : va_P G vwCl (wTP cA ta pa T P L) H) (hD : va_D A (wTP cA ta pa T P L)) (hS : va_S A s.heap H locs) (hl : lv_has ls 8 [(0, .ref (pa (30 + 3 * j))), (1, .ref (ta 19)), (2, .int x2), (3, .int x3), (5, .int x5)]) : G_X1_value p l e s m below meth c G cA A ta pa j T P r0 L' H locs (F0 m 123 ls []) := by
  obtain ⟨hx, hb, hr, hml, hT, hown, hlocks, hK, hN, hA⟩ := id F
  unfold fJ_X1_value_J123 at h
  refine lv_iload_n hx hb dX1_value_123 rfl (lv_at hl 2 rfl) ?_
  refine lv_iconst (v := 2) hx hb dX1_value_124 (by decide) ?_
  refine lv_icmp_lt (tgt := 184) hx hb dX1_value_125 (by decide) (fun c9 => ?_) (fun c9 => ?_)
  · have h := tx_pos c9 h
    obtain ⟨y10, ey10, h⟩ := tx_lt h
    refine lv_iinc (v := y10) (lv' := [(3, .int y10), (0, .ref (pa (30 + 3 * j))), (1, .ref (ta 19)), (2, .int x2), (5, .int x5)]) hx hb dX1_value_184 hl (k := 3) rfl ey10 (by decide) rfl (fun ls hl => ?_)
    refine lv_goto (tgt := 4) hx hb dX1_value_187 (by decide) ?_
    exact hk4 x2 y10 L H locs ls h hP hD hS (lv_sub hl [1, 2, 3, 0] rfl)
  · have h := tx_neg c9 h
    obtain ⟨y11, ey11, h⟩ := tx_lt h
    refine lv_iinc (v := y11) (lv' := [(2, .int y11), (0, .ref (pa (30 + 3 * j))), (1, .ref (ta 19)), (3, .int x3), (5, .int x5)]) hx hb dX1_value_128 hl (k := 2) rfl ey11 (by decide) rfl (fun ls hl => ?_)
    refine lv_iload hx hb dX1_value_131 (lv_at hl 4 rfl) ?_
    refine lv_aload_n hx hb dX1_value_133 rfl (lv_at hl 1 rfl) ?_
    refine va_get (D := G) (ci := 1) (v := .ref (pa (32 + 3 * j))) (C := RX1) (T := TX1) (N := 3) hx hb hT ku_1 hown hK hP (25 + 3 * j) (aLTP_0 hj) rfl 2 (by decide) (hT _ kw_6_13) (fun _ h9 => h9) rfl dX1_value_134 ?_
    refine lv_iload_n hx hb dX1_value_137 rfl (lv_at hl 0 rfl) ?_
    refine lv_iconst (v := 1) hx hb dX1_value_138 (by decide) ?_
    refine lv_isub hx hb dX1_value_139 ?_
    obtain ⟨g12, h⟩ := tx_ck h
    refine va_lald (i := (y11 - 1)) hx hb hK hP (27 + 3 * j) 2 (aLTP_2 hj) rfl (tx_in g12) dX1_value_140 ?_
    refine lv_aload_n hx hb dX1_value_141 rfl (lv_at hl 1 rfl) ?_
    refine va_get (D := G) (ci := 1) (v := .ref (pa (32 + 3 * j))) (C := RX1) (T := TX1) (N := 3) hx hb hT ku_1 hown hK hP (25 + 3 * j) (aLTP_0 hj) rfl 2 (by decide) (hT _ kw_6_13) (fun _ h9 => h9) rfl dX1_value_142 ?_
    refine lv_iload_n hx hb dX1_value_145 rfl (lv_at hl 0 rfl) ?_
    obtain ⟨g13, h⟩ := tx_ck h
    refine va_lald (i := y11) hx hb hK hP (27 + 3 * j) 2 (aLTP_2 hj) rfl (tx_in g13) dX1_value_146 ?_
    obtain ⟨r14, hc15, h⟩ := tx_bd h
    refine tw_cl (tw_none (ws := wTP cA ta pa T P L)) hP hD hS hA (va_runS (As := [.int x5, .long (L (32 + 3 * j) (y11 - 1).toNatClampNeg), .long (L (32 + 3 * j) y11.toNatClampNeg)]) (rest := []) ⟨hx, hb, hml, hown, hT⟩ (c_X1_joined l G cA H.size x5 (L (32 + 3 * j) (y11 - 1).toNatClampNeg) (L (32 + 3 * j) y11.toNatClampNeg)  r14 hc15) (va_cwS 3 hT (tq_gS kw_34_2 kw_34_3 kw_6_8 kw_34_4) rfl rfl rfl (by decide +kernel) ⟨Nat.le_of_ble_eq_true rfl, Nat.le_of_ble_eq_true rfl⟩) (tw_pre (tw_none (ws := wTP cA ta pa T P L)) hP hD hK hN) rfl rfl hl.1 rfl (lv_room (Nat.le_of_ble_eq_true rfl)) dX1_value_147 ⟨Nat.le_of_ble_eq_true rfl, Nat.le_of_ble_eq_true rfl⟩) (fun _ _ H locs z16 hP hD hS => ?_)
    subst z16
    have hP : va_P G vwCl (wTP cA ta pa T P L) H := hP
    have hD : va_D A (wTP cA ta pa T P L) := hD
    refine lv_lstore (lv' := [(6, .long r14), (2, .int y11), (0, .ref (pa (30 + 3 * j))), (1, .ref (ta 19)), (3, .int x3), (5, .int x5)]) hx hb dX1_value_150 hl (by decide) rfl (fun ls hl => ?_)
    refine lv_lload hx hb dX1_value_152 (lv_at hl 0 rfl) ?_
    refine lv_ldc2 (v := (-1000000000000)) hx hb hown (hT _ kw_33_23) dX1_value_154 ?_
    refine W.lcmp hx hb dX1_value_157 ?_
    refine lv_if_lt (tgt := 170) hx hb dX1_value_158 (by decide) (fun c17 => ?_) (fun c17 => ?_)
    · have h := tx_pos c17 h
      refine lv_ldc2 (v := (-9223372036854775808)) hx hb hown (hT _ kw_34_1) dX1_value_170 ?_
      obtain ⟨rfl, rfl⟩ := tx_2 h
      exact W.lret hx hb hr (fun t ht hW => ⟨⟨_, (), rfl, rfl, by rw [ht]; exact hP, hD⟩, hS.F ht⟩) hS.2.2 dX1_value_173
    · have h := tx_neg c17 h
      refine lv_lload hx hb dX1_value_161 (lv_at hl 0 rfl) ?_
      refine lv_ldc2 (v := 1000000000000) hx hb hown (hT _ kw_34_0) dX1_value_163 ?_
      refine W.lcmp hx hb dX1_value_166 ?_
      refine lv_if_le (tgt := 174) hx hb dX1_value_167 (by decide) (fun c18 => ?_) (fun c18 => ?_)
      · have h := tx_pos c18 h
        refine lv_aload_n hx hb dX1_value_174 rfl (lv_at hl 2 rfl) ?_
        refine va_get (D := G) (ci := 1) (v := .ref (pa (32 + 3 * j))) (C := RX1) (T := TX1) (N := 3) hx hb hT ku_1 hown hK hP (25 + 3 * j) (aLTP_0 hj) rfl 2 (by decide) (hT _ kw_6_13) (fun _ h9 => h9) rfl dX1_value_175 ?_
        refine lv_iload_n hx hb dX1_value_178 rfl (lv_at hl 1 rfl) ?_
        refine lv_iconst (v := 1) hx hb dX1_value_179 (by decide) ?_
        refine lv_isub hx hb dX1_value_180 ?_
        refine lv_lload hx hb dX1_value_181 (lv_at hl 0 rfl) ?_
        refine va_last (i := (y11 - 1)) hx hb hK hP hD hS (27 + 3 * j) 2 (aLTP_2 hj) rfl (tx_in g12) dX1_value_183 (fun H locs hP hD hS => ?_)
        obtain ⟨L_19, eL_19, h⟩ := tx_lt h
        rw [(sLTP_a2 hj), eL_19] at hP hD
        obtain ⟨y20, ey20, h⟩ := tx_lt h
        refine lv_iinc (v := y20) (lv' := [(3, .int y20), (6, .long r14), (2, .int y11), (0, .ref (pa (30 + 3 * j))), (1, .ref (ta 19)), (5, .int x5)]) hx hb dX1_value_184 hl (k := 4) rfl ey20 (by decide) rfl (fun ls hl => ?_)
        refine lv_goto (tgt := 4) hx hb dX1_value_187 (by decide) ?_
        exact hk4 y11 y20 L_19 H locs ls h hP hD hS (lv_sub hl [3, 4, 2, 0] rfl)
      · have h := tx_neg c18 h
        refine lv_ldc2 (v := (-9223372036854775808)) hx hb hown (hT _ kw_34_1) dX1_value_170 ?_
        obtain ⟨rfl, rfl⟩ := tx_2 h
        exact W.lret hx hb hr (fun t ht hW => ⟨⟨_, (), rfl, rfl, by rw [ht]; exact hP, hD⟩, hS.F ht⟩) hS.2.2 dX1_value_173
set_option maxHeartbeats 4000000 in
set_option maxRecDepth 100000 in
theorem w_X1_value_J119 {p : Program} {l : Launch} {e : Env} {s : State} {m : MethodId} {below : List Frame} {meth : Method} {c : Code} {G : va_G} {cA : Nat → ClassId} {A : Nat → Prop} {ta : Nat → Nat} {pa : Nat → Nat} {j : Nat} {T : Tr} {P : Tr} {r0 : Int64} {L' : Lo} (F : tF p s m ([.ref (pa (30 + 3 * j)), .ref (ta 19)] : List Value).toArray meth c G cA A RX1 cX1_value 8 (some .long)) (hj : j < 3) (k4 : Int32 → Int32 → Lo → Option (Int64 × Lo)) (hk4 : ∀ (x2 : Int32) (x3 : Int32) (L : Lo) (H : Heap) (locs : List Loc) (ls : Array Slot), k4 x2 x3 L = some (r0, L') → va_P G vwCl (wTP cA ta pa T P L) H → va_D A (wTP cA ta pa T P L) → va_S A s.heap H locs → lv_has ls 8 [(0, .ref (pa (30 + 3 * j))), (1, .ref (ta 19)), (2, .int x2), (3, .int x3)] → G_X1_value p l e s m below meth c G cA A ta pa j T P r0 L' H locs (F0 m 4 ls [])) (x2 : Int32) (x3 : Int32) (s0 : Int64) (s1 : Int32) (L : Lo) (H : Heap) (locs : List Loc) (ls : Array Slot) (h : fJ_X1_value_J119 k4 j T P x2 x3 s0 s1 L = some (r0, L')) (hP : va_P G vwCl (wTP cA ta pa T P L_25) H) (hD : va_D A (wTP cA ta pa T P L_25)) (hS : va_S A s.heap H locs) (hl : lv_has ls 8 [(3, .int y26), (0, .ref (pa (30 + 3 * j))), (1, .ref (ta 19)), (2, .int x2)]) : G_X1_value p l e s m below meth c G cA A ta pa j T P r0 L' H locs (F0 m 119 ls []) := by
  obtain ⟨hx, hb, hr, hml, hT, hown, hlocks, hK, hN, hA⟩ := id F
  unfold fJ_X1_value_J119 at h
  obtain ⟨g24, h⟩ := tx_ck h
  refine va_last (i := s1) hx hb hK hP hD hS (27 + 3 * j) 2 (aLTP_2 hj) rfl (tx_in g24) dX1_value_119 (fun H locs hP hD hS => ?_)
  obtain ⟨L_25, eL_25, h⟩ := tx_lt h
  rw [(sLTP_a2 hj), eL_25] at hP hD
  refine lv_goto (tgt := 184) hx hb dX1_value_120 (by decide) ?_
  obtain ⟨y26, ey26, h⟩ := tx_lt h
  refine lv_iinc (v := y26) (lv' := [(3, .int y26), (0, .ref (pa (30 + 3 * j))), (1, .ref (ta 19)), (2, .int x2)]) hx hb dX1_value_184 hl (k := 3) rfl ey26 (by decide) rfl (fun ls hl => ?_)
  refine lv_goto (tgt := 4) hx hb dX1_value_187 (by decide) ?_
  exact hk4 x2 y26 L_25 H locs ls h hP hD hS (lv_sub hl [1, 2, 3, 0] rfl)
set_option maxHeartbeats 4000000 in
set_option maxRecDepth 100000 in
theorem w_X1_value_J82 {p : Program} {l : Launch} {e : Env} {s : State} {m : MethodId} {below : List Frame} {meth : Method} {c : Code} {G : va_G} {cA : Nat → ClassId} {A : Nat → Prop} {ta : Nat → Nat} {pa : Nat → Nat} {j : Nat} {T : Tr} {P : Tr} {r0 : Int64} {L' : Lo} (F : tF p s m ([.ref (pa (30 + 3 * j)), .ref (ta 19)] : List Value).toArray meth c G cA A RX1 cX1_value 8 (some .long)) (hj : j < 3) (k4 : Int32 → Int32 → Lo → Option (Int64 × Lo)) (hk4 : ∀ (x2 : Int32) (x3 : Int32) (L : Lo) (H : Heap) (locs : List Loc) (ls : Array Slot), k4 x2 x3 L = some (r0, L') → va_P G vwCl (wTP cA ta pa T P L) H → va_D A (wTP cA ta pa T P L) → va_S A s.heap H locs → lv_has ls 8 [(0, .ref (pa (30 + 3 * j))), (1, .ref (ta 19)), (2, .int x2), (3, .int x3)] → G_X1_value p l e s m below meth c G cA A ta pa j T P r0 L' H locs (F0 m 4 ls [])) (x2 : Int32) (x3 : Int32) (x5 : Int32) (L : Lo) (H : Heap) (locs : List Loc) (ls : Array Slot) (h : fJ_X1_value_J82 k4 j T P x2 x3 x5 L = some (r0, L')) (hP : va_P G vwCl (wTP cA ta pa T P L) H) (hD : va_D A (wTP cA ta pa T P L)) (hS : va_S A s.heap H locs) (hl : lv_has ls 8 [(0, .ref (pa (30 + 3 * j))), (1, .ref (ta 19)), (2, .int x2), (3, .int x3), (5, .int x5)]) : G_X1_value p l e s m below meth c G cA A ta pa j T P r0 L' H locs (F0 m 82 ls []) := by
  obtain ⟨hx, hb, hr, hml, hT, hown, hlocks, hK, hN, hA⟩ := id F
  unfold fJ_X1_value_J82 at h
  refine lv_iload hx hb dX1_value_82 (lv_at hl 4 rfl) ?_
  refine lv_bipush (v := 21) hx hb dX1_value_84 (by decide) ?_
  refine lv_icmp_ne (tgt := 123) hx hb dX1_value_86 (by decide) (fun c8 => ?_) (fun c8 => ?_)
  · have h := tx_neg c8 h
    exact w_X1_value_J123 F hj k4 hk4 x2 x3 x5 L H locs ls h hP hD hS (lv_sub hl [0, 1, 2, 3, 4] rfl)
  · have h := tx_pos c8 h
    refine lv_iload_n hx hb dX1_value_89 rfl (lv_at hl 2 rfl) ?_
    refine lv_iconst (v := 1) hx hb dX1_value_90 (by decide) ?_
    refine lv_icmp_lt (tgt := 123) hx hb dX1_value_91 (by decide) (fun c21 => ?_) (fun c21 => ?_)
    · have h := tx_pos c21 h
      exact w_X1_value_J123 F hj k4 hk4 x2 x3 x5 L H locs ls h hP hD hS (lv_sub hl [0, 1, 2, 3, 4] rfl)
    · have h := tx_neg c21 h
      refine lv_aload_n hx hb dX1_value_94 rfl (lv_at hl 0 rfl) ?_
      refine va_get (D := G) (ci := 1) (v := .ref (pa (32 + 3 * j))) (C := RX1) (T := TX1) (N := 3) hx hb hT ku_1 hown hK hP (25 + 3 * j) (aLTP_0 hj) rfl 2 (by decide) (hT _ kw_6_13) (fun _ h9 => h9) rfl dX1_value_95 ?_
      refine lv_iload_n hx hb dX1_value_98 rfl (lv_at hl 2 rfl) ?_
      refine lv_iconst (v := 1) hx hb dX1_value_99 (by decide) ?_
      refine lv_isub hx hb dX1_value_100 ?_
      refine lv_aload_n hx hb dX1_value_101 rfl (lv_at hl 0 rfl) ?_
      refine va_get (D := G) (ci := 1) (v := .ref (pa (32 + 3 * j))) (C := RX1) (T := TX1) (N := 3) hx hb hT ku_1 hown hK hP (25 + 3 * j) (aLTP_0 hj) rfl 2 (by decide) (hT _ kw_6_13) (fun _ h9 => h9) rfl dX1_value_102 ?_
      refine lv_iload_n hx hb dX1_value_105 rfl (lv_at hl 2 rfl) ?_
      refine lv_iconst (v := 1) hx hb dX1_value_106 (by decide) ?_
      refine lv_isub hx hb dX1_value_107 ?_
      obtain ⟨g22, h⟩ := tx_ck h
      refine va_lald (i := (x2 - 1)) hx hb hK hP (27 + 3 * j) 2 (aLTP_2 hj) rfl (tx_in g22) dX1_value_108 ?_
      refine lv_lconst (v := 0) hx hb dX1_value_109 (by decide) ?_
      refine W.lcmp hx hb dX1_value_110 ?_
      refine lv_if_ne (tgt := 118) hx hb dX1_value_111 (by decide) (fun c23 => ?_) (fun c23 => ?_)
      · have h := tx_neg c23 h
        refine lv_lconst (v := 0) hx hb dX1_value_118 (by decide) ?_
        exact w_X1_value_J119 F hj k4 hk4 x2 x3 0 (x2 - 1) L H locs ls h hP hD hS (lv_sub hl [0, 1, 2, 3] rfl)
      · have h := tx_pos c23 h
        refine lv_lconst (v := 1) hx hb dX1_value_114 (by decide) ?_
        refine lv_goto (tgt := 119) hx hb dX1_value_115 (by decide) ?_
        exact w_X1_value_J119 F hj k4 hk4 x2 x3 1 (x2 - 1) L H locs ls h hP hD hS (lv_sub hl [0, 1, 2, 3] rfl)
set_option maxHeartbeats 4000000 in
set_option maxRecDepth 100000 in
theorem w_X1_value_L4 {p : Program} {l : Launch} {e : Env} {s : State} {m : MethodId} {below : List Frame} {meth : Method} {c : Code} {G : va_G} {cA : Nat → ClassId} {A : Nat → Prop} {ta : Nat → Nat} {pa : Nat → Nat} {j : Nat} {T : Tr} {P : Tr} {r0 : Int64} {L' : Lo} (F : tF p s m ([.ref (pa (30 + 3 * j)), .ref (ta 19)] : List Value).toArray meth c G cA A RX1 cX1_value 8 (some .long)) (hj : j < 3)   (N : Nat) : ∀ (x2 : Int32) (x3 : Int32) (L : Lo) (H : Heap) (locs : List Loc) (ls : Array Slot), lpF (fun _ _ _ => none) (fB_X1_value_L4 j T P) N x2 x3 L = some (r0, L') → va_P G vwCl (wTP cA ta pa T P L) H → va_D A (wTP cA ta pa T P L) → va_S A s.heap H locs → lv_has ls 8 [(0, .ref (pa (30 + 3 * j))), (1, .ref (ta 19)), (2, .int x2), (3, .int x3)] → G_X1_value p l e s m below meth c G cA A ta pa j T P r0 L' H locs (F0 m 4 ls []) := by
  obtain ⟨hx, hb, hr, hml, hT, hown, hlocks, hK, hN, hA⟩ := id F
  induction N with
  | zero =>
    intro x2 x3 L H locs ls h
    have h : (none : Option (Int64 × Lo)) = some (r0, L') := h
    cases h
  | succ N hk4 =>
    intro x2 x3 L H locs ls h hP hD hS hl
    have h : fB_X1_value_L4 j T P (lpF (fun _ _ _ => none) (fB_X1_value_L4 j T P) N) x2 x3 L = some (r0, L') := h
    generalize hk4e : lpF (fun _ _ _ => none) (fB_X1_value_L4 j T P) N = k4 at h hk4
    unfold fB_X1_value_L4 at h
    refine lv_iload_n hx hb dX1_value_4 rfl (lv_at hl 3 rfl) ?_
    refine lv_aload_n hx hb dX1_value_5 rfl (lv_at hl 0 rfl) ?_
    refine va_get (D := G) (ci := 1) (v := .int (P (30 + 3 * j) 1)) (C := RX1) (T := TX1) (N := 3) hx hb hT ku_1 hown hK hP (25 + 3 * j) (aLTP_0 hj) rfl 1 (by decide) (hT _ kw_21_7) (fun _ h9 => h9) rfl dX1_value_6 ?_
    refine lv_icmp_ge (tgt := 190) hx hb dX1_value_9 (by decide) (fun c1 => ?_) (fun c1 => ?_)
    · have h := tx_pos c1 h
      exact w_X1_value_J190 F hj x2 L H locs ls h hP hD hS (lv_sub hl [0, 2] rfl)
    · have h := tx_neg c1 h
      refine lv_aload_n hx hb dX1_value_12 rfl (lv_at hl 0 rfl) ?_
      refine va_get (D := G) (ci := 1) (v := .ref (pa (31 + 3 * j))) (C := RX1) (T := TX1) (N := 3) hx hb hT ku_1 hown hK hP (25 + 3 * j) (aLTP_0 hj) rfl 0 (by decide) (hT _ kw_6_12) (fun _ h9 => h9) rfl dX1_value_13 ?_
      refine lv_iload_n hx hb dX1_value_16 rfl (lv_at hl 3 rfl) ?_
      obtain ⟨g3, h⟩ := tx_ck h
      refine va_iald (i := x3) hx hb hK hP (26 + 3 * j) 0 (aLTP_1 hj) rfl (tx_in g3) dX1_value_17 ?_
      refine lv_topi (fun y4 ey4 => ?_)
      have h := tx_let ey4 h
      refine lv_istore (lv' := [(4, .int y4), (0, .ref (pa (30 + 3 * j))), (1, .ref (ta 19)), (2, .int x2), (3, .int x3)]) hx hb dX1_value_18 hl (by decide) rfl (fun ls hl => ?_)
      refine lv_iload hx hb dX1_value_20 (lv_at hl 0 rfl) ?_
      refine lv_sipush (v := 10000) hx hb dX1_value_22 (by decide) ?_
      refine lv_isub hx hb dX1_value_25 ?_
      refine lv_topi (fun y5 ey5 => ?_)
      have h := tx_let ey5 h
      refine lv_istore (lv' := [(5, .int y5), (4, .int y4), (0, .ref (pa (30 + 3 * j))), (1, .ref (ta 19)), (2, .int x2), (3, .int x3)]) hx hb dX1_value_26 hl (by decide) rfl (fun ls hl => ?_)
      refine lv_iload hx hb dX1_value_28 (lv_at hl 0 rfl) ?_
      refine lv_if_ge (tgt := 48) hx hb dX1_value_30 (by decide) (fun c6 => ?_) (fun c6 => ?_)
      · have h := tx_pos c6 h
        refine lv_iload hx hb dX1_value_48 (lv_at hl 0 rfl) ?_
        refine lv_bipush (v := 22) hx hb dX1_value_50 (by decide) ?_
        refine lv_icmp_lt (tgt := 82) hx hb dX1_value_52 (by decide) (fun c7 => ?_) (fun c7 => ?_)
        · have h := tx_pos c7 h
          exact w_X1_value_J82 F hj k4 hk4 x2 x3 y5 L H locs ls h hP hD hS (lv_sub hl [2, 3, 4, 5, 0] rfl)
        · have h := tx_neg c7 h
          refine lv_iload hx hb dX1_value_55 (lv_at hl 0 rfl) ?_
          refine lv_bipush (v := 28) hx hb dX1_value_57 (by decide) ?_
          refine lv_icmp_gt (tgt := 82) hx hb dX1_value_59 (by decide) (fun c27 => ?_) (fun c27 => ?_)
          · have h := tx_pos c27 h
            exact w_X1_value_J82 F hj k4 hk4 x2 x3 y5 L H locs ls h hP hD hS (lv_sub hl [2, 3, 4, 5, 0] rfl)
          · have h := tx_neg c27 h
            refine lv_aload_n hx hb dX1_value_62 rfl (lv_at hl 2 rfl) ?_
            refine va_get (D := G) (ci := 1) (v := .ref (pa (32 + 3 * j))) (C := RX1) (T := TX1) (N := 3) hx hb hT ku_1 hown hK hP (25 + 3 * j) (aLTP_0 hj) rfl 2 (by decide) (hT _ kw_6_13) (fun _ h9 => h9) rfl dX1_value_63 ?_
            refine lv_iload_n hx hb dX1_value_66 rfl (lv_at hl 4 rfl) ?_
            refine lv_aload_n hx hb dX1_value_67 rfl (lv_at hl 3 rfl) ?_
            refine lv_iload hx hb dX1_value_68 (lv_at hl 0 rfl) ?_
            refine lv_bipush (v := 22) hx hb dX1_value_70 (by decide) ?_
            refine lv_isub hx hb dX1_value_72 ?_
            obtain ⟨g28, h⟩ := tx_ck h
            refine va_iald (i := (y5 - 22)) hx hb hK hP 11 0 rfl rfl (tx_in g28) dX1_value_73 ?_
            refine lv_i2l hx hb dX1_value_74 rfl ?_
            obtain ⟨g29, h⟩ := tx_ck h
            refine va_last (i := x2) hx hb hK hP hD hS (27 + 3 * j) 2 (aLTP_2 hj) rfl (tx_in g29) dX1_value_75 (fun H locs hP hD hS => ?_)
            obtain ⟨L_30, eL_30, h⟩ := tx_lt h
            rw [(sLTP_a2 hj), eL_30] at hP hD
            obtain ⟨y31, ey31, h⟩ := tx_lt h
            refine lv_iinc (v := y31) (lv' := [(2, .int y31), (5, .int y5), (4, .int y4), (0, .ref (pa (30 + 3 * j))), (1, .ref (ta 19)), (3, .int x3)]) hx hb dX1_value_76 hl (k := 4) rfl ey31 (by decide) rfl (fun ls hl => ?_)
            refine lv_goto (tgt := 184) hx hb dX1_value_79 (by decide) ?_
            obtain ⟨y32, ey32, h⟩ := tx_lt h
            refine lv_iinc (v := y32) (lv' := [(3, .int y32), (2, .int y31), (5, .int y5), (4, .int y4), (0, .ref (pa (30 + 3 * j))), (1, .ref (ta 19))]) hx hb dX1_value_184 hl (k := 5) rfl ey32 (by decide) rfl (fun ls hl => ?_)
            refine lv_goto (tgt := 4) hx hb dX1_value_187 (by decide) ?_
            exact hk4 y31 y32 L_30 H locs ls h hP hD hS (lv_sub hl [4, 5, 1, 0] rfl)
      · have h := tx_neg c6 h
        refine lv_aload_n hx hb dX1_value_33 rfl (lv_at hl 2 rfl) ?_
        refine va_get (D := G) (ci := 1) (v := .ref (pa (32 + 3 * j))) (C := RX1) (T := TX1) (N := 3) hx hb hT ku_1 hown hK hP (25 + 3 * j) (aLTP_0 hj) rfl 2 (by decide) (hT _ kw_6_13) (fun _ h9 => h9) rfl dX1_value_34 ?_
        refine lv_iload_n hx hb dX1_value_37 rfl (lv_at hl 4 rfl) ?_
        refine lv_iload hx hb dX1_value_38 (lv_at hl 1 rfl) ?_
        refine lv_i2l hx hb dX1_value_40 rfl ?_
        obtain ⟨g33, h⟩ := tx_ck h
        refine va_last (i := x2) hx hb hK hP hD hS (27 + 3 * j) 2 (aLTP_2 hj) rfl (tx_in g33) dX1_value_41 (fun H locs hP hD hS => ?_)
        obtain ⟨L_34, eL_34, h⟩ := tx_lt h
        rw [(sLTP_a2 hj), eL_34] at hP hD
        obtain ⟨y35, ey35, h⟩ := tx_lt h
        refine lv_iinc (v := y35) (lv' := [(2, .int y35), (5, .int y5), (4, .int y4), (0, .ref (pa (30 + 3 * j))), (1, .ref (ta 19)), (3, .int x3)]) hx hb dX1_value_42 hl (k := 4) rfl ey35 (by decide) rfl (fun ls hl => ?_)
        refine lv_goto (tgt := 184) hx hb dX1_value_45 (by decide) ?_
        obtain ⟨y36, ey36, h⟩ := tx_lt h
        refine lv_iinc (v := y36) (lv' := [(3, .int y36), (2, .int y35), (5, .int y5), (4, .int y4), (0, .ref (pa (30 + 3 * j))), (1, .ref (ta 19))]) hx hb dX1_value_184 hl (k := 5) rfl ey36 (by decide) rfl (fun ls hl => ?_)
        refine lv_goto (tgt := 4) hx hb dX1_value_187 (by decide) ?_
        exact hk4 y35 y36 L_34 H locs ls h hP hD hS (lv_sub hl [4, 5, 1, 0] rfl)
set_option maxHeartbeats 4000000 in
set_option maxRecDepth 100000 in
theorem c_X1_value (l : Launch) (G : va_G) (cA : Nat → ClassId) (sz : Nat) (ta : Nat → Nat) (pa : Nat → Nat) (j : Nat) (T : Tr) (P : Tr) (L : Lo) (hj : j < 3) (r0 : Int64) (L' : Lo) (h : f_X1_value j T P L = some (r0, L')) : Met l yX1_value (.code yX1_value cX1_value 8 (some .long) :: T0) ({ frames := 1, cells := 0, slots := 0, locals := 26 } : Room) (tqP G cA [.ref (pa (30 + 3 * j)), .ref (ta 19)] (wTP cA ta pa T P L) sz) (tqQl G cA (fun (r : Int64) (_ : Unit) => r = r0) (fun (_ : Unit) => wTP cA ta pa T P (L')) (va_A (wTP cA ta pa T P L) sz)) 0 0 (va_A (wTP cA ta pa T P L) sz) := by
  refine Met.ofW (cc := cX1_value) (maxL := 8) (ret := (some .long)) (by decide) rfl ?_
  intro p e s m args below meth c s₁ B hml hv
  obtain ⟨rfl, hsz, hP, hK, hD0, hN⟩ := hv
  have hx := B.exec
  have hb := B.bytes
  have hr := B.returns
  have hts := atoms_spec (ws := .code yX1_value cX1_value 8 (some .long) :: T0) B.pre
  have hT : ∀ w ∈ T0, w.before _ s = true := fun w h => hts w (List.mem_cons_of_mem _ h)
  have hown : s.vm.findClass RX1 = some m.cls := findClass_of_methodNamed B.named
  have hlocks := B.notSynchronized
  subst hsz
  have hD := hD0.self (sz := s.heap.size)
  generalize hAe : va_A (wTP cA ta pa T P L) s.heap.size = A at hD ⊢
  have hA : ∀ q : Nat, s.heap.size ≤ q → A q := fun q h => by rw [← hAe]; exact Or.inr h
  have hS : va_S A s.heap s.heap [] := va_S.rf
  have hl := lv_entry ([.ref (pa (30 + 3 * j)), .ref (ta 19)]) (n := 8) (Nat.le_of_ble_eq_true rfl)
  rw [lg_entry_eq]
  generalize (lg_sl ([.ref (pa (30 + 3 * j)), .ref (ta 19)]) ++ List.replicate (8 - (lg_sl ([.ref (pa (30 + 3 * j)), .ref (ta 19)])).length) Slot.unset).toArray = ls at hl ⊢
  have hl : lv_has ls 8 [(0, .ref (pa (30 + 3 * j))), (1, .ref (ta 19))] := hl
  have F : tF p s m ([.ref (pa (30 + 3 * j)), .ref (ta 19)] : List Value).toArray meth c G cA A RX1 cX1_value 8 (some .long) := ⟨hx, hb, hr, hml, hT, hown, hlocks, hK, hN, hA⟩
  obtain ⟨H, hH⟩ : ∃ z, z = s.heap := ⟨_, rfl⟩
  rw [← hH] at hP
  have hS : va_S A s.heap H [] := by rw [hH]; exact hS
  suffices hgo : G_X1_value p l e s m below meth c G cA A ta pa j T P r0 L' H [] (F0 m 0 ls []) by rw [hH] at hgo; exact hgo
  generalize ([] : List Loc) = locs at hS ⊢
  unfold f_X1_value at h
  refine lv_iconst (v := 0) hx hb dX1_value_0 (by decide) ?_
  refine lv_istore_n (lv' := [(2, .int 0), (0, .ref (pa (30 + 3 * j))), (1, .ref (ta 19))]) hx hb dX1_value_1 rfl hl (by decide) rfl (fun ls hl => ?_)
  refine lv_iconst (v := 0) hx hb dX1_value_2 (by decide) ?_
  refine lv_istore_n (lv' := [(3, .int 0), (2, .int 0), (0, .ref (pa (30 + 3 * j))), (1, .ref (ta 19))]) hx hb dX1_value_3 rfl hl (by decide) rfl (fun ls hl => ?_)
  exact w_X1_value_L4 F hj 2000 0 0 L H locs ls h hP hD hS (lv_sub hl [2, 3, 1, 0] rfl)
abbrev G_X6_worked (p : Program) (l : Launch) (e : Env) (s : State) (m : MethodId) (below : List Frame) (meth : Method) (c : Code) (G : va_G) (cA : Nat → ClassId) (A : Nat → Prop) (ta : Nat → Nat) (pa : Nat → Nat) (P : Tr) (x1 : Int32) (x2 : Int32) (x3 : Int32) (r0 : Int64) (T' : Tr) (L' : Lo) (H : Heap) (locs : List Loc) (g : JFrame) : Prop := W p l e (headSpec (.code yX6_worked cX6_worked 6 (some .long) :: T0) ({ frames := 2, cells := 0, slots := 0, locals := 53 } : Room)).room s m ([.ref (ta 0), .int x1, .int x2, .int x3] : List Value).toArray below meth c H locs 0 0 (MQ below (tqQl G cA (fun (r : Int64) (_ : Unit) => r = r0) (fun (_ : Unit) => wTP cA ta pa (T') P (L')) A) ([.ref (ta 0), .int x1, .int x2, .int x3] : List Value).toArray s 0 0 A) g
set_option maxHeartbeats 4000000 in
set_option maxRecDepth 100000 in
theorem c_X6_worked (l : Launch) (G : va_G) (cA : Nat → ClassId) (sz : Nat) (ta : Nat → Nat) (pa : Nat → Nat) (T : Tr) (P : Tr) (L : Lo) (x1 : Int32) (x2 : Int32) (x3 : Int32)  (r0 : Int64) (T' : Tr) (L' : Lo) (h : f_X6_worked T P L x1 x2 x3 = some (r0, T', L')) : Met l yX6_worked (.code yX6_worked cX6_worked 6 (some .long) :: T0) ({ frames := 2, cells := 0, slots := 0, locals := 53 } : Room) (tqP G cA [.ref (ta 0), .int x1, .int x2, .int x3] (wTP cA ta pa T P L) sz) (tqQl G cA (fun (r : Int64) (_ : Unit) => r = r0) (fun (_ : Unit) => wTP cA ta pa (T') P (L')) (va_A (wTP cA ta pa T P L) sz)) 0 0 (va_A (wTP cA ta pa T P L) sz) := by
  refine Met.ofW (cc := cX6_worked) (maxL := 6) (ret := (some .long)) (by decide) rfl ?_
  intro p e s m args below meth c s₁ B hml hv
  obtain ⟨rfl, hsz, hP, hK, hD0, hN⟩ := hv
  have hx := B.exec
  have hb := B.bytes
  have hr := B.returns
  have hts := atoms_spec (ws := .code yX6_worked cX6_worked 6 (some .long) :: T0) B.pre
  have hT : ∀ w ∈ T0, w.before _ s = true := fun w h => hts w (List.mem_cons_of_mem _ h)
  have hown : s.vm.findClass RX6 = some m.cls := findClass_of_methodNamed B.named
  have hlocks := B.notSynchronized
  subst hsz
  have hD := hD0.self (sz := s.heap.size)
  generalize hAe : va_A (wTP cA ta pa T P L) s.heap.size = A at hD ⊢
  have hA : ∀ q : Nat, s.heap.size ≤ q → A q := fun q h => by rw [← hAe]; exact Or.inr h
  have hS : va_S A s.heap s.heap [] := va_S.rf
  have hl := lv_entry ([.ref (ta 0), .int x1, .int x2, .int x3]) (n := 6) (Nat.le_of_ble_eq_true rfl)
  rw [lg_entry_eq]
  generalize (lg_sl ([.ref (ta 0), .int x1, .int x2, .int x3]) ++ List.replicate (6 - (lg_sl ([.ref (ta 0), .int x1, .int x2, .int x3])).length) Slot.unset).toArray = ls at hl ⊢
  have hl : lv_has ls 6 [(0, .ref (ta 0)), (1, .int x1), (2, .int x2), (3, .int x3)] := hl
  have F : tF p s m ([.ref (ta 0), .int x1, .int x2, .int x3] : List Value).toArray meth c G cA A RX6 cX6_worked 6 (some .long) := ⟨hx, hb, hr, hml, hT, hown, hlocks, hK, hN, hA⟩
  obtain ⟨H, hH⟩ : ∃ z, z = s.heap := ⟨_, rfl⟩
  rw [← hH] at hP
  have hS : va_S A s.heap H [] := by rw [hH]; exact hS
  suffices hgo : G_X6_worked p l e s m below meth c G cA A ta pa P x1 x2 x3 r0 T' L' H [] (F0 m 0 ls []) by rw [hH] at hgo; exact hgo
  generalize ([] : List Loc) = locs at hS ⊢
  unfold f_X6_worked at h
  refine lv_aload_n hx hb dX6_worked_0 rfl (lv_at hl 0 rfl) ?_
  refine va_get (D := G) (ci := 6) (v := .ref (ta 15)) (C := RX6) (T := TX6) (N := 20) hx hb hT ku_6 hown hK hP 0 rfl rfl 14 (by decide) (hT _ kw_7_13) (fun _ h9 => h9) rfl dX6_worked_1 ?_
  refine lv_iload_n hx hb dX6_worked_4 rfl (lv_at hl 2 rfl) ?_
  obtain ⟨g1, h⟩ := tx_ck h
  refine va_iald (i := x2) hx hb hK hP 7 0 rfl rfl (tx_in g1) dX6_worked_5 ?_
  refine lv_topi (fun y2 ey2 => ?_)
  have h := tx_let ey2 h
  refine lv_istore (lv' := [(4, .int y2), (0, .ref (ta 0)), (1, .int x1), (2, .int x2), (3, .int x3)]) hx hb dX6_worked_6 hl (by decide) rfl (fun ls hl => ?_)
  refine lv_aload_n hx hb dX6_worked_8 rfl (lv_at hl 1 rfl) ?_
  refine va_get (D := G) (ci := 6) (v := .ref (pa 0)) (C := RX6) (T := TX6) (N := 20) hx hb hT ku_6 hown hK hP 0 rfl rfl 19 (by decide) (hT _ kw_8_1) (fun _ h9 => h9) rfl dX6_worked_9 ?_
  refine va_get (D := G) (ci := 2) (v := .ref (pa 19)) (C := RX2) (T := TX2) (N := 19) hx hb hT ku_2 hown hK hP 12 rfl rfl 18 (by decide) (hT _ kw_33_13) (fun _ h9 => h9) rfl dX6_worked_12 ?_
  refine lv_iload_n hx hb dX6_worked_15 rfl (lv_at hl 2 rfl) ?_
  obtain ⟨g3, h⟩ := tx_ck h
  refine va_aldq (i := x1) hx hb hK hP 24 4 rfl rfl (tx_in g3) dX6_worked_16 ?_
  refine W.eq (g2 := F0 m 17 ls (.ref (pa (30 + 3 * x1.toNatClampNeg)) :: [])) (by rw [lawsf_at _ (tx_n3 g3)]) ?_
  refine lv_astore (lv' := [(5, .ref (pa (30 + 3 * x1.toNatClampNeg))), (4, .int y2), (0, .ref (ta 0)), (1, .int x1), (2, .int x2), (3, .int x3)]) hx hb dX6_worked_17 hl (by decide) rfl (fun ls hl => ?_)
  refine lv_aload hx hb dX6_worked_19 (lv_at hl 0 rfl) ?_
  refine va_get (D := G) (ci := 1) (v := .int (P (30 + 3 * x1.toNatClampNeg) 1)) (C := RX1) (T := TX1) (N := 3) hx hb hT ku_1 hown hK hP (25 + 3 * x1.toNatClampNeg) (aLTP_0 (tx_n3 g3)) rfl 1 (by decide) (hT _ kw_33_14) (fun _ h9 => h9) rfl dX6_worked_21 ?_
  refine lv_if_eq (tgt := 32) hx hb dX6_worked_24 (by decide) (fun c4 => ?_) (fun c4 => ?_)
  · have h := tx_pos c4 h
    refine lv_ldc2 (v := (-9223372036854775808)) hx hb hown (hT _ kw_33_15) dX6_worked_32 ?_
    obtain ⟨rfl, rfl, rfl⟩ := tx_3 h
    exact W.lret hx hb hr (fun t ht hW => ⟨⟨_, (), rfl, rfl, by rw [ht]; exact hP, hD⟩, hS.F ht⟩) hS.2.2 dX6_worked_35
  · have h := tx_neg c4 h
    refine lv_iload hx hb dX6_worked_27 (lv_at hl 1 rfl) ?_
    refine lv_if_ge (tgt := 36) hx hb dX6_worked_29 (by decide) (fun c5 => ?_) (fun c5 => ?_)
    · have h := tx_pos c5 h
      refine lv_aload_n hx hb dX6_worked_36 rfl (lv_at hl 2 rfl) ?_
      refine va_get (D := G) (ci := 6) (v := .ref (ta 19)) (C := RX6) (T := TX6) (N := 20) hx hb hT ku_6 hown hK hP 0 rfl rfl 18 (by decide) (hT _ kw_7_17) (fun _ h9 => h9) rfl dX6_worked_37 ?_
      refine lv_iconst (v := 0) hx hb dX6_worked_40 (by decide) ?_
      refine lv_aload_n hx hb dX6_worked_41 rfl (lv_at hl 2 rfl) ?_
      refine va_get (D := G) (ci := 6) (v := .ref (pa 0)) (C := RX6) (T := TX6) (N := 20) hx hb hT ku_6 hown hK hP 0 rfl rfl 19 (by decide) (hT _ kw_8_1) (fun _ h9 => h9) rfl dX6_worked_42 ?_
      refine va_get (D := G) (ci := 2) (v := .ref (pa 15)) (C := RX2) (T := TX2) (N := 19) hx hb hT ku_2 hown hK hP 12 rfl rfl 14 (by decide) (hT _ kw_33_16) (fun _ h9 => h9) rfl dX6_worked_45 ?_
      refine lv_iload_n hx hb dX6_worked_48 rfl (lv_at hl 4 rfl) ?_
      refine va_iald (i := x2) hx hb hK hP 20 0 rfl rfl (tx_in g1) dX6_worked_49 ?_
      refine va_iast (i := 0) hx hb hK hP hD hS 11 0 rfl rfl (tq_in (by decide)) dX6_worked_50 (fun H locs hP hD hS => ?_)
      rw [show (0 : Int32).toNatClampNeg = 0 from rfl] at hP hD
      obtain ⟨T_6, eT_6, h⟩ := tx_lt h
      rw [sTP_ta_a18, eT_6] at hP hD
      refine lv_aload_n hx hb dX6_worked_51 rfl (lv_at hl 2 rfl) ?_
      refine va_get (D := G) (ci := 6) (v := .ref (ta 19)) (C := RX6) (T := TX6) (N := 20) hx hb hT ku_6 hown hK hP 0 rfl rfl 18 (by decide) (hT _ kw_7_17) (fun _ h9 => h9) rfl dX6_worked_52 ?_
      refine lv_iconst (v := 1) hx hb dX6_worked_55 (by decide) ?_
      refine lv_aload_n hx hb dX6_worked_56 rfl (lv_at hl 2 rfl) ?_
      refine va_get (D := G) (ci := 6) (v := .ref (pa 0)) (C := RX6) (T := TX6) (N := 20) hx hb hT ku_6 hown hK hP 0 rfl rfl 19 (by decide) (hT _ kw_8_1) (fun _ h9 => h9) rfl dX6_worked_57 ?_
      refine va_get (D := G) (ci := 2) (v := .ref (pa 16)) (C := RX2) (T := TX2) (N := 19) hx hb hT ku_2 hown hK hP 12 rfl rfl 15 (by decide) (hT _ kw_33_17) (fun _ h9 => h9) rfl dX6_worked_60 ?_
      refine lv_iload_n hx hb dX6_worked_63 rfl (lv_at hl 4 rfl) ?_
      refine va_iald (i := x2) hx hb hK hP 21 0 rfl rfl (tx_in g1) dX6_worked_64 ?_
      refine va_iast (i := 1) hx hb hK hP hD hS 11 0 rfl rfl (tq_in (by decide)) dX6_worked_65 (fun H locs hP hD hS => ?_)
      rw [show (1 : Int32).toNatClampNeg = 1 from rfl] at hP hD
      obtain ⟨T_7, eT_7, h⟩ := tx_lt h
      rw [sTP_ta_a18, eT_7] at hP hD
      refine lv_aload_n hx hb dX6_worked_66 rfl (lv_at hl 2 rfl) ?_
      refine va_get (D := G) (ci := 6) (v := .ref (ta 19)) (C := RX6) (T := TX6) (N := 20) hx hb hT ku_6 hown hK hP 0 rfl rfl 18 (by decide) (hT _ kw_7_17) (fun _ h9 => h9) rfl dX6_worked_67 ?_
      refine lv_iconst (v := 2) hx hb dX6_worked_70 (by decide) ?_
      refine lv_aload_n hx hb dX6_worked_71 rfl (lv_at hl 2 rfl) ?_
      refine va_get (D := G) (ci := 6) (v := .ref (ta 17)) (C := RX6) (T := TX6) (N := 20) hx hb hT ku_6 hown hK hP 0 rfl rfl 16 (by decide) (hT _ kw_7_15) (fun _ h9 => h9) rfl dX6_worked_72 ?_
      refine lv_iload hx hb dX6_worked_75 (lv_at hl 1 rfl) ?_
      obtain ⟨g8, h⟩ := tx_ck h
      refine va_iald (i := y2) hx hb hK hP 9 0 rfl rfl (tx_in g8) dX6_worked_77 ?_
      refine lv_iconst (v := 1) hx hb dX6_worked_78 (by decide) ?_
      refine lv_isub hx hb dX6_worked_79 ?_
      refine lv_aload_n hx hb dX6_worked_80 rfl (lv_at hl 2 rfl) ?_
      refine lv_iload_n hx hb dX6_worked_81 rfl (lv_at hl 4 rfl) ?_
      obtain ⟨r9, hc10, h⟩ := tx_bd h
      refine tw_ci tw_all hP hD hS hA (va_runV (As := [.int x2]) (rest := [.int ((T_7 17 y2.toNatClampNeg) - 1), .int 2, .ref (ta 19)]) ⟨hx, hb, hml, hown, hT⟩ (c_X6_level l G cA H.size ta pa T_7 P L x2  r9 hc10) (cwV 1 hT (tq_gV kw_30_14 kw_30_15 kw_30_16 kw_1_23 kw_30_17) rfl rfl rfl (by decide +kernel) ⟨Nat.le_of_ble_eq_true rfl, Nat.le_of_ble_eq_true rfl⟩) ⟨(tw_pre tw_all hP hD hK hN).1, va_recv hK hP (ci := 6) (q0 := 0) rfl rfl, (tw_pre tw_all hP hD hK hN).2⟩ rfl rfl hl.1 rfl (lv_room (Nat.le_of_ble_eq_true rfl)) dX6_worked_82 ⟨Nat.le_of_ble_eq_true rfl, Nat.le_of_ble_eq_true rfl⟩) (fun _ _ H locs z11 hP hD hS => ?_)
      subst z11
      rw [List.append_nil] at hP hD
      have hP : va_P G vwCl (wTP cA ta pa T_7 P L) H := hP
      have hD : va_D A (wTP cA ta pa T_7 P L) := hD
      refine lv_isub hx hb dX6_worked_85 ?_
      refine va_iast (i := 2) hx hb hK hP hD hS 11 0 rfl rfl (tq_in (by decide)) dX6_worked_86 (fun H locs hP hD hS => ?_)
      rw [show (2 : Int32).toNatClampNeg = 2 from rfl] at hP hD
      obtain ⟨T_12, eT_12, h⟩ := tx_lt h
      rw [sTP_ta_a18, eT_12] at hP hD
      refine lv_aload_n hx hb dX6_worked_87 rfl (lv_at hl 2 rfl) ?_
      refine va_get (D := G) (ci := 6) (v := .ref (ta 19)) (C := RX6) (T := TX6) (N := 20) hx hb hT ku_6 hown hK hP 0 rfl rfl 18 (by decide) (hT _ kw_7_17) (fun _ h9 => h9) rfl dX6_worked_88 ?_
      refine lv_iconst (v := 3) hx hb dX6_worked_91 (by decide) ?_
      refine lv_aload_n hx hb dX6_worked_92 rfl (lv_at hl 2 rfl) ?_
      refine va_get (D := G) (ci := 6) (v := .ref (pa 0)) (C := RX6) (T := TX6) (N := 20) hx hb hT ku_6 hown hK hP 0 rfl rfl 19 (by decide) (hT _ kw_8_1) (fun _ h9 => h9) rfl dX6_worked_93 ?_
      refine va_get (D := G) (ci := 2) (v := .ref (pa 8)) (C := RX2) (T := TX2) (N := 19) hx hb hT ku_2 hown hK hP 12 rfl rfl 7 (by decide) (hT _ kw_33_18) (fun _ h9 => h9) rfl dX6_worked_96 ?_
      refine lv_iload hx hb dX6_worked_99 (lv_at hl 1 rfl) ?_
      refine va_iald (i := y2) hx hb hK hP 13 0 rfl rfl (tx_in g8) dX6_worked_101 ?_
      refine va_iast (i := 3) hx hb hK hP hD hS 11 0 rfl rfl (tq_in (by decide)) dX6_worked_102 (fun H locs hP hD hS => ?_)
      rw [show (3 : Int32).toNatClampNeg = 3 from rfl] at hP hD
      obtain ⟨T_13, eT_13, h⟩ := tx_lt h
      rw [sTP_ta_a18, eT_13] at hP hD
      refine lv_aload_n hx hb dX6_worked_103 rfl (lv_at hl 2 rfl) ?_
      refine va_get (D := G) (ci := 6) (v := .ref (ta 19)) (C := RX6) (T := TX6) (N := 20) hx hb hT ku_6 hown hK hP 0 rfl rfl 18 (by decide) (hT _ kw_7_17) (fun _ h9 => h9) rfl dX6_worked_104 ?_
      refine lv_iconst (v := 4) hx hb dX6_worked_107 (by decide) ?_
      refine lv_iload_n hx hb dX6_worked_108 rfl (lv_at hl 5 rfl) ?_
      refine va_iast (i := 4) hx hb hK hP hD hS 11 0 rfl rfl (tq_in (by decide)) dX6_worked_109 (fun H locs hP hD hS => ?_)
      rw [show (4 : Int32).toNatClampNeg = 4 from rfl] at hP hD
      obtain ⟨T_14, eT_14, h⟩ := tx_lt h
      rw [sTP_ta_a18, eT_14] at hP hD
      refine lv_aload_n hx hb dX6_worked_110 rfl (lv_at hl 2 rfl) ?_
      refine va_get (D := G) (ci := 6) (v := .ref (ta 19)) (C := RX6) (T := TX6) (N := 20) hx hb hT ku_6 hown hK hP 0 rfl rfl 18 (by decide) (hT _ kw_7_17) (fun _ h9 => h9) rfl dX6_worked_111 ?_
      refine lv_iconst (v := 5) hx hb dX6_worked_114 (by decide) ?_
      refine lv_aload_n hx hb dX6_worked_115 rfl (lv_at hl 2 rfl) ?_
      refine va_get (D := G) (ci := 6) (v := .int (T_14 0 0)) (C := RX6) (T := TX6) (N := 20) hx hb hT ku_6 hown hK hP 0 rfl rfl 0 (by decide) (hT _ kw_8_2) (fun _ h9 => h9) rfl dX6_worked_116 ?_
      refine va_iast (i := 5) hx hb hK hP hD hS 11 0 rfl rfl (tq_in (by decide)) dX6_worked_119 (fun H locs hP hD hS => ?_)
      rw [show (5 : Int32).toNatClampNeg = 5 from rfl] at hP hD
      obtain ⟨T_15, eT_15, h⟩ := tx_lt h
      rw [sTP_ta_a18, eT_15] at hP hD
      refine lv_aload_n hx hb dX6_worked_120 rfl (lv_at hl 2 rfl) ?_
      refine va_get (D := G) (ci := 6) (v := .ref (ta 19)) (C := RX6) (T := TX6) (N := 20) hx hb hT ku_6 hown hK hP 0 rfl rfl 18 (by decide) (hT _ kw_7_17) (fun _ h9 => h9) rfl dX6_worked_121 ?_
      refine lv_bipush (v := 6) hx hb dX6_worked_124 (by decide) ?_
      refine lv_aload_n hx hb dX6_worked_126 rfl (lv_at hl 2 rfl) ?_
      refine va_get (D := G) (ci := 6) (v := .ref (ta 18)) (C := RX6) (T := TX6) (N := 20) hx hb hT ku_6 hown hK hP 0 rfl rfl 17 (by decide) (hT _ kw_7_16) (fun _ h9 => h9) rfl dX6_worked_127 ?_
      refine lv_iload hx hb dX6_worked_130 (lv_at hl 1 rfl) ?_
      refine va_iald (i := y2) hx hb hK hP 10 0 rfl rfl (tx_in g8) dX6_worked_132 ?_
      refine va_iast (i := 6) hx hb hK hP hD hS 11 0 rfl rfl (tq_in (by decide)) dX6_worked_133 (fun H locs hP hD hS => ?_)
      rw [show (6 : Int32).toNatClampNeg = 6 from rfl] at hP hD
      obtain ⟨T_16, eT_16, h⟩ := tx_lt h
      rw [sTP_ta_a18, eT_16] at hP hD
      refine lv_aload hx hb dX6_worked_134 (lv_at hl 0 rfl) ?_
      refine lv_aload_n hx hb dX6_worked_136 rfl (lv_at hl 2 rfl) ?_
      refine va_get (D := G) (ci := 6) (v := .ref (ta 19)) (C := RX6) (T := TX6) (N := 20) hx hb hT ku_6 hown hK hP 0 rfl rfl 18 (by decide) (hT _ kw_7_17) (fun _ h9 => h9) rfl dX6_worked_137 ?_
      obtain ⟨⟨r17, L_18⟩, hc19, h⟩ := tx_bd h
      replace h := tx_let (y := r17) rfl h
      replace h := tx_let (y := L_18) rfl h
      refine tw_cl tw_all hP hD hS hA (va_runV (As := [.ref (ta 19)]) (rest := []) ⟨hx, hb, hml, hown, hT⟩ (c_X1_value l G cA H.size ta pa x1.toNatClampNeg T_16 P L (tx_n3 g3) r17 L_18 hc19) (cwV 1 hT (tq_gV kw_33_19 kw_33_20 kw_33_21 kw_6_8 kw_33_22) rfl rfl rfl (by decide +kernel) ⟨Nat.le_of_ble_eq_true rfl, Nat.le_of_ble_eq_true rfl⟩) ⟨(tw_pre tw_all hP hD hK hN).1, va_recv hK hP (ci := 1) (q0 := (25 + 3 * x1.toNatClampNeg)) rfl (aLTP_0 (tx_n3 g3)), (tw_pre tw_all hP hD hK hN).2⟩ rfl rfl hl.1 rfl (lv_room (Nat.le_of_ble_eq_true rfl)) dX6_worked_140 ⟨Nat.le_of_ble_eq_true rfl, Nat.le_of_ble_eq_true rfl⟩) (fun _ _ H locs z20 hP hD hS => ?_)
      subst z20
      rw [List.append_nil] at hP hD
      have hP : va_P G vwCl (wTP cA ta pa T_16 P L_18) H := hP
      have hD : va_D A (wTP cA ta pa T_16 P L_18) := hD
      obtain ⟨rfl, rfl, rfl⟩ := tx_3 h
      exact W.lret hx hb hr (fun t ht hW => ⟨⟨_, (), rfl, rfl, by rw [ht]; exact hP, hD⟩, hS.F ht⟩) hS.2.2 dX6_worked_143
    · have h := tx_neg c5 h
      refine lv_ldc2 (v := (-9223372036854775808)) hx hb hown (hT _ kw_33_15) dX6_worked_32 ?_
      obtain ⟨rfl, rfl, rfl⟩ := tx_3 h
      exact W.lret hx hb hr (fun t ht hW => ⟨⟨_, (), rfl, rfl, by rw [ht]; exact hP, hD⟩, hS.F ht⟩) hS.2.2 dX6_worked_35
abbrev G_X6_within (p : Program) (l : Launch) (e : Env) (s : State) (m : MethodId) (below : List Frame) (meth : Method) (c : Code) (G : va_G) (cA : Nat → ClassId) (A : Nat → Prop) (x0 : Int64) (x2 : Int32) (r0 : Int32) (H : Heap) (locs : List Loc) (g : JFrame) : Prop := W p l e (headSpec (.code yX6_within cX6_within 3 (some .int) :: T0) ({ frames := 0, cells := 0, slots := 0, locals := 0 } : Room)).room s m ([.long x0, .int x2] : List Value).toArray below meth c H locs 0 0 (MQ below (tqQi G cA (fun (r : Int32) (_ : Unit) => r = r0) (fun (_ : Unit) => ([] : va_W)) A) ([.long x0, .int x2] : List Value).toArray s 0 0 A) g
set_option maxHeartbeats 4000000 in
set_option maxRecDepth 100000 in
theorem c_X6_within (l : Launch) (G : va_G) (cA : Nat → ClassId) (sz : Nat) (x0 : Int64) (x2 : Int32)  (r0 : Int32) (h : f_X6_within x0 x2 = some r0) : Met l yX6_within (.code yX6_within cX6_within 3 (some .int) :: T0) ({ frames := 0, cells := 0, slots := 0, locals := 0 } : Room) (tqP G cA [.long x0, .int x2] (([] : va_W)) sz) (tqQi G cA (fun (r : Int32) (_ : Unit) => r = r0) (fun (_ : Unit) => ([] : va_W)) (va_A (([] : va_W)) sz)) 0 0 (va_A (([] : va_W)) sz) := by
  refine Met.ofW (cc := cX6_within) (maxL := 3) (ret := (some .int)) (by decide) rfl ?_
  intro p e s m args below meth c s₁ B hml hv
  obtain ⟨rfl, hsz, hP, hK, hD0, hN⟩ := hv
  have hx := B.exec
  have hb := B.bytes
  have hr := B.returns
  have hts := atoms_spec (ws := .code yX6_within cX6_within 3 (some .int) :: T0) B.pre
  have hT : ∀ w ∈ T0, w.before _ s = true := fun w h => hts w (List.mem_cons_of_mem _ h)
  have hown : s.vm.findClass RX6 = some m.cls := findClass_of_methodNamed B.named
  have hlocks := B.notSynchronized
  subst hsz
  have hD := hD0.self (sz := s.heap.size)
  generalize hAe : va_A (([] : va_W)) s.heap.size = A at hD ⊢
  have hA : ∀ q : Nat, s.heap.size ≤ q → A q := fun q h => by rw [← hAe]; exact Or.inr h
  have hS : va_S A s.heap s.heap [] := va_S.rf
  have hl := lv_entry ([.long x0, .int x2]) (n := 3) (Nat.le_of_ble_eq_true rfl)
  rw [lg_entry_eq]
  generalize (lg_sl ([.long x0, .int x2]) ++ List.replicate (3 - (lg_sl ([.long x0, .int x2])).length) Slot.unset).toArray = ls at hl ⊢
  have hl : lv_has ls 3 [(0, .long x0), (2, .int x2)] := hl
  have F : tF p s m ([.long x0, .int x2] : List Value).toArray meth c G cA A RX6 cX6_within 3 (some .int) := ⟨hx, hb, hr, hml, hT, hown, hlocks, hK, hN, hA⟩
  obtain ⟨H, hH⟩ : ∃ z, z = s.heap := ⟨_, rfl⟩
  rw [← hH] at hP
  have hS : va_S A s.heap H [] := by rw [hH]; exact hS
  suffices hgo : G_X6_within p l e s m below meth c G cA A x0 x2 r0 H [] (F0 m 0 ls []) by rw [hH] at hgo; exact hgo
  generalize ([] : List Loc) = locs at hS ⊢
  unfold f_X6_within at h
  refine lv_lload_n hx hb dX6_within_0 rfl (lv_at hl 0 rfl) ?_
  refine lv_lconst (v := 0) hx hb dX6_within_1 (by decide) ?_
  refine W.lcmp hx hb dX6_within_2 ?_
  refine lv_if_ge (tgt := 10) hx hb dX6_within_3 (by decide) (fun c1 => ?_) (fun c1 => ?_)
  · have h := tx_pos c1 h
    refine lv_lload_n hx hb dX6_within_10 rfl (lv_at hl 0 rfl) ?_
    refine lv_iload_n hx hb dX6_within_11 rfl (lv_at hl 1 rfl) ?_
    refine lv_i2l hx hb dX6_within_12 rfl ?_
    refine W.lcmp hx hb dX6_within_13 ?_
    refine lv_if_le (tgt := 21) hx hb dX6_within_14 (by decide) (fun c2 => ?_) (fun c2 => ?_)
    · have h := tx_pos c2 h
      refine lv_lload_n hx hb dX6_within_21 rfl (lv_at hl 0 rfl) ?_
      refine lv_l2i hx hb dX6_within_22 rfl ?_
      obtain rfl := tx_1 h
      exact W.iret hx hb hr (fun t ht hW => ⟨⟨_, (), rfl, rfl, by rw [ht]; exact hP, hD⟩, hS.F ht⟩) hS.2.2 dX6_within_23
    · have h := tx_neg c2 h
      refine lv_iload_n hx hb dX6_within_17 rfl (lv_at hl 1 rfl) ?_
      refine lv_goto (tgt := 23) hx hb dX6_within_18 (by decide) ?_
      obtain rfl := tx_1 h
      exact W.iret hx hb hr (fun t ht hW => ⟨⟨_, (), rfl, rfl, by rw [ht]; exact hP, hD⟩, hS.F ht⟩) hS.2.2 dX6_within_23
  · have h := tx_neg c1 h
    refine lv_iconst (v := 0) hx hb dX6_within_6 (by decide) ?_
    refine lv_goto (tgt := 23) hx hb dX6_within_7 (by decide) ?_
    obtain rfl := tx_1 h
    exact W.iret hx hb hr (fun t ht hW => ⟨⟨_, (), rfl, rfl, by rw [ht]; exact hP, hD⟩, hS.F ht⟩) hS.2.2 dX6_within_23
abbrev G_X6_fallPercent (p : Program) (l : Launch) (e : Env) (s : State) (m : MethodId) (below : List Frame) (meth : Method) (c : Code) (G : va_G) (cA : Nat → ClassId) (A : Nat → Prop) (ta : Nat → Nat) (pa : Nat → Nat) (P : Tr) (x1 : Int32) (r0 : Int32) (T' : Tr) (L' : Lo) (H : Heap) (locs : List Loc) (g : JFrame) : Prop := W p l e (headSpec (.code yX6_fallPercent cX6_fallPercent 4 (some .int) :: T0) ({ frames := 3, cells := 0, slots := 0, locals := 78 } : Room)).room s m ([.ref (ta 0), .int x1] : List Value).toArray below meth c H locs 0 0 (MQ below (tqQi G cA (fun (r : Int32) (_ : Unit) => r = r0) (fun (_ : Unit) => wTP cA ta pa (T') P (L')) A) ([.ref (ta 0), .int x1] : List Value).toArray s 0 0 A) g
set_option maxHeartbeats 4000000 in
set_option maxRecDepth 100000 in
theorem w_X6_fallPercent_J57 {p : Program} {l : Launch} {e : Env} {s : State} {m : MethodId} {below : List Frame} {meth : Method} {c : Code} {G : va_G} {cA : Nat → ClassId} {A : Nat → Prop} {ta : Nat → Nat} {pa : Nat → Nat} {P : Tr} {x1₀ : Int32} {r0 : Int32} {T' : Tr} {L' : Lo} (F : tF p s m ([.ref (ta 0), .int x1₀] : List Value).toArray meth c G cA A RX6 cX6_fallPercent 4 (some .int))    (s0 : Int64) (T : Tr) (L : Lo) (H : Heap) (locs : List Loc) (ls : Array Slot) (h : fJ_X6_fallPercent_J57 P s0 T L = some (r0, T', L')) (hP : va_P G vwCl (wTP cA ta pa T P L) H) (hD : va_D A (wTP cA ta pa T P L)) (hS : va_S A s.heap H locs) (hl : lv_has ls 4 []) : G_X6_fallPercent p l e s m below meth c G cA A ta pa P x1₀ r0 T' L' H locs (F0 m 57 ls []) := by
  obtain ⟨hx, hb, hr, hml, hT, hown, hlocks, hK, hN, hA⟩ := id F
  unfold fJ_X6_fallPercent_J57 at h
  refine lv_bipush (v := 100) hx hb dX6_fallPercent_57 (by decide) ?_
  obtain ⟨r12, hc13, h⟩ := tx_bd h
  refine tw_ci (tw_none (ws := wTP cA ta pa T P L)) hP hD hS hA (va_runS (As := [.long s0, .int 100]) (rest := []) ⟨hx, hb, hml, hown, hT⟩ (c_X6_within l G cA H.size s0 (100 : Int32)  r12 hc13) (va_cwS 2 hT (tq_gS kw_40_23 kw_41_0 kw_1_23 kw_41_1) rfl rfl rfl (by decide +kernel) ⟨Nat.le_of_ble_eq_true rfl, Nat.le_of_ble_eq_true rfl⟩) (tw_pre (tw_none (ws := wTP cA ta pa T P L)) hP hD hK hN) rfl rfl hl.1 rfl (lv_room (Nat.le_of_ble_eq_true rfl)) dX6_fallPercent_59 ⟨Nat.le_of_ble_eq_true rfl, Nat.le_of_ble_eq_true rfl⟩) (fun _ _ H locs z14 hP hD hS => ?_)
  subst z14
  have hP : va_P G vwCl (wTP cA ta pa T P L) H := hP
  have hD : va_D A (wTP cA ta pa T P L) := hD
  obtain ⟨rfl, rfl, rfl⟩ := tx_3 h
  exact W.iret hx hb hr (fun t ht hW => ⟨⟨_, (), rfl, rfl, by rw [ht]; exact hP, hD⟩, hS.F ht⟩) hS.2.2 dX6_fallPercent_62
set_option maxHeartbeats 4000000 in
set_option maxRecDepth 100000 in
theorem c_X6_fallPercent (l : Launch) (G : va_G) (cA : Nat → ClassId) (sz : Nat) (ta : Nat → Nat) (pa : Nat → Nat) (T : Tr) (P : Tr) (L : Lo) (x1 : Int32)  (r0 : Int32) (T' : Tr) (L' : Lo) (h : f_X6_fallPercent T P L x1 = some (r0, T', L')) : Met l yX6_fallPercent (.code yX6_fallPercent cX6_fallPercent 4 (some .int) :: T0) ({ frames := 3, cells := 0, slots := 0, locals := 78 } : Room) (tqP G cA [.ref (ta 0), .int x1] (wTP cA ta pa T P L) sz) (tqQi G cA (fun (r : Int32) (_ : Unit) => r = r0) (fun (_ : Unit) => wTP cA ta pa (T') P (L')) (va_A (wTP cA ta pa T P L) sz)) 0 0 (va_A (wTP cA ta pa T P L) sz) := by
  refine Met.ofW (cc := cX6_fallPercent) (maxL := 4) (ret := (some .int)) (by decide) rfl ?_
  intro p e s m args below meth c s₁ B hml hv
  obtain ⟨rfl, hsz, hP, hK, hD0, hN⟩ := hv
  have hx := B.exec
  have hb := B.bytes
  have hr := B.returns
  have hts := atoms_spec (ws := .code yX6_fallPercent cX6_fallPercent 4 (some .int) :: T0) B.pre
  have hT : ∀ w ∈ T0, w.before _ s = true := fun w h => hts w (List.mem_cons_of_mem _ h)
  have hown : s.vm.findClass RX6 = some m.cls := findClass_of_methodNamed B.named
  have hlocks := B.notSynchronized
  subst hsz
  have hD := hD0.self (sz := s.heap.size)
  generalize hAe : va_A (wTP cA ta pa T P L) s.heap.size = A at hD ⊢
  have hA : ∀ q : Nat, s.heap.size ≤ q → A q := fun q h => by rw [← hAe]; exact Or.inr h
  have hS : va_S A s.heap s.heap [] := va_S.rf
  have hl := lv_entry ([.ref (ta 0), .int x1]) (n := 4) (Nat.le_of_ble_eq_true rfl)
  rw [lg_entry_eq]
  generalize (lg_sl ([.ref (ta 0), .int x1]) ++ List.replicate (4 - (lg_sl ([.ref (ta 0), .int x1])).length) Slot.unset).toArray = ls at hl ⊢
  have hl : lv_has ls 4 [(0, .ref (ta 0)), (1, .int x1)] := hl
  have F : tF p s m ([.ref (ta 0), .int x1] : List Value).toArray meth c G cA A RX6 cX6_fallPercent 4 (some .int) := ⟨hx, hb, hr, hml, hT, hown, hlocks, hK, hN, hA⟩
  obtain ⟨H, hH⟩ : ∃ z, z = s.heap := ⟨_, rfl⟩
  rw [← hH] at hP
  have hS : va_S A s.heap H [] := by rw [hH]; exact hS
  suffices hgo : G_X6_fallPercent p l e s m below meth c G cA A ta pa P x1 r0 T' L' H [] (F0 m 0 ls []) by rw [hH] at hgo; exact hgo
  generalize ([] : List Loc) = locs at hS ⊢
  unfold f_X6_fallPercent at h
  refine lv_aload_n hx hb dX6_fallPercent_0 rfl (lv_at hl 0 rfl) ?_
  refine lv_iconst (v := 1) hx hb dX6_fallPercent_1 (by decide) ?_
  refine lv_iload_n hx hb dX6_fallPercent_2 rfl (lv_at hl 1 rfl) ?_
  refine lv_aload_n hx hb dX6_fallPercent_3 rfl (lv_at hl 0 rfl) ?_
  refine va_get (D := G) (ci := 6) (v := .ref (ta 10)) (C := RX6) (T := TX6) (N := 20) hx hb hT ku_6 hown hK hP 0 rfl rfl 9 (by decide) (hT _ kw_7_8) (fun _ h9 => h9) rfl dX6_fallPercent_4 ?_
  refine lv_aload_n hx hb dX6_fallPercent_7 rfl (lv_at hl 0 rfl) ?_
  refine va_get (D := G) (ci := 6) (v := .ref (pa 0)) (C := RX6) (T := TX6) (N := 20) hx hb hT ku_6 hown hK hP 0 rfl rfl 19 (by decide) (hT _ kw_8_1) (fun _ h9 => h9) rfl dX6_fallPercent_8 ?_
  refine va_get (D := G) (ci := 2) (v := .ref (pa 14)) (C := RX2) (T := TX2) (N := 19) hx hb hT ku_2 hown hK hP 12 rfl rfl 13 (by decide) (hT _ kw_39_0) (fun _ h9 => h9) rfl dX6_fallPercent_11 ?_
  refine lv_iload_n hx hb dX6_fallPercent_14 rfl (lv_at hl 1 rfl) ?_
  obtain ⟨g1, h⟩ := tx_ck h
  refine va_iald (i := x1) hx hb hK hP 19 0 rfl rfl (tx_in g1) dX6_fallPercent_15 ?_
  obtain ⟨g2, h⟩ := tx_ck h
  refine va_iald (i := (P 14 x1.toNatClampNeg)) hx hb hK hP 2 0 rfl rfl (tx_in g2) dX6_fallPercent_16 ?_
  obtain ⟨⟨r3, T_4, L_5⟩, hc6, h⟩ := tx_bd h
  replace h := tx_let (y := r3) rfl h
  replace h := tx_let (y := T_4) rfl h
  replace h := tx_let (y := L_5) rfl h
  refine tw_cl tw_all hP hD hS hA (va_runV (As := [.int 1, .int x1, .int (T 10 (P 14 x1.toNatClampNeg).toNatClampNeg)]) (rest := []) ⟨hx, hb, hml, hown, hT⟩ (c_X6_worked l G cA H.size ta pa T P L (1 : Int32) x1 (T 10 (P 14 x1.toNatClampNeg).toNatClampNeg)  r3 T_4 L_5 hc6) (cwV 3 hT (tq_gV kw_40_22 kw_33_10 kw_33_11 kw_1_23 kw_33_12) rfl rfl rfl (by decide +kernel) ⟨Nat.le_of_ble_eq_true rfl, Nat.le_of_ble_eq_true rfl⟩) ⟨(tw_pre tw_all hP hD hK hN).1, va_recv hK hP (ci := 6) (q0 := 0) rfl rfl, (tw_pre tw_all hP hD hK hN).2⟩ rfl rfl hl.1 rfl (lv_room (Nat.le_of_ble_eq_true rfl)) dX6_fallPercent_17 ⟨Nat.le_of_ble_eq_true rfl, Nat.le_of_ble_eq_true rfl⟩) (fun _ _ H locs z7 hP hD hS => ?_)
  subst z7
  rw [List.append_nil] at hP hD
  have hP : va_P G vwCl (wTP cA ta pa T_4 P L_5) H := hP
  have hD : va_D A (wTP cA ta pa T_4 P L_5) := hD
  refine lv_lstore_n (lv' := [(2, .long r3), (0, .ref (ta 0)), (1, .int x1)]) hx hb dX6_fallPercent_20 rfl hl (by decide) rfl (fun ls hl => ?_)
  refine lv_lload_n hx hb dX6_fallPercent_21 rfl (lv_at hl 0 rfl) ?_
  refine lv_ldc2 (v := (-9223372036854775808)) hx hb hown (hT _ kw_33_15) dX6_fallPercent_22 ?_
  refine W.lcmp hx hb dX6_fallPercent_25 ?_
  refine lv_if_eq (tgt := 33) hx hb dX6_fallPercent_26 (by decide) (fun c8 => ?_) (fun c8 => ?_)
  · have h := tx_pos c8 h
    refine lv_aload_n hx hb dX6_fallPercent_33 rfl (lv_at hl 1 rfl) ?_
    refine va_get (D := G) (ci := 6) (v := .int (T_4 0 4)) (C := RX6) (T := TX6) (N := 20) hx hb hT ku_6 hown hK hP 0 rfl rfl 4 (by decide) (hT _ kw_8_9) (fun _ h9 => h9) rfl dX6_fallPercent_34 ?_
    refine lv_bipush (v := 10) hx hb dX6_fallPercent_37 (by decide) ?_
    refine lv_aload_n hx hb dX6_fallPercent_39 rfl (lv_at hl 1 rfl) ?_
    refine lv_iload_n hx hb dX6_fallPercent_40 rfl (lv_at hl 2 rfl) ?_
    obtain ⟨r9, hc10, h⟩ := tx_bd h
    refine tw_ci tw_all hP hD hS hA (va_runV (As := [.int x1]) (rest := [.int 10, .int (T_4 0 4)]) ⟨hx, hb, hml, hown, hT⟩ (c_X6_level l G cA H.size ta pa T_4 P L_5 x1  r9 hc10) (cwV 1 hT (tq_gV kw_30_14 kw_30_15 kw_30_16 kw_1_23 kw_30_17) rfl rfl rfl (by decide +kernel) ⟨Nat.le_of_ble_eq_true rfl, Nat.le_of_ble_eq_true rfl⟩) ⟨(tw_pre tw_all hP hD hK hN).1, va_recv hK hP (ci := 6) (q0 := 0) rfl rfl, (tw_pre tw_all hP hD hK hN).2⟩ rfl rfl hl.1 rfl (lv_room (Nat.le_of_ble_eq_true rfl)) dX6_fallPercent_41 ⟨Nat.le_of_ble_eq_true rfl, Nat.le_of_ble_eq_true rfl⟩) (fun _ _ H locs z11 hP hD hS => ?_)
    subst z11
    rw [List.append_nil] at hP hD
    have hP : va_P G vwCl (wTP cA ta pa T_4 P L_5) H := hP
    have hD : va_D A (wTP cA ta pa T_4 P L_5) := hD
    refine lv_imul hx hb dX6_fallPercent_44 ?_
    refine lv_iadd hx hb dX6_fallPercent_45 ?_
    refine lv_aload_n hx hb dX6_fallPercent_46 rfl (lv_at hl 1 rfl) ?_
    refine va_get (D := G) (ci := 6) (v := .ref (pa 0)) (C := RX6) (T := TX6) (N := 20) hx hb hT ku_6 hown hK hP 0 rfl rfl 19 (by decide) (hT _ kw_8_1) (fun _ h9 => h9) rfl dX6_fallPercent_47 ?_
    refine va_get (D := G) (ci := 2) (v := .ref (pa 15)) (C := RX2) (T := TX2) (N := 19) hx hb hT ku_2 hown hK hP 12 rfl rfl 14 (by decide) (hT _ kw_33_16) (fun _ h9 => h9) rfl dX6_fallPercent_50 ?_
    refine lv_iload_n hx hb dX6_fallPercent_53 rfl (lv_at hl 2 rfl) ?_
    refine va_iald (i := x1) hx hb hK hP 20 0 rfl rfl (tx_in g1) dX6_fallPercent_54 ?_
    refine lv_isub hx hb dX6_fallPercent_55 ?_
    refine lv_i2l hx hb dX6_fallPercent_56 rfl ?_
    exact w_X6_fallPercent_J57 F ((((T_4 0 4) + ((10 : Int32) * r9)) - (P 15 x1.toNatClampNeg)).toInt64) T_4 L_5 H locs ls h hP hD hS (lv_sub hl [] rfl)
  · have h := tx_neg c8 h
    refine lv_lload_n hx hb dX6_fallPercent_29 rfl (lv_at hl 0 rfl) ?_
    refine lv_goto (tgt := 57) hx hb dX6_fallPercent_30 (by decide) ?_
    exact w_X6_fallPercent_J57 F r3 T_4 L_5 H locs ls h hP hD hS (lv_sub hl [] rfl)
abbrev G_X6_happens (p : Program) (l : Launch) (e : Env) (s : State) (m : MethodId) (below : List Frame) (meth : Method) (c : Code) (G : va_G) (cA : Nat → ClassId) (A : Nat → Prop) (ta : Nat → Nat) (pa : Nat → Nat) (P : Tr) (L : Lo) (x1 : Int32) (r0 : Int32) (T' : Tr) (H : Heap) (locs : List Loc) (g : JFrame) : Prop := W p l e (headSpec (.code yX6_happens cX6_happens 2 (some .boolean) :: T0) ({ frames := 0, cells := 0, slots := 0, locals := 0 } : Room)).room s m ([.ref (ta 0), .int x1] : List Value).toArray below meth c H locs 0 0 (MQ below (tqQi G cA (fun (r : Int32) (_ : Unit) => r = r0) (fun (_ : Unit) => wTP cA ta pa (T') P L) A) ([.ref (ta 0), .int x1] : List Value).toArray s 0 0 A) g
set_option maxHeartbeats 4000000 in
set_option maxRecDepth 100000 in
theorem c_X6_happens (l : Launch) (G : va_G) (cA : Nat → ClassId) (sz : Nat) (ta : Nat → Nat) (pa : Nat → Nat) (T : Tr) (P : Tr) (L : Lo) (x1 : Int32)  (r0 : Int32) (T' : Tr) (h : f_X6_happens T x1 = some (r0, T')) : Met l yX6_happens (.code yX6_happens cX6_happens 2 (some .boolean) :: T0) ({ frames := 0, cells := 0, slots := 0, locals := 0 } : Room) (tqP G cA [.ref (ta 0), .int x1] (wTP cA ta pa T P L) sz) (tqQi G cA (fun (r : Int32) (_ : Unit) => r = r0) (fun (_ : Unit) => wTP cA ta pa (T') P L) (va_A (wTP cA ta pa T P L) sz)) 0 0 (va_A (wTP cA ta pa T P L) sz) := by
  refine Met.ofW (cc := cX6_happens) (maxL := 2) (ret := (some .boolean)) (by decide) rfl ?_
  intro p e s m args below meth c s₁ B hml hv
  obtain ⟨rfl, hsz, hP, hK, hD0, hN⟩ := hv
  have hx := B.exec
  have hb := B.bytes
  have hr := B.returns
  have hts := atoms_spec (ws := .code yX6_happens cX6_happens 2 (some .boolean) :: T0) B.pre
  have hT : ∀ w ∈ T0, w.before _ s = true := fun w h => hts w (List.mem_cons_of_mem _ h)
  have hown : s.vm.findClass RX6 = some m.cls := findClass_of_methodNamed B.named
  have hlocks := B.notSynchronized
  subst hsz
  have hD := hD0.self (sz := s.heap.size)
  generalize hAe : va_A (wTP cA ta pa T P L) s.heap.size = A at hD ⊢
  have hA : ∀ q : Nat, s.heap.size ≤ q → A q := fun q h => by rw [← hAe]; exact Or.inr h
  have hS : va_S A s.heap s.heap [] := va_S.rf
  have hl := lv_entry ([.ref (ta 0), .int x1]) (n := 2) (Nat.le_of_ble_eq_true rfl)
  rw [lg_entry_eq]
  generalize (lg_sl ([.ref (ta 0), .int x1]) ++ List.replicate (2 - (lg_sl ([.ref (ta 0), .int x1])).length) Slot.unset).toArray = ls at hl ⊢
  have hl : lv_has ls 2 [(0, .ref (ta 0)), (1, .int x1)] := hl
  have F : tF p s m ([.ref (ta 0), .int x1] : List Value).toArray meth c G cA A RX6 cX6_happens 2 (some .boolean) := ⟨hx, hb, hr, hml, hT, hown, hlocks, hK, hN, hA⟩
  obtain ⟨H, hH⟩ : ∃ z, z = s.heap := ⟨_, rfl⟩
  rw [← hH] at hP
  have hS : va_S A s.heap H [] := by rw [hH]; exact hS
  suffices hgo : G_X6_happens p l e s m below meth c G cA A ta pa P L x1 r0 T' H [] (F0 m 0 ls []) by rw [hH] at hgo; exact hgo
  generalize ([] : List Loc) = locs at hS ⊢
  unfold f_X6_happens at h
  refine lv_aload_n hx hb dX6_happens_0 rfl (lv_at hl 0 rfl) ?_
  refine va_get (D := G) (ci := 6) (v := .int (T 0 5)) (C := RX6) (T := TX6) (N := 20) hx hb hT ku_6 hown hK hP 0 rfl rfl 5 (by decide) (hT _ kw_7_18) (fun _ h9 => h9) rfl dX6_happens_1 ?_
  refine lv_if_ne (tgt := 19) hx hb dX6_happens_4 (by decide) (fun c1 => ?_) (fun c1 => ?_)
  · have h := tx_neg c1 h
    refine lv_aload_n hx hb dX6_happens_19 rfl (lv_at hl 0 rfl) ?_
    refine lv_aload_n hx hb dX6_happens_20 rfl (lv_at hl 0 rfl) ?_
    refine va_get (D := G) (ci := 6) (v := .int (T 0 2)) (C := RX6) (T := TX6) (N := 20) hx hb hT ku_6 hown hK hP 0 rfl rfl 2 (by decide) (hT _ kw_8_5) (fun _ h9 => h9) rfl dX6_happens_21 ?_
    refine lv_ldc (v := 1103515245) hx hb hown (hT _ kw_43_0) dX6_happens_24 ?_
    refine lv_imul hx hb dX6_happens_26 ?_
    refine lv_sipush (v := 12345) hx hb dX6_happens_27 (by decide) ?_
    refine lv_iadd hx hb dX6_happens_30 ?_
    refine lv_ldc (v := 2147483647) hx hb hown (hT _ kw_43_1) dX6_happens_31 ?_
    refine lv_iand hx hb dX6_happens_33 ?_
    refine va_put (D := G) (ci := 6) (v := .int ((((T 0 2) * 1103515245) + 12345) &&& 2147483647)) (ty := .int) (C := RX6) (T := TX6) (N := 20) hx hb hT ku_6 tyX6 tyX6_ok nmX6 hown hK hP hD hS 0 rfl rfl 2 (by decide) (hT _ kw_8_5) (fun _ h9 => h9) rfl (by decide +kernel) rfl rfl (Nat.le_of_ble_eq_true rfl) dX6_happens_34 (fun H locs hP hD hS => ?_)
    obtain ⟨T_2, eT_2, h⟩ := tx_lt h
    rw [sTP_ta_f2, eT_2] at hP hD
    refine lv_iload_n hx hb dX6_happens_37 rfl (lv_at hl 1 rfl) ?_
    refine lv_aload_n hx hb dX6_happens_38 rfl (lv_at hl 0 rfl) ?_
    refine va_get (D := G) (ci := 6) (v := .int (T_2 0 2)) (C := RX6) (T := TX6) (N := 20) hx hb hT ku_6 hown hK hP 0 rfl rfl 2 (by decide) (hT _ kw_8_5) (fun _ h9 => h9) rfl dX6_happens_39 ?_
    refine lv_bipush (v := 16) hx hb dX6_happens_42 (by decide) ?_
    refine lv_iushr hx hb dX6_happens_44 rfl ?_
    refine lv_bipush (v := 100) hx hb dX6_happens_45 (by decide) ?_
    refine lv_irem hx hb dX6_happens_47 (by decide) ?_
    refine lv_icmp_le (tgt := 55) hx hb dX6_happens_48 (by decide) (fun c3 => ?_) (fun c3 => ?_)
    · have h := tx_pos c3 h
      refine lv_iconst (v := 0) hx hb dX6_happens_55 (by decide) ?_
      obtain ⟨rfl, rfl⟩ := tx_2 h
      exact W.zret (ty := .boolean) hx hb hr rfl (fun t ht hW => ⟨⟨_, (), rfl, rfl, by rw [ht]; exact hP, hD⟩, hS.F ht⟩) hS.2.2 dX6_happens_56
    · have h := tx_neg c3 h
      refine lv_iconst (v := 1) hx hb dX6_happens_51 (by decide) ?_
      refine lv_goto (tgt := 56) hx hb dX6_happens_52 (by decide) ?_
      obtain ⟨rfl, rfl⟩ := tx_2 h
      exact W.zret (ty := .boolean) hx hb hr rfl (fun t ht hW => ⟨⟨_, (), rfl, rfl, by rw [ht]; exact hP, hD⟩, hS.F ht⟩) hS.2.2 dX6_happens_56
  · have h := tx_pos c1 h
    refine lv_iload_n hx hb dX6_happens_7 rfl (lv_at hl 1 rfl) ?_
    refine lv_bipush (v := 50) hx hb dX6_happens_8 (by decide) ?_
    refine lv_icmp_lt (tgt := 17) hx hb dX6_happens_10 (by decide) (fun c4 => ?_) (fun c4 => ?_)
    · have h := tx_pos c4 h
      refine lv_iconst (v := 0) hx hb dX6_happens_17 (by decide) ?_
      obtain ⟨rfl, rfl⟩ := tx_2 h
      exact W.zret (ty := .boolean) hx hb hr rfl (fun t ht hW => ⟨⟨_, (), rfl, rfl, by rw [ht]; exact hP, hD⟩, hS.F ht⟩) hS.2.2 dX6_happens_18
    · have h := tx_neg c4 h
      refine lv_iconst (v := 1) hx hb dX6_happens_13 (by decide) ?_
      refine lv_goto (tgt := 18) hx hb dX6_happens_14 (by decide) ?_
      obtain ⟨rfl, rfl⟩ := tx_2 h
      exact W.zret (ty := .boolean) hx hb hr rfl (fun t ht hW => ⟨⟨_, (), rfl, rfl, by rw [ht]; exact hP, hD⟩, hS.F ht⟩) hS.2.2 dX6_happens_18
abbrev G_X6_takeAway (p : Program) (l : Launch) (e : Env) (s : State) (m : MethodId) (below : List Frame) (meth : Method) (c : Code) (G : va_G) (cA : Nat → ClassId) (A : Nat → Prop) (ta : Nat → Nat) (pa : Nat → Nat) (P : Tr) (L : Lo) (x1 : Int32) (x2 : Int32) (T' : Tr) (H : Heap) (locs : List Loc) (g : JFrame) : Prop := W p l e (headSpec (.code yX6_takeAway cX6_takeAway 6 none :: T0) ({ frames := 1, cells := 0, slots := 0, locals := 23 } : Room)).room s m ([.ref (ta 0), .int x1, .int x2] : List Value).toArray below meth c H locs 0 0 (MQ below (tqQv G cA (fun (_ : Unit) => True) (fun (_ : Unit) => wTP cA ta pa (T') P L) A) ([.ref (ta 0), .int x1, .int x2] : List Value).toArray s 0 0 A) g
set_option maxHeartbeats 4000000 in
set_option maxRecDepth 100000 in
theorem w_X6_takeAway_J70 {p : Program} {l : Launch} {e : Env} {s : State} {m : MethodId} {below : List Frame} {meth : Method} {c : Code} {G : va_G} {cA : Nat → ClassId} {A : Nat → Prop} {ta : Nat → Nat} {pa : Nat → Nat} {P : Tr} {L : Lo} {x1₀ : Int32} {x2₀ : Int32} {T' : Tr} (F : tF p s m ([.ref (ta 0), .int x1₀, .int x2₀] : List Value).toArray meth c G cA A RX6 cX6_takeAway 6 none)    (x1 : Int32) (x2 : Int32) (x4 : Int32) (T : Tr) (H : Heap) (locs : List Loc) (ls : Array Slot) (h : fJ_X6_takeAway_J70 P x1 x2 x4 T = some T') (hP : va_P G vwCl (wTP cA ta pa T_14 P L) H) (hD : va_D A (wTP cA ta pa T_14 P L)) (hS : va_S A s.heap H locs) (hl : lv_has ls 6 [(0, .ref (ta 0)), (1, .int x1), (2, .int x2), (4, .int x4)]) : G_X6_takeAway p l e s m below meth c G cA A ta pa P L x1₀ x2₀ T' H locs (F0 m 70 ls []) := by
  obtain ⟨hx, hb, hr, hml, hT, hown, hlocks, hK, hN, hA⟩ := id F
  unfold fJ_X6_takeAway_J70 at h
  refine lv_aload_n hx hb dX6_takeAway_70 rfl (lv_at hl 0 rfl) ?_
  refine va_get (D := G) (ci := 6) (v := .ref (ta 17)) (C := RX6) (T := TX6) (N := 20) hx hb hT ku_6 hown hK hP 0 rfl rfl 16 (by decide) (hT _ kw_7_15) (fun _ h9 => h9) rfl dX6_takeAway_71 ?_
  refine lv_iload hx hb dX6_takeAway_74 (lv_at hl 3 rfl) ?_
  refine lv_dup2_11 hx hb dX6_takeAway_76 rfl rfl ?_
  obtain ⟨g9, h⟩ := tx_ck h
  refine va_iald (i := x4) hx hb hK hP 9 0 rfl rfl (tx_in g9) dX6_takeAway_77 ?_
  refine lv_iconst (v := 1) hx hb dX6_takeAway_78 (by decide) ?_
  refine lv_isub hx hb dX6_takeAway_79 ?_
  refine va_iast (i := x4) hx hb hK hP hD hS 9 0 rfl rfl (tx_in g9) dX6_takeAway_80 (fun H locs hP hD hS => ?_)
  obtain ⟨T_10, eT_10, h⟩ := tx_lt h
  rw [sTP_ta_a16, eT_10] at hP hD
  refine lv_aload_n hx hb dX6_takeAway_81 rfl (lv_at hl 0 rfl) ?_
  refine va_get (D := G) (ci := 6) (v := .ref (ta 18)) (C := RX6) (T := TX6) (N := 20) hx hb hT ku_6 hown hK hP 0 rfl rfl 17 (by decide) (hT _ kw_7_16) (fun _ h9 => h9) rfl dX6_takeAway_82 ?_
  refine lv_iload hx hb dX6_takeAway_85 (lv_at hl 3 rfl) ?_
  refine lv_dup2_11 hx hb dX6_takeAway_87 rfl rfl ?_
  refine va_iald (i := x4) hx hb hK hP 10 0 rfl rfl (tx_in g9) dX6_takeAway_88 ?_
  refine lv_aload_n hx hb dX6_takeAway_89 rfl (lv_at hl 0 rfl) ?_
  refine va_get (D := G) (ci := 6) (v := .ref (pa 0)) (C := RX6) (T := TX6) (N := 20) hx hb hT ku_6 hown hK hP 0 rfl rfl 19 (by decide) (hT _ kw_8_1) (fun _ h9 => h9) rfl dX6_takeAway_90 ?_
  refine va_get (D := G) (ci := 2) (v := .ref (pa 15)) (C := RX2) (T := TX2) (N := 19) hx hb hT ku_2 hown hK hP 12 rfl rfl 14 (by decide) (hT _ kw_33_16) (fun _ h9 => h9) rfl dX6_takeAway_93 ?_
  refine lv_iload_n hx hb dX6_takeAway_96 rfl (lv_at hl 1 rfl) ?_
  obtain ⟨g11, h⟩ := tx_ck h
  refine va_iald (i := x1) hx hb hK hP 20 0 rfl rfl (tx_in g11) dX6_takeAway_97 ?_
  refine lv_isub hx hb dX6_takeAway_98 ?_
  refine va_iast (i := x4) hx hb hK hP hD hS 10 0 rfl rfl (tx_in g9) dX6_takeAway_99 (fun H locs hP hD hS => ?_)
  obtain ⟨T_12, eT_12, h⟩ := tx_lt h
  rw [sTP_ta_a17, eT_12] at hP hD
  refine lv_aload_n hx hb dX6_takeAway_100 rfl (lv_at hl 0 rfl) ?_
  refine va_get (D := G) (ci := 6) (v := .ref (ta 15)) (C := RX6) (T := TX6) (N := 20) hx hb hT ku_6 hown hK hP 0 rfl rfl 14 (by decide) (hT _ kw_7_13) (fun _ h9 => h9) rfl dX6_takeAway_101 ?_
  refine lv_iload_n hx hb dX6_takeAway_104 rfl (lv_at hl 1 rfl) ?_
  refine lv_iconst (v := (-1)) hx hb dX6_takeAway_105 (by decide) ?_
  refine va_iast (i := x1) hx hb hK hP hD hS 7 0 rfl rfl (tx_in g11) dX6_takeAway_106 (fun H locs hP hD hS => ?_)
  obtain ⟨T_13, eT_13, h⟩ := tx_lt h
  rw [sTP_ta_a14, eT_13] at hP hD
  refine lv_aload_n hx hb dX6_takeAway_107 rfl (lv_at hl 0 rfl) ?_
  refine va_get (D := G) (ci := 6) (v := .ref (ta 14)) (C := RX6) (T := TX6) (N := 20) hx hb hT ku_6 hown hK hP 0 rfl rfl 13 (by decide) (hT _ kw_7_12) (fun _ h9 => h9) rfl dX6_takeAway_108 ?_
  refine lv_iload_n hx hb dX6_takeAway_111 rfl (lv_at hl 1 rfl) ?_
  refine lv_iload_n hx hb dX6_takeAway_112 rfl (lv_at hl 2 rfl) ?_
  refine va_iast (i := x1) hx hb hK hP hD hS 6 0 rfl rfl (tx_in g11) dX6_takeAway_113 (fun H locs hP hD hS => ?_)
  obtain ⟨T_14, eT_14, h⟩ := tx_lt h
  rw [sTP_ta_a13, eT_14] at hP hD
  obtain rfl := tx_1 h
  exact W.vret hx hb hr (fun t ht hW => ⟨⟨(), rfl, trivial, by rw [ht]; exact hP, hD⟩, hS.F ht⟩) hS.2.2 dX6_takeAway_114
set_option maxHeartbeats 4000000 in
set_option maxRecDepth 100000 in
theorem w_X6_takeAway_L22 {p : Program} {l : Launch} {e : Env} {s : State} {m : MethodId} {below : List Frame} {meth : Method} {c : Code} {G : va_G} {cA : Nat → ClassId} {A : Nat → Prop} {ta : Nat → Nat} {pa : Nat → Nat} {P : Tr} {L : Lo} {x1₀ : Int32} {x2₀ : Int32} {T' : Tr} {x1 : Int32} {x2 : Int32} {x4 : Int32} (F : tF p s m ([.ref (ta 0), .int x1₀, .int x2₀] : List Value).toArray meth c G cA A RX6 cX6_takeAway 6 none)    (N : Nat) : ∀ (x5 : Int32) (T : Tr) (H : Heap) (locs : List Loc) (ls : Array Slot), lpF (fun _ _ => none) (fB_X6_takeAway_L22 P x1 x2 x4) N x5 T = some T' → va_P G vwCl (wTP cA ta pa T P L) H → va_D A (wTP cA ta pa T P L) → va_S A s.heap H locs → lv_has ls 6 [(0, .ref (ta 0)), (1, .int x1), (2, .int x2), (4, .int x4), (5, .int x5)] → G_X6_takeAway p l e s m below meth c G cA A ta pa P L x1₀ x2₀ T' H locs (F0 m 22 ls []) := by
  obtain ⟨hx, hb, hr, hml, hT, hown, hlocks, hK, hN, hA⟩ := id F
  induction N with
  | zero =>
    intro x5 T H locs ls h
    have h : (none : Option (Tr)) = some T' := h
    cases h
  | succ N hk22 =>
    intro x5 T H locs ls h hP hD hS hl
    have h : fB_X6_takeAway_L22 P x1 x2 x4 (lpF (fun _ _ => none) (fB_X6_takeAway_L22 P x1 x2 x4) N) x5 T = some T' := h
    generalize hk22e : lpF (fun _ _ => none) (fB_X6_takeAway_L22 P x1 x2 x4) N = k22 at h hk22
    unfold fB_X6_takeAway_L22 at h
    refine lv_iload hx hb dX6_takeAway_22 (lv_at hl 4 rfl) ?_
    refine lv_iconst (v := 1) hx hb dX6_takeAway_24 (by decide) ?_
    refine lv_iadd hx hb dX6_takeAway_25 ?_
    refine lv_aload_n hx hb dX6_takeAway_26 rfl (lv_at hl 0 rfl) ?_
    refine va_get (D := G) (ci := 6) (v := .ref (ta 17)) (C := RX6) (T := TX6) (N := 20) hx hb hT ku_6 hown hK hP 0 rfl rfl 16 (by decide) (hT _ kw_7_15) (fun _ h9 => h9) rfl dX6_takeAway_27 ?_
    refine lv_iload hx hb dX6_takeAway_30 (lv_at hl 3 rfl) ?_
    obtain ⟨g7, h⟩ := tx_ck h
    refine va_iald (i := x4) hx hb hK hP 9 0 rfl rfl (tx_in g7) dX6_takeAway_32 ?_
    refine lv_icmp_ge (tgt := 70) hx hb dX6_takeAway_33 (by decide) (fun c8 => ?_) (fun c8 => ?_)
    · have h := tx_pos c8 h
      exact w_X6_takeAway_J70 F x1 x2 x4 T H locs ls h hP hD hS (lv_sub hl [0, 1, 2, 3] rfl)
    · have h := tx_neg c8 h
      refine lv_aload_n hx hb dX6_takeAway_36 rfl (lv_at hl 0 rfl) ?_
      refine va_get (D := G) (ci := 6) (v := .ref (ta 16)) (C := RX6) (T := TX6) (N := 20) hx hb hT ku_6 hown hK hP 0 rfl rfl 15 (by decide) (hT _ kw_7_14) (fun _ h9 => h9) rfl dX6_takeAway_37 ?_
      refine lv_iload hx hb dX6_takeAway_40 (lv_at hl 3 rfl) ?_
      refine lv_bipush (v := 10) hx hb dX6_takeAway_42 (by decide) ?_
      refine lv_imul hx hb dX6_takeAway_44 ?_
      refine lv_iload hx hb dX6_takeAway_45 (lv_at hl 4 rfl) ?_
      refine lv_iadd hx hb dX6_takeAway_47 ?_
      refine lv_aload_n hx hb dX6_takeAway_48 rfl (lv_at hl 0 rfl) ?_
      refine va_get (D := G) (ci := 6) (v := .ref (ta 16)) (C := RX6) (T := TX6) (N := 20) hx hb hT ku_6 hown hK hP 0 rfl rfl 15 (by decide) (hT _ kw_7_14) (fun _ h9 => h9) rfl dX6_takeAway_49 ?_
      refine lv_iload hx hb dX6_takeAway_52 (lv_at hl 3 rfl) ?_
      refine lv_bipush (v := 10) hx hb dX6_takeAway_54 (by decide) ?_
      refine lv_imul hx hb dX6_takeAway_56 ?_
      refine lv_iload hx hb dX6_takeAway_57 (lv_at hl 4 rfl) ?_
      refine lv_iadd hx hb dX6_takeAway_59 ?_
      refine lv_iconst (v := 1) hx hb dX6_takeAway_60 (by decide) ?_
      refine lv_iadd hx hb dX6_takeAway_61 ?_
      obtain ⟨g15, h⟩ := tx_ck h
      refine va_iald (i := (((x4 * 10) + x5) + 1)) hx hb hK hP 8 0 rfl rfl (tx_in g15) dX6_takeAway_62 ?_
      obtain ⟨g16, h⟩ := tx_ck h
      refine va_iast (i := ((x4 * 10) + x5)) hx hb hK hP hD hS 8 0 rfl rfl (tx_in g16) dX6_takeAway_63 (fun H locs hP hD hS => ?_)
      obtain ⟨T_17, eT_17, h⟩ := tx_lt h
      rw [sTP_ta_a15, eT_17] at hP hD
      obtain ⟨y18, ey18, h⟩ := tx_lt h
      refine lv_iinc (v := y18) (lv' := [(5, .int y18), (0, .ref (ta 0)), (1, .int x1), (2, .int x2), (4, .int x4)]) hx hb dX6_takeAway_64 hl (k := 4) rfl ey18 (by decide) rfl (fun ls hl => ?_)
      refine lv_goto (tgt := 22) hx hb dX6_takeAway_67 (by decide) ?_
      exact hk22 y18 T_17 H locs ls h hP hD hS (lv_sub hl [1, 2, 3, 4, 0] rfl)
set_option maxHeartbeats 4000000 in
set_option maxRecDepth 100000 in
theorem c_X6_takeAway (l : Launch) (G : va_G) (cA : Nat → ClassId) (sz : Nat) (ta : Nat → Nat) (pa : Nat → Nat) (T : Tr) (P : Tr) (L : Lo) (x1 : Int32) (x2 : Int32)  (T' : Tr) (h : f_X6_takeAway T P x1 x2 = some T') : Met l yX6_takeAway (.code yX6_takeAway cX6_takeAway 6 none :: T0) ({ frames := 1, cells := 0, slots := 0, locals := 23 } : Room) (tqP G cA [.ref (ta 0), .int x1, .int x2] (wTP cA ta pa T P L) sz) (tqQv G cA (fun (_ : Unit) => True) (fun (_ : Unit) => wTP cA ta pa (T') P L) (va_A (wTP cA ta pa T P L) sz)) 0 0 (va_A (wTP cA ta pa T P L) sz) := by
  refine Met.ofW (cc := cX6_takeAway) (maxL := 6) (ret := none) (by decide) rfl ?_
  intro p e s m args below meth c s₁ B hml hv
  obtain ⟨rfl, hsz, hP, hK, hD0, hN⟩ := hv
  have hx := B.exec
  have hb := B.bytes
  have hr := B.returns
  have hts := atoms_spec (ws := .code yX6_takeAway cX6_takeAway 6 none :: T0) B.pre
  have hT : ∀ w ∈ T0, w.before _ s = true := fun w h => hts w (List.mem_cons_of_mem _ h)
  have hown : s.vm.findClass RX6 = some m.cls := findClass_of_methodNamed B.named
  have hlocks := B.notSynchronized
  subst hsz
  have hD := hD0.self (sz := s.heap.size)
  generalize hAe : va_A (wTP cA ta pa T P L) s.heap.size = A at hD ⊢
  have hA : ∀ q : Nat, s.heap.size ≤ q → A q := fun q h => by rw [← hAe]; exact Or.inr h
  have hS : va_S A s.heap s.heap [] := va_S.rf
  have hl := lv_entry ([.ref (ta 0), .int x1, .int x2]) (n := 6) (Nat.le_of_ble_eq_true rfl)
  rw [lg_entry_eq]
  generalize (lg_sl ([.ref (ta 0), .int x1, .int x2]) ++ List.replicate (6 - (lg_sl ([.ref (ta 0), .int x1, .int x2])).length) Slot.unset).toArray = ls at hl ⊢
  have hl : lv_has ls 6 [(0, .ref (ta 0)), (1, .int x1), (2, .int x2)] := hl
  have F : tF p s m ([.ref (ta 0), .int x1, .int x2] : List Value).toArray meth c G cA A RX6 cX6_takeAway 6 none := ⟨hx, hb, hr, hml, hT, hown, hlocks, hK, hN, hA⟩
  obtain ⟨H, hH⟩ : ∃ z, z = s.heap := ⟨_, rfl⟩
  rw [← hH] at hP
  have hS : va_S A s.heap H [] := by rw [hH]; exact hS
  suffices hgo : G_X6_takeAway p l e s m below meth c G cA A ta pa P L x1 x2 T' H [] (F0 m 0 ls []) by rw [hH] at hgo; exact hgo
  generalize ([] : List Loc) = locs at hS ⊢
  unfold f_X6_takeAway at h
  refine lv_aload_n hx hb dX6_takeAway_0 rfl (lv_at hl 0 rfl) ?_
  refine lv_iload_n hx hb dX6_takeAway_1 rfl (lv_at hl 1 rfl) ?_
  obtain ⟨r1, hc2, h⟩ := tx_bd h
  refine tw_ci tw_all hP hD hS hA (va_runV (As := [.int x1]) (rest := []) ⟨hx, hb, hml, hown, hT⟩ (c_X6_level l G cA H.size ta pa T P L x1  r1 hc2) (cwV 1 hT (tq_gV kw_30_14 kw_30_15 kw_30_16 kw_1_23 kw_30_17) rfl rfl rfl (by decide +kernel) ⟨Nat.le_of_ble_eq_true rfl, Nat.le_of_ble_eq_true rfl⟩) ⟨(tw_pre tw_all hP hD hK hN).1, va_recv hK hP (ci := 6) (q0 := 0) rfl rfl, (tw_pre tw_all hP hD hK hN).2⟩ rfl rfl hl.1 rfl (lv_room (Nat.le_of_ble_eq_true rfl)) dX6_takeAway_2 ⟨Nat.le_of_ble_eq_true rfl, Nat.le_of_ble_eq_true rfl⟩) (fun _ _ H locs z3 hP hD hS => ?_)
  subst z3
  rw [List.append_nil] at hP hD
  have hP : va_P G vwCl (wTP cA ta pa T P L) H := hP
  have hD : va_D A (wTP cA ta pa T P L) := hD
  refine lv_istore_n (lv' := [(3, .int r1), (0, .ref (ta 0)), (1, .int x1), (2, .int x2)]) hx hb dX6_takeAway_5 rfl hl (by decide) rfl (fun ls hl => ?_)
  refine lv_iload_n hx hb dX6_takeAway_6 rfl (lv_at hl 0 rfl) ?_
  refine lv_if_ge (tgt := 11) hx hb dX6_takeAway_7 (by decide) (fun c4 => ?_) (fun c4 => ?_)
  · have h := tx_pos c4 h
    refine lv_aload_n hx hb dX6_takeAway_11 rfl (lv_at hl 1 rfl) ?_
    refine va_get (D := G) (ci := 6) (v := .ref (ta 15)) (C := RX6) (T := TX6) (N := 20) hx hb hT ku_6 hown hK hP 0 rfl rfl 14 (by decide) (hT _ kw_7_13) (fun _ h9 => h9) rfl dX6_takeAway_12 ?_
    refine lv_iload_n hx hb dX6_takeAway_15 rfl (lv_at hl 2 rfl) ?_
    obtain ⟨g5, h⟩ := tx_ck h
    refine va_iald (i := x1) hx hb hK hP 7 0 rfl rfl (tx_in g5) dX6_takeAway_16 ?_
    refine lv_topi (fun y6 ey6 => ?_)
    have h := tx_let ey6 h
    refine lv_istore (lv' := [(4, .int y6), (3, .int r1), (0, .ref (ta 0)), (1, .int x1), (2, .int x2)]) hx hb dX6_takeAway_17 hl (by decide) rfl (fun ls hl => ?_)
    refine lv_iload_n hx hb dX6_takeAway_19 rfl (lv_at hl 1 rfl) ?_
    refine lv_istore (lv' := [(5, .int r1), (4, .int y6), (3, .int r1), (0, .ref (ta 0)), (1, .int x1), (2, .int x2)]) hx hb dX6_takeAway_20 hl (by decide) rfl (fun ls hl => ?_)
    exact w_X6_takeAway_L22 F 2000 r1 T H locs ls h hP hD hS (lv_sub hl [3, 4, 5, 1, 0] rfl)
  · have h := tx_neg c4 h
    obtain rfl := tx_1 h
    exact W.vret hx hb hr (fun t ht hW => ⟨⟨(), rfl, trivial, by rw [ht]; exact hP, hD⟩, hS.F ht⟩) hS.2.2 dX6_takeAway_10
abbrev G_X6_fallOff (p : Program) (l : Launch) (e : Env) (s : State) (m : MethodId) (below : List Frame) (meth : Method) (c : Code) (G : va_G) (cA : Nat → ClassId) (A : Nat → Prop) (ta : Nat → Nat) (pa : Nat → Nat) (P : Tr) (r0 : Int32) (T' : Tr) (L' : Lo) (H : Heap) (locs : List Loc) (g : JFrame) : Prop := W p l e (headSpec (.code yX6_fallOff cX6_fallOff 4 (some .int) :: T0) ({ frames := 4, cells := 0, slots := 0, locals := 101 } : Room)).room s m ([.ref (ta 0)] : List Value).toArray below meth c H locs 0 0 (MQ below (tqQi G cA (fun (r : Int32) (_ : Unit) => r = r0) (fun (_ : Unit) => wTP cA ta pa (T') P (L')) A) ([.ref (ta 0)] : List Value).toArray s 0 0 A) g
set_option maxHeartbeats 4000000 in
set_option maxRecDepth 100000 in
theorem w_X6_fallOff_L4 {p : Program} {l : Launch} {e : Env} {s : State} {m : MethodId} {below : List Frame} {meth : Method} {c : Code} {G : va_G} {cA : Nat → ClassId} {A : Nat → Prop} {ta : Nat → Nat} {pa : Nat → Nat} {P : Tr} {r0 : Int32} {T' : Tr} {L' : Lo} (F : tF p s m ([.ref (ta 0)] : List Value).toArray meth c G cA A RX6 cX6_fallOff 4 (some .int))    (N : Nat) : ∀ (x1 : Int32) (x2 : Int32) (T : Tr) (L : Lo) (H : Heap) (locs : List Loc) (ls : Array Slot), lpF (fun _ _ _ _ => none) (fB_X6_fallOff_L4 P) N x1 x2 T L = some (r0, T', L') → va_P G vwCl (wTP cA ta pa T P L) H → va_D A (wTP cA ta pa T P L) → va_S A s.heap H locs → lv_has ls 4 [(0, .ref (ta 0)), (1, .int x1), (2, .int x2)] → G_X6_fallOff p l e s m below meth c G cA A ta pa P r0 T' L' H locs (F0 m 4 ls []) := by
  obtain ⟨hx, hb, hr, hml, hT, hown, hlocks, hK, hN, hA⟩ := id F
  induction N with
  | zero =>
    intro x1 x2 T L H locs ls h
    have h : (none : Option (Int32 × Tr × Lo)) = some (r0, T', L') := h
    cases h
  | succ N hk4 =>
    intro x1 x2 T L H locs ls h hP hD hS hl
    have h : fB_X6_fallOff_L4 P (lpF (fun _ _ _ _ => none) (fB_X6_fallOff_L4 P) N) x1 x2 T L = some (r0, T', L') := h
    generalize hk4e : lpF (fun _ _ _ _ => none) (fB_X6_fallOff_L4 P) N = k4 at h hk4
    unfold fB_X6_fallOff_L4 at h
    refine lv_iload_n hx hb dX6_fallOff_4 rfl (lv_at hl 2 rfl) ?_
    refine lv_aload_n hx hb dX6_fallOff_5 rfl (lv_at hl 0 rfl) ?_
    refine va_get (D := G) (ci := 6) (v := .ref (pa 0)) (C := RX6) (T := TX6) (N := 20) hx hb hT ku_6 hown hK hP 0 rfl rfl 19 (by decide) (hT _ kw_8_1) (fun _ h9 => h9) rfl dX6_fallOff_6 ?_
    refine va_get (D := G) (ci := 2) (v := .int (P 0 0)) (C := RX2) (T := TX2) (N := 19) hx hb hT ku_2 hown hK hP 12 rfl rfl 0 (by decide) (hT _ kw_42_0) (fun _ h9 => h9) rfl dX6_fallOff_9 ?_
    refine lv_icmp_ge (tgt := 70) hx hb dX6_fallOff_12 (by decide) (fun c1 => ?_) (fun c1 => ?_)
    · have h := tx_pos c1 h
      refine lv_iload_n hx hb dX6_fallOff_70 rfl (lv_at hl 1 rfl) ?_
      obtain ⟨rfl, rfl, rfl⟩ := tx_3 h
      exact W.iret hx hb hr (fun t ht hW => ⟨⟨_, (), rfl, rfl, by rw [ht]; exact hP, hD⟩, hS.F ht⟩) hS.2.2 dX6_fallOff_71
    · have h := tx_neg c1 h
      refine lv_aload_n hx hb dX6_fallOff_15 rfl (lv_at hl 0 rfl) ?_
      refine va_get (D := G) (ci := 6) (v := .int (T 0 6)) (C := RX6) (T := TX6) (N := 20) hx hb hT ku_6 hown hK hP 0 rfl rfl 6 (by decide) (hT _ kw_7_19) (fun _ h9 => h9) rfl dX6_fallOff_16 ?_
      refine lv_if_eq (tgt := 70) hx hb dX6_fallOff_19 (by decide) (fun c2 => ?_) (fun c2 => ?_)
      · have h := tx_pos c2 h
        refine lv_iload_n hx hb dX6_fallOff_70 rfl (lv_at hl 1 rfl) ?_
        obtain ⟨rfl, rfl, rfl⟩ := tx_3 h
        exact W.iret hx hb hr (fun t ht hW => ⟨⟨_, (), rfl, rfl, by rw [ht]; exact hP, hD⟩, hS.F ht⟩) hS.2.2 dX6_fallOff_71
      · have h := tx_neg c2 h
        refine lv_aload_n hx hb dX6_fallOff_22 rfl (lv_at hl 0 rfl) ?_
        refine lv_iload_n hx hb dX6_fallOff_23 rfl (lv_at hl 2 rfl) ?_
        obtain ⟨r3, hc4, h⟩ := tx_bd h
        refine tw_ci tw_all hP hD hS hA (va_runV (As := [.int x2]) (rest := []) ⟨hx, hb, hml, hown, hT⟩ (c_X6_top l G cA H.size ta pa T P L x2  r3 hc4) (cwV 1 hT (tq_gV kw_42_11 kw_32_4 kw_32_5 kw_1_23 kw_32_6) rfl rfl rfl (by decide +kernel) ⟨Nat.le_of_ble_eq_true rfl, Nat.le_of_ble_eq_true rfl⟩) ⟨(tw_pre tw_all hP hD hK hN).1, va_recv hK hP (ci := 6) (q0 := 0) rfl rfl, (tw_pre tw_all hP hD hK hN).2⟩ rfl rfl hl.1 rfl (lv_room (Nat.le_of_ble_eq_true rfl)) dX6_fallOff_24 ⟨Nat.le_of_ble_eq_true rfl, Nat.le_of_ble_eq_true rfl⟩) (fun _ _ H locs z5 hP hD hS => ?_)
        subst z5
        rw [List.append_nil] at hP hD
        have hP : va_P G vwCl (wTP cA ta pa T P L) H := hP
        have hD : va_D A (wTP cA ta pa T P L) := hD
        refine lv_istore_n (lv' := [(3, .int r3), (0, .ref (ta 0)), (1, .int x1), (2, .int x2)]) hx hb dX6_fallOff_27 rfl hl (by decide) rfl (fun ls hl => ?_)
        refine lv_iload_n hx hb dX6_fallOff_28 rfl (lv_at hl 0 rfl) ?_
        refine lv_if_lt (tgt := 64) hx hb dX6_fallOff_29 (by decide) (fun c6 => ?_) (fun c6 => ?_)
        · have h := tx_pos c6 h
          obtain ⟨y7, ey7, h⟩ := tx_lt h
          refine lv_iinc (v := y7) (lv' := [(2, .int y7), (3, .int r3), (0, .ref (ta 0)), (1, .int x1)]) hx hb dX6_fallOff_64 hl (k := 3) rfl ey7 (by decide) rfl (fun ls hl => ?_)
          refine lv_goto (tgt := 4) hx hb dX6_fallOff_67 (by decide) ?_
          exact hk4 x1 y7 T L H locs ls h hP hD hS (lv_sub hl [2, 3, 0] rfl)
        · have h := tx_neg c6 h
          refine lv_aload_n hx hb dX6_fallOff_32 rfl (lv_at hl 1 rfl) ?_
          refine lv_iload_n hx hb dX6_fallOff_33 rfl (lv_at hl 3 rfl) ?_
          obtain ⟨r8, hc9, h⟩ := tx_bd h
          refine tw_ci tw_all hP hD hS hA (va_runV (As := [.int x2]) (rest := []) ⟨hx, hb, hml, hown, hT⟩ (c_X6_isRack l G cA H.size ta pa T P L x2  r8 hc9) (cwV 1 hT (tq_gV kw_42_12 kw_42_13 kw_42_14 kw_1_23 kw_42_15) rfl rfl rfl (by decide +kernel) ⟨Nat.le_of_ble_eq_true rfl, Nat.le_of_ble_eq_true rfl⟩) ⟨(tw_pre tw_all hP hD hK hN).1, va_recv hK hP (ci := 6) (q0 := 0) rfl rfl, (tw_pre tw_all hP hD hK hN).2⟩ rfl rfl hl.1 rfl (lv_room (Nat.le_of_ble_eq_true rfl)) dX6_fallOff_34 ⟨Nat.le_of_ble_eq_true rfl, Nat.le_of_ble_eq_true rfl⟩) (fun _ _ H locs z10 hP hD hS => ?_)
          subst z10
          rw [List.append_nil] at hP hD
          have hP : va_P G vwCl (wTP cA ta pa T P L) H := hP
          have hD : va_D A (wTP cA ta pa T P L) := hD
          refine lv_if_eq (tgt := 64) hx hb dX6_fallOff_37 (by decide) (fun c11 => ?_) (fun c11 => ?_)
          · have h := tx_pos c11 h
            obtain ⟨y12, ey12, h⟩ := tx_lt h
            refine lv_iinc (v := y12) (lv' := [(2, .int y12), (3, .int r3), (0, .ref (ta 0)), (1, .int x1)]) hx hb dX6_fallOff_64 hl (k := 3) rfl ey12 (by decide) rfl (fun ls hl => ?_)
            refine lv_goto (tgt := 4) hx hb dX6_fallOff_67 (by decide) ?_
            exact hk4 x1 y12 T L H locs ls h hP hD hS (lv_sub hl [2, 3, 0] rfl)
          · have h := tx_neg c11 h
            refine lv_aload_n hx hb dX6_fallOff_40 rfl (lv_at hl 1 rfl) ?_
            refine lv_aload_n hx hb dX6_fallOff_41 rfl (lv_at hl 1 rfl) ?_
            refine lv_iload_n hx hb dX6_fallOff_42 rfl (lv_at hl 0 rfl) ?_
            obtain ⟨⟨r13, T_14, L_15⟩, hc16, h⟩ := tx_bd h
            replace h := tx_let (y := r13) rfl h
            replace h := tx_let (y := T_14) rfl h
            replace h := tx_let (y := L_15) rfl h
            refine tw_ci tw_all hP hD hS hA (va_runV (As := [.int r3]) (rest := [.ref (ta 0)]) ⟨hx, hb, hml, hown, hT⟩ (c_X6_fallPercent l G cA H.size ta pa T P L r3  r13 T_14 L_15 hc16) (cwV 1 hT (tq_gV kw_42_16 kw_42_17 kw_42_18 kw_1_23 kw_42_19) rfl rfl rfl (by decide +kernel) ⟨Nat.le_of_ble_eq_true rfl, Nat.le_of_ble_eq_true rfl⟩) ⟨(tw_pre tw_all hP hD hK hN).1, va_recv hK hP (ci := 6) (q0 := 0) rfl rfl, (tw_pre tw_all hP hD hK hN).2⟩ rfl rfl hl.1 rfl (lv_room (Nat.le_of_ble_eq_true rfl)) dX6_fallOff_43 ⟨Nat.le_of_ble_eq_true rfl, Nat.le_of_ble_eq_true rfl⟩) (fun _ _ H locs z17 hP hD hS => ?_)
            subst z17
            rw [List.append_nil] at hP hD
            have hP : va_P G vwCl (wTP cA ta pa T_14 P L_15) H := hP
            have hD : va_D A (wTP cA ta pa T_14 P L_15) := hD
            obtain ⟨⟨r18, T_19⟩, hc20, h⟩ := tx_bd h
            replace h := tx_let (y := r18) rfl h
            replace h := tx_let (y := T_19) rfl h
            refine tw_ci tw_all hP hD hS hA (va_runV (As := [.int r13]) (rest := []) ⟨hx, hb, hml, hown, hT⟩ (c_X6_happens l G cA H.size ta pa T_14 P L_15 r13  r18 T_19 hc20) (cwV 1 hT (tq_gV kw_42_20 kw_42_21 kw_42_22 kw_1_23 kw_42_23) rfl rfl rfl (by decide +kernel) ⟨Nat.le_of_ble_eq_true rfl, Nat.le_of_ble_eq_true rfl⟩) ⟨(tw_pre tw_all hP hD hK hN).1, va_recv hK hP (ci := 6) (q0 := 0) rfl rfl, (tw_pre tw_all hP hD hK hN).2⟩ rfl rfl hl.1 rfl (lv_room (Nat.le_of_ble_eq_true rfl)) dX6_fallOff_46 ⟨Nat.le_of_ble_eq_true rfl, Nat.le_of_ble_eq_true rfl⟩) (fun _ _ H locs z21 hP hD hS => ?_)
            subst z21
            rw [List.append_nil] at hP hD
            have hP : va_P G vwCl (wTP cA ta pa T_19 P L_15) H := hP
            have hD : va_D A (wTP cA ta pa T_19 P L_15) := hD
            refine lv_if_eq (tgt := 64) hx hb dX6_fallOff_49 (by decide) (fun c22 => ?_) (fun c22 => ?_)
            · have h := tx_pos c22 h
              obtain ⟨y23, ey23, h⟩ := tx_lt h
              refine lv_iinc (v := y23) (lv' := [(2, .int y23), (3, .int r3), (0, .ref (ta 0)), (1, .int x1)]) hx hb dX6_fallOff_64 hl (k := 3) rfl ey23 (by decide) rfl (fun ls hl => ?_)
              refine lv_goto (tgt := 4) hx hb dX6_fallOff_67 (by decide) ?_
              exact hk4 x1 y23 T_19 L_15 H locs ls h hP hD hS (lv_sub hl [2, 3, 0] rfl)
            · have h := tx_neg c22 h
              refine lv_aload_n hx hb dX6_fallOff_52 rfl (lv_at hl 1 rfl) ?_
              refine lv_iload_n hx hb dX6_fallOff_53 rfl (lv_at hl 0 rfl) ?_
              refine lv_iconst (v := 3) hx hb dX6_fallOff_54 (by decide) ?_
              obtain ⟨T_24, hc25, h⟩ := tx_bd h
              refine tw_cv tw_all hP hD hS hA (va_runV (As := [.int r3, .int 3]) (rest := []) ⟨hx, hb, hml, hown, hT⟩ (c_X6_takeAway l G cA H.size ta pa T_19 P L_15 r3 (3 : Int32)  T_24 hc25) (cwV 2 hT (tq_gV kw_41_3 kw_36_19 kw_36_20 kw_1_23 kw_36_21) rfl rfl rfl (by decide +kernel) ⟨Nat.le_of_ble_eq_true rfl, Nat.le_of_ble_eq_true rfl⟩) ⟨(tw_pre tw_all hP hD hK hN).1, va_recv hK hP (ci := 6) (q0 := 0) rfl rfl, (tw_pre tw_all hP hD hK hN).2⟩ rfl rfl hl.1 rfl (lv_room (Nat.le_of_ble_eq_true rfl)) dX6_fallOff_55 ⟨Nat.le_of_ble_eq_true rfl, Nat.le_of_ble_eq_true rfl⟩) (fun _ H locs z26 hP hD hS => ?_)
              rw [List.append_nil] at hP hD
              have hP : va_P G vwCl (wTP cA ta pa T_24 P L_15) H := hP
              have hD : va_D A (wTP cA ta pa T_24 P L_15) := hD
              refine lv_iload_n hx hb dX6_fallOff_58 rfl (lv_at hl 2 rfl) ?_
              refine lv_iconst (v := 1) hx hb dX6_fallOff_59 (by decide) ?_
              refine lv_iload_n hx hb dX6_fallOff_60 rfl (lv_at hl 0 rfl) ?_
              refine lv_ishl hx hb dX6_fallOff_61 ?_
              refine lv_ior hx hb dX6_fallOff_62 ?_
              refine lv_topi (fun y27 ey27 => ?_)
              have h := tx_let ey27 h
              refine lv_istore_n (lv' := [(1, .int y27), (3, .int r3), (0, .ref (ta 0)), (2, .int x2)]) hx hb dX6_fallOff_63 rfl hl (by decide) rfl (fun ls hl => ?_)
              obtain ⟨y28, ey28, h⟩ := tx_lt h
              refine lv_iinc (v := y28) (lv' := [(2, .int y28), (1, .int y27), (3, .int r3), (0, .ref (ta 0))]) hx hb dX6_fallOff_64 hl (k := 3) rfl ey28 (by decide) rfl (fun ls hl => ?_)
              refine lv_goto (tgt := 4) hx hb dX6_fallOff_67 (by decide) ?_
              exact hk4 y27 y28 T_24 L_15 H locs ls h hP hD hS (lv_sub hl [3, 1, 0] rfl)
set_option maxHeartbeats 4000000 in
set_option maxRecDepth 100000 in
theorem c_X6_fallOff (l : Launch) (G : va_G) (cA : Nat → ClassId) (sz : Nat) (ta : Nat → Nat) (pa : Nat → Nat) (T : Tr) (P : Tr) (L : Lo)  (r0 : Int32) (T' : Tr) (L' : Lo) (h : f_X6_fallOff T P L = some (r0, T', L')) : Met l yX6_fallOff (.code yX6_fallOff cX6_fallOff 4 (some .int) :: T0) ({ frames := 4, cells := 0, slots := 0, locals := 101 } : Room) (tqP G cA [.ref (ta 0)] (wTP cA ta pa T P L) sz) (tqQi G cA (fun (r : Int32) (_ : Unit) => r = r0) (fun (_ : Unit) => wTP cA ta pa (T') P (L')) (va_A (wTP cA ta pa T P L) sz)) 0 0 (va_A (wTP cA ta pa T P L) sz) := by
  refine Met.ofW (cc := cX6_fallOff) (maxL := 4) (ret := (some .int)) (by decide) rfl ?_
  intro p e s m args below meth c s₁ B hml hv
  obtain ⟨rfl, hsz, hP, hK, hD0, hN⟩ := hv
  have hx := B.exec
  have hb := B.bytes
  have hr := B.returns
  have hts := atoms_spec (ws := .code yX6_fallOff cX6_fallOff 4 (some .int) :: T0) B.pre
  have hT : ∀ w ∈ T0, w.before _ s = true := fun w h => hts w (List.mem_cons_of_mem _ h)
  have hown : s.vm.findClass RX6 = some m.cls := findClass_of_methodNamed B.named
  have hlocks := B.notSynchronized
  subst hsz
  have hD := hD0.self (sz := s.heap.size)
  generalize hAe : va_A (wTP cA ta pa T P L) s.heap.size = A at hD ⊢
  have hA : ∀ q : Nat, s.heap.size ≤ q → A q := fun q h => by rw [← hAe]; exact Or.inr h
  have hS : va_S A s.heap s.heap [] := va_S.rf
  have hl := lv_entry ([.ref (ta 0)]) (n := 4) (Nat.le_of_ble_eq_true rfl)
  rw [lg_entry_eq]
  generalize (lg_sl ([.ref (ta 0)]) ++ List.replicate (4 - (lg_sl ([.ref (ta 0)])).length) Slot.unset).toArray = ls at hl ⊢
  have hl : lv_has ls 4 [(0, .ref (ta 0))] := hl
  have F : tF p s m ([.ref (ta 0)] : List Value).toArray meth c G cA A RX6 cX6_fallOff 4 (some .int) := ⟨hx, hb, hr, hml, hT, hown, hlocks, hK, hN, hA⟩
  obtain ⟨H, hH⟩ : ∃ z, z = s.heap := ⟨_, rfl⟩
  rw [← hH] at hP
  have hS : va_S A s.heap H [] := by rw [hH]; exact hS
  suffices hgo : G_X6_fallOff p l e s m below meth c G cA A ta pa P r0 T' L' H [] (F0 m 0 ls []) by rw [hH] at hgo; exact hgo
  generalize ([] : List Loc) = locs at hS ⊢
  unfold f_X6_fallOff at h
  refine lv_iconst (v := 0) hx hb dX6_fallOff_0 (by decide) ?_
  refine lv_istore_n (lv' := [(1, .int 0), (0, .ref (ta 0))]) hx hb dX6_fallOff_1 rfl hl (by decide) rfl (fun ls hl => ?_)
  refine lv_iconst (v := 0) hx hb dX6_fallOff_2 (by decide) ?_
  refine lv_istore_n (lv' := [(2, .int 0), (1, .int 0), (0, .ref (ta 0))]) hx hb dX6_fallOff_3 rfl hl (by decide) rfl (fun ls hl => ?_)
  exact w_X6_fallOff_L4 F 2000 0 0 T L H locs ls h hP hD hS (lv_sub hl [2, 1, 0] rfl)
