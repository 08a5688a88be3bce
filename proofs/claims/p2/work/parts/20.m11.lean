abbrev G_X8_rest (p : Program) (l : Launch) (e : Env) (s : State) (m : MethodId) (below : List Frame) (meth : Method) (c : Code) (G : va_G) (cA : Nat → ClassId) (A : Nat → Prop) (aa : Nat → Nat) (x1 : Int32) (x2 : Int32) (x3 : Int32) (r0 : Int32) (S' : Tr) (L' : Lo) (H : Heap) (locs : List Loc) (g : JFrame) : Prop := W p l e (headSpec (.code yX8_rest cX8_rest 4 (some .int) :: T0) ({ frames := 10, cells := 0, slots := 0, locals := 238 } : Room)).room s m ([.ref (aa 0), .int x1, .int x2, .int x3] : List Value).toArray below meth c H locs 0 0 (MQ below (tqQi G cA (fun (r : Int32) (_ : Unit) => r = r0) (fun (_ : Unit) => wM cA aa S' L') A) ([.ref (aa 0), .int x1, .int x2, .int x3] : List Value).toArray s 0 0 A) g
set_option maxHeartbeats 4000000 in
set_option maxRecDepth 100000 in
theorem c_X8_rest (l : Launch) (G : va_G) (cA : Nat → ClassId) (sz : Nat) (aa : Nat → Nat) (S : Tr) (L : Lo) (x1 : Int32) (x2 : Int32) (x3 : Int32)  (r0 : Int32) (S' : Tr) (L' : Lo) (h : f_X8_rest S L x1 x2 x3 = some (r0, S', L')) : Met l yX8_rest (.code yX8_rest cX8_rest 4 (some .int) :: T0) ({ frames := 10, cells := 0, slots := 0, locals := 238 } : Room) (tqP G cA [.ref (aa 0), .int x1, .int x2, .int x3] (wM cA aa S L) sz) (tqQi G cA (fun (r : Int32) (_ : Unit) => r = r0) (fun (_ : Unit) => wM cA aa S' L') (va_A (wM cA aa S L) sz)) 0 0 (va_A (wM cA aa S L) sz) := by
  refine Met.ofW (cc := cX8_rest) (maxL := 4) (ret := (some .int)) (by decide) rfl ?_
  intro p e s m args below meth c s₁ B hml hv
  obtain ⟨rfl, hsz, hP, hK, hD0, hN⟩ := hv
  have hx := B.exec
  have hb := B.bytes
  have hr := B.returns
  have hts := atoms_spec (ws := .code yX8_rest cX8_rest 4 (some .int) :: T0) B.pre
  have hT : ∀ w ∈ T0, w.before _ s = true := fun w h => hts w (List.mem_cons_of_mem _ h)
  have hown : s.vm.findClass RX8 = some m.cls := findClass_of_methodNamed B.named
  have hlocks := B.notSynchronized
  subst hsz
  have hD := hD0.self (sz := s.heap.size)
  generalize hAe : va_A (wM cA aa S L) s.heap.size = A at hD ⊢
  have hA : ∀ q : Nat, s.heap.size ≤ q → A q := fun q h => by rw [← hAe]; exact Or.inr h
  have hS : va_S A s.heap s.heap [] := va_S.rf
  have hl := lv_entry ([.ref (aa 0), .int x1, .int x2, .int x3]) (n := 4) (Nat.le_of_ble_eq_true rfl)
  rw [lg_entry_eq]
  generalize (lg_sl ([.ref (aa 0), .int x1, .int x2, .int x3]) ++ List.replicate (4 - (lg_sl ([.ref (aa 0), .int x1, .int x2, .int x3])).length) Slot.unset).toArray = ls at hl ⊢
  have hl : lv_has ls 4 [(0, .ref (aa 0)), (1, .int x1), (2, .int x2), (3, .int x3)] := hl
  have F : tF p s m ([.ref (aa 0), .int x1, .int x2, .int x3] : List Value).toArray meth c G cA A RX8 cX8_rest 4 (some .int) := ⟨hx, hb, hr, hml, hT, hown, hlocks, hK, hN, hA⟩
  obtain ⟨H, hH⟩ : ∃ z, z = s.heap := ⟨_, rfl⟩
  rw [← hH] at hP
  have hS : va_S A s.heap H [] := by rw [hH]; exact hS
  suffices hgo : G_X8_rest p l e s m below meth c G cA A aa x1 x2 x3 r0 S' L' H [] (F0 m 0 ls []) by rw [hH] at hgo; exact hgo
  generalize ([] : List Loc) = locs at hS ⊢
  unfold f_X8_rest at h
  refine lv_aload_n hx hb dX8_rest_0 rfl (lv_at hl 0 rfl) ?_
  refine lv_iconst (v := 0) hx hb dX8_rest_1 (by decide) ?_
  refine va_put (D := G) (ci := 8) (v := .int 0) (ty := .int) (C := RX8) (T := TX8) (N := 91) hx hb hT ku_8 tyX8 tyX8_ok nmX8 hown hK hP hD hS 0 rfl rfl 2 (by decide) (hT _ kw_14_0) (fun _ h9 => h9) rfl (by decide +kernel) rfl rfl (Nat.le_of_ble_eq_true rfl) dX8_rest_2 (fun H locs hP hD hS => ?_)
  obtain ⟨S_1, eS_1, h⟩ := tx_lt h
  rw [sM_f2, eS_1] at hP hD
  refine lv_aload_n hx hb dX8_rest_5 rfl (lv_at hl 0 rfl) ?_
  refine lv_iload_n hx hb dX8_rest_6 rfl (lv_at hl 1 rfl) ?_
  refine lv_iload_n hx hb dX8_rest_7 rfl (lv_at hl 2 rfl) ?_
  obtain ⟨r2, hc3, h⟩ := tx_bd h
  refine tw_ci tw_all hP hD hS hA (va_runV (As := [.int x1, .int x2]) (rest := []) ⟨hx, hb, hml, hown, hT⟩ (c_X8_areTwo l G cA H.size aa S_1 L x1 x2  r2 hc3) (cwV 2 hT (tq_gV kw_50_13 kw_50_14 kw_50_15 kw_1_5 kw_50_16) rfl rfl rfl (by decide +kernel) ⟨Nat.le_of_ble_eq_true rfl, Nat.le_of_ble_eq_true rfl⟩) ⟨(tw_pre tw_all hP hD hK hN).1, va_recv hK hP (ci := 8) (q0 := 0) rfl rfl, (tw_pre tw_all hP hD hK hN).2⟩ rfl rfl hl.1 rfl (lv_room (Nat.le_of_ble_eq_true rfl)) dX8_rest_8 ⟨Nat.le_of_ble_eq_true rfl, Nat.le_of_ble_eq_true rfl⟩) (fun _ _ H locs z4 hP hD hS => ?_)
  subst z4
  rw [List.append_nil] at hP hD
  have hP : va_P G vwCl (wM cA aa S_1 L) H := hP
  have hD : va_D A (wM cA aa S_1 L) := hD
  refine lv_if_eq (tgt := 28) hx hb dX8_rest_11 (by decide) (fun c5 => ?_) (fun c5 => ?_)
  · have h := tx_pos c5 h
    refine lv_iconst (v := (-1)) hx hb dX8_rest_28 (by decide) ?_
    obtain ⟨rfl, rfl, rfl⟩ := tx_3 h
    exact W.iret hx hb hr (fun t ht hW => ⟨⟨_, (), rfl, rfl, by rw [ht]; exact hP, hD⟩, hS.F ht⟩) hS.2.2 dX8_rest_29
  · have h := tx_neg c5 h
    refine lv_iload_n hx hb dX8_rest_14 rfl (lv_at hl 3 rfl) ?_
    refine lv_if_lt (tgt := 28) hx hb dX8_rest_15 (by decide) (fun c6 => ?_) (fun c6 => ?_)
    · have h := tx_pos c6 h
      refine lv_iconst (v := (-1)) hx hb dX8_rest_28 (by decide) ?_
      obtain ⟨rfl, rfl, rfl⟩ := tx_3 h
      exact W.iret hx hb hr (fun t ht hW => ⟨⟨_, (), rfl, rfl, by rw [ht]; exact hP, hD⟩, hS.F ht⟩) hS.2.2 dX8_rest_29
    · have h := tx_neg c6 h
      refine lv_aload_n hx hb dX8_rest_18 rfl (lv_at hl 0 rfl) ?_
      refine lv_iload_n hx hb dX8_rest_19 rfl (lv_at hl 1 rfl) ?_
      refine lv_iload_n hx hb dX8_rest_20 rfl (lv_at hl 2 rfl) ?_
      refine lv_iload_n hx hb dX8_rest_21 rfl (lv_at hl 3 rfl) ?_
      obtain ⟨⟨r7, S_8, L_9⟩, hc10, h⟩ := tx_bd h
      replace h := tx_let (y := r7) rfl h
      replace h := tx_let (y := S_8) rfl h
      replace h := tx_let (y := L_9) rfl h
      refine tw_ci tw_all hP hD hS hA (va_runV (As := [.int x1, .int x2, .int x3]) (rest := []) ⟨hx, hb, hml, hown, hT⟩ (c_X8_restAt l G cA H.size aa S_1 L x1 x2 x3  r7 S_8 L_9 hc10) (cwV 3 hT (tq_gV kw_50_17 kw_50_18 kw_50_19 kw_1_5 kw_50_20) rfl rfl rfl (by decide +kernel) ⟨Nat.le_of_ble_eq_true rfl, Nat.le_of_ble_eq_true rfl⟩) ⟨(tw_pre tw_all hP hD hK hN).1, va_recv hK hP (ci := 8) (q0 := 0) rfl rfl, (tw_pre tw_all hP hD hK hN).2⟩ rfl rfl hl.1 rfl (lv_room (Nat.le_of_ble_eq_true rfl)) dX8_rest_22 ⟨Nat.le_of_ble_eq_true rfl, Nat.le_of_ble_eq_true rfl⟩) (fun _ _ H locs z11 hP hD hS => ?_)
      subst z11
      rw [List.append_nil] at hP hD
      have hP : va_P G vwCl (wM cA aa S_8 L_9) H := hP
      have hD : va_D A (wM cA aa S_8 L_9) := hD
      refine lv_goto (tgt := 29) hx hb dX8_rest_25 (by decide) ?_
      obtain ⟨rfl, rfl, rfl⟩ := tx_3 h
      exact W.iret hx hb hr (fun t ht hW => ⟨⟨_, (), rfl, rfl, by rw [ht]; exact hP, hD⟩, hS.F ht⟩) hS.2.2 dX8_rest_29
abbrev G_X8_rests (p : Program) (l : Launch) (e : Env) (s : State) (m : MethodId) (below : List Frame) (meth : Method) (c : Code) (G : va_G) (cA : Nat → ClassId) (A : Nat → Prop) (aa : Nat → Nat) (x1 : Int32) (x2 : Int32) (r0 : Int32) (S' : Tr) (L' : Lo) (H : Heap) (locs : List Loc) (g : JFrame) : Prop := W p l e (headSpec (.code yX8_rests cX8_rests 3 (some .int) :: T0) ({ frames := 10, cells := 0, slots := 0, locals := 238 } : Room)).room s m ([.ref (aa 0), .int x1, .int x2] : List Value).toArray below meth c H locs 0 0 (MQ below (tqQi G cA (fun (r : Int32) (_ : Unit) => r = r0) (fun (_ : Unit) => wM cA aa S' L') A) ([.ref (aa 0), .int x1, .int x2] : List Value).toArray s 0 0 A) g
set_option maxHeartbeats 4000000 in
set_option maxRecDepth 100000 in
theorem c_X8_rests (l : Launch) (G : va_G) (cA : Nat → ClassId) (sz : Nat) (aa : Nat → Nat) (S : Tr) (L : Lo) (x1 : Int32) (x2 : Int32)  (r0 : Int32) (S' : Tr) (L' : Lo) (h : f_X8_rests S L x1 x2 = some (r0, S', L')) : Met l yX8_rests (.code yX8_rests cX8_rests 3 (some .int) :: T0) ({ frames := 10, cells := 0, slots := 0, locals := 238 } : Room) (tqP G cA [.ref (aa 0), .int x1, .int x2] (wM cA aa S L) sz) (tqQi G cA (fun (r : Int32) (_ : Unit) => r = r0) (fun (_ : Unit) => wM cA aa S' L') (va_A (wM cA aa S L) sz)) 0 0 (va_A (wM cA aa S L) sz) := by
  refine Met.ofW (cc := cX8_rests) (maxL := 3) (ret := (some .int)) (by decide) rfl ?_
  intro p e s m args below meth c s₁ B hml hv
  obtain ⟨rfl, hsz, hP, hK, hD0, hN⟩ := hv
  have hx := B.exec
  have hb := B.bytes
  have hr := B.returns
  have hts := atoms_spec (ws := .code yX8_rests cX8_rests 3 (some .int) :: T0) B.pre
  have hT : ∀ w ∈ T0, w.before _ s = true := fun w h => hts w (List.mem_cons_of_mem _ h)
  have hown : s.vm.findClass RX8 = some m.cls := findClass_of_methodNamed B.named
  have hlocks := B.notSynchronized
  subst hsz
  have hD := hD0.self (sz := s.heap.size)
  generalize hAe : va_A (wM cA aa S L) s.heap.size = A at hD ⊢
  have hA : ∀ q : Nat, s.heap.size ≤ q → A q := fun q h => by rw [← hAe]; exact Or.inr h
  have hS : va_S A s.heap s.heap [] := va_S.rf
  have hl := lv_entry ([.ref (aa 0), .int x1, .int x2]) (n := 3) (Nat.le_of_ble_eq_true rfl)
  rw [lg_entry_eq]
  generalize (lg_sl ([.ref (aa 0), .int x1, .int x2]) ++ List.replicate (3 - (lg_sl ([.ref (aa 0), .int x1, .int x2])).length) Slot.unset).toArray = ls at hl ⊢
  have hl : lv_has ls 3 [(0, .ref (aa 0)), (1, .int x1), (2, .int x2)] := hl
  have F : tF p s m ([.ref (aa 0), .int x1, .int x2] : List Value).toArray meth c G cA A RX8 cX8_rests 3 (some .int) := ⟨hx, hb, hr, hml, hT, hown, hlocks, hK, hN, hA⟩
  obtain ⟨H, hH⟩ : ∃ z, z = s.heap := ⟨_, rfl⟩
  rw [← hH] at hP
  have hS : va_S A s.heap H [] := by rw [hH]; exact hS
  suffices hgo : G_X8_rests p l e s m below meth c G cA A aa x1 x2 r0 S' L' H [] (F0 m 0 ls []) by rw [hH] at hgo; exact hgo
  generalize ([] : List Loc) = locs at hS ⊢
  unfold f_X8_rests at h
  refine lv_aload_n hx hb dX8_rests_0 rfl (lv_at hl 0 rfl) ?_
  refine lv_iconst (v := 0) hx hb dX8_rests_1 (by decide) ?_
  refine va_put (D := G) (ci := 8) (v := .int 0) (ty := .int) (C := RX8) (T := TX8) (N := 91) hx hb hT ku_8 tyX8 tyX8_ok nmX8 hown hK hP hD hS 0 rfl rfl 2 (by decide) (hT _ kw_14_0) (fun _ h9 => h9) rfl (by decide +kernel) rfl rfl (Nat.le_of_ble_eq_true rfl) dX8_rests_2 (fun H locs hP hD hS => ?_)
  obtain ⟨S_1, eS_1, h⟩ := tx_lt h
  rw [sM_f2, eS_1] at hP hD
  refine lv_aload_n hx hb dX8_rests_5 rfl (lv_at hl 0 rfl) ?_
  refine lv_iload_n hx hb dX8_rests_6 rfl (lv_at hl 1 rfl) ?_
  refine lv_iload_n hx hb dX8_rests_7 rfl (lv_at hl 2 rfl) ?_
  obtain ⟨r2, hc3, h⟩ := tx_bd h
  refine tw_ci tw_all hP hD hS hA (va_runV (As := [.int x1, .int x2]) (rest := []) ⟨hx, hb, hml, hown, hT⟩ (c_X8_areTwo l G cA H.size aa S_1 L x1 x2  r2 hc3) (cwV 2 hT (tq_gV kw_50_13 kw_50_14 kw_50_15 kw_1_5 kw_50_16) rfl rfl rfl (by decide +kernel) ⟨Nat.le_of_ble_eq_true rfl, Nat.le_of_ble_eq_true rfl⟩) ⟨(tw_pre tw_all hP hD hK hN).1, va_recv hK hP (ci := 8) (q0 := 0) rfl rfl, (tw_pre tw_all hP hD hK hN).2⟩ rfl rfl hl.1 rfl (lv_room (Nat.le_of_ble_eq_true rfl)) dX8_rests_8 ⟨Nat.le_of_ble_eq_true rfl, Nat.le_of_ble_eq_true rfl⟩) (fun _ _ H locs z4 hP hD hS => ?_)
  subst z4
  rw [List.append_nil] at hP hD
  have hP : va_P G vwCl (wM cA aa S_1 L) H := hP
  have hD : va_D A (wM cA aa S_1 L) := hD
  refine lv_if_eq (tgt := 24) hx hb dX8_rests_11 (by decide) (fun c5 => ?_) (fun c5 => ?_)
  · have h := tx_pos c5 h
    refine lv_iconst (v := (-1)) hx hb dX8_rests_24 (by decide) ?_
    obtain ⟨rfl, rfl, rfl⟩ := tx_3 h
    exact W.iret hx hb hr (fun t ht hW => ⟨⟨_, (), rfl, rfl, by rw [ht]; exact hP, hD⟩, hS.F ht⟩) hS.2.2 dX8_rests_25
  · have h := tx_neg c5 h
    refine lv_aload_n hx hb dX8_rests_14 rfl (lv_at hl 0 rfl) ?_
    refine lv_iload_n hx hb dX8_rests_15 rfl (lv_at hl 1 rfl) ?_
    refine lv_iload_n hx hb dX8_rests_16 rfl (lv_at hl 2 rfl) ?_
    refine lv_iconst (v := (-1)) hx hb dX8_rests_17 (by decide) ?_
    obtain ⟨⟨r6, S_7, L_8⟩, hc9, h⟩ := tx_bd h
    replace h := tx_let (y := r6) rfl h
    replace h := tx_let (y := S_7) rfl h
    replace h := tx_let (y := L_8) rfl h
    refine tw_ci tw_all hP hD hS hA (va_runV (As := [.int x1, .int x2, .int (-1)]) (rest := []) ⟨hx, hb, hml, hown, hT⟩ (c_X8_restAt l G cA H.size aa S_1 L x1 x2 (-1 : Int32)  r6 S_7 L_8 hc9) (cwV 3 hT (tq_gV kw_50_17 kw_50_18 kw_50_19 kw_1_5 kw_50_20) rfl rfl rfl (by decide +kernel) ⟨Nat.le_of_ble_eq_true rfl, Nat.le_of_ble_eq_true rfl⟩) ⟨(tw_pre tw_all hP hD hK hN).1, va_recv hK hP (ci := 8) (q0 := 0) rfl rfl, (tw_pre tw_all hP hD hK hN).2⟩ rfl rfl hl.1 rfl (lv_room (Nat.le_of_ble_eq_true rfl)) dX8_rests_18 ⟨Nat.le_of_ble_eq_true rfl, Nat.le_of_ble_eq_true rfl⟩) (fun _ _ H locs z10 hP hD hS => ?_)
    subst z10
    rw [List.append_nil] at hP hD
    have hP : va_P G vwCl (wM cA aa S_7 L_8) H := hP
    have hD : va_D A (wM cA aa S_7 L_8) := hD
    refine lv_goto (tgt := 25) hx hb dX8_rests_21 (by decide) ?_
    obtain ⟨rfl, rfl, rfl⟩ := tx_3 h
    exact W.iret hx hb hr (fun t ht hW => ⟨⟨_, (), rfl, rfl, by rw [ht]; exact hP, hD⟩, hS.F ht⟩) hS.2.2 dX8_rests_25
abbrev G_X8_see (p : Program) (l : Launch) (e : Env) (s : State) (m : MethodId) (below : List Frame) (meth : Method) (c : Code) (G : va_G) (cA : Nat → ClassId) (A : Nat → Prop) (aa : Nat → Nat) (L : Lo) (x1 : Int32) (x2 : Int32) (x3 : Int32) (x4 : Int32) (r0 : Int32) (S' : Tr) (H : Heap) (locs : List Loc) (g : JFrame) : Prop := W p l e (headSpec (.code yX8_see cX8_see 5 (some .int) :: T0) ({ frames := 1, cells := 0, slots := 0, locals := 24 } : Room)).room s m ([.ref (aa 0), .int x1, .int x2, .int x3, .int x4] : List Value).toArray below meth c H locs 0 0 (MQ below (tqQi G cA (fun (r : Int32) (_ : Unit) => r = r0) (fun (_ : Unit) => wM cA aa S' L) A) ([.ref (aa 0), .int x1, .int x2, .int x3, .int x4] : List Value).toArray s 0 0 A) g
set_option maxHeartbeats 4000000 in
set_option maxRecDepth 100000 in
theorem w_X8_see_J58 {p : Program} {l : Launch} {e : Env} {s : State} {m : MethodId} {below : List Frame} {meth : Method} {c : Code} {G : va_G} {cA : Nat → ClassId} {A : Nat → Prop} {aa : Nat → Nat} {L : Lo} {x1₀ : Int32} {x2₀ : Int32} {x3₀ : Int32} {x4₀ : Int32} {r0 : Int32} {S' : Tr} (F : tF p s m ([.ref (aa 0), .int x1₀, .int x2₀, .int x3₀, .int x4₀] : List Value).toArray meth c G cA A RX8 cX8_see 5 (some .int))    (s0 : Int32) (s1 : Int32) (s2 : Int32) (s3 : Int32) (S : Tr) (H : Heap) (locs : List Loc) (ls : Array Slot) (h : fJ_X8_see_J58 s0 s1 s2 s3 S = some (r0, S')) (hP : va_P G vwCl (wM cA aa S_17 L) H) (hD : va_D A (wM cA aa S_17 L)) (hS : va_S A s.heap H locs) (hl : lv_has ls 5 []) : G_X8_see p l e s m below meth c G cA A aa L x1₀ x2₀ x3₀ x4₀ r0 S' H locs (F0 m 58 ls []) := by
  obtain ⟨hx, hb, hr, hml, hT, hown, hlocks, hK, hN, hA⟩ := id F
  unfold fJ_X8_see_J58 at h
  obtain ⟨⟨r16, S_17⟩, hc18, h⟩ := tx_bd h
  replace h := tx_let (y := r16) rfl h
  replace h := tx_let (y := S_17) rfl h
  refine tw_ci tw_all hP hD hS hA (va_runV (As := [.int s3, .int s2, .int s1, .int s0]) (rest := []) ⟨hx, hb, hml, hown, hT⟩ (c_X8_noted l G cA H.size aa S L s3 s2 s1 s0  r16 S_17 hc18) (cwV 4 hT (tq_gV kw_54_9 kw_54_10 kw_54_11 kw_1_5 kw_54_12) rfl rfl rfl (by decide +kernel) ⟨Nat.le_of_ble_eq_true rfl, Nat.le_of_ble_eq_true rfl⟩) ⟨(tw_pre tw_all hP hD hK hN).1, va_recv hK hP (ci := 8) (q0 := 0) rfl rfl, (tw_pre tw_all hP hD hK hN).2⟩ rfl rfl hl.1 rfl (lv_room (Nat.le_of_ble_eq_true rfl)) dX8_see_58 ⟨Nat.le_of_ble_eq_true rfl, Nat.le_of_ble_eq_true rfl⟩) (fun _ _ H locs z19 hP hD hS => ?_)
  subst z19
  rw [List.append_nil] at hP hD
  have hP : va_P G vwCl (wM cA aa S_17 L) H := hP
  have hD : va_D A (wM cA aa S_17 L) := hD
  obtain ⟨rfl, rfl⟩ := tx_2 h
  exact W.iret hx hb hr (fun t ht hW => ⟨⟨_, (), rfl, rfl, by rw [ht]; exact hP, hD⟩, hS.F ht⟩) hS.2.2 dX8_see_61
set_option maxHeartbeats 4000000 in
set_option maxRecDepth 100000 in
theorem c_X8_see (l : Launch) (G : va_G) (cA : Nat → ClassId) (sz : Nat) (aa : Nat → Nat) (S : Tr) (L : Lo) (x1 : Int32) (x2 : Int32) (x3 : Int32) (x4 : Int32)  (r0 : Int32) (S' : Tr) (h : f_X8_see S x1 x2 x3 x4 = some (r0, S')) : Met l yX8_see (.code yX8_see cX8_see 5 (some .int) :: T0) ({ frames := 1, cells := 0, slots := 0, locals := 24 } : Room) (tqP G cA [.ref (aa 0), .int x1, .int x2, .int x3, .int x4] (wM cA aa S L) sz) (tqQi G cA (fun (r : Int32) (_ : Unit) => r = r0) (fun (_ : Unit) => wM cA aa S' L) (va_A (wM cA aa S L) sz)) 0 0 (va_A (wM cA aa S L) sz) := by
  refine Met.ofW (cc := cX8_see) (maxL := 5) (ret := (some .int)) (by decide) rfl ?_
  intro p e s m args below meth c s₁ B hml hv
  obtain ⟨rfl, hsz, hP, hK, hD0, hN⟩ := hv
  have hx := B.exec
  have hb := B.bytes
  have hr := B.returns
  have hts := atoms_spec (ws := .code yX8_see cX8_see 5 (some .int) :: T0) B.pre
  have hT : ∀ w ∈ T0, w.before _ s = true := fun w h => hts w (List.mem_cons_of_mem _ h)
  have hown : s.vm.findClass RX8 = some m.cls := findClass_of_methodNamed B.named
  have hlocks := B.notSynchronized
  subst hsz
  have hD := hD0.self (sz := s.heap.size)
  generalize hAe : va_A (wM cA aa S L) s.heap.size = A at hD ⊢
  have hA : ∀ q : Nat, s.heap.size ≤ q → A q := fun q h => by rw [← hAe]; exact Or.inr h
  have hS : va_S A s.heap s.heap [] := va_S.rf
  have hl := lv_entry ([.ref (aa 0), .int x1, .int x2, .int x3, .int x4]) (n := 5) (Nat.le_of_ble_eq_true rfl)
  rw [lg_entry_eq]
  generalize (lg_sl ([.ref (aa 0), .int x1, .int x2, .int x3, .int x4]) ++ List.replicate (5 - (lg_sl ([.ref (aa 0), .int x1, .int x2, .int x3, .int x4])).length) Slot.unset).toArray = ls at hl ⊢
  have hl : lv_has ls 5 [(0, .ref (aa 0)), (1, .int x1), (2, .int x2), (3, .int x3), (4, .int x4)] := hl
  have F : tF p s m ([.ref (aa 0), .int x1, .int x2, .int x3, .int x4] : List Value).toArray meth c G cA A RX8 cX8_see 5 (some .int) := ⟨hx, hb, hr, hml, hT, hown, hlocks, hK, hN, hA⟩
  obtain ⟨H, hH⟩ : ∃ z, z = s.heap := ⟨_, rfl⟩
  rw [← hH] at hP
  have hS : va_S A s.heap H [] := by rw [hH]; exact hS
  suffices hgo : G_X8_see p l e s m below meth c G cA A aa L x1 x2 x3 x4 r0 S' H [] (F0 m 0 ls []) by rw [hH] at hgo; exact hgo
  generalize ([] : List Loc) = locs at hS ⊢
  unfold f_X8_see at h
  refine lv_aload_n hx hb dX8_see_0 rfl (lv_at hl 0 rfl) ?_
  refine lv_iconst (v := 0) hx hb dX8_see_1 (by decide) ?_
  refine va_put (D := G) (ci := 8) (v := .int 0) (ty := .int) (C := RX8) (T := TX8) (N := 91) hx hb hT ku_8 tyX8 tyX8_ok nmX8 hown hK hP hD hS 0 rfl rfl 2 (by decide) (hT _ kw_14_0) (fun _ h9 => h9) rfl (by decide +kernel) rfl rfl (Nat.le_of_ble_eq_true rfl) dX8_see_2 (fun H locs hP hD hS => ?_)
  obtain ⟨S_1, eS_1, h⟩ := tx_lt h
  rw [sM_f2, eS_1] at hP hD
  refine lv_aload_n hx hb dX8_see_5 rfl (lv_at hl 0 rfl) ?_
  refine va_get (D := G) (ci := 8) (v := .int (S_1 0 78)) (C := RX8) (T := TX8) (N := 91) hx hb hT ku_8 hown hK hP 0 rfl rfl 78 (by decide) (hT _ kw_12_15) (fun _ h9 => h9) rfl dX8_see_6 ?_
  refine lv_bipush (v := 24) hx hb dX8_see_9 (by decide) ?_
  refine lv_icmp_eq (tgt := 40) hx hb dX8_see_11 (by decide) (fun c2 => ?_) (fun c2 => ?_)
  · have h := tx_pos c2 h
    refine lv_iconst (v := (-1)) hx hb dX8_see_40 (by decide) ?_
    refine lv_goto (tgt := 61) hx hb dX8_see_41 (by decide) ?_
    obtain ⟨rfl, rfl⟩ := tx_2 h
    exact W.iret hx hb hr (fun t ht hW => ⟨⟨_, (), rfl, rfl, by rw [ht]; exact hP, hD⟩, hS.F ht⟩) hS.2.2 dX8_see_61
  · have h := tx_neg c2 h
    refine lv_iload_n hx hb dX8_see_14 rfl (lv_at hl 1 rfl) ?_
    refine lv_iconst (v := 0) hx hb dX8_see_15 (by decide) ?_
    refine lv_bipush (v := 19) hx hb dX8_see_16 (by decide) ?_
    obtain ⟨r3, hc4, h⟩ := tx_bd h
    refine tw_ci (tw_none (ws := wM cA aa S_1 L)) hP hD hS hA (va_runS (As := [.int x1, .int 0, .int 19]) (rest := []) ⟨hx, hb, hml, hown, hT⟩ (c_X8_isIn l G cA H.size x1 (0 : Int32) (19 : Int32)  r3 hc4) (va_cwS 3 hT (tq_gS kw_24_11 kw_24_12 kw_1_5 kw_24_13) rfl rfl rfl (by decide +kernel) ⟨Nat.le_of_ble_eq_true rfl, Nat.le_of_ble_eq_true rfl⟩) (tw_pre (tw_none (ws := wM cA aa S_1 L)) hP hD hK hN) rfl rfl hl.1 rfl (lv_room (Nat.le_of_ble_eq_true rfl)) dX8_see_18 ⟨Nat.le_of_ble_eq_true rfl, Nat.le_of_ble_eq_true rfl⟩) (fun _ _ H locs z5 hP hD hS => ?_)
    subst z5
    have hP : va_P G vwCl (wM cA aa S_1 L) H := hP
    have hD : va_D A (wM cA aa S_1 L) := hD
    refine lv_if_eq (tgt := 40) hx hb dX8_see_21 (by decide) (fun c6 => ?_) (fun c6 => ?_)
    · have h := tx_pos c6 h
      refine lv_iconst (v := (-1)) hx hb dX8_see_40 (by decide) ?_
      refine lv_goto (tgt := 61) hx hb dX8_see_41 (by decide) ?_
      obtain ⟨rfl, rfl⟩ := tx_2 h
      exact W.iret hx hb hr (fun t ht hW => ⟨⟨_, (), rfl, rfl, by rw [ht]; exact hP, hD⟩, hS.F ht⟩) hS.2.2 dX8_see_61
    · have h := tx_neg c6 h
      refine lv_aload_n hx hb dX8_see_24 rfl (lv_at hl 0 rfl) ?_
      refine lv_iload_n hx hb dX8_see_25 rfl (lv_at hl 2 rfl) ?_
      obtain ⟨r7, hc8, h⟩ := tx_bd h
      refine tw_ci tw_all hP hD hS hA (va_runV (As := [.int x2]) (rest := []) ⟨hx, hb, hml, hown, hT⟩ (c_X8_isPiece l G cA H.size aa S_1 L x2  r7 hc8) (cwV 1 hT (tq_gV kw_30_22 kw_30_23 kw_31_0 kw_1_5 kw_31_1) rfl rfl rfl (by decide +kernel) ⟨Nat.le_of_ble_eq_true rfl, Nat.le_of_ble_eq_true rfl⟩) ⟨(tw_pre tw_all hP hD hK hN).1, va_recv hK hP (ci := 8) (q0 := 0) rfl rfl, (tw_pre tw_all hP hD hK hN).2⟩ rfl rfl hl.1 rfl (lv_room (Nat.le_of_ble_eq_true rfl)) dX8_see_26 ⟨Nat.le_of_ble_eq_true rfl, Nat.le_of_ble_eq_true rfl⟩) (fun _ _ H locs z9 hP hD hS => ?_)
      subst z9
      rw [List.append_nil] at hP hD
      have hP : va_P G vwCl (wM cA aa S_1 L) H := hP
      have hD : va_D A (wM cA aa S_1 L) := hD
      refine lv_if_eq (tgt := 40) hx hb dX8_see_29 (by decide) (fun c10 => ?_) (fun c10 => ?_)
      · have h := tx_pos c10 h
        refine lv_iconst (v := (-1)) hx hb dX8_see_40 (by decide) ?_
        refine lv_goto (tgt := 61) hx hb dX8_see_41 (by decide) ?_
        obtain ⟨rfl, rfl⟩ := tx_2 h
        exact W.iret hx hb hr (fun t ht hW => ⟨⟨_, (), rfl, rfl, by rw [ht]; exact hP, hD⟩, hS.F ht⟩) hS.2.2 dX8_see_61
      · have h := tx_neg c10 h
        refine lv_aload_n hx hb dX8_see_32 rfl (lv_at hl 0 rfl) ?_
        refine lv_iload_n hx hb dX8_see_33 rfl (lv_at hl 3 rfl) ?_
        obtain ⟨r11, hc12, h⟩ := tx_bd h
        refine tw_ci tw_all hP hD hS hA (va_runV (As := [.int x3]) (rest := []) ⟨hx, hb, hml, hown, hT⟩ (c_X8_isPlace l G cA H.size aa S_1 L x3  r11 hc12) (cwV 1 hT (tq_gV kw_32_11 kw_32_12 kw_32_13 kw_1_5 kw_32_14) rfl rfl rfl (by decide +kernel) ⟨Nat.le_of_ble_eq_true rfl, Nat.le_of_ble_eq_true rfl⟩) ⟨(tw_pre tw_all hP hD hK hN).1, va_recv hK hP (ci := 8) (q0 := 0) rfl rfl, (tw_pre tw_all hP hD hK hN).2⟩ rfl rfl hl.1 rfl (lv_room (Nat.le_of_ble_eq_true rfl)) dX8_see_34 ⟨Nat.le_of_ble_eq_true rfl, Nat.le_of_ble_eq_true rfl⟩) (fun _ _ H locs z13 hP hD hS => ?_)
        subst z13
        rw [List.append_nil] at hP hD
        have hP : va_P G vwCl (wM cA aa S_1 L) H := hP
        have hD : va_D A (wM cA aa S_1 L) := hD
        refine lv_if_ne (tgt := 44) hx hb dX8_see_37 (by decide) (fun c14 => ?_) (fun c14 => ?_)
        · have h := tx_neg c14 h
          refine lv_aload_n hx hb dX8_see_44 rfl (lv_at hl 0 rfl) ?_
          refine lv_iload_n hx hb dX8_see_45 rfl (lv_at hl 1 rfl) ?_
          refine lv_iload_n hx hb dX8_see_46 rfl (lv_at hl 2 rfl) ?_
          refine lv_iload_n hx hb dX8_see_47 rfl (lv_at hl 3 rfl) ?_
          refine lv_iload hx hb dX8_see_48 (lv_at hl 4 rfl) ?_
          refine lv_if_eq (tgt := 57) hx hb dX8_see_50 (by decide) (fun c15 => ?_) (fun c15 => ?_)
          · have h := tx_pos c15 h
            refine lv_iconst (v := 0) hx hb dX8_see_57 (by decide) ?_
            exact w_X8_see_J58 F 0 x3 x2 x1 S_1 H locs ls h hP hD hS (lv_sub hl [] rfl)
          · have h := tx_neg c15 h
            refine lv_iconst (v := 1) hx hb dX8_see_53 (by decide) ?_
            refine lv_goto (tgt := 58) hx hb dX8_see_54 (by decide) ?_
            exact w_X8_see_J58 F 1 x3 x2 x1 S_1 H locs ls h hP hD hS (lv_sub hl [] rfl)
        · have h := tx_pos c14 h
          refine lv_iconst (v := (-1)) hx hb dX8_see_40 (by decide) ?_
          refine lv_goto (tgt := 61) hx hb dX8_see_41 (by decide) ?_
          obtain ⟨rfl, rfl⟩ := tx_2 h
          exact W.iret hx hb hr (fun t ht hW => ⟨⟨_, (), rfl, rfl, by rw [ht]; exact hP, hD⟩, hS.F ht⟩) hS.2.2 dX8_see_61
abbrev G_X8_strike (p : Program) (l : Launch) (e : Env) (s : State) (m : MethodId) (below : List Frame) (meth : Method) (c : Code) (G : va_G) (cA : Nat → ClassId) (A : Nat → Prop) (aa : Nat → Nat) (L : Lo) (x1 : Int32) (r0 : Int32) (S' : Tr) (H : Heap) (locs : List Loc) (g : JFrame) : Prop := W p l e (headSpec (.code yX8_strike cX8_strike 2 (some .int) :: T0) ({ frames := 1, cells := 0, slots := 0, locals := 24 } : Room)).room s m ([.ref (aa 0), .int x1] : List Value).toArray below meth c H locs 0 0 (MQ below (tqQi G cA (fun (r : Int32) (_ : Unit) => r = r0) (fun (_ : Unit) => wM cA aa S' L) A) ([.ref (aa 0), .int x1] : List Value).toArray s 0 0 A) g
set_option maxHeartbeats 4000000 in
set_option maxRecDepth 100000 in
theorem c_X8_strike (l : Launch) (G : va_G) (cA : Nat → ClassId) (sz : Nat) (aa : Nat → Nat) (S : Tr) (L : Lo) (x1 : Int32)  (r0 : Int32) (S' : Tr) (h : f_X8_strike S x1 = some (r0, S')) : Met l yX8_strike (.code yX8_strike cX8_strike 2 (some .int) :: T0) ({ frames := 1, cells := 0, slots := 0, locals := 24 } : Room) (tqP G cA [.ref (aa 0), .int x1] (wM cA aa S L) sz) (tqQi G cA (fun (r : Int32) (_ : Unit) => r = r0) (fun (_ : Unit) => wM cA aa S' L) (va_A (wM cA aa S L) sz)) 0 0 (va_A (wM cA aa S L) sz) := by
  refine Met.ofW (cc := cX8_strike) (maxL := 2) (ret := (some .int)) (by decide) rfl ?_
  intro p e s m args below meth c s₁ B hml hv
  obtain ⟨rfl, hsz, hP, hK, hD0, hN⟩ := hv
  have hx := B.exec
  have hb := B.bytes
  have hr := B.returns
  have hts := atoms_spec (ws := .code yX8_strike cX8_strike 2 (some .int) :: T0) B.pre
  have hT : ∀ w ∈ T0, w.before _ s = true := fun w h => hts w (List.mem_cons_of_mem _ h)
  have hown : s.vm.findClass RX8 = some m.cls := findClass_of_methodNamed B.named
  have hlocks := B.notSynchronized
  subst hsz
  have hD := hD0.self (sz := s.heap.size)
  generalize hAe : va_A (wM cA aa S L) s.heap.size = A at hD ⊢
  have hA : ∀ q : Nat, s.heap.size ≤ q → A q := fun q h => by rw [← hAe]; exact Or.inr h
  have hS : va_S A s.heap s.heap [] := va_S.rf
  have hl := lv_entry ([.ref (aa 0), .int x1]) (n := 2) (Nat.le_of_ble_eq_true rfl)
  rw [lg_entry_eq]
  generalize (lg_sl ([.ref (aa 0), .int x1]) ++ List.replicate (2 - (lg_sl ([.ref (aa 0), .int x1])).length) Slot.unset).toArray = ls at hl ⊢
  have hl : lv_has ls 2 [(0, .ref (aa 0)), (1, .int x1)] := hl
  have F : tF p s m ([.ref (aa 0), .int x1] : List Value).toArray meth c G cA A RX8 cX8_strike 2 (some .int) := ⟨hx, hb, hr, hml, hT, hown, hlocks, hK, hN, hA⟩
  obtain ⟨H, hH⟩ : ∃ z, z = s.heap := ⟨_, rfl⟩
  rw [← hH] at hP
  have hS : va_S A s.heap H [] := by rw [hH]; exact hS
  suffices hgo : G_X8_strike p l e s m below meth c G cA A aa L x1 r0 S' H [] (F0 m 0 ls []) by rw [hH] at hgo; exact hgo
  generalize ([] : List Loc) = locs at hS ⊢
  unfold f_X8_strike at h
  refine lv_aload_n hx hb dX8_strike_0 rfl (lv_at hl 0 rfl) ?_
  refine lv_iconst (v := 0) hx hb dX8_strike_1 (by decide) ?_
  refine va_put (D := G) (ci := 8) (v := .int 0) (ty := .int) (C := RX8) (T := TX8) (N := 91) hx hb hT ku_8 tyX8 tyX8_ok nmX8 hown hK hP hD hS 0 rfl rfl 2 (by decide) (hT _ kw_14_0) (fun _ h9 => h9) rfl (by decide +kernel) rfl rfl (Nat.le_of_ble_eq_true rfl) dX8_strike_2 (fun H locs hP hD hS => ?_)
  obtain ⟨S_1, eS_1, h⟩ := tx_lt h
  rw [sM_f2, eS_1] at hP hD
  refine lv_aload_n hx hb dX8_strike_5 rfl (lv_at hl 0 rfl) ?_
  refine va_get (D := G) (ci := 8) (v := .int (S_1 0 78)) (C := RX8) (T := TX8) (N := 91) hx hb hT ku_8 hown hK hP 0 rfl rfl 78 (by decide) (hT _ kw_12_15) (fun _ h9 => h9) rfl dX8_strike_6 ?_
  refine lv_bipush (v := 24) hx hb dX8_strike_9 (by decide) ?_
  refine lv_icmp_eq (tgt := 26) hx hb dX8_strike_11 (by decide) (fun c2 => ?_) (fun c2 => ?_)
  · have h := tx_pos c2 h
    refine lv_iconst (v := (-1)) hx hb dX8_strike_26 (by decide) ?_
    refine lv_goto (tgt := 38) hx hb dX8_strike_27 (by decide) ?_
    obtain ⟨rfl, rfl⟩ := tx_2 h
    exact W.iret hx hb hr (fun t ht hW => ⟨⟨_, (), rfl, rfl, by rw [ht]; exact hP, hD⟩, hS.F ht⟩) hS.2.2 dX8_strike_38
  · have h := tx_neg c2 h
    refine lv_iload_n hx hb dX8_strike_14 rfl (lv_at hl 1 rfl) ?_
    refine lv_if_lt (tgt := 26) hx hb dX8_strike_15 (by decide) (fun c3 => ?_) (fun c3 => ?_)
    · have h := tx_pos c3 h
      refine lv_iconst (v := (-1)) hx hb dX8_strike_26 (by decide) ?_
      refine lv_goto (tgt := 38) hx hb dX8_strike_27 (by decide) ?_
      obtain ⟨rfl, rfl⟩ := tx_2 h
      exact W.iret hx hb hr (fun t ht hW => ⟨⟨_, (), rfl, rfl, by rw [ht]; exact hP, hD⟩, hS.F ht⟩) hS.2.2 dX8_strike_38
    · have h := tx_neg c3 h
      refine lv_iload_n hx hb dX8_strike_18 rfl (lv_at hl 1 rfl) ?_
      refine lv_aload_n hx hb dX8_strike_19 rfl (lv_at hl 0 rfl) ?_
      refine va_get (D := G) (ci := 8) (v := .int (S_1 0 78)) (C := RX8) (T := TX8) (N := 91) hx hb hT ku_8 hown hK hP 0 rfl rfl 78 (by decide) (hT _ kw_12_15) (fun _ h9 => h9) rfl dX8_strike_20 ?_
      refine lv_icmp_lt (tgt := 30) hx hb dX8_strike_23 (by decide) (fun c4 => ?_) (fun c4 => ?_)
      · have h := tx_pos c4 h
        refine lv_aload_n hx hb dX8_strike_30 rfl (lv_at hl 0 rfl) ?_
        refine lv_iconst (v := (-1)) hx hb dX8_strike_31 (by decide) ?_
        refine lv_iload_n hx hb dX8_strike_32 rfl (lv_at hl 1 rfl) ?_
        refine lv_iconst (v := 0) hx hb dX8_strike_33 (by decide) ?_
        refine lv_iconst (v := 0) hx hb dX8_strike_34 (by decide) ?_
        obtain ⟨⟨r5, S_6⟩, hc7, h⟩ := tx_bd h
        replace h := tx_let (y := r5) rfl h
        replace h := tx_let (y := S_6) rfl h
        refine tw_ci tw_all hP hD hS hA (va_runV (As := [.int (-1), .int x1, .int 0, .int 0]) (rest := []) ⟨hx, hb, hml, hown, hT⟩ (c_X8_noted l G cA H.size aa S_1 L (-1 : Int32) x1 (0 : Int32) (0 : Int32)  r5 S_6 hc7) (cwV 4 hT (tq_gV kw_54_9 kw_54_10 kw_54_11 kw_1_5 kw_54_12) rfl rfl rfl (by decide +kernel) ⟨Nat.le_of_ble_eq_true rfl, Nat.le_of_ble_eq_true rfl⟩) ⟨(tw_pre tw_all hP hD hK hN).1, va_recv hK hP (ci := 8) (q0 := 0) rfl rfl, (tw_pre tw_all hP hD hK hN).2⟩ rfl rfl hl.1 rfl (lv_room (Nat.le_of_ble_eq_true rfl)) dX8_strike_35 ⟨Nat.le_of_ble_eq_true rfl, Nat.le_of_ble_eq_true rfl⟩) (fun _ _ H locs z8 hP hD hS => ?_)
        subst z8
        rw [List.append_nil] at hP hD
        have hP : va_P G vwCl (wM cA aa S_6 L) H := hP
        have hD : va_D A (wM cA aa S_6 L) := hD
        obtain ⟨rfl, rfl⟩ := tx_2 h
        exact W.iret hx hb hr (fun t ht hW => ⟨⟨_, (), rfl, rfl, by rw [ht]; exact hP, hD⟩, hS.F ht⟩) hS.2.2 dX8_strike_38
      · have h := tx_neg c4 h
        refine lv_iconst (v := (-1)) hx hb dX8_strike_26 (by decide) ?_
        refine lv_goto (tgt := 38) hx hb dX8_strike_27 (by decide) ?_
        obtain ⟨rfl, rfl⟩ := tx_2 h
        exact W.iret hx hb hr (fun t ht hW => ⟨⟨_, (), rfl, rfl, by rw [ht]; exact hP, hD⟩, hS.F ht⟩) hS.2.2 dX8_strike_38
abbrev G_X8_text (p : Program) (l : Launch) (e : Env) (s : State) (m : MethodId) (below : List Frame) (meth : Method) (c : Code) (G : va_G) (cA : Nat → ClassId) (A : Nat → Prop) (aa : Nat → Nat) (x1 : Int32) (r0 : Int32) (S' : Tr) (L' : Lo) (H : Heap) (locs : List Loc) (g : JFrame) : Prop := W p l e (headSpec (.code yX8_text cX8_text 3 (some .int) :: T0) ({ frames := 5, cells := 0, slots := 0, locals := 113 } : Room)).room s m ([.ref (aa 0), .int x1] : List Value).toArray below meth c H locs 0 0 (MQ below (tqQi G cA (fun (r : Int32) (_ : Unit) => r = r0) (fun (_ : Unit) => wM cA aa S' L') A) ([.ref (aa 0), .int x1] : List Value).toArray s 0 0 A) g
set_option maxHeartbeats 4000000 in
set_option maxRecDepth 100000 in
theorem w_X8_text_J77 {p : Program} {l : Launch} {e : Env} {s : State} {m : MethodId} {below : List Frame} {meth : Method} {c : Code} {G : va_G} {cA : Nat → ClassId} {A : Nat → Prop} {aa : Nat → Nat} {x1₀ : Int32} {r0 : Int32} {S' : Tr} {L' : Lo} (F : tF p s m ([.ref (aa 0), .int x1₀] : List Value).toArray meth c G cA A RX8 cX8_text 3 (some .int))    (x2 : Int32) (S : Tr) (L : Lo) (H : Heap) (locs : List Loc) (ls : Array Slot) (h : fJ_X8_text_J77 x2 S L = some (r0, S', L')) (hP : va_P G vwCl (wM cA aa S_16 L_17) H) (hD : va_D A (wM cA aa S_16 L_17)) (hS : va_S A s.heap H locs) (hl : lv_has ls 3 [(0, .ref (aa 0)), (2, .int x2)]) : G_X8_text p l e s m below meth c G cA A aa x1₀ r0 S' L' H locs (F0 m 77 ls []) := by
  obtain ⟨hx, hb, hr, hml, hT, hown, hlocks, hK, hN, hA⟩ := id F
  unfold fJ_X8_text_J77 at h
  refine lv_aload_n hx hb dX8_text_77 rfl (lv_at hl 0 rfl) ?_
  obtain ⟨⟨S_16, L_17⟩, hc18, h⟩ := tx_bd h
  replace h := tx_let (y := S_16) rfl h
  replace h := tx_let (y := L_17) rfl h
  refine tw_cv tw_all hP hD hS hA (va_runV (As := []) (rest := []) ⟨hx, hb, hml, hown, hT⟩ (c_X8_keepText l G cA H.size aa S L  S_16 L_17 hc18) (cwV 0 hT (tq_gV kw_11_23 kw_12_0 kw_12_1 kw_1_5 kw_12_2) rfl rfl rfl (by decide +kernel) ⟨Nat.le_of_ble_eq_true rfl, Nat.le_of_ble_eq_true rfl⟩) ⟨(tw_pre tw_all hP hD hK hN).1, va_recv hK hP (ci := 8) (q0 := 0) rfl rfl, (tw_pre tw_all hP hD hK hN).2⟩ rfl rfl hl.1 rfl (lv_room (Nat.le_of_ble_eq_true rfl)) dX8_text_78 ⟨Nat.le_of_ble_eq_true rfl, Nat.le_of_ble_eq_true rfl⟩) (fun _ H locs z19 hP hD hS => ?_)
  rw [List.append_nil] at hP hD
  have hP : va_P G vwCl (wM cA aa S_16 L_17) H := hP
  have hD : va_D A (wM cA aa S_16 L_17) := hD
  refine lv_iload_n hx hb dX8_text_81 rfl (lv_at hl 1 rfl) ?_
  obtain ⟨rfl, rfl, rfl⟩ := tx_3 h
  exact W.iret hx hb hr (fun t ht hW => ⟨⟨_, (), rfl, rfl, by rw [ht]; exact hP, hD⟩, hS.F ht⟩) hS.2.2 dX8_text_82
set_option maxHeartbeats 4000000 in
set_option maxRecDepth 100000 in
theorem w_X8_text_L55 {p : Program} {l : Launch} {e : Env} {s : State} {m : MethodId} {below : List Frame} {meth : Method} {c : Code} {G : va_G} {cA : Nat → ClassId} {A : Nat → Prop} {aa : Nat → Nat} {x1₀ : Int32} {r0 : Int32} {S' : Tr} {L' : Lo} {L : Lo} (F : tF p s m ([.ref (aa 0), .int x1₀] : List Value).toArray meth c G cA A RX8 cX8_text 3 (some .int))    (N : Nat) : ∀ (x2 : Int32) (S : Tr) (H : Heap) (locs : List Loc) (ls : Array Slot), lpF (fun _ _ => none) (fB_X8_text_L55 L) N x2 S = some (r0, S', L') → va_P G vwCl (wM cA aa S L) H → va_D A (wM cA aa S L) → va_S A s.heap H locs → lv_has ls 3 [(0, .ref (aa 0)), (2, .int x2)] → G_X8_text p l e s m below meth c G cA A aa x1₀ r0 S' L' H locs (F0 m 55 ls []) := by
  obtain ⟨hx, hb, hr, hml, hT, hown, hlocks, hK, hN, hA⟩ := id F
  induction N with
  | zero =>
    intro x2 S H locs ls h
    have h : (none : Option (Int32 × Tr × Lo)) = some (r0, S', L') := h
    cases h
  | succ N hk55 =>
    intro x2 S H locs ls h hP hD hS hl
    have h : fB_X8_text_L55 L (lpF (fun _ _ => none) (fB_X8_text_L55 L) N) x2 S = some (r0, S', L') := h
    generalize hk55e : lpF (fun _ _ => none) (fB_X8_text_L55 L) N = k55 at h hk55
    unfold fB_X8_text_L55 at h
    refine lv_aload_n hx hb dX8_text_55 rfl (lv_at hl 0 rfl) ?_
    refine va_get (D := G) (ci := 8) (v := .int (S 0 8)) (C := RX8) (T := TX8) (N := 91) hx hb hT ku_8 hown hK hP 0 rfl rfl 8 (by decide) (hT _ kw_22_14) (fun _ h9 => h9) rfl dX8_text_56 ?_
    refine lv_if_eq (tgt := 77) hx hb dX8_text_59 (by decide) (fun c15 => ?_) (fun c15 => ?_)
    · have h := tx_pos c15 h
      exact w_X8_text_J77 F x2 S L H locs ls h hP hD hS (lv_sub hl [0, 1] rfl)
    · have h := tx_neg c15 h
      refine lv_aload_n hx hb dX8_text_62 rfl (lv_at hl 0 rfl) ?_
      obtain ⟨⟨r20, S_21⟩, hc22, h⟩ := tx_bd h
      replace h := tx_let (y := r20) rfl h
      replace h := tx_let (y := S_21) rfl h
      refine tw_ci tw_all hP hD hS hA (va_runV (As := []) (rest := []) ⟨hx, hb, hml, hown, hT⟩ (c_X8_lineRead l G cA H.size aa S L  r20 S_21 hc22) (cwV 0 hT (tq_gV kw_23_18 kw_23_19 kw_23_20 kw_1_5 kw_23_21) rfl rfl rfl (by decide +kernel) ⟨Nat.le_of_ble_eq_true rfl, Nat.le_of_ble_eq_true rfl⟩) ⟨(tw_pre tw_all hP hD hK hN).1, va_recv hK hP (ci := 8) (q0 := 0) rfl rfl, (tw_pre tw_all hP hD hK hN).2⟩ rfl rfl hl.1 rfl (lv_room (Nat.le_of_ble_eq_true rfl)) dX8_text_63 ⟨Nat.le_of_ble_eq_true rfl, Nat.le_of_ble_eq_true rfl⟩) (fun _ _ H locs z23 hP hD hS => ?_)
      subst z23
      rw [List.append_nil] at hP hD
      have hP : va_P G vwCl (wM cA aa S_21 L) H := hP
      have hD : va_D A (wM cA aa S_21 L) := hD
      refine lv_if_ne (tgt := 71) hx hb dX8_text_66 (by decide) (fun c24 => ?_) (fun c24 => ?_)
      · have h := tx_neg c24 h
        obtain ⟨y25, ey25, h⟩ := tx_lt h
        refine lv_iinc (v := y25) (lv' := [(2, .int y25), (0, .ref (aa 0))]) hx hb dX8_text_71 hl (k := 1) rfl ey25 (by decide) rfl (fun ls hl => ?_)
        refine lv_goto (tgt := 55) hx hb dX8_text_74 (by decide) ?_
        exact hk55 y25 S_21 H locs ls h hP hD hS (lv_sub hl [1, 0] rfl)
      · have h := tx_pos c24 h
        refine lv_iconst (v := (-1)) hx hb dX8_text_69 (by decide) ?_
        obtain ⟨rfl, rfl, rfl⟩ := tx_3 h
        exact W.iret hx hb hr (fun t ht hW => ⟨⟨_, (), rfl, rfl, by rw [ht]; exact hP, hD⟩, hS.F ht⟩) hS.2.2 dX8_text_70
set_option maxHeartbeats 4000000 in
set_option maxRecDepth 100000 in
theorem c_X8_text (l : Launch) (G : va_G) (cA : Nat → ClassId) (sz : Nat) (aa : Nat → Nat) (S : Tr) (L : Lo) (x1 : Int32)  (r0 : Int32) (S' : Tr) (L' : Lo) (h : f_X8_text S L x1 = some (r0, S', L')) : Met l yX8_text (.code yX8_text cX8_text 3 (some .int) :: T0) ({ frames := 5, cells := 0, slots := 0, locals := 113 } : Room) (tqP G cA [.ref (aa 0), .int x1] (wM cA aa S L) sz) (tqQi G cA (fun (r : Int32) (_ : Unit) => r = r0) (fun (_ : Unit) => wM cA aa S' L') (va_A (wM cA aa S L) sz)) 0 0 (va_A (wM cA aa S L) sz) := by
  refine Met.ofW (cc := cX8_text) (maxL := 3) (ret := (some .int)) (by decide) rfl ?_
  intro p e s m args below meth c s₁ B hml hv
  obtain ⟨rfl, hsz, hP, hK, hD0, hN⟩ := hv
  have hx := B.exec
  have hb := B.bytes
  have hr := B.returns
  have hts := atoms_spec (ws := .code yX8_text cX8_text 3 (some .int) :: T0) B.pre
  have hT : ∀ w ∈ T0, w.before _ s = true := fun w h => hts w (List.mem_cons_of_mem _ h)
  have hown : s.vm.findClass RX8 = some m.cls := findClass_of_methodNamed B.named
  have hlocks := B.notSynchronized
  subst hsz
  have hD := hD0.self (sz := s.heap.size)
  generalize hAe : va_A (wM cA aa S L) s.heap.size = A at hD ⊢
  have hA : ∀ q : Nat, s.heap.size ≤ q → A q := fun q h => by rw [← hAe]; exact Or.inr h
  have hS : va_S A s.heap s.heap [] := va_S.rf
  have hl := lv_entry ([.ref (aa 0), .int x1]) (n := 3) (Nat.le_of_ble_eq_true rfl)
  rw [lg_entry_eq]
  generalize (lg_sl ([.ref (aa 0), .int x1]) ++ List.replicate (3 - (lg_sl ([.ref (aa 0), .int x1])).length) Slot.unset).toArray = ls at hl ⊢
  have hl : lv_has ls 3 [(0, .ref (aa 0)), (1, .int x1)] := hl
  have F : tF p s m ([.ref (aa 0), .int x1] : List Value).toArray meth c G cA A RX8 cX8_text 3 (some .int) := ⟨hx, hb, hr, hml, hT, hown, hlocks, hK, hN, hA⟩
  obtain ⟨H, hH⟩ : ∃ z, z = s.heap := ⟨_, rfl⟩
  rw [← hH] at hP
  have hS : va_S A s.heap H [] := by rw [hH]; exact hS
  suffices hgo : G_X8_text p l e s m below meth c G cA A aa x1 r0 S' L' H [] (F0 m 0 ls []) by rw [hH] at hgo; exact hgo
  generalize ([] : List Loc) = locs at hS ⊢
  unfold f_X8_text at h
  refine lv_aload_n hx hb dX8_text_0 rfl (lv_at hl 0 rfl) ?_
  refine lv_iconst (v := 0) hx hb dX8_text_1 (by decide) ?_
  refine va_put (D := G) (ci := 8) (v := .int 0) (ty := .int) (C := RX8) (T := TX8) (N := 91) hx hb hT ku_8 tyX8 tyX8_ok nmX8 hown hK hP hD hS 0 rfl rfl 2 (by decide) (hT _ kw_14_0) (fun _ h9 => h9) rfl (by decide +kernel) rfl rfl (Nat.le_of_ble_eq_true rfl) dX8_text_2 (fun H locs hP hD hS => ?_)
  obtain ⟨S_1, eS_1, h⟩ := tx_lt h
  rw [sM_f2, eS_1] at hP hD
  refine lv_iload_n hx hb dX8_text_5 rfl (lv_at hl 1 rfl) ?_
  refine lv_if_lt (tgt := 17) hx hb dX8_text_6 (by decide) (fun c2 => ?_) (fun c2 => ?_)
  · have h := tx_pos c2 h
    refine lv_bipush (v := (-2)) hx hb dX8_text_17 (by decide) ?_
    obtain ⟨rfl, rfl, rfl⟩ := tx_3 h
    exact W.iret hx hb hr (fun t ht hW => ⟨⟨_, (), rfl, rfl, by rw [ht]; exact hP, hD⟩, hS.F ht⟩) hS.2.2 dX8_text_19
  · have h := tx_neg c2 h
    refine lv_iload_n hx hb dX8_text_9 rfl (lv_at hl 1 rfl) ?_
    refine lv_aload_n hx hb dX8_text_10 rfl (lv_at hl 0 rfl) ?_
    refine va_get (D := G) (ci := 8) (v := .int (S_1 0 1)) (C := RX8) (T := TX8) (N := 91) hx hb hT ku_8 hown hK hP 0 rfl rfl 1 (by decide) (hT _ kw_14_1) (fun _ h9 => h9) rfl dX8_text_11 ?_
    refine lv_icmp_le (tgt := 20) hx hb dX8_text_14 (by decide) (fun c3 => ?_) (fun c3 => ?_)
    · have h := tx_pos c3 h
      refine lv_aload_n hx hb dX8_text_20 rfl (lv_at hl 0 rfl) ?_
      refine lv_iload_n hx hb dX8_text_21 rfl (lv_at hl 1 rfl) ?_
      refine va_put (D := G) (ci := 8) (v := .int x1) (ty := .int) (C := RX8) (T := TX8) (N := 91) hx hb hT ku_8 tyX8 tyX8_ok nmX8 hown hK hP hD hS 0 rfl rfl 6 (by decide) (hT _ kw_22_11) (fun _ h9 => h9) rfl (by decide +kernel) rfl rfl (Nat.le_of_ble_eq_true rfl) dX8_text_22 (fun H locs hP hD hS => ?_)
      obtain ⟨S_4, eS_4, h⟩ := tx_lt h
      rw [sM_f6, eS_4] at hP hD
      refine lv_aload_n hx hb dX8_text_25 rfl (lv_at hl 0 rfl) ?_
      refine lv_iconst (v := 0) hx hb dX8_text_26 (by decide) ?_
      refine va_put (D := G) (ci := 8) (v := .int 0) (ty := .int) (C := RX8) (T := TX8) (N := 91) hx hb hT ku_8 tyX8 tyX8_ok nmX8 hown hK hP hD hS 0 rfl rfl 1 (by decide) (hT _ kw_14_1) (fun _ h9 => h9) rfl (by decide +kernel) rfl rfl (Nat.le_of_ble_eq_true rfl) dX8_text_27 (fun H locs hP hD hS => ?_)
      obtain ⟨S_5, eS_5, h⟩ := tx_lt h
      rw [sM_f1, eS_5] at hP hD
      refine lv_aload_n hx hb dX8_text_30 rfl (lv_at hl 0 rfl) ?_
      refine lv_iconst (v := 0) hx hb dX8_text_31 (by decide) ?_
      refine va_put (D := G) (ci := 8) (v := .int 0) (ty := .int) (C := RX8) (T := TX8) (N := 91) hx hb hT ku_8 tyX8 tyX8_ok nmX8 hown hK hP hD hS 0 rfl rfl 4 (by decide) (hT _ kw_22_12) (fun _ h9 => h9) rfl (by decide +kernel) rfl rfl (Nat.le_of_ble_eq_true rfl) dX8_text_32 (fun H locs hP hD hS => ?_)
      obtain ⟨S_6, eS_6, h⟩ := tx_lt h
      rw [sM_f4, eS_6] at hP hD
      refine lv_aload_n hx hb dX8_text_35 rfl (lv_at hl 0 rfl) ?_
      refine lv_iconst (v := (-1)) hx hb dX8_text_36 (by decide) ?_
      refine va_put (D := G) (ci := 8) (v := .int (-1)) (ty := .int) (C := RX8) (T := TX8) (N := 91) hx hb hT ku_8 tyX8 tyX8_ok nmX8 hown hK hP hD hS 0 rfl rfl 5 (by decide) (hT _ kw_9_12) (fun _ h9 => h9) rfl (by decide +kernel) rfl rfl (Nat.le_of_ble_eq_true rfl) dX8_text_37 (fun H locs hP hD hS => ?_)
      obtain ⟨S_7, eS_7, h⟩ := tx_lt h
      rw [sM_f5, eS_7] at hP hD
      refine lv_aload_n hx hb dX8_text_40 rfl (lv_at hl 0 rfl) ?_
      refine lv_iconst (v := 0) hx hb dX8_text_41 (by decide) ?_
      refine va_put (D := G) (ci := 8) (v := .int 0) (ty := .int) (C := RX8) (T := TX8) (N := 91) hx hb hT ku_8 tyX8 tyX8_ok nmX8 hown hK hP hD hS 0 rfl rfl 7 (by decide) (hT _ kw_22_13) (fun _ h9 => h9) rfl (by decide +kernel) rfl rfl (Nat.le_of_ble_eq_true rfl) dX8_text_42 (fun H locs hP hD hS => ?_)
      obtain ⟨S_8, eS_8, h⟩ := tx_lt h
      rw [sM_f7, eS_8] at hP hD
      refine lv_aload_n hx hb dX8_text_45 rfl (lv_at hl 0 rfl) ?_
      obtain ⟨S_9, hc10, h⟩ := tx_bd h
      refine tw_cv tw_all hP hD hS hA (va_runV (As := []) (rest := []) ⟨hx, hb, hml, hown, hT⟩ (c_X8_plain l G cA H.size aa S_8 L  S_9 hc10) (cwV 0 hT (tq_gV kw_11_13 kw_11_14 kw_11_15 kw_1_5 kw_11_16) rfl rfl rfl (by decide +kernel) ⟨Nat.le_of_ble_eq_true rfl, Nat.le_of_ble_eq_true rfl⟩) ⟨(tw_pre tw_all hP hD hK hN).1, va_recv hK hP (ci := 8) (q0 := 0) rfl rfl, (tw_pre tw_all hP hD hK hN).2⟩ rfl rfl hl.1 rfl (lv_room (Nat.le_of_ble_eq_true rfl)) dX8_text_46 ⟨Nat.le_of_ble_eq_true rfl, Nat.le_of_ble_eq_true rfl⟩) (fun _ H locs z11 hP hD hS => ?_)
      rw [List.append_nil] at hP hD
      have hP : va_P G vwCl (wM cA aa S_9 L) H := hP
      have hD : va_D A (wM cA aa S_9 L) := hD
      refine lv_aload_n hx hb dX8_text_49 rfl (lv_at hl 0 rfl) ?_
      obtain ⟨S_12, hc13, h⟩ := tx_bd h
      refine tw_cv tw_all hP hD hS hA (va_runV (As := []) (rest := []) ⟨hx, hb, hml, hown, hT⟩ (c_X8_token l G cA H.size aa S_9 L  S_12 hc13) (cwV 0 hT (tq_gV kw_22_15 kw_22_16 kw_22_17 kw_1_5 kw_22_18) rfl rfl rfl (by decide +kernel) ⟨Nat.le_of_ble_eq_true rfl, Nat.le_of_ble_eq_true rfl⟩) ⟨(tw_pre tw_all hP hD hK hN).1, va_recv hK hP (ci := 8) (q0 := 0) rfl rfl, (tw_pre tw_all hP hD hK hN).2⟩ rfl rfl hl.1 rfl (lv_room (Nat.le_of_ble_eq_true rfl)) dX8_text_50 ⟨Nat.le_of_ble_eq_true rfl, Nat.le_of_ble_eq_true rfl⟩) (fun _ H locs z14 hP hD hS => ?_)
      rw [List.append_nil] at hP hD
      have hP : va_P G vwCl (wM cA aa S_12 L) H := hP
      have hD : va_D A (wM cA aa S_12 L) := hD
      refine lv_iconst (v := 0) hx hb dX8_text_53 (by decide) ?_
      refine lv_istore_n (lv' := [(2, .int 0), (0, .ref (aa 0)), (1, .int x1)]) hx hb dX8_text_54 rfl hl (by decide) rfl (fun ls hl => ?_)
      exact w_X8_text_L55 F 2000 0 S_12 H locs ls h hP hD hS (lv_sub hl [1, 0] rfl)
    · have h := tx_neg c3 h
      refine lv_bipush (v := (-2)) hx hb dX8_text_17 (by decide) ?_
      obtain ⟨rfl, rfl, rfl⟩ := tx_3 h
      exact W.iret hx hb hr (fun t ht hW => ⟨⟨_, (), rfl, rfl, by rw [ht]; exact hP, hD⟩, hS.F ht⟩) hS.2.2 dX8_text_19
abbrev G_X8_tried (p : Program) (l : Launch) (e : Env) (s : State) (m : MethodId) (below : List Frame) (meth : Method) (c : Code) (G : va_G) (cA : Nat → ClassId) (A : Nat → Prop) (aa : Nat → Nat) (x1 : Int32) (x2 : Int32) (r0 : Int32) (S' : Tr) (L' : Lo) (H : Heap) (locs : List Loc) (g : JFrame) : Prop := W p l e (headSpec (.code yX8_tried cX8_tried 4 (some .int) :: T0) ({ frames := 9, cells := 0, slots := 0, locals := 211 } : Room)).room s m ([.ref (aa 0), .int x1, .int x2] : List Value).toArray below meth c H locs 0 0 (MQ below (tqQi G cA (fun (r : Int32) (_ : Unit) => r = r0) (fun (_ : Unit) => wM cA aa S' L') A) ([.ref (aa 0), .int x1, .int x2] : List Value).toArray s 0 0 A) g
set_option maxHeartbeats 4000000 in
set_option maxRecDepth 100000 in
theorem w_X8_tried_J156 {p : Program} {l : Launch} {e : Env} {s : State} {m : MethodId} {below : List Frame} {meth : Method} {c : Code} {G : va_G} {cA : Nat → ClassId} {A : Nat → Prop} {aa : Nat → Nat} {x1₀ : Int32} {x2₀ : Int32} {r0 : Int32} {S' : Tr} {L' : Lo} (F : tF p s m ([.ref (aa 0), .int x1₀, .int x2₀] : List Value).toArray meth c G cA A RX8 cX8_tried 4 (some .int))    (S : Tr) (L : Lo) (H : Heap) (locs : List Loc) (ls : Array Slot) (h : fJ_X8_tried_J156 S L = some (r0, S', L')) (hP : va_P G vwCl (wM cA aa S_28 L_25) H) (hD : va_D A (wM cA aa S_28 L_25)) (hS : va_S A s.heap H locs) (hl : lv_has ls 4 [(0, .ref (aa 0))]) : G_X8_tried p l e s m below meth c G cA A aa x1₀ x2₀ r0 S' L' H locs (F0 m 156 ls []) := by
  obtain ⟨hx, hb, hr, hml, hT, hown, hlocks, hK, hN, hA⟩ := id F
  unfold fJ_X8_tried_J156 at h
  refine lv_aload_n hx hb dX8_tried_156 rfl (lv_at hl 0 rfl) ?_
  obtain ⟨⟨S_24, L_25⟩, hc26, h⟩ := tx_bd h
  replace h := tx_let (y := S_24) rfl h
  replace h := tx_let (y := L_25) rfl h
  refine tw_cv tw_all hP hD hS hA (va_runV (As := []) (rest := []) ⟨hx, hb, hml, hown, hT⟩ (c_X8_toEnd l G cA H.size aa S L  S_24 L_25 hc26) (cwV 0 hT (tq_gV kw_48_5 kw_48_6 kw_48_7 kw_1_5 kw_48_8) rfl rfl rfl (by decide +kernel) ⟨Nat.le_of_ble_eq_true rfl, Nat.le_of_ble_eq_true rfl⟩) ⟨(tw_pre tw_all hP hD hK hN).1, va_recv hK hP (ci := 8) (q0 := 0) rfl rfl, (tw_pre tw_all hP hD hK hN).2⟩ rfl rfl hl.1 rfl (lv_room (Nat.le_of_ble_eq_true rfl)) dX8_tried_157 ⟨Nat.le_of_ble_eq_true rfl, Nat.le_of_ble_eq_true rfl⟩) (fun _ H locs z27 hP hD hS => ?_)
  rw [List.append_nil] at hP hD
  have hP : va_P G vwCl (wM cA aa S_24 L_25) H := hP
  have hD : va_D A (wM cA aa S_24 L_25) := hD
  refine lv_aload_n hx hb dX8_tried_160 rfl (lv_at hl 0 rfl) ?_
  obtain ⟨S_28, hc29, h⟩ := tx_bd h
  refine tw_cv tw_all hP hD hS hA (va_runV (As := []) (rest := []) ⟨hx, hb, hml, hown, hT⟩ (c_X8_plainTried l G cA H.size aa S_24 L_25  S_28 hc29) (cwV 0 hT (tq_gV kw_12_22 kw_12_23 kw_13_0 kw_1_5 kw_13_1) rfl rfl rfl (by decide +kernel) ⟨Nat.le_of_ble_eq_true rfl, Nat.le_of_ble_eq_true rfl⟩) ⟨(tw_pre tw_all hP hD hK hN).1, va_recv hK hP (ci := 8) (q0 := 0) rfl rfl, (tw_pre tw_all hP hD hK hN).2⟩ rfl rfl hl.1 rfl (lv_room (Nat.le_of_ble_eq_true rfl)) dX8_tried_161 ⟨Nat.le_of_ble_eq_true rfl, Nat.le_of_ble_eq_true rfl⟩) (fun _ H locs z30 hP hD hS => ?_)
  rw [List.append_nil] at hP hD
  have hP : va_P G vwCl (wM cA aa S_28 L_25) H := hP
  have hD : va_D A (wM cA aa S_28 L_25) := hD
  refine lv_aload_n hx hb dX8_tried_164 rfl (lv_at hl 0 rfl) ?_
  obtain ⟨r31, hc32, h⟩ := tx_bd h
  refine tw_ci tw_all hP hD hS hA (va_runV (As := []) (rest := []) ⟨hx, hb, hml, hown, hT⟩ (c_X8_more l G cA H.size aa S_28 L_25  r31 hc32) (cwV 0 hT (tq_gV kw_48_9 kw_48_10 kw_48_11 kw_1_5 kw_48_12) rfl rfl rfl (by decide +kernel) ⟨Nat.le_of_ble_eq_true rfl, Nat.le_of_ble_eq_true rfl⟩) ⟨(tw_pre tw_all hP hD hK hN).1, va_recv hK hP (ci := 8) (q0 := 0) rfl rfl, (tw_pre tw_all hP hD hK hN).2⟩ rfl rfl hl.1 rfl (lv_room (Nat.le_of_ble_eq_true rfl)) dX8_tried_165 ⟨Nat.le_of_ble_eq_true rfl, Nat.le_of_ble_eq_true rfl⟩) (fun _ _ H locs z33 hP hD hS => ?_)
  subst z33
  rw [List.append_nil] at hP hD
  have hP : va_P G vwCl (wM cA aa S_28 L_25) H := hP
  have hD : va_D A (wM cA aa S_28 L_25) := hD
  obtain ⟨rfl, rfl, rfl⟩ := tx_3 h
  exact W.iret hx hb hr (fun t ht hW => ⟨⟨_, (), rfl, rfl, by rw [ht]; exact hP, hD⟩, hS.F ht⟩) hS.2.2 dX8_tried_168
set_option maxHeartbeats 4000000 in
set_option maxRecDepth 100000 in
theorem w_X8_tried_J146 {p : Program} {l : Launch} {e : Env} {s : State} {m : MethodId} {below : List Frame} {meth : Method} {c : Code} {G : va_G} {cA : Nat → ClassId} {A : Nat → Prop} {aa : Nat → Nat} {x1₀ : Int32} {x2₀ : Int32} {r0 : Int32} {S' : Tr} {L' : Lo} (F : tF p s m ([.ref (aa 0), .int x1₀, .int x2₀] : List Value).toArray meth c G cA A RX8 cX8_tried 4 (some .int))    (x2 : Int32) (S : Tr) (L : Lo) (H : Heap) (locs : List Loc) (ls : Array Slot) (h : fJ_X8_tried_J146 x2 S L = some (r0, S', L')) (hP : va_P G vwCl (wM cA aa S_36 L) H) (hD : va_D A (wM cA aa S_36 L)) (hS : va_S A s.heap H locs) (hl : lv_has ls 4 [(0, .ref (aa 0)), (2, .int x2)]) : G_X8_tried p l e s m below meth c G cA A aa x1₀ x2₀ r0 S' L' H locs (F0 m 146 ls []) := by
  obtain ⟨hx, hb, hr, hml, hT, hown, hlocks, hK, hN, hA⟩ := id F
  unfold fJ_X8_tried_J146 at h
  refine lv_aload_n hx hb dX8_tried_146 rfl (lv_at hl 0 rfl) ?_
  refine va_get (D := G) (ci := 8) (v := .ref (aa 59)) (C := RX8) (T := TX8) (N := 91) hx hb hT ku_8 hown hK hP 0 rfl rfl 58 (by decide) (hT _ kw_10_19) (fun _ h9 => h9) rfl dX8_tried_147 ?_
  refine lv_bipush (v := 6) hx hb dX8_tried_150 (by decide) ?_
  refine lv_iload_n hx hb dX8_tried_152 rfl (lv_at hl 1 rfl) ?_
  refine lv_iadd hx hb dX8_tried_153 ?_
  refine lv_iconst (v := 2) hx hb dX8_tried_154 (by decide) ?_
  obtain ⟨g35, h⟩ := tx_ck h
  refine va_iast (i := ((6 : Int32) + x2)) hx hb hK hP hD hS 33 0 rfl rfl (tx_in g35) dX8_tried_155 (fun H locs hP hD hS => ?_)
  obtain ⟨S_36, eS_36, h⟩ := tx_lt h
  rw [sM_a58, eS_36] at hP hD
  exact w_X8_tried_J156 F S_36 L H locs ls h hP hD hS (lv_sub hl [0] rfl)
set_option maxHeartbeats 4000000 in
set_option maxRecDepth 100000 in
theorem w_X8_tried_L102 {p : Program} {l : Launch} {e : Env} {s : State} {m : MethodId} {below : List Frame} {meth : Method} {c : Code} {G : va_G} {cA : Nat → ClassId} {A : Nat → Prop} {aa : Nat → Nat} {x1₀ : Int32} {x2₀ : Int32} {r0 : Int32} {S' : Tr} {L' : Lo} {L : Lo} {x2 : Int32} (F : tF p s m ([.ref (aa 0), .int x1₀, .int x2₀] : List Value).toArray meth c G cA A RX8 cX8_tried 4 (some .int))    (N : Nat) : ∀ (x3 : Int32) (S : Tr) (H : Heap) (locs : List Loc) (ls : Array Slot), lpF (fun _ _ => none) (fB_X8_tried_L102 L x2) N x3 S = some (r0, S', L') → va_P G vwCl (wM cA aa S L) H → va_D A (wM cA aa S L) → va_S A s.heap H locs → lv_has ls 4 [(0, .ref (aa 0)), (2, .int x2), (3, .int x3)] → G_X8_tried p l e s m below meth c G cA A aa x1₀ x2₀ r0 S' L' H locs (F0 m 102 ls []) := by
  obtain ⟨hx, hb, hr, hml, hT, hown, hlocks, hK, hN, hA⟩ := id F
  induction N with
  | zero =>
    intro x3 S H locs ls h
    have h : (none : Option (Int32 × Tr × Lo)) = some (r0, S', L') := h
    cases h
  | succ N hk102 =>
    intro x3 S H locs ls h hP hD hS hl
    have h : fB_X8_tried_L102 L x2 (lpF (fun _ _ => none) (fB_X8_tried_L102 L x2) N) x3 S = some (r0, S', L') := h
    generalize hk102e : lpF (fun _ _ => none) (fB_X8_tried_L102 L x2) N = k102 at h hk102
    unfold fB_X8_tried_L102 at h
    refine lv_iload_n hx hb dX8_tried_102 rfl (lv_at hl 2 rfl) ?_
    refine lv_aload_n hx hb dX8_tried_103 rfl (lv_at hl 0 rfl) ?_
    refine va_get (D := G) (ci := 8) (v := .int (S 0 14)) (C := RX8) (T := TX8) (N := 91) hx hb hT ku_8 hown hK hP 0 rfl rfl 14 (by decide) (hT _ kw_12_5) (fun _ h9 => h9) rfl dX8_tried_104 ?_
    refine lv_icmp_ge (tgt := 146) hx hb dX8_tried_107 (by decide) (fun c34 => ?_) (fun c34 => ?_)
    · have h := tx_pos c34 h
      exact w_X8_tried_J146 F x2 S L H locs ls h hP hD hS (lv_sub hl [0, 1] rfl)
    · have h := tx_neg c34 h
      refine lv_aload_n hx hb dX8_tried_110 rfl (lv_at hl 0 rfl) ?_
      refine va_get (D := G) (ci := 8) (v := .ref (aa 30)) (C := RX8) (T := TX8) (N := 91) hx hb hT ku_8 hown hK hP 0 rfl rfl 29 (by decide) (hT _ kw_9_21) (fun _ h9 => h9) rfl dX8_tried_111 ?_
      refine lv_iload_n hx hb dX8_tried_114 rfl (lv_at hl 2 rfl) ?_
      obtain ⟨g37, h⟩ := tx_ck h
      refine va_iald (i := x3) hx hb hK hP 11 0 rfl rfl (tx_in g37) dX8_tried_115 ?_
      refine lv_iload_n hx hb dX8_tried_116 rfl (lv_at hl 1 rfl) ?_
      refine lv_icmp_ne (tgt := 140) hx hb dX8_tried_117 (by decide) (fun c38 => ?_) (fun c38 => ?_)
      · have h := tx_neg c38 h
        obtain ⟨y39, ey39, h⟩ := tx_lt h
        refine lv_iinc (v := y39) (lv' := [(3, .int y39), (0, .ref (aa 0)), (2, .int x2)]) hx hb dX8_tried_140 hl (k := 2) rfl ey39 (by decide) rfl (fun ls hl => ?_)
        refine lv_goto (tgt := 102) hx hb dX8_tried_143 (by decide) ?_
        exact hk102 y39 S H locs ls h hP hD hS (lv_sub hl [1, 2, 0] rfl)
      · have h := tx_pos c38 h
        refine lv_aload_n hx hb dX8_tried_120 rfl (lv_at hl 0 rfl) ?_
        refine va_get (D := G) (ci := 8) (v := .ref (aa 53)) (C := RX8) (T := TX8) (N := 91) hx hb hT ku_8 hown hK hP 0 rfl rfl 52 (by decide) (hT _ kw_10_13) (fun _ h9 => h9) rfl dX8_tried_121 ?_
        refine lv_bipush (v := 10) hx hb dX8_tried_124 (by decide) ?_
        refine lv_iload_n hx hb dX8_tried_126 rfl (lv_at hl 2 rfl) ?_
        refine lv_iadd hx hb dX8_tried_127 ?_
        obtain ⟨g40, h⟩ := tx_ck h
        refine va_iald (i := ((10 : Int32) + x3)) hx hb hK hP 27 0 rfl rfl (tx_in g40) dX8_tried_128 ?_
        refine lv_iconst (v := 1) hx hb dX8_tried_129 (by decide) ?_
        refine lv_icmp_ne (tgt := 140) hx hb dX8_tried_130 (by decide) (fun c41 => ?_) (fun c41 => ?_)
        · have h := tx_neg c41 h
          obtain ⟨y42, ey42, h⟩ := tx_lt h
          refine lv_iinc (v := y42) (lv' := [(3, .int y42), (0, .ref (aa 0)), (2, .int x2)]) hx hb dX8_tried_140 hl (k := 2) rfl ey42 (by decide) rfl (fun ls hl => ?_)
          refine lv_goto (tgt := 102) hx hb dX8_tried_143 (by decide) ?_
          exact hk102 y42 S H locs ls h hP hD hS (lv_sub hl [1, 2, 0] rfl)
        · have h := tx_pos c41 h
          refine lv_aload_n hx hb dX8_tried_133 rfl (lv_at hl 0 rfl) ?_
          refine lv_iconst (v := 1) hx hb dX8_tried_134 (by decide) ?_
          refine lv_iload_n hx hb dX8_tried_135 rfl (lv_at hl 2 rfl) ?_
          refine lv_iconst (v := 2) hx hb dX8_tried_136 (by decide) ?_
          obtain ⟨S_43, hc44, h⟩ := tx_bd h
          refine tw_cv tw_all hP hD hS hA (va_runV (As := [.int 1, .int x3, .int 2]) (rest := []) ⟨hx, hb, hml, hown, hT⟩ (c_X8_takes l G cA H.size aa S L (1 : Int32) x3 (2 : Int32)  S_43 hc44) (cwV 3 hT (tq_gV kw_37_18 kw_37_19 kw_37_20 kw_1_5 kw_37_21) rfl rfl rfl (by decide +kernel) ⟨Nat.le_of_ble_eq_true rfl, Nat.le_of_ble_eq_true rfl⟩) ⟨(tw_pre tw_all hP hD hK hN).1, va_recv hK hP (ci := 8) (q0 := 0) rfl rfl, (tw_pre tw_all hP hD hK hN).2⟩ rfl rfl hl.1 rfl (lv_room (Nat.le_of_ble_eq_true rfl)) dX8_tried_137 ⟨Nat.le_of_ble_eq_true rfl, Nat.le_of_ble_eq_true rfl⟩) (fun _ H locs z45 hP hD hS => ?_)
          rw [List.append_nil] at hP hD
          have hP : va_P G vwCl (wM cA aa S_43 L) H := hP
          have hD : va_D A (wM cA aa S_43 L) := hD
          obtain ⟨y46, ey46, h⟩ := tx_lt h
          refine lv_iinc (v := y46) (lv' := [(3, .int y46), (0, .ref (aa 0)), (2, .int x2)]) hx hb dX8_tried_140 hl (k := 2) rfl ey46 (by decide) rfl (fun ls hl => ?_)
          refine lv_goto (tgt := 102) hx hb dX8_tried_143 (by decide) ?_
          exact hk102 y46 S_43 H locs ls h hP hD hS (lv_sub hl [1, 2, 0] rfl)
set_option maxHeartbeats 4000000 in
set_option maxRecDepth 100000 in
theorem w_X8_tried_J92 {p : Program} {l : Launch} {e : Env} {s : State} {m : MethodId} {below : List Frame} {meth : Method} {c : Code} {G : va_G} {cA : Nat → ClassId} {A : Nat → Prop} {aa : Nat → Nat} {x1₀ : Int32} {x2₀ : Int32} {r0 : Int32} {S' : Tr} {L' : Lo} (F : tF p s m ([.ref (aa 0), .int x1₀, .int x2₀] : List Value).toArray meth c G cA A RX8 cX8_tried 4 (some .int))    (x1 : Int32) (x2 : Int32) (s0 : Int32) (S : Tr) (L : Lo) (H : Heap) (locs : List Loc) (ls : Array Slot) (h : fJ_X8_tried_J92 x1 x2 s0 S L = some (r0, S', L')) (hP : va_P G vwCl (wM cA aa S_22 L) H) (hD : va_D A (wM cA aa S_22 L)) (hS : va_S A s.heap H locs) (hl : lv_has ls 4 [(0, .ref (aa 0)), (1, .int x1), (2, .int x2)]) : G_X8_tried p l e s m below meth c G cA A aa x1₀ x2₀ r0 S' L' H locs (F0 m 92 ls []) := by
  obtain ⟨hx, hb, hr, hml, hT, hown, hlocks, hK, hN, hA⟩ := id F
  unfold fJ_X8_tried_J92 at h
  obtain ⟨g21, h⟩ := tx_ck h
  refine va_put (D := G) (ci := 8) (v := .int s0) (ty := .boolean) (C := RX8) (T := TX8) (N := 91) hx hb hT ku_8 tyX8 tyX8_ok nmX8 hown hK hP hD hS 0 rfl rfl 68 (by decide) (hT _ kw_13_6) (fun _ h9 => h9) rfl (by decide +kernel) (tx_z g21) rfl (Nat.le_of_ble_eq_true rfl) dX8_tried_92 (fun H locs hP hD hS => ?_)
  obtain ⟨S_22, eS_22, h⟩ := tx_lt h
  rw [sM_f68, eS_22] at hP hD
  refine lv_iload_n hx hb dX8_tried_95 rfl (lv_at hl 1 rfl) ?_
  refine lv_iconst (v := 2) hx hb dX8_tried_96 (by decide) ?_
  refine lv_icmp_ne (tgt := 156) hx hb dX8_tried_97 (by decide) (fun c23 => ?_) (fun c23 => ?_)
  · have h := tx_neg c23 h
    exact w_X8_tried_J156 F S_22 L H locs ls h hP hD hS (lv_sub hl [0] rfl)
  · have h := tx_pos c23 h
    refine lv_iconst (v := 0) hx hb dX8_tried_100 (by decide) ?_
    refine lv_istore_n (lv' := [(3, .int 0), (0, .ref (aa 0)), (1, .int x1), (2, .int x2)]) hx hb dX8_tried_101 rfl hl (by decide) rfl (fun ls hl => ?_)
    exact w_X8_tried_L102 F 2000 0 S_22 H locs ls h hP hD hS (lv_sub hl [1, 3, 0] rfl)
set_option maxHeartbeats 4000000 in
set_option maxRecDepth 100000 in
theorem w_X8_tried_J78 {p : Program} {l : Launch} {e : Env} {s : State} {m : MethodId} {below : List Frame} {meth : Method} {c : Code} {G : va_G} {cA : Nat → ClassId} {A : Nat → Prop} {aa : Nat → Nat} {x1₀ : Int32} {x2₀ : Int32} {r0 : Int32} {S' : Tr} {L' : Lo} (F : tF p s m ([.ref (aa 0), .int x1₀, .int x2₀] : List Value).toArray meth c G cA A RX8 cX8_tried 4 (some .int))    (x1 : Int32) (x2 : Int32) (s0 : Int32) (S : Tr) (L : Lo) (H : Heap) (locs : List Loc) (ls : Array Slot) (h : fJ_X8_tried_J78 x1 x2 s0 S L = some (r0, S', L')) (hP : va_P G vwCl (wM cA aa S_19 L) H) (hD : va_D A (wM cA aa S_19 L)) (hS : va_S A s.heap H locs) (hl : lv_has ls 4 [(0, .ref (aa 0)), (1, .int x1), (2, .int x2)]) : G_X8_tried p l e s m below meth c G cA A aa x1₀ x2₀ r0 S' L' H locs (F0 m 78 ls [.ref (aa 0)]) := by
  obtain ⟨hx, hb, hr, hml, hT, hown, hlocks, hK, hN, hA⟩ := id F
  unfold fJ_X8_tried_J78 at h
  obtain ⟨g18, h⟩ := tx_ck h
  refine va_put (D := G) (ci := 8) (v := .int s0) (ty := .boolean) (C := RX8) (T := TX8) (N := 91) hx hb hT ku_8 tyX8 tyX8_ok nmX8 hown hK hP hD hS 0 rfl rfl 69 (by decide) (hT _ kw_13_7) (fun _ h9 => h9) rfl (by decide +kernel) (tx_z g18) rfl (Nat.le_of_ble_eq_true rfl) dX8_tried_78 (fun H locs hP hD hS => ?_)
  obtain ⟨S_19, eS_19, h⟩ := tx_lt h
  rw [sM_f69, eS_19] at hP hD
  refine lv_aload_n hx hb dX8_tried_81 rfl (lv_at hl 0 rfl) ?_
  refine lv_iload_n hx hb dX8_tried_82 rfl (lv_at hl 1 rfl) ?_
  refine lv_iconst (v := 4) hx hb dX8_tried_83 (by decide) ?_
  refine lv_icmp_ne (tgt := 91) hx hb dX8_tried_84 (by decide) (fun c20 => ?_) (fun c20 => ?_)
  · have h := tx_neg c20 h
    refine lv_iconst (v := 0) hx hb dX8_tried_91 (by decide) ?_
    exact w_X8_tried_J92 F x1 x2 0 S_19 L H locs ls h hP hD hS (lv_sub hl [0, 1, 2] rfl)
  · have h := tx_pos c20 h
    refine lv_iconst (v := 1) hx hb dX8_tried_87 (by decide) ?_
    refine lv_goto (tgt := 92) hx hb dX8_tried_88 (by decide) ?_
    exact w_X8_tried_J92 F x1 x2 1 S_19 L H locs ls h hP hD hS (lv_sub hl [0, 1, 2] rfl)
set_option maxHeartbeats 4000000 in
set_option maxRecDepth 100000 in
theorem w_X8_tried_J64 {p : Program} {l : Launch} {e : Env} {s : State} {m : MethodId} {below : List Frame} {meth : Method} {c : Code} {G : va_G} {cA : Nat → ClassId} {A : Nat → Prop} {aa : Nat → Nat} {x1₀ : Int32} {x2₀ : Int32} {r0 : Int32} {S' : Tr} {L' : Lo} (F : tF p s m ([.ref (aa 0), .int x1₀, .int x2₀] : List Value).toArray meth c G cA A RX8 cX8_tried 4 (some .int))    (x1 : Int32) (x2 : Int32) (s0 : Int32) (S : Tr) (L : Lo) (H : Heap) (locs : List Loc) (ls : Array Slot) (h : fJ_X8_tried_J64 x1 x2 s0 S L = some (r0, S', L')) (hP : va_P G vwCl (wM cA aa S_16 L) H) (hD : va_D A (wM cA aa S_16 L)) (hS : va_S A s.heap H locs) (hl : lv_has ls 4 [(0, .ref (aa 0)), (1, .int x1), (2, .int x2)]) : G_X8_tried p l e s m below meth c G cA A aa x1₀ x2₀ r0 S' L' H locs (F0 m 64 ls [.ref (aa 0)]) := by
  obtain ⟨hx, hb, hr, hml, hT, hown, hlocks, hK, hN, hA⟩ := id F
  unfold fJ_X8_tried_J64 at h
  obtain ⟨g15, h⟩ := tx_ck h
  refine va_put (D := G) (ci := 8) (v := .int s0) (ty := .boolean) (C := RX8) (T := TX8) (N := 91) hx hb hT ku_8 tyX8 tyX8_ok nmX8 hown hK hP hD hS 0 rfl rfl 67 (by decide) (hT _ kw_13_5) (fun _ h9 => h9) rfl (by decide +kernel) (tx_z g15) rfl (Nat.le_of_ble_eq_true rfl) dX8_tried_64 (fun H locs hP hD hS => ?_)
  obtain ⟨S_16, eS_16, h⟩ := tx_lt h
  rw [sM_f67, eS_16] at hP hD
  refine lv_aload_n hx hb dX8_tried_67 rfl (lv_at hl 0 rfl) ?_
  refine lv_iload_n hx hb dX8_tried_68 rfl (lv_at hl 1 rfl) ?_
  refine lv_iconst (v := 3) hx hb dX8_tried_69 (by decide) ?_
  refine lv_icmp_ne (tgt := 77) hx hb dX8_tried_70 (by decide) (fun c17 => ?_) (fun c17 => ?_)
  · have h := tx_neg c17 h
    refine lv_iconst (v := 0) hx hb dX8_tried_77 (by decide) ?_
    exact w_X8_tried_J78 F x1 x2 0 S_16 L H locs ls h hP hD hS (lv_sub hl [0, 1, 2] rfl)
  · have h := tx_pos c17 h
    refine lv_iconst (v := 1) hx hb dX8_tried_73 (by decide) ?_
    refine lv_goto (tgt := 78) hx hb dX8_tried_74 (by decide) ?_
    exact w_X8_tried_J78 F x1 x2 1 S_16 L H locs ls h hP hD hS (lv_sub hl [0, 1, 2] rfl)
set_option maxHeartbeats 4000000 in
set_option maxRecDepth 100000 in
theorem w_X8_tried_J50 {p : Program} {l : Launch} {e : Env} {s : State} {m : MethodId} {below : List Frame} {meth : Method} {c : Code} {G : va_G} {cA : Nat → ClassId} {A : Nat → Prop} {aa : Nat → Nat} {x1₀ : Int32} {x2₀ : Int32} {r0 : Int32} {S' : Tr} {L' : Lo} (F : tF p s m ([.ref (aa 0), .int x1₀, .int x2₀] : List Value).toArray meth c G cA A RX8 cX8_tried 4 (some .int))    (x1 : Int32) (x2 : Int32) (s0 : Int32) (S : Tr) (L : Lo) (H : Heap) (locs : List Loc) (ls : Array Slot) (h : fJ_X8_tried_J50 x1 x2 s0 S L = some (r0, S', L')) (hP : va_P G vwCl (wM cA aa S_13 L) H) (hD : va_D A (wM cA aa S_13 L)) (hS : va_S A s.heap H locs) (hl : lv_has ls 4 [(0, .ref (aa 0)), (1, .int x1), (2, .int x2)]) : G_X8_tried p l e s m below meth c G cA A aa x1₀ x2₀ r0 S' L' H locs (F0 m 50 ls [.ref (aa 0)]) := by
  obtain ⟨hx, hb, hr, hml, hT, hown, hlocks, hK, hN, hA⟩ := id F
  unfold fJ_X8_tried_J50 at h
  obtain ⟨g12, h⟩ := tx_ck h
  refine va_put (D := G) (ci := 8) (v := .int s0) (ty := .boolean) (C := RX8) (T := TX8) (N := 91) hx hb hT ku_8 tyX8 tyX8_ok nmX8 hown hK hP hD hS 0 rfl rfl 66 (by decide) (hT _ kw_13_4) (fun _ h9 => h9) rfl (by decide +kernel) (tx_z g12) rfl (Nat.le_of_ble_eq_true rfl) dX8_tried_50 (fun H locs hP hD hS => ?_)
  obtain ⟨S_13, eS_13, h⟩ := tx_lt h
  rw [sM_f66, eS_13] at hP hD
  refine lv_aload_n hx hb dX8_tried_53 rfl (lv_at hl 0 rfl) ?_
  refine lv_iload_n hx hb dX8_tried_54 rfl (lv_at hl 1 rfl) ?_
  refine lv_iconst (v := 1) hx hb dX8_tried_55 (by decide) ?_
  refine lv_icmp_ne (tgt := 63) hx hb dX8_tried_56 (by decide) (fun c14 => ?_) (fun c14 => ?_)
  · have h := tx_neg c14 h
    refine lv_iconst (v := 0) hx hb dX8_tried_63 (by decide) ?_
    exact w_X8_tried_J64 F x1 x2 0 S_13 L H locs ls h hP hD hS (lv_sub hl [0, 1, 2] rfl)
  · have h := tx_pos c14 h
    refine lv_iconst (v := 1) hx hb dX8_tried_59 (by decide) ?_
    refine lv_goto (tgt := 64) hx hb dX8_tried_60 (by decide) ?_
    exact w_X8_tried_J64 F x1 x2 1 S_13 L H locs ls h hP hD hS (lv_sub hl [0, 1, 2] rfl)
set_option maxHeartbeats 4000000 in
set_option maxRecDepth 100000 in
theorem w_X8_tried_J36 {p : Program} {l : Launch} {e : Env} {s : State} {m : MethodId} {below : List Frame} {meth : Method} {c : Code} {G : va_G} {cA : Nat → ClassId} {A : Nat → Prop} {aa : Nat → Nat} {x1₀ : Int32} {x2₀ : Int32} {r0 : Int32} {S' : Tr} {L' : Lo} (F : tF p s m ([.ref (aa 0), .int x1₀, .int x2₀] : List Value).toArray meth c G cA A RX8 cX8_tried 4 (some .int))    (x1 : Int32) (x2 : Int32) (S : Tr) (L : Lo) (H : Heap) (locs : List Loc) (ls : Array Slot) (h : fJ_X8_tried_J36 x1 x2 S L = some (r0, S', L')) (hP : va_P G vwCl (wM cA aa S_8 L) H) (hD : va_D A (wM cA aa S_8 L)) (hS : va_S A s.heap H locs) (hl : lv_has ls 4 [(0, .ref (aa 0)), (1, .int x1), (2, .int x2)]) : G_X8_tried p l e s m below meth c G cA A aa x1₀ x2₀ r0 S' L' H locs (F0 m 36 ls [.ref (aa 0)]) := by
  obtain ⟨hx, hb, hr, hml, hT, hown, hlocks, hK, hN, hA⟩ := id F
  unfold fJ_X8_tried_J36 at h
  refine lv_aload_n hx hb dX8_tried_36 rfl (lv_at hl 0 rfl) ?_
  obtain ⟨S_8, hc9, h⟩ := tx_bd h
  refine tw_cv tw_all hP hD hS hA (va_runV (As := []) (rest := []) ⟨hx, hb, hml, hown, hT⟩ (c_X8_layTried l G cA H.size aa S L  S_8 hc9) (cwV 0 hT (tq_gV kw_39_5 kw_39_6 kw_39_7 kw_1_5 kw_39_8) rfl rfl rfl (by decide +kernel) ⟨Nat.le_of_ble_eq_true rfl, Nat.le_of_ble_eq_true rfl⟩) ⟨(tw_pre tw_all hP hD hK hN).1, va_recv hK hP (ci := 8) (q0 := 0) rfl rfl, (tw_pre tw_all hP hD hK hN).2⟩ rfl rfl hl.1 rfl (lv_room (Nat.le_of_ble_eq_true rfl)) dX8_tried_37 ⟨Nat.le_of_ble_eq_true rfl, Nat.le_of_ble_eq_true rfl⟩) (fun _ H locs z10 hP hD hS => ?_)
  rw [List.append_nil] at hP hD
  have hP : va_P G vwCl (wM cA aa S_8 L) H := hP
  have hD : va_D A (wM cA aa S_8 L) := hD
  refine lv_aload_n hx hb dX8_tried_40 rfl (lv_at hl 0 rfl) ?_
  refine lv_iload_n hx hb dX8_tried_41 rfl (lv_at hl 1 rfl) ?_
  refine lv_if_ne (tgt := 49) hx hb dX8_tried_42 (by decide) (fun c11 => ?_) (fun c11 => ?_)
  · have h := tx_neg c11 h
    refine lv_iconst (v := 0) hx hb dX8_tried_49 (by decide) ?_
    exact w_X8_tried_J50 F x1 x2 0 S_8 L H locs ls h hP hD hS (lv_sub hl [0, 1, 2] rfl)
  · have h := tx_pos c11 h
    refine lv_iconst (v := 1) hx hb dX8_tried_45 (by decide) ?_
    refine lv_goto (tgt := 50) hx hb dX8_tried_46 (by decide) ?_
    exact w_X8_tried_J50 F x1 x2 1 S_8 L H locs ls h hP hD hS (lv_sub hl [0, 1, 2] rfl)
set_option maxHeartbeats 4000000 in
set_option maxRecDepth 100000 in
theorem c_X8_tried (l : Launch) (G : va_G) (cA : Nat → ClassId) (sz : Nat) (aa : Nat → Nat) (S : Tr) (L : Lo) (x1 : Int32) (x2 : Int32)  (r0 : Int32) (S' : Tr) (L' : Lo) (h : f_X8_tried S L x1 x2 = some (r0, S', L')) : Met l yX8_tried (.code yX8_tried cX8_tried 4 (some .int) :: T0) ({ frames := 9, cells := 0, slots := 0, locals := 211 } : Room) (tqP G cA [.ref (aa 0), .int x1, .int x2] (wM cA aa S L) sz) (tqQi G cA (fun (r : Int32) (_ : Unit) => r = r0) (fun (_ : Unit) => wM cA aa S' L') (va_A (wM cA aa S L) sz)) 0 0 (va_A (wM cA aa S L) sz) := by
  refine Met.ofW (cc := cX8_tried) (maxL := 4) (ret := (some .int)) (by decide) rfl ?_
  intro p e s m args below meth c s₁ B hml hv
  obtain ⟨rfl, hsz, hP, hK, hD0, hN⟩ := hv
  have hx := B.exec
  have hb := B.bytes
  have hr := B.returns
  have hts := atoms_spec (ws := .code yX8_tried cX8_tried 4 (some .int) :: T0) B.pre
  have hT : ∀ w ∈ T0, w.before _ s = true := fun w h => hts w (List.mem_cons_of_mem _ h)
  have hown : s.vm.findClass RX8 = some m.cls := findClass_of_methodNamed B.named
  have hlocks := B.notSynchronized
  subst hsz
  have hD := hD0.self (sz := s.heap.size)
  generalize hAe : va_A (wM cA aa S L) s.heap.size = A at hD ⊢
  have hA : ∀ q : Nat, s.heap.size ≤ q → A q := fun q h => by rw [← hAe]; exact Or.inr h
  have hS : va_S A s.heap s.heap [] := va_S.rf
  have hl := lv_entry ([.ref (aa 0), .int x1, .int x2]) (n := 4) (Nat.le_of_ble_eq_true rfl)
  rw [lg_entry_eq]
  generalize (lg_sl ([.ref (aa 0), .int x1, .int x2]) ++ List.replicate (4 - (lg_sl ([.ref (aa 0), .int x1, .int x2])).length) Slot.unset).toArray = ls at hl ⊢
  have hl : lv_has ls 4 [(0, .ref (aa 0)), (1, .int x1), (2, .int x2)] := hl
  have F : tF p s m ([.ref (aa 0), .int x1, .int x2] : List Value).toArray meth c G cA A RX8 cX8_tried 4 (some .int) := ⟨hx, hb, hr, hml, hT, hown, hlocks, hK, hN, hA⟩
  obtain ⟨H, hH⟩ : ∃ z, z = s.heap := ⟨_, rfl⟩
  rw [← hH] at hP
  have hS : va_S A s.heap H [] := by rw [hH]; exact hS
  suffices hgo : G_X8_tried p l e s m below meth c G cA A aa x1 x2 r0 S' L' H [] (F0 m 0 ls []) by rw [hH] at hgo; exact hgo
  generalize ([] : List Loc) = locs at hS ⊢
  unfold f_X8_tried at h
  refine lv_aload_n hx hb dX8_tried_0 rfl (lv_at hl 0 rfl) ?_
  refine lv_iconst (v := 0) hx hb dX8_tried_1 (by decide) ?_
  refine va_put (D := G) (ci := 8) (v := .int 0) (ty := .int) (C := RX8) (T := TX8) (N := 91) hx hb hT ku_8 tyX8 tyX8_ok nmX8 hown hK hP hD hS 0 rfl rfl 2 (by decide) (hT _ kw_14_0) (fun _ h9 => h9) rfl (by decide +kernel) rfl rfl (Nat.le_of_ble_eq_true rfl) dX8_tried_2 (fun H locs hP hD hS => ?_)
  obtain ⟨S_1, eS_1, h⟩ := tx_lt h
  rw [sM_f2, eS_1] at hP hD
  refine lv_iload_n hx hb dX8_tried_5 rfl (lv_at hl 1 rfl) ?_
  refine lv_iconst (v := 0) hx hb dX8_tried_6 (by decide) ?_
  refine lv_iconst (v := 4) hx hb dX8_tried_7 (by decide) ?_
  obtain ⟨r2, hc3, h⟩ := tx_bd h
  refine tw_ci (tw_none (ws := wM cA aa S_1 L)) hP hD hS hA (va_runS (As := [.int x1, .int 0, .int 4]) (rest := []) ⟨hx, hb, hml, hown, hT⟩ (c_X8_isIn l G cA H.size x1 (0 : Int32) (4 : Int32)  r2 hc3) (va_cwS 3 hT (tq_gS kw_24_11 kw_24_12 kw_1_5 kw_24_13) rfl rfl rfl (by decide +kernel) ⟨Nat.le_of_ble_eq_true rfl, Nat.le_of_ble_eq_true rfl⟩) (tw_pre (tw_none (ws := wM cA aa S_1 L)) hP hD hK hN) rfl rfl hl.1 rfl (lv_room (Nat.le_of_ble_eq_true rfl)) dX8_tried_8 ⟨Nat.le_of_ble_eq_true rfl, Nat.le_of_ble_eq_true rfl⟩) (fun _ _ H locs z4 hP hD hS => ?_)
  subst z4
  have hP : va_P G vwCl (wM cA aa S_1 L) H := hP
  have hD : va_D A (wM cA aa S_1 L) := hD
  refine lv_if_eq (tgt := 34) hx hb dX8_tried_11 (by decide) (fun c5 => ?_) (fun c5 => ?_)
  · have h := tx_pos c5 h
    refine lv_iconst (v := (-1)) hx hb dX8_tried_34 (by decide) ?_
    obtain ⟨rfl, rfl, rfl⟩ := tx_3 h
    exact W.iret hx hb hr (fun t ht hW => ⟨⟨_, (), rfl, rfl, by rw [ht]; exact hP, hD⟩, hS.F ht⟩) hS.2.2 dX8_tried_35
  · have h := tx_neg c5 h
    refine lv_iload_n hx hb dX8_tried_14 rfl (lv_at hl 1 rfl) ?_
    refine lv_iconst (v := 2) hx hb dX8_tried_15 (by decide) ?_
    refine lv_icmp_ne (tgt := 30) hx hb dX8_tried_16 (by decide) (fun c6 => ?_) (fun c6 => ?_)
    · have h := tx_neg c6 h
      refine lv_iload_n hx hb dX8_tried_30 rfl (lv_at hl 2 rfl) ?_
      refine lv_if_eq (tgt := 36) hx hb dX8_tried_31 (by decide) (fun c7 => ?_) (fun c7 => ?_)
      · have h := tx_pos c7 h
        exact w_X8_tried_J36 F x1 x2 S_1 L H locs ls h hP hD hS (lv_sub hl [0, 1, 2] rfl)
      · have h := tx_neg c7 h
        refine lv_iconst (v := (-1)) hx hb dX8_tried_34 (by decide) ?_
        obtain ⟨rfl, rfl, rfl⟩ := tx_3 h
        exact W.iret hx hb hr (fun t ht hW => ⟨⟨_, (), rfl, rfl, by rw [ht]; exact hP, hD⟩, hS.F ht⟩) hS.2.2 dX8_tried_35
    · have h := tx_pos c6 h
      refine lv_aload_n hx hb dX8_tried_19 rfl (lv_at hl 0 rfl) ?_
      refine lv_iload_n hx hb dX8_tried_20 rfl (lv_at hl 2 rfl) ?_
      obtain ⟨r47, hc48, h⟩ := tx_bd h
      refine tw_ci tw_all hP hD hS hA (va_runV (As := [.int x2]) (rest := []) ⟨hx, hb, hml, hown, hT⟩ (c_X8_isPerson l G cA H.size aa S_1 L x2  r47 hc48) (cwV 1 hT (tq_gV kw_29_12 kw_29_13 kw_29_14 kw_1_5 kw_29_15) rfl rfl rfl (by decide +kernel) ⟨Nat.le_of_ble_eq_true rfl, Nat.le_of_ble_eq_true rfl⟩) ⟨(tw_pre tw_all hP hD hK hN).1, va_recv hK hP (ci := 8) (q0 := 0) rfl rfl, (tw_pre tw_all hP hD hK hN).2⟩ rfl rfl hl.1 rfl (lv_room (Nat.le_of_ble_eq_true rfl)) dX8_tried_21 ⟨Nat.le_of_ble_eq_true rfl, Nat.le_of_ble_eq_true rfl⟩) (fun _ _ H locs z49 hP hD hS => ?_)
      subst z49
      rw [List.append_nil] at hP hD
      have hP : va_P G vwCl (wM cA aa S_1 L) H := hP
      have hD : va_D A (wM cA aa S_1 L) := hD
      refine lv_if_ne (tgt := 36) hx hb dX8_tried_24 (by decide) (fun c50 => ?_) (fun c50 => ?_)
      · have h := tx_neg c50 h
        exact w_X8_tried_J36 F x1 x2 S_1 L H locs ls h hP hD hS (lv_sub hl [0, 1, 2] rfl)
      · have h := tx_pos c50 h
        refine lv_goto (tgt := 34) hx hb dX8_tried_27 (by decide) ?_
        refine lv_iconst (v := (-1)) hx hb dX8_tried_34 (by decide) ?_
        obtain ⟨rfl, rfl, rfl⟩ := tx_3 h
        exact W.iret hx hb hr (fun t ht hW => ⟨⟨_, (), rfl, rfl, by rw [ht]; exact hP, hD⟩, hS.F ht⟩) hS.2.2 dX8_tried_35
abbrev G_X8_turn (p : Program) (l : Launch) (e : Env) (s : State) (m : MethodId) (below : List Frame) (meth : Method) (c : Code) (G : va_G) (cA : Nat → ClassId) (A : Nat → Prop) (aa : Nat → Nat) (L : Lo) (x1 : Int32) (r0 : Int32) (S' : Tr) (H : Heap) (locs : List Loc) (g : JFrame) : Prop := W p l e (headSpec (.code yX8_turn cX8_turn 2 (some .int) :: T0) ({ frames := 2, cells := 0, slots := 0, locals := 52 } : Room)).room s m ([.ref (aa 0), .int x1] : List Value).toArray below meth c H locs 0 0 (MQ below (tqQi G cA (fun (r : Int32) (_ : Unit) => r = r0) (fun (_ : Unit) => wM cA aa S' L) A) ([.ref (aa 0), .int x1] : List Value).toArray s 0 0 A) g
set_option maxHeartbeats 4000000 in
set_option maxRecDepth 100000 in
theorem c_X8_turn (l : Launch) (G : va_G) (cA : Nat → ClassId) (sz : Nat) (aa : Nat → Nat) (S : Tr) (L : Lo) (x1 : Int32)  (r0 : Int32) (S' : Tr) (h : f_X8_turn S x1 = some (r0, S')) : Met l yX8_turn (.code yX8_turn cX8_turn 2 (some .int) :: T0) ({ frames := 2, cells := 0, slots := 0, locals := 52 } : Room) (tqP G cA [.ref (aa 0), .int x1] (wM cA aa S L) sz) (tqQi G cA (fun (r : Int32) (_ : Unit) => r = r0) (fun (_ : Unit) => wM cA aa S' L) (va_A (wM cA aa S L) sz)) 0 0 (va_A (wM cA aa S L) sz) := by
  refine Met.ofW (cc := cX8_turn) (maxL := 2) (ret := (some .int)) (by decide) rfl ?_
  intro p e s m args below meth c s₁ B hml hv
  obtain ⟨rfl, hsz, hP, hK, hD0, hN⟩ := hv
  have hx := B.exec
  have hb := B.bytes
  have hr := B.returns
  have hts := atoms_spec (ws := .code yX8_turn cX8_turn 2 (some .int) :: T0) B.pre
  have hT : ∀ w ∈ T0, w.before _ s = true := fun w h => hts w (List.mem_cons_of_mem _ h)
  have hown : s.vm.findClass RX8 = some m.cls := findClass_of_methodNamed B.named
  have hlocks := B.notSynchronized
  subst hsz
  have hD := hD0.self (sz := s.heap.size)
  generalize hAe : va_A (wM cA aa S L) s.heap.size = A at hD ⊢
  have hA : ∀ q : Nat, s.heap.size ≤ q → A q := fun q h => by rw [← hAe]; exact Or.inr h
  have hS : va_S A s.heap s.heap [] := va_S.rf
  have hl := lv_entry ([.ref (aa 0), .int x1]) (n := 2) (Nat.le_of_ble_eq_true rfl)
  rw [lg_entry_eq]
  generalize (lg_sl ([.ref (aa 0), .int x1]) ++ List.replicate (2 - (lg_sl ([.ref (aa 0), .int x1])).length) Slot.unset).toArray = ls at hl ⊢
  have hl : lv_has ls 2 [(0, .ref (aa 0)), (1, .int x1)] := hl
  have F : tF p s m ([.ref (aa 0), .int x1] : List Value).toArray meth c G cA A RX8 cX8_turn 2 (some .int) := ⟨hx, hb, hr, hml, hT, hown, hlocks, hK, hN, hA⟩
  obtain ⟨H, hH⟩ : ∃ z, z = s.heap := ⟨_, rfl⟩
  rw [← hH] at hP
  have hS : va_S A s.heap H [] := by rw [hH]; exact hS
  suffices hgo : G_X8_turn p l e s m below meth c G cA A aa L x1 r0 S' H [] (F0 m 0 ls []) by rw [hH] at hgo; exact hgo
  generalize ([] : List Loc) = locs at hS ⊢
  unfold f_X8_turn at h
  refine lv_aload_n hx hb dX8_turn_0 rfl (lv_at hl 0 rfl) ?_
  refine lv_iconst (v := 0) hx hb dX8_turn_1 (by decide) ?_
  refine va_put (D := G) (ci := 8) (v := .int 0) (ty := .int) (C := RX8) (T := TX8) (N := 91) hx hb hT ku_8 tyX8 tyX8_ok nmX8 hown hK hP hD hS 0 rfl rfl 2 (by decide) (hT _ kw_14_0) (fun _ h9 => h9) rfl (by decide +kernel) rfl rfl (Nat.le_of_ble_eq_true rfl) dX8_turn_2 (fun H locs hP hD hS => ?_)
  obtain ⟨S_1, eS_1, h⟩ := tx_lt h
  rw [sM_f2, eS_1] at hP hD
  refine lv_aload_n hx hb dX8_turn_5 rfl (lv_at hl 0 rfl) ?_
  refine lv_iload_n hx hb dX8_turn_6 rfl (lv_at hl 1 rfl) ?_
  obtain ⟨r2, hc3, h⟩ := tx_bd h
  refine tw_ci tw_all hP hD hS hA (va_runV (As := [.int x1]) (rest := []) ⟨hx, hb, hml, hown, hT⟩ (c_X8_isPlace l G cA H.size aa S_1 L x1  r2 hc3) (cwV 1 hT (tq_gV kw_32_11 kw_32_12 kw_32_13 kw_1_5 kw_32_14) rfl rfl rfl (by decide +kernel) ⟨Nat.le_of_ble_eq_true rfl, Nat.le_of_ble_eq_true rfl⟩) ⟨(tw_pre tw_all hP hD hK hN).1, va_recv hK hP (ci := 8) (q0 := 0) rfl rfl, (tw_pre tw_all hP hD hK hN).2⟩ rfl rfl hl.1 rfl (lv_room (Nat.le_of_ble_eq_true rfl)) dX8_turn_7 ⟨Nat.le_of_ble_eq_true rfl, Nat.le_of_ble_eq_true rfl⟩) (fun _ _ H locs z4 hP hD hS => ?_)
  subst z4
  rw [List.append_nil] at hP hD
  have hP : va_P G vwCl (wM cA aa S_1 L) H := hP
  have hD : va_D A (wM cA aa S_1 L) := hD
  refine lv_if_ne (tgt := 15) hx hb dX8_turn_10 (by decide) (fun c5 => ?_) (fun c5 => ?_)
  · have h := tx_neg c5 h
    refine lv_aload_n hx hb dX8_turn_15 rfl (lv_at hl 0 rfl) ?_
    obtain ⟨S_6, hc7, h⟩ := tx_bd h
    refine tw_cv tw_all hP hD hS hA (va_runV (As := []) (rest := []) ⟨hx, hb, hml, hown, hT⟩ (c_X8_layTried l G cA H.size aa S_1 L  S_6 hc7) (cwV 0 hT (tq_gV kw_39_5 kw_39_6 kw_39_7 kw_1_5 kw_39_8) rfl rfl rfl (by decide +kernel) ⟨Nat.le_of_ble_eq_true rfl, Nat.le_of_ble_eq_true rfl⟩) ⟨(tw_pre tw_all hP hD hK hN).1, va_recv hK hP (ci := 8) (q0 := 0) rfl rfl, (tw_pre tw_all hP hD hK hN).2⟩ rfl rfl hl.1 rfl (lv_room (Nat.le_of_ble_eq_true rfl)) dX8_turn_16 ⟨Nat.le_of_ble_eq_true rfl, Nat.le_of_ble_eq_true rfl⟩) (fun _ H locs z8 hP hD hS => ?_)
    rw [List.append_nil] at hP hD
    have hP : va_P G vwCl (wM cA aa S_6 L) H := hP
    have hD : va_D A (wM cA aa S_6 L) := hD
    refine lv_aload_n hx hb dX8_turn_19 rfl (lv_at hl 0 rfl) ?_
    refine lv_iconst (v := 1) hx hb dX8_turn_20 (by decide) ?_
    refine lv_iload_n hx hb dX8_turn_21 rfl (lv_at hl 1 rfl) ?_
    obtain ⟨⟨r9, S_10⟩, hc11, h⟩ := tx_bd h
    replace h := tx_let (y := r9) rfl h
    replace h := tx_let (y := S_10) rfl h
    refine tw_ci tw_all hP hD hS hA (va_runV (As := [.int 1, .int x1]) (rest := []) ⟨hx, hb, hml, hown, hT⟩ (c_X8_turns l G cA H.size aa S_6 L (1 : Int32) x1  r9 S_10 hc11) (cwV 2 hT (tq_gV kw_39_9 kw_39_10 kw_39_11 kw_1_5 kw_39_12) rfl rfl rfl (by decide +kernel) ⟨Nat.le_of_ble_eq_true rfl, Nat.le_of_ble_eq_true rfl⟩) ⟨(tw_pre tw_all hP hD hK hN).1, va_recv hK hP (ci := 8) (q0 := 0) rfl rfl, (tw_pre tw_all hP hD hK hN).2⟩ rfl rfl hl.1 rfl (lv_room (Nat.le_of_ble_eq_true rfl)) dX8_turn_22 ⟨Nat.le_of_ble_eq_true rfl, Nat.le_of_ble_eq_true rfl⟩) (fun _ _ H locs z12 hP hD hS => ?_)
    subst z12
    rw [List.append_nil] at hP hD
    have hP : va_P G vwCl (wM cA aa S_10 L) H := hP
    have hD : va_D A (wM cA aa S_10 L) := hD
    refine lv_if_ne (tgt := 30) hx hb dX8_turn_25 (by decide) (fun c13 => ?_) (fun c13 => ?_)
    · have h := tx_neg c13 h
      refine lv_aload_n hx hb dX8_turn_30 rfl (lv_at hl 0 rfl) ?_
      obtain ⟨S_14, hc15, h⟩ := tx_bd h
      refine tw_cv tw_all hP hD hS hA (va_runV (As := []) (rest := []) ⟨hx, hb, hml, hown, hT⟩ (c_X8_remember l G cA H.size aa S_10 L  S_14 hc15) (cwV 0 hT (tq_gV kw_37_10 kw_37_11 kw_37_12 kw_1_5 kw_37_13) rfl rfl rfl (by decide +kernel) ⟨Nat.le_of_ble_eq_true rfl, Nat.le_of_ble_eq_true rfl⟩) ⟨(tw_pre tw_all hP hD hK hN).1, va_recv hK hP (ci := 8) (q0 := 0) rfl rfl, (tw_pre tw_all hP hD hK hN).2⟩ rfl rfl hl.1 rfl (lv_room (Nat.le_of_ble_eq_true rfl)) dX8_turn_31 ⟨Nat.le_of_ble_eq_true rfl, Nat.le_of_ble_eq_true rfl⟩) (fun _ H locs z16 hP hD hS => ?_)
      rw [List.append_nil] at hP hD
      have hP : va_P G vwCl (wM cA aa S_14 L) H := hP
      have hD : va_D A (wM cA aa S_14 L) := hD
      refine lv_aload_n hx hb dX8_turn_34 rfl (lv_at hl 0 rfl) ?_
      refine lv_iconst (v := 0) hx hb dX8_turn_35 (by decide) ?_
      refine lv_iload_n hx hb dX8_turn_36 rfl (lv_at hl 1 rfl) ?_
      obtain ⟨⟨r17, S_18⟩, hc19, h⟩ := tx_bd h
      replace h := tx_let (y := r17) rfl h
      replace h := tx_let (y := S_18) rfl h
      refine tw_ci tw_all hP hD hS hA (va_runV (As := [.int 0, .int x1]) (rest := []) ⟨hx, hb, hml, hown, hT⟩ (c_X8_turns l G cA H.size aa S_14 L (0 : Int32) x1  r17 S_18 hc19) (cwV 2 hT (tq_gV kw_39_9 kw_39_10 kw_39_11 kw_1_5 kw_39_12) rfl rfl rfl (by decide +kernel) ⟨Nat.le_of_ble_eq_true rfl, Nat.le_of_ble_eq_true rfl⟩) ⟨(tw_pre tw_all hP hD hK hN).1, va_recv hK hP (ci := 8) (q0 := 0) rfl rfl, (tw_pre tw_all hP hD hK hN).2⟩ rfl rfl hl.1 rfl (lv_room (Nat.le_of_ble_eq_true rfl)) dX8_turn_37 ⟨Nat.le_of_ble_eq_true rfl, Nat.le_of_ble_eq_true rfl⟩) (fun _ _ H locs z20 hP hD hS => ?_)
      subst z20
      rw [List.append_nil] at hP hD
      have hP : va_P G vwCl (wM cA aa S_18 L) H := hP
      have hD : va_D A (wM cA aa S_18 L) := hD
      obtain ⟨rfl, rfl⟩ := tx_2 h
      exact W.iret hx hb hr (fun t ht hW => ⟨⟨_, (), rfl, rfl, by rw [ht]; exact hP, hD⟩, hS.F ht⟩) hS.2.2 dX8_turn_40
    · have h := tx_pos c13 h
      refine lv_iconst (v := 0) hx hb dX8_turn_28 (by decide) ?_
      obtain ⟨rfl, rfl⟩ := tx_2 h
      exact W.iret hx hb hr (fun t ht hW => ⟨⟨_, (), rfl, rfl, by rw [ht]; exact hP, hD⟩, hS.F ht⟩) hS.2.2 dX8_turn_29
  · have h := tx_pos c5 h
    refine lv_iconst (v := (-1)) hx hb dX8_turn_13 (by decide) ?_
    obtain ⟨rfl, rfl⟩ := tx_2 h
    exact W.iret hx hb hr (fun t ht hW => ⟨⟨_, (), rfl, rfl, by rw [ht]; exact hP, hD⟩, hS.F ht⟩) hS.2.2 dX8_turn_14
abbrev G_X8_take_84 (p : Program) (l : Launch) (e : Env) (s : State) (m : MethodId) (below : List Frame) (meth : Method) (c : Code) (G : va_G) (cA : Nat → ClassId) (A : Nat → Prop) (aa : Nat → Nat) (L : Lo) (x2 : Int32) (S' : Tr) (H : Heap) (locs : List Loc) (g : JFrame) : Prop := W p l e (headSpec (.code yX8_take cX8_take 4 none :: T0) ({ frames := 0, cells := 0, slots := 0, locals := 0 } : Room)).room s m ([.ref (aa 0), .ref (aa 84), .int x2] : List Value).toArray below meth c H locs 0 0 (MQ below (tqQv G cA (fun (_ : Unit) => True) (fun (_ : Unit) => wM cA aa S' L) A) ([.ref (aa 0), .ref (aa 84), .int x2] : List Value).toArray s 0 0 A) g
set_option maxHeartbeats 4000000 in
set_option maxRecDepth 100000 in
theorem w_X8_take_84_L103 {p : Program} {l : Launch} {e : Env} {s : State} {m : MethodId} {below : List Frame} {meth : Method} {c : Code} {G : va_G} {cA : Nat → ClassId} {A : Nat → Prop} {aa : Nat → Nat} {L : Lo} {x2₀ : Int32} {S' : Tr} (F : tF p s m ([.ref (aa 0), .ref (aa 84), .int x2₀] : List Value).toArray meth c G cA A RX8 cX8_take 4 none)    (N : Nat) : ∀ (x3 : Int32) (S : Tr) (H : Heap) (locs : List Loc) (ls : Array Slot), lpF (fun _ _ => none) (fB_X8_take_84_L103 ) N x3 S = some S' → va_P G vwCl (wM cA aa S L) H → va_D A (wM cA aa S L) → va_S A s.heap H locs → lv_has ls 4 [(0, .ref (aa 0)), (3, .int x3)] → G_X8_take_84 p l e s m below meth c G cA A aa L x2₀ S' H locs (F0 m 103 ls []) := by
  obtain ⟨hx, hb, hr, hml, hT, hown, hlocks, hK, hN, hA⟩ := id F
  induction N with
  | zero =>
    intro x3 S H locs ls h
    have h : (none : Option (Tr)) = some S' := h
    cases h
  | succ N hk103 =>
    intro x3 S H locs ls h hP hD hS hl
    have h : fB_X8_take_84_L103  (lpF (fun _ _ => none) (fB_X8_take_84_L103 ) N) x3 S = some S' := h
    generalize hk103e : lpF (fun _ _ => none) (fB_X8_take_84_L103 ) N = k103 at h hk103
    unfold fB_X8_take_84_L103 at h
    refine lv_iload_n hx hb dX8_take_103 rfl (lv_at hl 1 rfl) ?_
    refine lv_bipush (v := 50) hx hb dX8_take_104 (by decide) ?_
    refine lv_icmp_ge (tgt := 146) hx hb dX8_take_106 (by decide) (fun c5 => ?_) (fun c5 => ?_)
    · have h := tx_pos c5 h
      obtain rfl := tx_1 h
      exact W.vret hx hb hr (fun t ht hW => ⟨⟨(), rfl, trivial, by rw [ht]; exact hP, hD⟩, hS.F ht⟩) hS.2.2 dX8_take_146
    · have h := tx_neg c5 h
      refine lv_iload_n hx hb dX8_take_109 rfl (lv_at hl 1 rfl) ?_
      refine lv_bipush (v := 10) hx hb dX8_take_110 (by decide) ?_
      refine lv_irem hx hb dX8_take_112 (by decide) ?_
      refine lv_aload_n hx hb dX8_take_113 rfl (lv_at hl 0 rfl) ?_
      refine va_get (D := G) (ci := 8) (v := .ref (aa 56)) (C := RX8) (T := TX8) (N := 91) hx hb hT ku_8 hown hK hP 0 rfl rfl 55 (by decide) (hT _ kw_10_16) (fun _ h9 => h9) rfl dX8_take_114 ?_
      refine lv_iload_n hx hb dX8_take_117 rfl (lv_at hl 1 rfl) ?_
      refine lv_bipush (v := 10) hx hb dX8_take_118 (by decide) ?_
      refine lv_idiv hx hb dX8_take_120 (by decide) ?_
      obtain ⟨g6, h⟩ := tx_ck h
      refine va_iald (i := (x3 / 10)) hx hb hK hP 30 0 rfl rfl (tx_in g6) dX8_take_121 ?_
      refine lv_icmp_ge (tgt := 140) hx hb dX8_take_122 (by decide) (fun c7 => ?_) (fun c7 => ?_)
      · have h := tx_pos c7 h
        obtain ⟨y8, ey8, h⟩ := tx_lt h
        refine lv_iinc (v := y8) (lv' := [(3, .int y8), (0, .ref (aa 0))]) hx hb dX8_take_140 hl (k := 1) rfl ey8 (by decide) rfl (fun ls hl => ?_)
        refine lv_goto (tgt := 103) hx hb dX8_take_143 (by decide) ?_
        exact hk103 y8 S H locs ls h hP hD hS (lv_sub hl [1, 0] rfl)
      · have h := tx_neg c7 h
        refine lv_aload_n hx hb dX8_take_125 rfl (lv_at hl 0 rfl) ?_
        refine va_get (D := G) (ci := 8) (v := .ref (aa 54)) (C := RX8) (T := TX8) (N := 91) hx hb hT ku_8 hown hK hP 0 rfl rfl 53 (by decide) (hT _ kw_10_14) (fun _ h9 => h9) rfl dX8_take_126 ?_
        refine lv_aload_n hx hb dX8_take_129 rfl (lv_at hl 0 rfl) ?_
        refine va_get (D := G) (ci := 8) (v := .ref (aa 55)) (C := RX8) (T := TX8) (N := 91) hx hb hT ku_8 hown hK hP 0 rfl rfl 54 (by decide) (hT _ kw_10_15) (fun _ h9 => h9) rfl dX8_take_130 ?_
        refine lv_iload_n hx hb dX8_take_133 rfl (lv_at hl 1 rfl) ?_
        obtain ⟨g9, h⟩ := tx_ck h
        refine va_iald (i := x3) hx hb hK hP 29 0 rfl rfl (tx_in g9) dX8_take_134 ?_
        refine lv_iload_n hx hb dX8_take_135 rfl (lv_at hl 1 rfl) ?_
        refine lv_bipush (v := 10) hx hb dX8_take_136 (by decide) ?_
        refine lv_idiv hx hb dX8_take_138 (by decide) ?_
        obtain ⟨g10, h⟩ := tx_ck h
        refine va_iast (i := (S 55 x3.toNatClampNeg)) hx hb hK hP hD hS 28 0 rfl rfl (tx_in g10) dX8_take_139 (fun H locs hP hD hS => ?_)
        obtain ⟨S_11, eS_11, h⟩ := tx_lt h
        rw [sM_a53, eS_11] at hP hD
        obtain ⟨y12, ey12, h⟩ := tx_lt h
        refine lv_iinc (v := y12) (lv' := [(3, .int y12), (0, .ref (aa 0))]) hx hb dX8_take_140 hl (k := 1) rfl ey12 (by decide) rfl (fun ls hl => ?_)
        refine lv_goto (tgt := 103) hx hb dX8_take_143 (by decide) ?_
        exact hk103 y12 S_11 H locs ls h hP hD hS (lv_sub hl [1, 0] rfl)
set_option maxHeartbeats 4000000 in
set_option maxRecDepth 100000 in
theorem w_X8_take_84_L82 {p : Program} {l : Launch} {e : Env} {s : State} {m : MethodId} {below : List Frame} {meth : Method} {c : Code} {G : va_G} {cA : Nat → ClassId} {A : Nat → Prop} {aa : Nat → Nat} {L : Lo} {x2₀ : Int32} {S' : Tr} (F : tF p s m ([.ref (aa 0), .ref (aa 84), .int x2₀] : List Value).toArray meth c G cA A RX8 cX8_take 4 none)    (N : Nat) : ∀ (x3 : Int32) (S : Tr) (H : Heap) (locs : List Loc) (ls : Array Slot), lpF (fun _ _ => none) (fB_X8_take_84_L82 ) N x3 S = some S' → va_P G vwCl (wM cA aa S L) H → va_D A (wM cA aa S L) → va_S A s.heap H locs → lv_has ls 4 [(0, .ref (aa 0)), (3, .int x3)] → G_X8_take_84 p l e s m below meth c G cA A aa L x2₀ S' H locs (F0 m 82 ls []) := by
  obtain ⟨hx, hb, hr, hml, hT, hown, hlocks, hK, hN, hA⟩ := id F
  induction N with
  | zero =>
    intro x3 S H locs ls h
    have h : (none : Option (Tr)) = some S' := h
    cases h
  | succ N hk82 =>
    intro x3 S H locs ls h hP hD hS hl
    have h : fB_X8_take_84_L82  (lpF (fun _ _ => none) (fB_X8_take_84_L82 ) N) x3 S = some S' := h
    generalize hk82e : lpF (fun _ _ => none) (fB_X8_take_84_L82 ) N = k82 at h hk82
    unfold fB_X8_take_84_L82 at h
    refine lv_iload_n hx hb dX8_take_82 rfl (lv_at hl 1 rfl) ?_
    refine lv_bipush (v := 10) hx hb dX8_take_83 (by decide) ?_
    refine lv_icmp_ge (tgt := 101) hx hb dX8_take_85 (by decide) (fun c4 => ?_) (fun c4 => ?_)
    · have h := tx_pos c4 h
      refine lv_iconst (v := 0) hx hb dX8_take_101 (by decide) ?_
      refine lv_istore_n (lv' := [(3, .int 0), (0, .ref (aa 0))]) hx hb dX8_take_102 rfl hl (by decide) rfl (fun ls hl => ?_)
      exact w_X8_take_84_L103 F 2000 0 S H locs ls h hP hD hS (lv_sub hl [1, 0] rfl)
    · have h := tx_neg c4 h
      refine lv_aload_n hx hb dX8_take_88 rfl (lv_at hl 0 rfl) ?_
      refine va_get (D := G) (ci := 8) (v := .ref (aa 54)) (C := RX8) (T := TX8) (N := 91) hx hb hT ku_8 hown hK hP 0 rfl rfl 53 (by decide) (hT _ kw_10_14) (fun _ h9 => h9) rfl dX8_take_89 ?_
      refine lv_iload_n hx hb dX8_take_92 rfl (lv_at hl 1 rfl) ?_
      refine lv_iconst (v := (-1)) hx hb dX8_take_93 (by decide) ?_
      obtain ⟨g13, h⟩ := tx_ck h
      refine va_iast (i := x3) hx hb hK hP hD hS 28 0 rfl rfl (tx_in g13) dX8_take_94 (fun H locs hP hD hS => ?_)
      obtain ⟨S_14, eS_14, h⟩ := tx_lt h
      rw [sM_a53, eS_14] at hP hD
      obtain ⟨y15, ey15, h⟩ := tx_lt h
      refine lv_iinc (v := y15) (lv' := [(3, .int y15), (0, .ref (aa 0))]) hx hb dX8_take_95 hl (k := 1) rfl ey15 (by decide) rfl (fun ls hl => ?_)
      refine lv_goto (tgt := 82) hx hb dX8_take_98 (by decide) ?_
      exact hk82 y15 S_14 H locs ls h hP hD hS (lv_sub hl [1, 0] rfl)
set_option maxHeartbeats 4000000 in
set_option maxRecDepth 100000 in
theorem w_X8_take_84_L54 {p : Program} {l : Launch} {e : Env} {s : State} {m : MethodId} {below : List Frame} {meth : Method} {c : Code} {G : va_G} {cA : Nat → ClassId} {A : Nat → Prop} {aa : Nat → Nat} {L : Lo} {x2₀ : Int32} {S' : Tr} {x2 : Int32} (F : tF p s m ([.ref (aa 0), .ref (aa 84), .int x2₀] : List Value).toArray meth c G cA A RX8 cX8_take 4 none)    (N : Nat) : ∀ (x3 : Int32) (S : Tr) (H : Heap) (locs : List Loc) (ls : Array Slot), lpF (fun _ _ => none) (fB_X8_take_84_L54 x2) N x3 S = some S' → va_P G vwCl (wM cA aa S L) H → va_D A (wM cA aa S L) → va_S A s.heap H locs → lv_has ls 4 [(0, .ref (aa 0)), (1, .ref (aa 84)), (2, .int x2), (3, .int x3)] → G_X8_take_84 p l e s m below meth c G cA A aa L x2₀ S' H locs (F0 m 54 ls []) := by
  obtain ⟨hx, hb, hr, hml, hT, hown, hlocks, hK, hN, hA⟩ := id F
  induction N with
  | zero =>
    intro x3 S H locs ls h
    have h : (none : Option (Tr)) = some S' := h
    cases h
  | succ N hk54 =>
    intro x3 S H locs ls h hP hD hS hl
    have h : fB_X8_take_84_L54 x2 (lpF (fun _ _ => none) (fB_X8_take_84_L54 x2) N) x3 S = some S' := h
    generalize hk54e : lpF (fun _ _ => none) (fB_X8_take_84_L54 x2) N = k54 at h hk54
    unfold fB_X8_take_84_L54 at h
    refine lv_iload_n hx hb dX8_take_54 rfl (lv_at hl 3 rfl) ?_
    refine lv_bipush (v := 6) hx hb dX8_take_55 (by decide) ?_
    refine lv_icmp_ge (tgt := 80) hx hb dX8_take_57 (by decide) (fun c3 => ?_) (fun c3 => ?_)
    · have h := tx_pos c3 h
      refine lv_iconst (v := 0) hx hb dX8_take_80 (by decide) ?_
      refine lv_istore_n (lv' := [(3, .int 0), (0, .ref (aa 0)), (1, .ref (aa 84)), (2, .int x2)]) hx hb dX8_take_81 rfl hl (by decide) rfl (fun ls hl => ?_)
      exact w_X8_take_84_L82 F 2000 0 S H locs ls h hP hD hS (lv_sub hl [1, 0] rfl)
    · have h := tx_neg c3 h
      refine lv_aload_n hx hb dX8_take_60 rfl (lv_at hl 0 rfl) ?_
      refine va_get (D := G) (ci := 8) (v := .ref (aa 58)) (C := RX8) (T := TX8) (N := 91) hx hb hT ku_8 hown hK hP 0 rfl rfl 57 (by decide) (hT _ kw_10_18) (fun _ h9 => h9) rfl dX8_take_61 ?_
      refine lv_iload_n hx hb dX8_take_64 rfl (lv_at hl 3 rfl) ?_
      refine lv_aload_n hx hb dX8_take_65 rfl (lv_at hl 1 rfl) ?_
      refine lv_iload_n hx hb dX8_take_66 rfl (lv_at hl 2 rfl) ?_
      refine lv_bipush (v := 55) hx hb dX8_take_67 (by decide) ?_
      refine lv_iadd hx hb dX8_take_69 ?_
      refine lv_iload_n hx hb dX8_take_70 rfl (lv_at hl 3 rfl) ?_
      refine lv_iadd hx hb dX8_take_71 ?_
      obtain ⟨g16, h⟩ := tx_ck h
      refine va_iald (i := ((x2 + 55) + x3)) hx hb hK hP 46 0 rfl rfl (tx_in g16) dX8_take_72 ?_
      obtain ⟨g17, h⟩ := tx_ck h
      refine va_iast (i := x3) hx hb hK hP hD hS 32 0 rfl rfl (tx_in g17) dX8_take_73 (fun H locs hP hD hS => ?_)
      obtain ⟨S_18, eS_18, h⟩ := tx_lt h
      rw [sM_a57, eS_18] at hP hD
      obtain ⟨y19, ey19, h⟩ := tx_lt h
      refine lv_iinc (v := y19) (lv' := [(3, .int y19), (0, .ref (aa 0)), (1, .ref (aa 84)), (2, .int x2)]) hx hb dX8_take_74 hl (k := 3) rfl ey19 (by decide) rfl (fun ls hl => ?_)
      refine lv_goto (tgt := 54) hx hb dX8_take_77 (by decide) ?_
      exact hk54 y19 S_18 H locs ls h hP hD hS (lv_sub hl [1, 2, 3, 0] rfl)
set_option maxHeartbeats 4000000 in
set_option maxRecDepth 100000 in
theorem w_X8_take_84_L27 {p : Program} {l : Launch} {e : Env} {s : State} {m : MethodId} {below : List Frame} {meth : Method} {c : Code} {G : va_G} {cA : Nat → ClassId} {A : Nat → Prop} {aa : Nat → Nat} {L : Lo} {x2₀ : Int32} {S' : Tr} {x2 : Int32} (F : tF p s m ([.ref (aa 0), .ref (aa 84), .int x2₀] : List Value).toArray meth c G cA A RX8 cX8_take 4 none)    (N : Nat) : ∀ (x3 : Int32) (S : Tr) (H : Heap) (locs : List Loc) (ls : Array Slot), lpF (fun _ _ => none) (fB_X8_take_84_L27 x2) N x3 S = some S' → va_P G vwCl (wM cA aa S L) H → va_D A (wM cA aa S L) → va_S A s.heap H locs → lv_has ls 4 [(0, .ref (aa 0)), (1, .ref (aa 84)), (2, .int x2), (3, .int x3)] → G_X8_take_84 p l e s m below meth c G cA A aa L x2₀ S' H locs (F0 m 27 ls []) := by
  obtain ⟨hx, hb, hr, hml, hT, hown, hlocks, hK, hN, hA⟩ := id F
  induction N with
  | zero =>
    intro x3 S H locs ls h
    have h : (none : Option (Tr)) = some S' := h
    cases h
  | succ N hk27 =>
    intro x3 S H locs ls h hP hD hS hl
    have h : fB_X8_take_84_L27 x2 (lpF (fun _ _ => none) (fB_X8_take_84_L27 x2) N) x3 S = some S' := h
    generalize hk27e : lpF (fun _ _ => none) (fB_X8_take_84_L27 x2) N = k27 at h hk27
    unfold fB_X8_take_84_L27 at h
    refine lv_iload_n hx hb dX8_take_27 rfl (lv_at hl 3 rfl) ?_
    refine lv_iconst (v := 5) hx hb dX8_take_28 (by decide) ?_
    refine lv_icmp_ge (tgt := 52) hx hb dX8_take_29 (by decide) (fun c2 => ?_) (fun c2 => ?_)
    · have h := tx_pos c2 h
      refine lv_iconst (v := 0) hx hb dX8_take_52 (by decide) ?_
      refine lv_istore_n (lv' := [(3, .int 0), (0, .ref (aa 0)), (1, .ref (aa 84)), (2, .int x2)]) hx hb dX8_take_53 rfl hl (by decide) rfl (fun ls hl => ?_)
      exact w_X8_take_84_L54 F 2000 0 S H locs ls h hP hD hS (lv_sub hl [1, 2, 3, 0] rfl)
    · have h := tx_neg c2 h
      refine lv_aload_n hx hb dX8_take_32 rfl (lv_at hl 0 rfl) ?_
      refine va_get (D := G) (ci := 8) (v := .ref (aa 56)) (C := RX8) (T := TX8) (N := 91) hx hb hT ku_8 hown hK hP 0 rfl rfl 55 (by decide) (hT _ kw_10_16) (fun _ h9 => h9) rfl dX8_take_33 ?_
      refine lv_iload_n hx hb dX8_take_36 rfl (lv_at hl 3 rfl) ?_
      refine lv_aload_n hx hb dX8_take_37 rfl (lv_at hl 1 rfl) ?_
      refine lv_iload_n hx hb dX8_take_38 rfl (lv_at hl 2 rfl) ?_
      refine lv_bipush (v := 50) hx hb dX8_take_39 (by decide) ?_
      refine lv_iadd hx hb dX8_take_41 ?_
      refine lv_iload_n hx hb dX8_take_42 rfl (lv_at hl 3 rfl) ?_
      refine lv_iadd hx hb dX8_take_43 ?_
      obtain ⟨g20, h⟩ := tx_ck h
      refine va_iald (i := ((x2 + 50) + x3)) hx hb hK hP 46 0 rfl rfl (tx_in g20) dX8_take_44 ?_
      obtain ⟨g21, h⟩ := tx_ck h
      refine va_iast (i := x3) hx hb hK hP hD hS 30 0 rfl rfl (tx_in g21) dX8_take_45 (fun H locs hP hD hS => ?_)
      obtain ⟨S_22, eS_22, h⟩ := tx_lt h
      rw [sM_a55, eS_22] at hP hD
      obtain ⟨y23, ey23, h⟩ := tx_lt h
      refine lv_iinc (v := y23) (lv' := [(3, .int y23), (0, .ref (aa 0)), (1, .ref (aa 84)), (2, .int x2)]) hx hb dX8_take_46 hl (k := 3) rfl ey23 (by decide) rfl (fun ls hl => ?_)
      refine lv_goto (tgt := 27) hx hb dX8_take_49 (by decide) ?_
      exact hk27 y23 S_22 H locs ls h hP hD hS (lv_sub hl [1, 2, 3, 0] rfl)
set_option maxHeartbeats 4000000 in
set_option maxRecDepth 100000 in
theorem w_X8_take_84_L2 {p : Program} {l : Launch} {e : Env} {s : State} {m : MethodId} {below : List Frame} {meth : Method} {c : Code} {G : va_G} {cA : Nat → ClassId} {A : Nat → Prop} {aa : Nat → Nat} {L : Lo} {x2₀ : Int32} {S' : Tr} {x2 : Int32} (F : tF p s m ([.ref (aa 0), .ref (aa 84), .int x2₀] : List Value).toArray meth c G cA A RX8 cX8_take 4 none)    (N : Nat) : ∀ (x3 : Int32) (S : Tr) (H : Heap) (locs : List Loc) (ls : Array Slot), lpF (fun _ _ => none) (fB_X8_take_84_L2 x2) N x3 S = some S' → va_P G vwCl (wM cA aa S L) H → va_D A (wM cA aa S L) → va_S A s.heap H locs → lv_has ls 4 [(0, .ref (aa 0)), (1, .ref (aa 84)), (2, .int x2), (3, .int x3)] → G_X8_take_84 p l e s m below meth c G cA A aa L x2₀ S' H locs (F0 m 2 ls []) := by
  obtain ⟨hx, hb, hr, hml, hT, hown, hlocks, hK, hN, hA⟩ := id F
  induction N with
  | zero =>
    intro x3 S H locs ls h
    have h : (none : Option (Tr)) = some S' := h
    cases h
  | succ N hk2 =>
    intro x3 S H locs ls h hP hD hS hl
    have h : fB_X8_take_84_L2 x2 (lpF (fun _ _ => none) (fB_X8_take_84_L2 x2) N) x3 S = some S' := h
    generalize hk2e : lpF (fun _ _ => none) (fB_X8_take_84_L2 x2) N = k2 at h hk2
    unfold fB_X8_take_84_L2 at h
    refine lv_iload_n hx hb dX8_take_2 rfl (lv_at hl 3 rfl) ?_
    refine lv_bipush (v := 50) hx hb dX8_take_3 (by decide) ?_
    refine lv_icmp_ge (tgt := 25) hx hb dX8_take_5 (by decide) (fun c1 => ?_) (fun c1 => ?_)
    · have h := tx_pos c1 h
      refine lv_iconst (v := 0) hx hb dX8_take_25 (by decide) ?_
      refine lv_istore_n (lv' := [(3, .int 0), (0, .ref (aa 0)), (1, .ref (aa 84)), (2, .int x2)]) hx hb dX8_take_26 rfl hl (by decide) rfl (fun ls hl => ?_)
      exact w_X8_take_84_L27 F 2000 0 S H locs ls h hP hD hS (lv_sub hl [1, 2, 3, 0] rfl)
    · have h := tx_neg c1 h
      refine lv_aload_n hx hb dX8_take_8 rfl (lv_at hl 0 rfl) ?_
      refine va_get (D := G) (ci := 8) (v := .ref (aa 55)) (C := RX8) (T := TX8) (N := 91) hx hb hT ku_8 hown hK hP 0 rfl rfl 54 (by decide) (hT _ kw_10_15) (fun _ h9 => h9) rfl dX8_take_9 ?_
      refine lv_iload_n hx hb dX8_take_12 rfl (lv_at hl 3 rfl) ?_
      refine lv_aload_n hx hb dX8_take_13 rfl (lv_at hl 1 rfl) ?_
      refine lv_iload_n hx hb dX8_take_14 rfl (lv_at hl 2 rfl) ?_
      refine lv_iload_n hx hb dX8_take_15 rfl (lv_at hl 3 rfl) ?_
      refine lv_iadd hx hb dX8_take_16 ?_
      obtain ⟨g24, h⟩ := tx_ck h
      refine va_iald (i := (x2 + x3)) hx hb hK hP 46 0 rfl rfl (tx_in g24) dX8_take_17 ?_
      obtain ⟨g25, h⟩ := tx_ck h
      refine va_iast (i := x3) hx hb hK hP hD hS 29 0 rfl rfl (tx_in g25) dX8_take_18 (fun H locs hP hD hS => ?_)
      obtain ⟨S_26, eS_26, h⟩ := tx_lt h
      rw [sM_a54, eS_26] at hP hD
      obtain ⟨y27, ey27, h⟩ := tx_lt h
      refine lv_iinc (v := y27) (lv' := [(3, .int y27), (0, .ref (aa 0)), (1, .ref (aa 84)), (2, .int x2)]) hx hb dX8_take_19 hl (k := 3) rfl ey27 (by decide) rfl (fun ls hl => ?_)
      refine lv_goto (tgt := 2) hx hb dX8_take_22 (by decide) ?_
      exact hk2 y27 S_26 H locs ls h hP hD hS (lv_sub hl [1, 2, 3, 0] rfl)
set_option maxHeartbeats 4000000 in
set_option maxRecDepth 100000 in
theorem c_X8_take_84 (l : Launch) (G : va_G) (cA : Nat → ClassId) (sz : Nat) (aa : Nat → Nat) (S : Tr) (L : Lo) (x2 : Int32)  (S' : Tr) (h : f_X8_take_84 S x2 = some S') : Met l yX8_take (.code yX8_take cX8_take 4 none :: T0) ({ frames := 0, cells := 0, slots := 0, locals := 0 } : Room) (tqP G cA [.ref (aa 0), .ref (aa 84), .int x2] (wM cA aa S L) sz) (tqQv G cA (fun (_ : Unit) => True) (fun (_ : Unit) => wM cA aa S' L) (va_A (wM cA aa S L) sz)) 0 0 (va_A (wM cA aa S L) sz) := by
  refine Met.ofW (cc := cX8_take) (maxL := 4) (ret := none) (by decide) rfl ?_
  intro p e s m args below meth c s₁ B hml hv
  obtain ⟨rfl, hsz, hP, hK, hD0, hN⟩ := hv
  have hx := B.exec
  have hb := B.bytes
  have hr := B.returns
  have hts := atoms_spec (ws := .code yX8_take cX8_take 4 none :: T0) B.pre
  have hT : ∀ w ∈ T0, w.before _ s = true := fun w h => hts w (List.mem_cons_of_mem _ h)
  have hown : s.vm.findClass RX8 = some m.cls := findClass_of_methodNamed B.named
  have hlocks := B.notSynchronized
  subst hsz
  have hD := hD0.self (sz := s.heap.size)
  generalize hAe : va_A (wM cA aa S L) s.heap.size = A at hD ⊢
  have hA : ∀ q : Nat, s.heap.size ≤ q → A q := fun q h => by rw [← hAe]; exact Or.inr h
  have hS : va_S A s.heap s.heap [] := va_S.rf
  have hl := lv_entry ([.ref (aa 0), .ref (aa 84), .int x2]) (n := 4) (Nat.le_of_ble_eq_true rfl)
  rw [lg_entry_eq]
  generalize (lg_sl ([.ref (aa 0), .ref (aa 84), .int x2]) ++ List.replicate (4 - (lg_sl ([.ref (aa 0), .ref (aa 84), .int x2])).length) Slot.unset).toArray = ls at hl ⊢
  have hl : lv_has ls 4 [(0, .ref (aa 0)), (1, .ref (aa 84)), (2, .int x2)] := hl
  have F : tF p s m ([.ref (aa 0), .ref (aa 84), .int x2] : List Value).toArray meth c G cA A RX8 cX8_take 4 none := ⟨hx, hb, hr, hml, hT, hown, hlocks, hK, hN, hA⟩
  obtain ⟨H, hH⟩ : ∃ z, z = s.heap := ⟨_, rfl⟩
  rw [← hH] at hP
  have hS : va_S A s.heap H [] := by rw [hH]; exact hS
  suffices hgo : G_X8_take_84 p l e s m below meth c G cA A aa L x2 S' H [] (F0 m 0 ls []) by rw [hH] at hgo; exact hgo
  generalize ([] : List Loc) = locs at hS ⊢
  unfold f_X8_take_84 at h
  refine lv_iconst (v := 0) hx hb dX8_take_0 (by decide) ?_
  refine lv_istore_n (lv' := [(3, .int 0), (0, .ref (aa 0)), (1, .ref (aa 84)), (2, .int x2)]) hx hb dX8_take_1 rfl hl (by decide) rfl (fun ls hl => ?_)
  exact w_X8_take_84_L2 F 2000 0 S H locs ls h hP hD hS (lv_sub hl [1, 2, 3, 0] rfl)
abbrev G_X8_undo (p : Program) (l : Launch) (e : Env) (s : State) (m : MethodId) (below : List Frame) (meth : Method) (c : Code) (G : va_G) (cA : Nat → ClassId) (A : Nat → Prop) (aa : Nat → Nat) (L : Lo) (r0 : Int32) (S' : Tr) (H : Heap) (locs : List Loc) (g : JFrame) : Prop := W p l e (headSpec (.code yX8_undo cX8_undo 1 (some .int) :: T0) ({ frames := 1, cells := 0, slots := 0, locals := 23 } : Room)).room s m ([.ref (aa 0)] : List Value).toArray below meth c H locs 0 0 (MQ below (tqQi G cA (fun (r : Int32) (_ : Unit) => r = r0) (fun (_ : Unit) => wM cA aa S' L) A) ([.ref (aa 0)] : List Value).toArray s 0 0 A) g
set_option maxHeartbeats 4000000 in
set_option maxRecDepth 100000 in
theorem c_X8_undo (l : Launch) (G : va_G) (cA : Nat → ClassId) (sz : Nat) (aa : Nat → Nat) (S : Tr) (L : Lo)  (r0 : Int32) (S' : Tr) (h : f_X8_undo S = some (r0, S')) : Met l yX8_undo (.code yX8_undo cX8_undo 1 (some .int) :: T0) ({ frames := 1, cells := 0, slots := 0, locals := 23 } : Room) (tqP G cA [.ref (aa 0)] (wM cA aa S L) sz) (tqQi G cA (fun (r : Int32) (_ : Unit) => r = r0) (fun (_ : Unit) => wM cA aa S' L) (va_A (wM cA aa S L) sz)) 0 0 (va_A (wM cA aa S L) sz) := by
  refine Met.ofW (cc := cX8_undo) (maxL := 1) (ret := (some .int)) (by decide) rfl ?_
  intro p e s m args below meth c s₁ B hml hv
  obtain ⟨rfl, hsz, hP, hK, hD0, hN⟩ := hv
  have hx := B.exec
  have hb := B.bytes
  have hr := B.returns
  have hts := atoms_spec (ws := .code yX8_undo cX8_undo 1 (some .int) :: T0) B.pre
  have hT : ∀ w ∈ T0, w.before _ s = true := fun w h => hts w (List.mem_cons_of_mem _ h)
  have hown : s.vm.findClass RX8 = some m.cls := findClass_of_methodNamed B.named
  have hlocks := B.notSynchronized
  subst hsz
  have hD := hD0.self (sz := s.heap.size)
  generalize hAe : va_A (wM cA aa S L) s.heap.size = A at hD ⊢
  have hA : ∀ q : Nat, s.heap.size ≤ q → A q := fun q h => by rw [← hAe]; exact Or.inr h
  have hS : va_S A s.heap s.heap [] := va_S.rf
  have hl := lv_entry ([.ref (aa 0)]) (n := 1) (Nat.le_of_ble_eq_true rfl)
  rw [lg_entry_eq]
  generalize (lg_sl ([.ref (aa 0)]) ++ List.replicate (1 - (lg_sl ([.ref (aa 0)])).length) Slot.unset).toArray = ls at hl ⊢
  have hl : lv_has ls 1 [(0, .ref (aa 0))] := hl
  have F : tF p s m ([.ref (aa 0)] : List Value).toArray meth c G cA A RX8 cX8_undo 1 (some .int) := ⟨hx, hb, hr, hml, hT, hown, hlocks, hK, hN, hA⟩
  obtain ⟨H, hH⟩ : ∃ z, z = s.heap := ⟨_, rfl⟩
  rw [← hH] at hP
  have hS : va_S A s.heap H [] := by rw [hH]; exact hS
  suffices hgo : G_X8_undo p l e s m below meth c G cA A aa L r0 S' H [] (F0 m 0 ls []) by rw [hH] at hgo; exact hgo
  generalize ([] : List Loc) = locs at hS ⊢
  unfold f_X8_undo at h
  refine lv_aload_n hx hb dX8_undo_0 rfl (lv_at hl 0 rfl) ?_
  refine lv_iconst (v := 0) hx hb dX8_undo_1 (by decide) ?_
  refine va_put (D := G) (ci := 8) (v := .int 0) (ty := .int) (C := RX8) (T := TX8) (N := 91) hx hb hT ku_8 tyX8 tyX8_ok nmX8 hown hK hP hD hS 0 rfl rfl 2 (by decide) (hT _ kw_14_0) (fun _ h9 => h9) rfl (by decide +kernel) rfl rfl (Nat.le_of_ble_eq_true rfl) dX8_undo_2 (fun H locs hP hD hS => ?_)
  obtain ⟨S_1, eS_1, h⟩ := tx_lt h
  rw [sM_f2, eS_1] at hP hD
  refine lv_aload_n hx hb dX8_undo_5 rfl (lv_at hl 0 rfl) ?_
  refine va_get (D := G) (ci := 8) (v := .int (S_1 0 82)) (C := RX8) (T := TX8) (N := 91) hx hb hT ku_8 hown hK hP 0 rfl rfl 82 (by decide) (hT _ kw_12_16) (fun _ h9 => h9) rfl dX8_undo_6 ?_
  refine lv_if_ne (tgt := 14) hx hb dX8_undo_9 (by decide) (fun c2 => ?_) (fun c2 => ?_)
  · have h := tx_neg c2 h
    refine lv_aload_n hx hb dX8_undo_14 rfl (lv_at hl 0 rfl) ?_
    refine lv_dup hx hb dX8_undo_15 rfl ?_
    refine va_get (D := G) (ci := 8) (v := .int (S_1 0 82)) (C := RX8) (T := TX8) (N := 91) hx hb hT ku_8 hown hK hP 0 rfl rfl 82 (by decide) (hT _ kw_12_16) (fun _ h9 => h9) rfl dX8_undo_16 ?_
    refine lv_iconst (v := 1) hx hb dX8_undo_19 (by decide) ?_
    refine lv_isub hx hb dX8_undo_20 ?_
    refine va_put (D := G) (ci := 8) (v := .int ((S_1 0 82) - 1)) (ty := .int) (C := RX8) (T := TX8) (N := 91) hx hb hT ku_8 tyX8 tyX8_ok nmX8 hown hK hP hD hS 0 rfl rfl 82 (by decide) (hT _ kw_12_16) (fun _ h9 => h9) rfl (by decide +kernel) rfl rfl (Nat.le_of_ble_eq_true rfl) dX8_undo_21 (fun H locs hP hD hS => ?_)
    obtain ⟨S_3, eS_3, h⟩ := tx_lt h
    rw [sM_f82, eS_3] at hP hD
    refine lv_aload_n hx hb dX8_undo_24 rfl (lv_at hl 0 rfl) ?_
    refine lv_aload_n hx hb dX8_undo_25 rfl (lv_at hl 0 rfl) ?_
    refine va_get (D := G) (ci := 8) (v := .ref (aa 84)) (C := RX8) (T := TX8) (N := 91) hx hb hT ku_8 hown hK hP 0 rfl rfl 83 (by decide) (hT _ kw_11_9) (fun _ h9 => h9) rfl dX8_undo_26 ?_
    refine lv_bipush (v := 61) hx hb dX8_undo_29 (by decide) ?_
    refine lv_aload_n hx hb dX8_undo_31 rfl (lv_at hl 0 rfl) ?_
    refine va_get (D := G) (ci := 8) (v := .int (S_3 0 82)) (C := RX8) (T := TX8) (N := 91) hx hb hT ku_8 hown hK hP 0 rfl rfl 82 (by decide) (hT _ kw_12_16) (fun _ h9 => h9) rfl dX8_undo_32 ?_
    refine lv_imul hx hb dX8_undo_35 ?_
    obtain ⟨S_4, hc5, h⟩ := tx_bd h
    refine tw_cv tw_all hP hD hS hA (va_runV (As := [.ref (aa 84), .int ((61 : Int32) * (S_3 0 82))]) (rest := []) ⟨hx, hb, hml, hown, hT⟩ (c_X8_take_84 l G cA H.size aa S_3 L ((61 : Int32) * (S_3 0 82))  S_4 hc5) (cwV 2 hT (tq_gV kw_58_16 kw_58_17 kw_58_18 kw_1_5 kw_58_19) rfl rfl rfl (by decide +kernel) ⟨Nat.le_of_ble_eq_true rfl, Nat.le_of_ble_eq_true rfl⟩) ⟨(tw_pre tw_all hP hD hK hN).1, va_recv hK hP (ci := 8) (q0 := 0) rfl rfl, (tw_pre tw_all hP hD hK hN).2⟩ rfl rfl hl.1 rfl (lv_room (Nat.le_of_ble_eq_true rfl)) dX8_undo_36 ⟨Nat.le_of_ble_eq_true rfl, Nat.le_of_ble_eq_true rfl⟩) (fun _ H locs z6 hP hD hS => ?_)
    rw [List.append_nil] at hP hD
    have hP : va_P G vwCl (wM cA aa S_4 L) H := hP
    have hD : va_D A (wM cA aa S_4 L) := hD
    refine lv_aload_n hx hb dX8_undo_39 rfl (lv_at hl 0 rfl) ?_
    refine va_get (D := G) (ci := 8) (v := .int (S_4 0 82)) (C := RX8) (T := TX8) (N := 91) hx hb hT ku_8 hown hK hP 0 rfl rfl 82 (by decide) (hT _ kw_12_16) (fun _ h9 => h9) rfl dX8_undo_40 ?_
    obtain ⟨rfl, rfl⟩ := tx_2 h
    exact W.iret hx hb hr (fun t ht hW => ⟨⟨_, (), rfl, rfl, by rw [ht]; exact hP, hD⟩, hS.F ht⟩) hS.2.2 dX8_undo_43
  · have h := tx_pos c2 h
    refine lv_iconst (v := (-1)) hx hb dX8_undo_12 (by decide) ?_
    obtain ⟨rfl, rfl⟩ := tx_2 h
    exact W.iret hx hb hr (fun t ht hW => ⟨⟨_, (), rfl, rfl, by rw [ht]; exact hP, hD⟩, hS.F ht⟩) hS.2.2 dX8_undo_13
abbrev G_X8_waits (p : Program) (l : Launch) (e : Env) (s : State) (m : MethodId) (below : List Frame) (meth : Method) (c : Code) (G : va_G) (cA : Nat → ClassId) (A : Nat → Prop) (aa : Nat → Nat) (L : Lo) (x1 : Int32) (r0 : Int32) (S' : Tr) (H : Heap) (locs : List Loc) (g : JFrame) : Prop := W p l e (headSpec (.code yX8_waits cX8_waits 2 (some .int) :: T0) ({ frames := 1, cells := 0, slots := 0, locals := 22 } : Room)).room s m ([.ref (aa 0), .int x1] : List Value).toArray below meth c H locs 0 0 (MQ below (tqQi G cA (fun (r : Int32) (_ : Unit) => r = r0) (fun (_ : Unit) => wM cA aa S' L) A) ([.ref (aa 0), .int x1] : List Value).toArray s 0 0 A) g
set_option maxHeartbeats 4000000 in
set_option maxRecDepth 100000 in
theorem c_X8_waits (l : Launch) (G : va_G) (cA : Nat → ClassId) (sz : Nat) (aa : Nat → Nat) (S : Tr) (L : Lo) (x1 : Int32)  (r0 : Int32) (S' : Tr) (h : f_X8_waits S x1 = some (r0, S')) : Met l yX8_waits (.code yX8_waits cX8_waits 2 (some .int) :: T0) ({ frames := 1, cells := 0, slots := 0, locals := 22 } : Room) (tqP G cA [.ref (aa 0), .int x1] (wM cA aa S L) sz) (tqQi G cA (fun (r : Int32) (_ : Unit) => r = r0) (fun (_ : Unit) => wM cA aa S' L) (va_A (wM cA aa S L) sz)) 0 0 (va_A (wM cA aa S L) sz) := by
  refine Met.ofW (cc := cX8_waits) (maxL := 2) (ret := (some .int)) (by decide) rfl ?_
  intro p e s m args below meth c s₁ B hml hv
  obtain ⟨rfl, hsz, hP, hK, hD0, hN⟩ := hv
  have hx := B.exec
  have hb := B.bytes
  have hr := B.returns
  have hts := atoms_spec (ws := .code yX8_waits cX8_waits 2 (some .int) :: T0) B.pre
  have hT : ∀ w ∈ T0, w.before _ s = true := fun w h => hts w (List.mem_cons_of_mem _ h)
  have hown : s.vm.findClass RX8 = some m.cls := findClass_of_methodNamed B.named
  have hlocks := B.notSynchronized
  subst hsz
  have hD := hD0.self (sz := s.heap.size)
  generalize hAe : va_A (wM cA aa S L) s.heap.size = A at hD ⊢
  have hA : ∀ q : Nat, s.heap.size ≤ q → A q := fun q h => by rw [← hAe]; exact Or.inr h
  have hS : va_S A s.heap s.heap [] := va_S.rf
  have hl := lv_entry ([.ref (aa 0), .int x1]) (n := 2) (Nat.le_of_ble_eq_true rfl)
  rw [lg_entry_eq]
  generalize (lg_sl ([.ref (aa 0), .int x1]) ++ List.replicate (2 - (lg_sl ([.ref (aa 0), .int x1])).length) Slot.unset).toArray = ls at hl ⊢
  have hl : lv_has ls 2 [(0, .ref (aa 0)), (1, .int x1)] := hl
  have F : tF p s m ([.ref (aa 0), .int x1] : List Value).toArray meth c G cA A RX8 cX8_waits 2 (some .int) := ⟨hx, hb, hr, hml, hT, hown, hlocks, hK, hN, hA⟩
  obtain ⟨H, hH⟩ : ∃ z, z = s.heap := ⟨_, rfl⟩
  rw [← hH] at hP
  have hS : va_S A s.heap H [] := by rw [hH]; exact hS
  suffices hgo : G_X8_waits p l e s m below meth c G cA A aa L x1 r0 S' H [] (F0 m 0 ls []) by rw [hH] at hgo; exact hgo
  generalize ([] : List Loc) = locs at hS ⊢
  unfold f_X8_waits at h
  refine lv_aload_n hx hb dX8_waits_0 rfl (lv_at hl 0 rfl) ?_
  refine lv_iconst (v := 0) hx hb dX8_waits_1 (by decide) ?_
  refine va_put (D := G) (ci := 8) (v := .int 0) (ty := .int) (C := RX8) (T := TX8) (N := 91) hx hb hT ku_8 tyX8 tyX8_ok nmX8 hown hK hP hD hS 0 rfl rfl 2 (by decide) (hT _ kw_14_0) (fun _ h9 => h9) rfl (by decide +kernel) rfl rfl (Nat.le_of_ble_eq_true rfl) dX8_waits_2 (fun H locs hP hD hS => ?_)
  obtain ⟨S_1, eS_1, h⟩ := tx_lt h
  rw [sM_f2, eS_1] at hP hD
  refine lv_iload_n hx hb dX8_waits_5 rfl (lv_at hl 1 rfl) ?_
  refine lv_iconst (v := 0) hx hb dX8_waits_6 (by decide) ?_
  refine lv_bipush (v := 20) hx hb dX8_waits_7 (by decide) ?_
  obtain ⟨r2, hc3, h⟩ := tx_bd h
  refine tw_ci (tw_none (ws := wM cA aa S_1 L)) hP hD hS hA (va_runS (As := [.int x1, .int 0, .int 20]) (rest := []) ⟨hx, hb, hml, hown, hT⟩ (c_X8_isIn l G cA H.size x1 (0 : Int32) (20 : Int32)  r2 hc3) (va_cwS 3 hT (tq_gS kw_24_11 kw_24_12 kw_1_5 kw_24_13) rfl rfl rfl (by decide +kernel) ⟨Nat.le_of_ble_eq_true rfl, Nat.le_of_ble_eq_true rfl⟩) (tw_pre (tw_none (ws := wM cA aa S_1 L)) hP hD hK hN) rfl rfl hl.1 rfl (lv_room (Nat.le_of_ble_eq_true rfl)) dX8_waits_9 ⟨Nat.le_of_ble_eq_true rfl, Nat.le_of_ble_eq_true rfl⟩) (fun _ _ H locs z4 hP hD hS => ?_)
  subst z4
  have hP : va_P G vwCl (wM cA aa S_1 L) H := hP
  have hD : va_D A (wM cA aa S_1 L) := hD
  refine lv_if_eq (tgt := 24) hx hb dX8_waits_12 (by decide) (fun c5 => ?_) (fun c5 => ?_)
  · have h := tx_pos c5 h
    refine lv_iconst (v := (-1)) hx hb dX8_waits_24 (by decide) ?_
    obtain ⟨rfl, rfl⟩ := tx_2 h
    exact W.iret hx hb hr (fun t ht hW => ⟨⟨_, (), rfl, rfl, by rw [ht]; exact hP, hD⟩, hS.F ht⟩) hS.2.2 dX8_waits_25
  · have h := tx_neg c5 h
    refine lv_aload_n hx hb dX8_waits_15 rfl (lv_at hl 0 rfl) ?_
    refine va_get (D := G) (ci := 8) (v := .ref (aa 34)) (C := RX8) (T := TX8) (N := 91) hx hb hT ku_8 hown hK hP 0 rfl rfl 33 (by decide) (hT _ kw_10_1) (fun _ h9 => h9) rfl dX8_waits_16 ?_
    refine lv_iload_n hx hb dX8_waits_19 rfl (lv_at hl 1 rfl) ?_
    obtain ⟨g6, h⟩ := tx_ck h
    refine va_iald (i := x1) hx hb hK hP 15 0 rfl rfl (tx_in g6) dX8_waits_20 ?_
    refine lv_goto (tgt := 25) hx hb dX8_waits_21 (by decide) ?_
    obtain ⟨rfl, rfl⟩ := tx_2 h
    exact W.iret hx hb hr (fun t ht hW => ⟨⟨_, (), rfl, rfl, by rw [ht]; exact hP, hD⟩, hS.F ht⟩) hS.2.2 dX8_waits_25
abbrev G_X8_when (p : Program) (l : Launch) (e : Env) (s : State) (m : MethodId) (below : List Frame) (meth : Method) (c : Code) (G : va_G) (cA : Nat → ClassId) (A : Nat → Prop) (aa : Nat → Nat) (x1 : Int32) (x2 : Int32) (r0 : Int32) (S' : Tr) (L' : Lo) (H : Heap) (locs : List Loc) (g : JFrame) : Prop := W p l e (headSpec (.code yX8_when cX8_when 8 (some .int) :: T0) ({ frames := 9, cells := 0, slots := 0, locals := 211 } : Room)).room s m ([.ref (aa 0), .int x1, .int x2] : List Value).toArray below meth c H locs 0 0 (MQ below (tqQi G cA (fun (r : Int32) (_ : Unit) => r = r0) (fun (_ : Unit) => wM cA aa S' L') A) ([.ref (aa 0), .int x1, .int x2] : List Value).toArray s 0 0 A) g
set_option maxHeartbeats 4000000 in
set_option maxRecDepth 100000 in
theorem w_X8_when_J142 {p : Program} {l : Launch} {e : Env} {s : State} {m : MethodId} {below : List Frame} {meth : Method} {c : Code} {G : va_G} {cA : Nat → ClassId} {A : Nat → Prop} {aa : Nat → Nat} {x1₀ : Int32} {x2₀ : Int32} {r0 : Int32} {S' : Tr} {L' : Lo} (F : tF p s m ([.ref (aa 0), .int x1₀, .int x2₀] : List Value).toArray meth c G cA A RX8 cX8_when 8 (some .int))    (x2 : Int32) (x4 : Int32) (x5 : Int32) (S : Tr) (L : Lo) (H : Heap) (locs : List Loc) (ls : Array Slot) (h : fJ_X8_when_J142 x2 x4 x5 S L = some (r0, S', L')) (hP : va_P G vwCl (wM cA aa S L) H) (hD : va_D A (wM cA aa S L)) (hS : va_S A s.heap H locs) (hl : lv_has ls 8 [(2, .int x2), (4, .int x4), (5, .int x5)]) : G_X8_when p l e s m below meth c G cA A aa x1₀ x2₀ r0 S' L' H locs (F0 m 142 ls []) := by
  obtain ⟨hx, hb, hr, hml, hT, hown, hlocks, hK, hN, hA⟩ := id F
  unfold fJ_X8_when_J142 at h
  refine lv_iload_n hx hb dX8_when_142 rfl (lv_at hl 0 rfl) ?_
  refine lv_if_ne (tgt := 151) hx hb dX8_when_143 (by decide) (fun c22 => ?_) (fun c22 => ?_)
  · have h := tx_neg c22 h
    refine lv_iload hx hb dX8_when_151 (lv_at hl 2 rfl) ?_
    obtain ⟨rfl, rfl, rfl⟩ := tx_3 h
    exact W.iret hx hb hr (fun t ht hW => ⟨⟨_, (), rfl, rfl, by rw [ht]; exact hP, hD⟩, hS.F ht⟩) hS.2.2 dX8_when_153
  · have h := tx_pos c22 h
    refine lv_iload hx hb dX8_when_146 (lv_at hl 1 rfl) ?_
    refine lv_goto (tgt := 153) hx hb dX8_when_148 (by decide) ?_
    obtain ⟨rfl, rfl, rfl⟩ := tx_3 h
    exact W.iret hx hb hr (fun t ht hW => ⟨⟨_, (), rfl, rfl, by rw [ht]; exact hP, hD⟩, hS.F ht⟩) hS.2.2 dX8_when_153
set_option maxHeartbeats 4000000 in
set_option maxRecDepth 100000 in
theorem w_X8_when_J83 {p : Program} {l : Launch} {e : Env} {s : State} {m : MethodId} {below : List Frame} {meth : Method} {c : Code} {G : va_G} {cA : Nat → ClassId} {A : Nat → Prop} {aa : Nat → Nat} {x1₀ : Int32} {x2₀ : Int32} {r0 : Int32} {S' : Tr} {L' : Lo} {x1 : Int32} {x2 : Int32} (F : tF p s m ([.ref (aa 0), .int x1₀, .int x2₀] : List Value).toArray meth c G cA A RX8 cX8_when 8 (some .int))  (k53 : Int32 → Int32 → Int32 → Int32 → Tr → Lo → Option (Int32 × Tr × Lo)) (hk53 : ∀ (x3 : Int32) (x4 : Int32) (x5 : Int32) (x6 : Int32) (S : Tr) (L : Lo) (H : Heap) (locs : List Loc) (ls : Array Slot), k53 x3 x4 x5 x6 S L = some (r0, S', L') → va_P G vwCl (wM cA aa S L) H → va_D A (wM cA aa S L) → va_S A s.heap H locs → lv_has ls 8 [(0, .ref (aa 0)), (1, .int x1), (2, .int x2), (3, .int x3), (4, .int x4), (5, .int x5), (6, .int x6)] → G_X8_when p l e s m below meth c G cA A aa x1₀ x2₀ r0 S' L' H locs (F0 m 53 ls [])) (x3 : Int32) (x4 : Int32) (x5 : Int32) (x6 : Int32) (S : Tr) (L : Lo) (H : Heap) (locs : List Loc) (ls : Array Slot) (h : fJ_X8_when_J83 k53 x1 x2 x3 x4 x5 x6 S L = some (r0, S', L')) (hP : va_P G vwCl (wM cA aa S_33 L_34) H) (hD : va_D A (wM cA aa S_33 L_34)) (hS : va_S A s.heap H locs) (hl : lv_has ls 8 [(7, .int y28), (0, .ref (aa 0)), (1, .int x1), (2, .int x2), (3, .int x3), (4, .int x4), (5, .int x5), (6, .int x6)]) : G_X8_when p l e s m below meth c G cA A aa x1₀ x2₀ r0 S' L' H locs (F0 m 83 ls []) := by
  obtain ⟨hx, hb, hr, hml, hT, hown, hlocks, hK, hN, hA⟩ := id F
  unfold fJ_X8_when_J83 at h
  refine lv_aload_n hx hb dX8_when_83 rfl (lv_at hl 0 rfl) ?_
  refine va_get (D := G) (ci := 8) (v := .ref (aa 56)) (C := RX8) (T := TX8) (N := 91) hx hb hT ku_8 hown hK hP 0 rfl rfl 55 (by decide) (hT _ kw_10_16) (fun _ h9 => h9) rfl dX8_when_84 ?_
  refine lv_iconst (v := 5) hx hb dX8_when_87 (by decide) ?_
  refine lv_iload_n hx hb dX8_when_88 rfl (lv_at hl 1 rfl) ?_
  refine lv_iadd hx hb dX8_when_89 ?_
  obtain ⟨g27, h⟩ := tx_ck h
  refine va_iald (i := ((5 : Int32) + x1)) hx hb hK hP 30 0 rfl rfl (tx_in g27) dX8_when_90 ?_
  refine lv_topi (fun y28 ey28 => ?_)
  have h := tx_let ey28 h
  refine lv_istore (lv' := [(7, .int y28), (0, .ref (aa 0)), (1, .int x1), (2, .int x2), (3, .int x3), (4, .int x4), (5, .int x5), (6, .int x6)]) hx hb dX8_when_91 hl (by decide) rfl (fun ls hl => ?_)
  refine lv_aload_n hx hb dX8_when_93 rfl (lv_at hl 1 rfl) ?_
  refine lv_iconst (v := 1) hx hb dX8_when_94 (by decide) ?_
  refine lv_iload_n hx hb dX8_when_95 rfl (lv_at hl 2 rfl) ?_
  obtain ⟨⟨r29, S_30⟩, hc31, h⟩ := tx_bd h
  replace h := tx_let (y := r29) rfl h
  replace h := tx_let (y := S_30) rfl h
  refine tw_ci tw_all hP hD hS hA (va_runV (As := [.int 1, .int x1]) (rest := []) ⟨hx, hb, hml, hown, hT⟩ (c_X8_turns l G cA H.size aa S L (1 : Int32) x1  r29 S_30 hc31) (cwV 2 hT (tq_gV kw_39_9 kw_39_10 kw_39_11 kw_1_5 kw_39_12) rfl rfl rfl (by decide +kernel) ⟨Nat.le_of_ble_eq_true rfl, Nat.le_of_ble_eq_true rfl⟩) ⟨(tw_pre tw_all hP hD hK hN).1, va_recv hK hP (ci := 8) (q0 := 0) rfl rfl, (tw_pre tw_all hP hD hK hN).2⟩ rfl rfl hl.1 rfl (lv_room (Nat.le_of_ble_eq_true rfl)) dX8_when_96 ⟨Nat.le_of_ble_eq_true rfl, Nat.le_of_ble_eq_true rfl⟩) (fun _ _ H locs z32 hP hD hS => ?_)
  subst z32
  rw [List.append_nil] at hP hD
  have hP : va_P G vwCl (wM cA aa S_30 L) H := hP
  have hD : va_D A (wM cA aa S_30 L) := hD
  refine lv_pop hx hb dX8_when_99 rfl ?_
  refine lv_aload_n hx hb dX8_when_100 rfl (lv_at hl 1 rfl) ?_
  obtain ⟨⟨S_33, L_34⟩, hc35, h⟩ := tx_bd h
  replace h := tx_let (y := S_33) rfl h
  replace h := tx_let (y := L_34) rfl h
  refine tw_cv tw_all hP hD hS hA (va_runV (As := []) (rest := []) ⟨hx, hb, hml, hown, hT⟩ (c_X8_toEnd l G cA H.size aa S_30 L  S_33 L_34 hc35) (cwV 0 hT (tq_gV kw_48_5 kw_48_6 kw_48_7 kw_1_5 kw_48_8) rfl rfl rfl (by decide +kernel) ⟨Nat.le_of_ble_eq_true rfl, Nat.le_of_ble_eq_true rfl⟩) ⟨(tw_pre tw_all hP hD hK hN).1, va_recv hK hP (ci := 8) (q0 := 0) rfl rfl, (tw_pre tw_all hP hD hK hN).2⟩ rfl rfl hl.1 rfl (lv_room (Nat.le_of_ble_eq_true rfl)) dX8_when_101 ⟨Nat.le_of_ble_eq_true rfl, Nat.le_of_ble_eq_true rfl⟩) (fun _ H locs z36 hP hD hS => ?_)
  rw [List.append_nil] at hP hD
  have hP : va_P G vwCl (wM cA aa S_33 L_34) H := hP
  have hD : va_D A (wM cA aa S_33 L_34) := hD
  refine lv_aload_n hx hb dX8_when_104 rfl (lv_at hl 1 rfl) ?_
  obtain ⟨r37, hc38, h⟩ := tx_bd h
  refine tw_ci tw_all hP hD hS hA (va_runV (As := []) (rest := []) ⟨hx, hb, hml, hown, hT⟩ (c_X8_more l G cA H.size aa S_33 L_34  r37 hc38) (cwV 0 hT (tq_gV kw_48_9 kw_48_10 kw_48_11 kw_1_5 kw_48_12) rfl rfl rfl (by decide +kernel) ⟨Nat.le_of_ble_eq_true rfl, Nat.le_of_ble_eq_true rfl⟩) ⟨(tw_pre tw_all hP hD hK hN).1, va_recv hK hP (ci := 8) (q0 := 0) rfl rfl, (tw_pre tw_all hP hD hK hN).2⟩ rfl rfl hl.1 rfl (lv_room (Nat.le_of_ble_eq_true rfl)) dX8_when_105 ⟨Nat.le_of_ble_eq_true rfl, Nat.le_of_ble_eq_true rfl⟩) (fun _ _ H locs z39 hP hD hS => ?_)
  subst z39
  rw [List.append_nil] at hP hD
  have hP : va_P G vwCl (wM cA aa S_33 L_34) H := hP
  have hD : va_D A (wM cA aa S_33 L_34) := hD
  refine lv_iload hx hb dX8_when_108 (lv_at hl 0 rfl) ?_
  refine lv_iadd hx hb dX8_when_110 ?_
  refine lv_iload_n hx hb dX8_when_111 rfl (lv_at hl 4 rfl) ?_
  refine lv_icmp_lt (tgt := 118) hx hb dX8_when_112 (by decide) (fun c40 => ?_) (fun c40 => ?_)
  · have h := tx_pos c40 h
    refine lv_aload_n hx hb dX8_when_118 rfl (lv_at hl 1 rfl) ?_
    obtain ⟨r41, hc42, h⟩ := tx_bd h
    refine tw_ci tw_all hP hD hS hA (va_runV (As := []) (rest := []) ⟨hx, hb, hml, hown, hT⟩ (c_X8_more l G cA H.size aa S_33 L_34  r41 hc42) (cwV 0 hT (tq_gV kw_48_9 kw_48_10 kw_48_11 kw_1_5 kw_48_12) rfl rfl rfl (by decide +kernel) ⟨Nat.le_of_ble_eq_true rfl, Nat.le_of_ble_eq_true rfl⟩) ⟨(tw_pre tw_all hP hD hK hN).1, va_recv hK hP (ci := 8) (q0 := 0) rfl rfl, (tw_pre tw_all hP hD hK hN).2⟩ rfl rfl hl.1 rfl (lv_room (Nat.le_of_ble_eq_true rfl)) dX8_when_119 ⟨Nat.le_of_ble_eq_true rfl, Nat.le_of_ble_eq_true rfl⟩) (fun _ _ H locs z43 hP hD hS => ?_)
    subst z43
    rw [List.append_nil] at hP hD
    have hP : va_P G vwCl (wM cA aa S_33 L_34) H := hP
    have hD : va_D A (wM cA aa S_33 L_34) := hD
    refine lv_iload hx hb dX8_when_122 (lv_at hl 0 rfl) ?_
    refine lv_iadd hx hb dX8_when_124 ?_
    refine lv_topi (fun y44 ey44 => ?_)
    have h := tx_let ey44 h
    refine lv_istore_n (lv' := [(3, .int y44), (7, .int y28), (0, .ref (aa 0)), (1, .int x1), (2, .int x2), (4, .int x4), (5, .int x5), (6, .int x6)]) hx hb dX8_when_125 rfl hl (by decide) rfl (fun ls hl => ?_)
    refine lv_iload hx hb dX8_when_126 (lv_at hl 7 rfl) ?_
    refine lv_istore (lv' := [(4, .int x6), (3, .int y44), (7, .int y28), (0, .ref (aa 0)), (1, .int x1), (2, .int x2), (5, .int x5), (6, .int x6)]) hx hb dX8_when_128 hl (by decide) rfl (fun ls hl => ?_)
    refine lv_aload_n hx hb dX8_when_130 rfl (lv_at hl 3 rfl) ?_
    obtain ⟨r45, hc46, h⟩ := tx_bd h
    refine tw_ci tw_all hP hD hS hA (va_runV (As := []) (rest := []) ⟨hx, hb, hml, hown, hT⟩ (c_X8_more l G cA H.size aa S_33 L_34  r45 hc46) (cwV 0 hT (tq_gV kw_48_9 kw_48_10 kw_48_11 kw_1_5 kw_48_12) rfl rfl rfl (by decide +kernel) ⟨Nat.le_of_ble_eq_true rfl, Nat.le_of_ble_eq_true rfl⟩) ⟨(tw_pre tw_all hP hD hK hN).1, va_recv hK hP (ci := 8) (q0 := 0) rfl rfl, (tw_pre tw_all hP hD hK hN).2⟩ rfl rfl hl.1 rfl (lv_room (Nat.le_of_ble_eq_true rfl)) dX8_when_131 ⟨Nat.le_of_ble_eq_true rfl, Nat.le_of_ble_eq_true rfl⟩) (fun _ _ H locs z47 hP hD hS => ?_)
    subst z47
    rw [List.append_nil] at hP hD
    have hP : va_P G vwCl (wM cA aa S_33 L_34) H := hP
    have hD : va_D A (wM cA aa S_33 L_34) := hD
    refine lv_istore (lv' := [(5, .int r45), (4, .int x6), (3, .int y44), (7, .int y28), (0, .ref (aa 0)), (1, .int x1), (2, .int x2), (6, .int x6)]) hx hb dX8_when_134 hl (by decide) rfl (fun ls hl => ?_)
    obtain ⟨y48, ey48, h⟩ := tx_lt h
    refine lv_iinc (v := y48) (lv' := [(6, .int y48), (5, .int r45), (4, .int x6), (3, .int y44), (7, .int y28), (0, .ref (aa 0)), (1, .int x1), (2, .int x2)]) hx hb dX8_when_136 hl (k := 7) rfl ey48 (by decide) rfl (fun ls hl => ?_)
    refine lv_goto (tgt := 53) hx hb dX8_when_139 (by decide) ?_
    exact hk53 y44 x6 r45 y48 S_33 L_34 H locs ls h hP hD hS (lv_sub hl [5, 6, 7, 3, 2, 1, 0] rfl)
  · have h := tx_neg c40 h
    refine lv_goto (tgt := 136) hx hb dX8_when_115 (by decide) ?_
    obtain ⟨y49, ey49, h⟩ := tx_lt h
    refine lv_iinc (v := y49) (lv' := [(6, .int y49), (7, .int y28), (0, .ref (aa 0)), (1, .int x1), (2, .int x2), (3, .int x3), (4, .int x4), (5, .int x5)]) hx hb dX8_when_136 hl (k := 7) rfl ey49 (by decide) rfl (fun ls hl => ?_)
    refine lv_goto (tgt := 53) hx hb dX8_when_139 (by decide) ?_
    exact hk53 x3 x4 x5 y49 S_33 L_34 H locs ls h hP hD hS (lv_sub hl [2, 3, 4, 5, 6, 7, 0] rfl)
set_option maxHeartbeats 4000000 in
set_option maxRecDepth 100000 in
theorem w_X8_when_L64 {p : Program} {l : Launch} {e : Env} {s : State} {m : MethodId} {below : List Frame} {meth : Method} {c : Code} {G : va_G} {cA : Nat → ClassId} {A : Nat → Prop} {aa : Nat → Nat} {x1₀ : Int32} {x2₀ : Int32} {r0 : Int32} {S' : Tr} {L' : Lo} {x1 : Int32} {x2 : Int32} {x3 : Int32} {x4 : Int32} {x5 : Int32} {x6 : Int32} (F : tF p s m ([.ref (aa 0), .int x1₀, .int x2₀] : List Value).toArray meth c G cA A RX8 cX8_when 8 (some .int))  (k53 : Int32 → Int32 → Int32 → Int32 → Tr → Lo → Option (Int32 × Tr × Lo)) (hk53 : ∀ (x3 : Int32) (x4 : Int32) (x5 : Int32) (x6 : Int32) (S : Tr) (L : Lo) (H : Heap) (locs : List Loc) (ls : Array Slot), k53 x3 x4 x5 x6 S L = some (r0, S', L') → va_P G vwCl (wM cA aa S L) H → va_D A (wM cA aa S L) → va_S A s.heap H locs → lv_has ls 8 [(0, .ref (aa 0)), (1, .int x1), (2, .int x2), (3, .int x3), (4, .int x4), (5, .int x5), (6, .int x6)] → G_X8_when p l e s m below meth c G cA A aa x1₀ x2₀ r0 S' L' H locs (F0 m 53 ls [])) (N : Nat) : ∀ (S : Tr) (L : Lo) (H : Heap) (locs : List Loc) (ls : Array Slot), lpF (fun _ _ => none) (fB_X8_when_L64 k53 x1 x2 x3 x4 x5 x6) N S L = some (r0, S', L') → va_P G vwCl (wM cA aa S L) H → va_D A (wM cA aa S L) → va_S A s.heap H locs → lv_has ls 8 [(0, .ref (aa 0)), (1, .int x1), (2, .int x2), (3, .int x3), (4, .int x4), (5, .int x5), (6, .int x6)] → G_X8_when p l e s m below meth c G cA A aa x1₀ x2₀ r0 S' L' H locs (F0 m 64 ls []) := by
  obtain ⟨hx, hb, hr, hml, hT, hown, hlocks, hK, hN, hA⟩ := id F
  induction N with
  | zero =>
    intro S L H locs ls h
    have h : (none : Option (Int32 × Tr × Lo)) = some (r0, S', L') := h
    cases h
  | succ N hk64 =>
    intro S L H locs ls h hP hD hS hl
    have h : fB_X8_when_L64 k53 x1 x2 x3 x4 x5 x6 (lpF (fun _ _ => none) (fB_X8_when_L64 k53 x1 x2 x3 x4 x5 x6) N) S L = some (r0, S', L') := h
    generalize hk64e : lpF (fun _ _ => none) (fB_X8_when_L64 k53 x1 x2 x3 x4 x5 x6) N = k64 at h hk64
    unfold fB_X8_when_L64 at h
    refine lv_aload_n hx hb dX8_when_64 rfl (lv_at hl 0 rfl) ?_
    refine va_get (D := G) (ci := 8) (v := .ref (aa 62)) (C := RX8) (T := TX8) (N := 91) hx hb hT ku_8 hown hK hP 0 rfl rfl 61 (by decide) (hT _ kw_10_22) (fun _ h9 => h9) rfl dX8_when_65 ?_
    refine lv_iconst (v := 1) hx hb dX8_when_68 (by decide) ?_
    refine va_iald (i := 1) hx hb hK hP 36 0 rfl rfl (tq_in (by decide)) dX8_when_69 ?_
    refine tq_i (w := (S 62 1)) rfl ?_
    refine lv_iload hx hb dX8_when_70 (lv_at hl 6 rfl) ?_
    refine lv_icmp_ge (tgt := 83) hx hb dX8_when_72 (by decide) (fun c26 => ?_) (fun c26 => ?_)
    · have h := tx_pos c26 h
      exact w_X8_when_J83 F k53 hk53 x3 x4 x5 x6 S L H locs ls h hP hD hS (lv_sub hl [0, 1, 2, 3, 4, 5, 6] rfl)
    · have h := tx_neg c26 h
      refine lv_aload_n hx hb dX8_when_75 rfl (lv_at hl 0 rfl) ?_
      refine lv_iconst (v := 1) hx hb dX8_when_76 (by decide) ?_
      obtain ⟨⟨S_50, L_51⟩, hc52, h⟩ := tx_bd h
      replace h := tx_let (y := S_50) rfl h
      replace h := tx_let (y := L_51) rfl h
      refine tw_cv tw_all hP hD hS hA (va_runV (As := [.int 1]) (rest := []) ⟨hx, hb, hml, hown, hT⟩ (c_X8_goOn l G cA H.size aa S L (1 : Int32)  S_50 L_51 hc52) (cwV 1 hT (tq_gV kw_43_14 kw_43_15 kw_43_16 kw_1_5 kw_43_17) rfl rfl rfl (by decide +kernel) ⟨Nat.le_of_ble_eq_true rfl, Nat.le_of_ble_eq_true rfl⟩) ⟨(tw_pre tw_all hP hD hK hN).1, va_recv hK hP (ci := 8) (q0 := 0) rfl rfl, (tw_pre tw_all hP hD hK hN).2⟩ rfl rfl hl.1 rfl (lv_room (Nat.le_of_ble_eq_true rfl)) dX8_when_77 ⟨Nat.le_of_ble_eq_true rfl, Nat.le_of_ble_eq_true rfl⟩) (fun _ H locs z53 hP hD hS => ?_)
      rw [List.append_nil] at hP hD
      have hP : va_P G vwCl (wM cA aa S_50 L_51) H := hP
      have hD : va_D A (wM cA aa S_50 L_51) := hD
      refine lv_goto (tgt := 64) hx hb dX8_when_80 (by decide) ?_
      exact hk64 S_50 L_51 H locs ls h hP hD hS (lv_sub hl [0, 1, 2, 3, 4, 5, 6] rfl)
set_option maxHeartbeats 4000000 in
set_option maxRecDepth 100000 in
theorem w_X8_when_L53 {p : Program} {l : Launch} {e : Env} {s : State} {m : MethodId} {below : List Frame} {meth : Method} {c : Code} {G : va_G} {cA : Nat → ClassId} {A : Nat → Prop} {aa : Nat → Nat} {x1₀ : Int32} {x2₀ : Int32} {r0 : Int32} {S' : Tr} {L' : Lo} {x1 : Int32} {x2 : Int32} (F : tF p s m ([.ref (aa 0), .int x1₀, .int x2₀] : List Value).toArray meth c G cA A RX8 cX8_when 8 (some .int))    (N : Nat) : ∀ (x3 : Int32) (x4 : Int32) (x5 : Int32) (x6 : Int32) (S : Tr) (L : Lo) (H : Heap) (locs : List Loc) (ls : Array Slot), lpF (fun _ _ _ _ _ _ => none) (fB_X8_when_L53 x1 x2) N x3 x4 x5 x6 S L = some (r0, S', L') → va_P G vwCl (wM cA aa S L) H → va_D A (wM cA aa S L) → va_S A s.heap H locs → lv_has ls 8 [(0, .ref (aa 0)), (1, .int x1), (2, .int x2), (3, .int x3), (4, .int x4), (5, .int x5), (6, .int x6)] → G_X8_when p l e s m below meth c G cA A aa x1₀ x2₀ r0 S' L' H locs (F0 m 53 ls []) := by
  obtain ⟨hx, hb, hr, hml, hT, hown, hlocks, hK, hN, hA⟩ := id F
  induction N with
  | zero =>
    intro x3 x4 x5 x6 S L H locs ls h
    have h : (none : Option (Int32 × Tr × Lo)) = some (r0, S', L') := h
    cases h
  | succ N hk53 =>
    intro x3 x4 x5 x6 S L H locs ls h hP hD hS hl
    have h : fB_X8_when_L53 x1 x2 (lpF (fun _ _ _ _ _ _ => none) (fB_X8_when_L53 x1 x2) N) x3 x4 x5 x6 S L = some (r0, S', L') := h
    generalize hk53e : lpF (fun _ _ _ _ _ _ => none) (fB_X8_when_L53 x1 x2) N = k53 at h hk53
    unfold fB_X8_when_L53 at h
    refine lv_iload hx hb dX8_when_53 (lv_at hl 6 rfl) ?_
    refine lv_bipush (v := 20) hx hb dX8_when_55 (by decide) ?_
    refine lv_icmp_ge (tgt := 142) hx hb dX8_when_57 (by decide) (fun c21 => ?_) (fun c21 => ?_)
    · have h := tx_pos c21 h
      exact w_X8_when_J142 F x2 x4 x5 S L H locs ls h hP hD hS (lv_sub hl [2, 4, 5] rfl)
    · have h := tx_neg c21 h
      refine lv_aload_n hx hb dX8_when_60 rfl (lv_at hl 0 rfl) ?_
      obtain ⟨S_23, hc24, h⟩ := tx_bd h
      refine tw_cv tw_all hP hD hS hA (va_runV (As := []) (rest := []) ⟨hx, hb, hml, hown, hT⟩ (c_X8_layTried l G cA H.size aa S L  S_23 hc24) (cwV 0 hT (tq_gV kw_39_5 kw_39_6 kw_39_7 kw_1_5 kw_39_8) rfl rfl rfl (by decide +kernel) ⟨Nat.le_of_ble_eq_true rfl, Nat.le_of_ble_eq_true rfl⟩) ⟨(tw_pre tw_all hP hD hK hN).1, va_recv hK hP (ci := 8) (q0 := 0) rfl rfl, (tw_pre tw_all hP hD hK hN).2⟩ rfl rfl hl.1 rfl (lv_room (Nat.le_of_ble_eq_true rfl)) dX8_when_61 ⟨Nat.le_of_ble_eq_true rfl, Nat.le_of_ble_eq_true rfl⟩) (fun _ H locs z25 hP hD hS => ?_)
      rw [List.append_nil] at hP hD
      have hP : va_P G vwCl (wM cA aa S_23 L) H := hP
      have hD : va_D A (wM cA aa S_23 L) := hD
      exact w_X8_when_L64 F k53 hk53 2000 S_23 L H locs ls h hP hD hS (lv_sub hl [0, 1, 2, 3, 4, 5, 6] rfl)
set_option maxHeartbeats 4000000 in
set_option maxRecDepth 100000 in
theorem c_X8_when (l : Launch) (G : va_G) (cA : Nat → ClassId) (sz : Nat) (aa : Nat → Nat) (S : Tr) (L : Lo) (x1 : Int32) (x2 : Int32)  (r0 : Int32) (S' : Tr) (L' : Lo) (h : f_X8_when S L x1 x2 = some (r0, S', L')) : Met l yX8_when (.code yX8_when cX8_when 8 (some .int) :: T0) ({ frames := 9, cells := 0, slots := 0, locals := 211 } : Room) (tqP G cA [.ref (aa 0), .int x1, .int x2] (wM cA aa S L) sz) (tqQi G cA (fun (r : Int32) (_ : Unit) => r = r0) (fun (_ : Unit) => wM cA aa S' L') (va_A (wM cA aa S L) sz)) 0 0 (va_A (wM cA aa S L) sz) := by
  refine Met.ofW (cc := cX8_when) (maxL := 8) (ret := (some .int)) (by decide) rfl ?_
  intro p e s m args below meth c s₁ B hml hv
  obtain ⟨rfl, hsz, hP, hK, hD0, hN⟩ := hv
  have hx := B.exec
  have hb := B.bytes
  have hr := B.returns
  have hts := atoms_spec (ws := .code yX8_when cX8_when 8 (some .int) :: T0) B.pre
  have hT : ∀ w ∈ T0, w.before _ s = true := fun w h => hts w (List.mem_cons_of_mem _ h)
  have hown : s.vm.findClass RX8 = some m.cls := findClass_of_methodNamed B.named
  have hlocks := B.notSynchronized
  subst hsz
  have hD := hD0.self (sz := s.heap.size)
  generalize hAe : va_A (wM cA aa S L) s.heap.size = A at hD ⊢
  have hA : ∀ q : Nat, s.heap.size ≤ q → A q := fun q h => by rw [← hAe]; exact Or.inr h
  have hS : va_S A s.heap s.heap [] := va_S.rf
  have hl := lv_entry ([.ref (aa 0), .int x1, .int x2]) (n := 8) (Nat.le_of_ble_eq_true rfl)
  rw [lg_entry_eq]
  generalize (lg_sl ([.ref (aa 0), .int x1, .int x2]) ++ List.replicate (8 - (lg_sl ([.ref (aa 0), .int x1, .int x2])).length) Slot.unset).toArray = ls at hl ⊢
  have hl : lv_has ls 8 [(0, .ref (aa 0)), (1, .int x1), (2, .int x2)] := hl
  have F : tF p s m ([.ref (aa 0), .int x1, .int x2] : List Value).toArray meth c G cA A RX8 cX8_when 8 (some .int) := ⟨hx, hb, hr, hml, hT, hown, hlocks, hK, hN, hA⟩
  obtain ⟨H, hH⟩ : ∃ z, z = s.heap := ⟨_, rfl⟩
  rw [← hH] at hP
  have hS : va_S A s.heap H [] := by rw [hH]; exact hS
  suffices hgo : G_X8_when p l e s m below meth c G cA A aa x1 x2 r0 S' L' H [] (F0 m 0 ls []) by rw [hH] at hgo; exact hgo
  generalize ([] : List Loc) = locs at hS ⊢
  unfold f_X8_when at h
  refine lv_aload_n hx hb dX8_when_0 rfl (lv_at hl 0 rfl) ?_
  refine lv_iconst (v := 0) hx hb dX8_when_1 (by decide) ?_
  refine va_put (D := G) (ci := 8) (v := .int 0) (ty := .int) (C := RX8) (T := TX8) (N := 91) hx hb hT ku_8 tyX8 tyX8_ok nmX8 hown hK hP hD hS 0 rfl rfl 2 (by decide) (hT _ kw_14_0) (fun _ h9 => h9) rfl (by decide +kernel) rfl rfl (Nat.le_of_ble_eq_true rfl) dX8_when_2 (fun H locs hP hD hS => ?_)
  obtain ⟨S_1, eS_1, h⟩ := tx_lt h
  rw [sM_f2, eS_1] at hP hD
  refine lv_aload_n hx hb dX8_when_5 rfl (lv_at hl 0 rfl) ?_
  refine lv_iload_n hx hb dX8_when_6 rfl (lv_at hl 1 rfl) ?_
  obtain ⟨r2, hc3, h⟩ := tx_bd h
  refine tw_ci tw_all hP hD hS hA (va_runV (As := [.int x1]) (rest := []) ⟨hx, hb, hml, hown, hT⟩ (c_X8_isPlace l G cA H.size aa S_1 L x1  r2 hc3) (cwV 1 hT (tq_gV kw_32_11 kw_32_12 kw_32_13 kw_1_5 kw_32_14) rfl rfl rfl (by decide +kernel) ⟨Nat.le_of_ble_eq_true rfl, Nat.le_of_ble_eq_true rfl⟩) ⟨(tw_pre tw_all hP hD hK hN).1, va_recv hK hP (ci := 8) (q0 := 0) rfl rfl, (tw_pre tw_all hP hD hK hN).2⟩ rfl rfl hl.1 rfl (lv_room (Nat.le_of_ble_eq_true rfl)) dX8_when_7 ⟨Nat.le_of_ble_eq_true rfl, Nat.le_of_ble_eq_true rfl⟩) (fun _ _ H locs z4 hP hD hS => ?_)
  subst z4
  rw [List.append_nil] at hP hD
  have hP : va_P G vwCl (wM cA aa S_1 L) H := hP
  have hD : va_D A (wM cA aa S_1 L) := hD
  refine lv_if_eq (tgt := 22) hx hb dX8_when_10 (by decide) (fun c5 => ?_) (fun c5 => ?_)
  · have h := tx_pos c5 h
    refine lv_iconst (v := (-1)) hx hb dX8_when_22 (by decide) ?_
    obtain ⟨rfl, rfl, rfl⟩ := tx_3 h
    exact W.iret hx hb hr (fun t ht hW => ⟨⟨_, (), rfl, rfl, by rw [ht]; exact hP, hD⟩, hS.F ht⟩) hS.2.2 dX8_when_23
  · have h := tx_neg c5 h
    refine lv_iload_n hx hb dX8_when_13 rfl (lv_at hl 2 rfl) ?_
    refine lv_iconst (v := 0) hx hb dX8_when_14 (by decide) ?_
    refine lv_iconst (v := 1) hx hb dX8_when_15 (by decide) ?_
    obtain ⟨r6, hc7, h⟩ := tx_bd h
    refine tw_ci (tw_none (ws := wM cA aa S_1 L)) hP hD hS hA (va_runS (As := [.int x2, .int 0, .int 1]) (rest := []) ⟨hx, hb, hml, hown, hT⟩ (c_X8_isIn l G cA H.size x2 (0 : Int32) (1 : Int32)  r6 hc7) (va_cwS 3 hT (tq_gS kw_24_11 kw_24_12 kw_1_5 kw_24_13) rfl rfl rfl (by decide +kernel) ⟨Nat.le_of_ble_eq_true rfl, Nat.le_of_ble_eq_true rfl⟩) (tw_pre (tw_none (ws := wM cA aa S_1 L)) hP hD hK hN) rfl rfl hl.1 rfl (lv_room (Nat.le_of_ble_eq_true rfl)) dX8_when_16 ⟨Nat.le_of_ble_eq_true rfl, Nat.le_of_ble_eq_true rfl⟩) (fun _ _ H locs z8 hP hD hS => ?_)
    subst z8
    have hP : va_P G vwCl (wM cA aa S_1 L) H := hP
    have hD : va_D A (wM cA aa S_1 L) := hD
    refine lv_if_ne (tgt := 24) hx hb dX8_when_19 (by decide) (fun c9 => ?_) (fun c9 => ?_)
    · have h := tx_neg c9 h
      refine lv_aload_n hx hb dX8_when_24 rfl (lv_at hl 0 rfl) ?_
      obtain ⟨S_10, hc11, h⟩ := tx_bd h
      refine tw_cv tw_all hP hD hS hA (va_runV (As := []) (rest := []) ⟨hx, hb, hml, hown, hT⟩ (c_X8_layTried l G cA H.size aa S_1 L  S_10 hc11) (cwV 0 hT (tq_gV kw_39_5 kw_39_6 kw_39_7 kw_1_5 kw_39_8) rfl rfl rfl (by decide +kernel) ⟨Nat.le_of_ble_eq_true rfl, Nat.le_of_ble_eq_true rfl⟩) ⟨(tw_pre tw_all hP hD hK hN).1, va_recv hK hP (ci := 8) (q0 := 0) rfl rfl, (tw_pre tw_all hP hD hK hN).2⟩ rfl rfl hl.1 rfl (lv_room (Nat.le_of_ble_eq_true rfl)) dX8_when_25 ⟨Nat.le_of_ble_eq_true rfl, Nat.le_of_ble_eq_true rfl⟩) (fun _ H locs z12 hP hD hS => ?_)
      rw [List.append_nil] at hP hD
      have hP : va_P G vwCl (wM cA aa S_10 L) H := hP
      have hD : va_D A (wM cA aa S_10 L) := hD
      refine lv_aload_n hx hb dX8_when_28 rfl (lv_at hl 0 rfl) ?_
      obtain ⟨⟨S_13, L_14⟩, hc15, h⟩ := tx_bd h
      replace h := tx_let (y := S_13) rfl h
      replace h := tx_let (y := L_14) rfl h
      refine tw_cv tw_all hP hD hS hA (va_runV (As := []) (rest := []) ⟨hx, hb, hml, hown, hT⟩ (c_X8_toEnd l G cA H.size aa S_10 L  S_13 L_14 hc15) (cwV 0 hT (tq_gV kw_48_5 kw_48_6 kw_48_7 kw_1_5 kw_48_8) rfl rfl rfl (by decide +kernel) ⟨Nat.le_of_ble_eq_true rfl, Nat.le_of_ble_eq_true rfl⟩) ⟨(tw_pre tw_all hP hD hK hN).1, va_recv hK hP (ci := 8) (q0 := 0) rfl rfl, (tw_pre tw_all hP hD hK hN).2⟩ rfl rfl hl.1 rfl (lv_room (Nat.le_of_ble_eq_true rfl)) dX8_when_29 ⟨Nat.le_of_ble_eq_true rfl, Nat.le_of_ble_eq_true rfl⟩) (fun _ H locs z16 hP hD hS => ?_)
      rw [List.append_nil] at hP hD
      have hP : va_P G vwCl (wM cA aa S_13 L_14) H := hP
      have hD : va_D A (wM cA aa S_13 L_14) := hD
      refine lv_aload_n hx hb dX8_when_32 rfl (lv_at hl 0 rfl) ?_
      obtain ⟨r17, hc18, h⟩ := tx_bd h
      refine tw_ci tw_all hP hD hS hA (va_runV (As := []) (rest := []) ⟨hx, hb, hml, hown, hT⟩ (c_X8_more l G cA H.size aa S_13 L_14  r17 hc18) (cwV 0 hT (tq_gV kw_48_9 kw_48_10 kw_48_11 kw_1_5 kw_48_12) rfl rfl rfl (by decide +kernel) ⟨Nat.le_of_ble_eq_true rfl, Nat.le_of_ble_eq_true rfl⟩) ⟨(tw_pre tw_all hP hD hK hN).1, va_recv hK hP (ci := 8) (q0 := 0) rfl rfl, (tw_pre tw_all hP hD hK hN).2⟩ rfl rfl hl.1 rfl (lv_room (Nat.le_of_ble_eq_true rfl)) dX8_when_33 ⟨Nat.le_of_ble_eq_true rfl, Nat.le_of_ble_eq_true rfl⟩) (fun _ _ H locs z19 hP hD hS => ?_)
      subst z19
      rw [List.append_nil] at hP hD
      have hP : va_P G vwCl (wM cA aa S_13 L_14) H := hP
      have hD : va_D A (wM cA aa S_13 L_14) := hD
      refine lv_istore_n (lv' := [(3, .int r17), (0, .ref (aa 0)), (1, .int x1), (2, .int x2)]) hx hb dX8_when_36 rfl hl (by decide) rfl (fun ls hl => ?_)
      refine lv_bipush (v := (-2)) hx hb dX8_when_37 (by decide) ?_
      refine lv_istore (lv' := [(4, .int (-2)), (3, .int r17), (0, .ref (aa 0)), (1, .int x1), (2, .int x2)]) hx hb dX8_when_39 hl (by decide) rfl (fun ls hl => ?_)
      refine lv_bipush (v := (-2)) hx hb dX8_when_41 (by decide) ?_
      refine lv_istore (lv' := [(5, .int (-2)), (4, .int (-2)), (3, .int r17), (0, .ref (aa 0)), (1, .int x1), (2, .int x2)]) hx hb dX8_when_43 hl (by decide) rfl (fun ls hl => ?_)
      refine lv_aload_n hx hb dX8_when_45 rfl (lv_at hl 3 rfl) ?_
      refine va_get (D := G) (ci := 8) (v := .ref (aa 62)) (C := RX8) (T := TX8) (N := 91) hx hb hT ku_8 hown hK hP 0 rfl rfl 61 (by decide) (hT _ kw_10_22) (fun _ h9 => h9) rfl dX8_when_46 ?_
      refine lv_iconst (v := 0) hx hb dX8_when_49 (by decide) ?_
      refine va_iald (i := 0) hx hb hK hP 36 0 rfl rfl (tq_in (by decide)) dX8_when_50 ?_
      refine tq_i (w := (S_13 62 0)) rfl ?_
      refine lv_topi (fun y20 ey20 => ?_)
      have h := tx_let ey20 h
      refine lv_istore (lv' := [(6, .int y20), (5, .int (-2)), (4, .int (-2)), (3, .int r17), (0, .ref (aa 0)), (1, .int x1), (2, .int x2)]) hx hb dX8_when_51 hl (by decide) rfl (fun ls hl => ?_)
      exact w_X8_when_L53 F 2000 r17 (-2) (-2) y20 S_13 L_14 H locs ls h hP hD hS (lv_sub hl [4, 5, 6, 3, 2, 1, 0] rfl)
    · have h := tx_pos c9 h
      refine lv_iconst (v := (-1)) hx hb dX8_when_22 (by decide) ?_
      obtain ⟨rfl, rfl, rfl⟩ := tx_3 h
      exact W.iret hx hb hr (fun t ht hW => ⟨⟨_, (), rfl, rfl, by rw [ht]; exact hP, hD⟩, hS.F ht⟩) hS.2.2 dX8_when_23
