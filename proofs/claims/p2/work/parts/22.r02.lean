abbrev G_X3_readSeed (p : Program) (l : Launch) (e : Env) (s : State) (m : MethodId) (below : List Frame) (meth : Method) (c : Code) (G : va_G) (cA : Nat → ClassId) (A : Nat → Prop) (bA : Nat) (ka : Nat → Nat) (ra : Nat → Nat) (pa : Nat → Nat) (L : Lo) (r0 : Int32) (K' : Tr) (R' : Tr) (P' : Tr) (H : Heap) (locs : List Loc) (g : JFrame) : Prop := W p l e (headSpec (.code yX3_readSeed cX3_readSeed 1 (some .boolean) :: T0) ({ frames := 4, cells := 0, slots := 0, locals := 88 } : Room)).room s m ([.ref (ra 0)] : List Value).toArray below meth c H locs 0 0 (MQ below (tqQi G cA (fun (r : Int32) (_ : Unit) => r = r0) (fun (_ : Unit) => wRP cA ka ra pa (K') (R') (P') L) A) ([.ref (ra 0)] : List Value).toArray s 0 0 A) g
set_option maxHeartbeats 4000000 in
set_option maxRecDepth 100000 in
theorem c_X3_readSeed (l : Launch) (G : va_G) (cA : Nat → ClassId) (sz : Nat) (bA : Nat) (ka : Nat → Nat) (ra : Nat → Nat) (pa : Nat → Nat) (K : Tr) (R : Tr) (P : Tr) (L : Lo)  (r0 : Int32) (K' : Tr) (R' : Tr) (P' : Tr) (h : f_X3_readSeed K R P = some (r0, K', R', P')) : Met l yX3_readSeed (.code yX3_readSeed cX3_readSeed 1 (some .boolean) :: T0) ({ frames := 4, cells := 0, slots := 0, locals := 88 } : Room) (tqPB bA G cA [.ref (ra 0)] (wRP cA ka ra pa K R P L) sz) (tqQi G cA (fun (r : Int32) (_ : Unit) => r = r0) (fun (_ : Unit) => wRP cA ka ra pa (K') (R') (P') L) (va_A (wRP cA ka ra pa K R P L) sz)) 0 0 (va_A (wRP cA ka ra pa K R P L) sz) := by
  refine Met.ofW (cc := cX3_readSeed) (maxL := 1) (ret := (some .boolean)) (by decide) rfl ?_
  intro p e s m args below meth c s₁ B hml hv
  obtain ⟨rfl, hsz, hP, hK, hD0, hN, hB⟩ := hv
  have hx := B.exec
  have hb := B.bytes
  have hr := B.returns
  have hts := atoms_spec (ws := .code yX3_readSeed cX3_readSeed 1 (some .boolean) :: T0) B.pre
  have hT : ∀ w ∈ T0, w.before _ s = true := fun w h => hts w (List.mem_cons_of_mem _ h)
  have hown : s.vm.findClass RX3 = some m.cls := findClass_of_methodNamed B.named
  have hlocks := B.notSynchronized
  subst hsz
  have hD := hD0.self (sz := s.heap.size)
  generalize hAe : va_A (wRP cA ka ra pa K R P L) s.heap.size = A at hD hB ⊢
  have hA : ∀ q : Nat, s.heap.size ≤ q → A q := fun q h => by rw [← hAe]; exact Or.inr h
  have hS : va_S A s.heap s.heap [] := va_S.rf
  have hl := lv_entry ([.ref (ra 0)]) (n := 1) (Nat.le_of_ble_eq_true rfl)
  rw [lg_entry_eq]
  generalize (lg_sl ([.ref (ra 0)]) ++ List.replicate (1 - (lg_sl ([.ref (ra 0)])).length) Slot.unset).toArray = ls at hl ⊢
  have hl : lv_has ls 1 [(0, .ref (ra 0))] := hl
  have F : tF p s m ([.ref (ra 0)] : List Value).toArray meth c G cA A RX3 cX3_readSeed 1 (some .boolean) := ⟨hx, hb, hr, hml, hT, hown, hlocks, hK, hN, hA⟩
  obtain ⟨H, hH⟩ : ∃ z, z = s.heap := ⟨_, rfl⟩
  rw [← hH] at hP
  have hS : va_S A s.heap H [] := by rw [hH]; exact hS
  suffices hgo : G_X3_readSeed p l e s m below meth c G cA A bA ka ra pa L r0 K' R' P' H [] (F0 m 0 ls []) by rw [hH] at hgo; exact hgo
  generalize ([] : List Loc) = locs at hS ⊢
  unfold f_X3_readSeed at h
  refine lv_aload_n hx hb dX3_readSeed_0 rfl (lv_at hl 0 rfl) ?_
  obtain ⟨⟨r1, K_2, R_3⟩, hc4, h⟩ := tx_bd h
  replace h := tx_let (y := r1) rfl h
  replace h := tx_let (y := K_2) rfl h
  replace h := tx_let (y := R_3) rfl h
  refine tw_ci tw_all hP hD hS hA (va_runV (As := []) (rest := []) ⟨hx, hb, hml, hown, hT⟩ (c_X3_startOnce l G cA H.size bA ka ra pa K R P L  r1 K_2 R_3 hc4) (cwV 0 hT (tq_gV kw_19_0 kw_19_1 kw_19_2 kw_1_15 kw_19_3) rfl rfl rfl (by decide +kernel) ⟨Nat.le_of_ble_eq_true rfl, Nat.le_of_ble_eq_true rfl⟩) ⟨(tw_preB tw_all hP hD hK hN hS hA hB).1, va_recv hK hP (ci := 3) (q0 := 3) rfl rfl, (tw_preB tw_all hP hD hK hN hS hA hB).2⟩ rfl rfl hl.1 rfl (lv_room (Nat.le_of_ble_eq_true rfl)) dX3_readSeed_1 ⟨Nat.le_of_ble_eq_true rfl, Nat.le_of_ble_eq_true rfl⟩) (fun _ _ H locs z5 hP hD hS => ?_)
  subst z5
  rw [List.append_nil] at hP hD
  have hP : va_P G vwCl (wRP cA ka ra pa K_2 R_3 P L) H := hP
  have hD : va_D A (wRP cA ka ra pa K_2 R_3 P L) := hD
  refine lv_if_ne (tgt := 9) hx hb dX3_readSeed_4 (by decide) (fun c6 => ?_) (fun c6 => ?_)
  · have h := tx_neg c6 h
    refine lv_aload_n hx hb dX3_readSeed_9 rfl (lv_at hl 0 rfl) ?_
    refine va_get (D := G) (ci := 3) (v := .ref (pa 0)) (C := RX3) (T := TX3) (N := 10) hx hb hT ku_3 hown hK hP 3 rfl rfl 4 (by decide) (hT _ kw_3_4) (fun _ h9 => h9) rfl dX3_readSeed_10 ?_
    refine lv_aload_n hx hb dX3_readSeed_13 rfl (lv_at hl 0 rfl) ?_
    refine lv_iconst (v := 0) hx hb dX3_readSeed_14 (by decide) ?_
    refine lv_ldc (v := 99999) hx hb hown (hT _ kw_19_13) dX3_readSeed_15 ?_
    obtain ⟨⟨r7, K_8, R_9⟩, hc10, h⟩ := tx_bd h
    replace h := tx_let (y := r7) rfl h
    replace h := tx_let (y := K_8) rfl h
    replace h := tx_let (y := R_9) rfl h
    refine tw_ci tw_all hP hD hS hA (va_runV (As := [.int 0, .int 99999]) (rest := [.ref (pa 0)]) ⟨hx, hb, hml, hown, hT⟩ (c_X3_takeNumber l G cA H.size bA ka ra pa K_2 R_3 P L (0 : Int32) (99999 : Int32)  r7 K_8 R_9 hc10) (cwV 2 hT (tq_gV kw_17_4 kw_17_5 kw_17_6 kw_1_15 kw_17_7) rfl rfl rfl (by decide +kernel) ⟨Nat.le_of_ble_eq_true rfl, Nat.le_of_ble_eq_true rfl⟩) ⟨(tw_preB tw_all hP hD hK hN hS hA hB).1, va_recv hK hP (ci := 3) (q0 := 3) rfl rfl, (tw_preB tw_all hP hD hK hN hS hA hB).2⟩ rfl rfl hl.1 rfl (lv_room (Nat.le_of_ble_eq_true rfl)) dX3_readSeed_17 ⟨Nat.le_of_ble_eq_true rfl, Nat.le_of_ble_eq_true rfl⟩) (fun _ _ H locs z11 hP hD hS => ?_)
    subst z11
    rw [List.append_nil] at hP hD
    have hP : va_P G vwCl (wRP cA ka ra pa K_8 R_9 P L) H := hP
    have hD : va_D A (wRP cA ka ra pa K_8 R_9 P L) := hD
    refine va_put (D := G) (ci := 2) (v := .int r7) (ty := .int) (C := RX2) (T := TX2) (N := 19) hx hb hT ku_2 tyX2 tyX2_ok nmX2 hown hK hP hD hS 5 rfl rfl 6 (by decide) (hT _ kw_19_14) (fun _ h9 => h9) rfl (by decide +kernel) rfl rfl (Nat.le_of_ble_eq_true rfl) dX3_readSeed_20 (fun H locs hP hD hS => ?_)
    obtain ⟨P_12, eP_12, h⟩ := tx_lt h
    rw [sRP_pa_f6, eP_12] at hP hD
    refine lv_aload_n hx hb dX3_readSeed_23 rfl (lv_at hl 0 rfl) ?_
    refine va_get (D := G) (ci := 3) (v := .ref (pa 0)) (C := RX3) (T := TX3) (N := 10) hx hb hT ku_3 hown hK hP 3 rfl rfl 4 (by decide) (hT _ kw_3_4) (fun _ h9 => h9) rfl dX3_readSeed_24 ?_
    refine va_get (D := G) (ci := 2) (v := .int (P_12 0 6)) (C := RX2) (T := TX2) (N := 19) hx hb hT ku_2 hown hK hP 5 rfl rfl 6 (by decide) (hT _ kw_19_14) (fun _ h9 => h9) rfl dX3_readSeed_27 ?_
    refine lv_if_lt (tgt := 37) hx hb dX3_readSeed_30 (by decide) (fun c13 => ?_) (fun c13 => ?_)
    · have h := tx_pos c13 h
      refine lv_iconst (v := 0) hx hb dX3_readSeed_37 (by decide) ?_
      obtain ⟨rfl, rfl, rfl, rfl⟩ := tx_4 h
      exact W.zret (ty := .boolean) hx hb hr rfl (fun t ht hW => ⟨⟨_, (), rfl, rfl, by rw [ht]; exact hP, hD⟩, hS.F ht⟩) hS.2.2 dX3_readSeed_38
    · have h := tx_neg c13 h
      refine lv_iconst (v := 1) hx hb dX3_readSeed_33 (by decide) ?_
      refine lv_goto (tgt := 38) hx hb dX3_readSeed_34 (by decide) ?_
      obtain ⟨rfl, rfl, rfl, rfl⟩ := tx_4 h
      exact W.zret (ty := .boolean) hx hb hr rfl (fun t ht hW => ⟨⟨_, (), rfl, rfl, by rw [ht]; exact hP, hD⟩, hS.F ht⟩) hS.2.2 dX3_readSeed_38
  · have h := tx_pos c6 h
    refine lv_iconst (v := 0) hx hb dX3_readSeed_7 (by decide) ?_
    obtain ⟨rfl, rfl, rfl, rfl⟩ := tx_4 h
    exact W.zret (ty := .boolean) hx hb hr rfl (fun t ht hW => ⟨⟨_, (), rfl, rfl, by rw [ht]; exact hP, hD⟩, hS.F ht⟩) hS.2.2 dX3_readSeed_8
abbrev G_X3_readCurve (p : Program) (l : Launch) (e : Env) (s : State) (m : MethodId) (below : List Frame) (meth : Method) (c : Code) (G : va_G) (cA : Nat → ClassId) (A : Nat → Prop) (bA : Nat) (ka : Nat → Nat) (ra : Nat → Nat) (pa : Nat → Nat) (L : Lo) (r0 : Int32) (K' : Tr) (R' : Tr) (P' : Tr) (H : Heap) (locs : List Loc) (g : JFrame) : Prop := W p l e (headSpec (.code yX3_readCurve cX3_readCurve 1 (some .boolean) :: T0) ({ frames := 4, cells := 0, slots := 0, locals := 88 } : Room)).room s m ([.ref (ra 0)] : List Value).toArray below meth c H locs 0 0 (MQ below (tqQi G cA (fun (r : Int32) (_ : Unit) => r = r0) (fun (_ : Unit) => wRP cA ka ra pa (K') (R') (P') L) A) ([.ref (ra 0)] : List Value).toArray s 0 0 A) g
set_option maxHeartbeats 4000000 in
set_option maxRecDepth 100000 in
theorem c_X3_readCurve (l : Launch) (G : va_G) (cA : Nat → ClassId) (sz : Nat) (bA : Nat) (ka : Nat → Nat) (ra : Nat → Nat) (pa : Nat → Nat) (K : Tr) (R : Tr) (P : Tr) (L : Lo)  (r0 : Int32) (K' : Tr) (R' : Tr) (P' : Tr) (h : f_X3_readCurve K R P = some (r0, K', R', P')) : Met l yX3_readCurve (.code yX3_readCurve cX3_readCurve 1 (some .boolean) :: T0) ({ frames := 4, cells := 0, slots := 0, locals := 88 } : Room) (tqPB bA G cA [.ref (ra 0)] (wRP cA ka ra pa K R P L) sz) (tqQi G cA (fun (r : Int32) (_ : Unit) => r = r0) (fun (_ : Unit) => wRP cA ka ra pa (K') (R') (P') L) (va_A (wRP cA ka ra pa K R P L) sz)) 0 0 (va_A (wRP cA ka ra pa K R P L) sz) := by
  refine Met.ofW (cc := cX3_readCurve) (maxL := 1) (ret := (some .boolean)) (by decide) rfl ?_
  intro p e s m args below meth c s₁ B hml hv
  obtain ⟨rfl, hsz, hP, hK, hD0, hN, hB⟩ := hv
  have hx := B.exec
  have hb := B.bytes
  have hr := B.returns
  have hts := atoms_spec (ws := .code yX3_readCurve cX3_readCurve 1 (some .boolean) :: T0) B.pre
  have hT : ∀ w ∈ T0, w.before _ s = true := fun w h => hts w (List.mem_cons_of_mem _ h)
  have hown : s.vm.findClass RX3 = some m.cls := findClass_of_methodNamed B.named
  have hlocks := B.notSynchronized
  subst hsz
  have hD := hD0.self (sz := s.heap.size)
  generalize hAe : va_A (wRP cA ka ra pa K R P L) s.heap.size = A at hD hB ⊢
  have hA : ∀ q : Nat, s.heap.size ≤ q → A q := fun q h => by rw [← hAe]; exact Or.inr h
  have hS : va_S A s.heap s.heap [] := va_S.rf
  have hl := lv_entry ([.ref (ra 0)]) (n := 1) (Nat.le_of_ble_eq_true rfl)
  rw [lg_entry_eq]
  generalize (lg_sl ([.ref (ra 0)]) ++ List.replicate (1 - (lg_sl ([.ref (ra 0)])).length) Slot.unset).toArray = ls at hl ⊢
  have hl : lv_has ls 1 [(0, .ref (ra 0))] := hl
  have F : tF p s m ([.ref (ra 0)] : List Value).toArray meth c G cA A RX3 cX3_readCurve 1 (some .boolean) := ⟨hx, hb, hr, hml, hT, hown, hlocks, hK, hN, hA⟩
  obtain ⟨H, hH⟩ : ∃ z, z = s.heap := ⟨_, rfl⟩
  rw [← hH] at hP
  have hS : va_S A s.heap H [] := by rw [hH]; exact hS
  suffices hgo : G_X3_readCurve p l e s m below meth c G cA A bA ka ra pa L r0 K' R' P' H [] (F0 m 0 ls []) by rw [hH] at hgo; exact hgo
  generalize ([] : List Loc) = locs at hS ⊢
  unfold f_X3_readCurve at h
  refine lv_aload_n hx hb dX3_readCurve_0 rfl (lv_at hl 0 rfl) ?_
  obtain ⟨⟨r1, K_2, R_3⟩, hc4, h⟩ := tx_bd h
  replace h := tx_let (y := r1) rfl h
  replace h := tx_let (y := K_2) rfl h
  replace h := tx_let (y := R_3) rfl h
  refine tw_ci tw_all hP hD hS hA (va_runV (As := []) (rest := []) ⟨hx, hb, hml, hown, hT⟩ (c_X3_startOnce l G cA H.size bA ka ra pa K R P L  r1 K_2 R_3 hc4) (cwV 0 hT (tq_gV kw_19_0 kw_19_1 kw_19_2 kw_1_15 kw_19_3) rfl rfl rfl (by decide +kernel) ⟨Nat.le_of_ble_eq_true rfl, Nat.le_of_ble_eq_true rfl⟩) ⟨(tw_preB tw_all hP hD hK hN hS hA hB).1, va_recv hK hP (ci := 3) (q0 := 3) rfl rfl, (tw_preB tw_all hP hD hK hN hS hA hB).2⟩ rfl rfl hl.1 rfl (lv_room (Nat.le_of_ble_eq_true rfl)) dX3_readCurve_1 ⟨Nat.le_of_ble_eq_true rfl, Nat.le_of_ble_eq_true rfl⟩) (fun _ _ H locs z5 hP hD hS => ?_)
  subst z5
  rw [List.append_nil] at hP hD
  have hP : va_P G vwCl (wRP cA ka ra pa K_2 R_3 P L) H := hP
  have hD : va_D A (wRP cA ka ra pa K_2 R_3 P L) := hD
  refine lv_if_ne (tgt := 9) hx hb dX3_readCurve_4 (by decide) (fun c6 => ?_) (fun c6 => ?_)
  · have h := tx_neg c6 h
    refine lv_aload_n hx hb dX3_readCurve_9 rfl (lv_at hl 0 rfl) ?_
    refine va_get (D := G) (ci := 3) (v := .ref (pa 0)) (C := RX3) (T := TX3) (N := 10) hx hb hT ku_3 hown hK hP 3 rfl rfl 4 (by decide) (hT _ kw_3_4) (fun _ h9 => h9) rfl dX3_readCurve_10 ?_
    refine lv_aload_n hx hb dX3_readCurve_13 rfl (lv_at hl 0 rfl) ?_
    refine lv_iconst (v := 0) hx hb dX3_readCurve_14 (by decide) ?_
    refine lv_bipush (v := 99) hx hb dX3_readCurve_15 (by decide) ?_
    obtain ⟨⟨r7, K_8, R_9⟩, hc10, h⟩ := tx_bd h
    replace h := tx_let (y := r7) rfl h
    replace h := tx_let (y := K_8) rfl h
    replace h := tx_let (y := R_9) rfl h
    refine tw_ci tw_all hP hD hS hA (va_runV (As := [.int 0, .int 99]) (rest := [.ref (pa 0)]) ⟨hx, hb, hml, hown, hT⟩ (c_X3_takeNumber l G cA H.size bA ka ra pa K_2 R_3 P L (0 : Int32) (99 : Int32)  r7 K_8 R_9 hc10) (cwV 2 hT (tq_gV kw_17_4 kw_17_5 kw_17_6 kw_1_15 kw_17_7) rfl rfl rfl (by decide +kernel) ⟨Nat.le_of_ble_eq_true rfl, Nat.le_of_ble_eq_true rfl⟩) ⟨(tw_preB tw_all hP hD hK hN hS hA hB).1, va_recv hK hP (ci := 3) (q0 := 3) rfl rfl, (tw_preB tw_all hP hD hK hN hS hA hB).2⟩ rfl rfl hl.1 rfl (lv_room (Nat.le_of_ble_eq_true rfl)) dX3_readCurve_17 ⟨Nat.le_of_ble_eq_true rfl, Nat.le_of_ble_eq_true rfl⟩) (fun _ _ H locs z11 hP hD hS => ?_)
    subst z11
    rw [List.append_nil] at hP hD
    have hP : va_P G vwCl (wRP cA ka ra pa K_8 R_9 P L) H := hP
    have hD : va_D A (wRP cA ka ra pa K_8 R_9 P L) := hD
    refine va_put (D := G) (ci := 2) (v := .int r7) (ty := .int) (C := RX2) (T := TX2) (N := 19) hx hb hT ku_2 tyX2 tyX2_ok nmX2 hown hK hP hD hS 5 rfl rfl 5 (by decide) (hT _ kw_19_8) (fun _ h9 => h9) rfl (by decide +kernel) rfl rfl (Nat.le_of_ble_eq_true rfl) dX3_readCurve_20 (fun H locs hP hD hS => ?_)
    obtain ⟨P_12, eP_12, h⟩ := tx_lt h
    rw [sRP_pa_f5, eP_12] at hP hD
    refine lv_aload_n hx hb dX3_readCurve_23 rfl (lv_at hl 0 rfl) ?_
    refine va_get (D := G) (ci := 3) (v := .ref (pa 0)) (C := RX3) (T := TX3) (N := 10) hx hb hT ku_3 hown hK hP 3 rfl rfl 4 (by decide) (hT _ kw_3_4) (fun _ h9 => h9) rfl dX3_readCurve_24 ?_
    refine va_get (D := G) (ci := 2) (v := .int (P_12 0 5)) (C := RX2) (T := TX2) (N := 19) hx hb hT ku_2 hown hK hP 5 rfl rfl 5 (by decide) (hT _ kw_19_8) (fun _ h9 => h9) rfl dX3_readCurve_27 ?_
    refine lv_if_lt (tgt := 37) hx hb dX3_readCurve_30 (by decide) (fun c13 => ?_) (fun c13 => ?_)
    · have h := tx_pos c13 h
      refine lv_iconst (v := 0) hx hb dX3_readCurve_37 (by decide) ?_
      obtain ⟨rfl, rfl, rfl, rfl⟩ := tx_4 h
      exact W.zret (ty := .boolean) hx hb hr rfl (fun t ht hW => ⟨⟨_, (), rfl, rfl, by rw [ht]; exact hP, hD⟩, hS.F ht⟩) hS.2.2 dX3_readCurve_38
    · have h := tx_neg c13 h
      refine lv_iconst (v := 1) hx hb dX3_readCurve_33 (by decide) ?_
      refine lv_goto (tgt := 38) hx hb dX3_readCurve_34 (by decide) ?_
      obtain ⟨rfl, rfl, rfl, rfl⟩ := tx_4 h
      exact W.zret (ty := .boolean) hx hb hr rfl (fun t ht hW => ⟨⟨_, (), rfl, rfl, by rw [ht]; exact hP, hD⟩, hS.F ht⟩) hS.2.2 dX3_readCurve_38
  · have h := tx_pos c6 h
    refine lv_iconst (v := 0) hx hb dX3_readCurve_7 (by decide) ?_
    obtain ⟨rfl, rfl, rfl, rfl⟩ := tx_4 h
    exact W.zret (ty := .boolean) hx hb hr rfl (fun t ht hW => ⟨⟨_, (), rfl, rfl, by rw [ht]; exact hP, hD⟩, hS.F ht⟩) hS.2.2 dX3_readCurve_8
abbrev G_X3_takeWord (p : Program) (l : Launch) (e : Env) (s : State) (m : MethodId) (below : List Frame) (meth : Method) (c : Code) (G : va_G) (cA : Nat → ClassId) (A : Nat → Prop) (bA : Nat) (ka : Nat → Nat) (ra : Nat → Nat) (pa : Nat → Nat) (P : Tr) (L : Lo) (x1 : Int32) (x2 : Int32) (r0 : Int32) (K' : Tr) (R' : Tr) (H : Heap) (locs : List Loc) (g : JFrame) : Prop := W p l e (headSpec (.code yX3_takeWord cX3_takeWord 4 (some .int) :: T0) ({ frames := 3, cells := 0, slots := 0, locals := 65 } : Room)).room s m ([.ref (ra 0), .int x1, .int x2] : List Value).toArray below meth c H locs 0 0 (MQ below (tqQi G cA (fun (r : Int32) (_ : Unit) => r = r0) (fun (_ : Unit) => wRP cA ka ra pa (K') (R') P L) A) ([.ref (ra 0), .int x1, .int x2] : List Value).toArray s 0 0 A) g
set_option maxHeartbeats 4000000 in
set_option maxRecDepth 100000 in
theorem w_X3_takeWord_J24 {p : Program} {l : Launch} {e : Env} {s : State} {m : MethodId} {below : List Frame} {meth : Method} {c : Code} {G : va_G} {cA : Nat → ClassId} {A : Nat → Prop} {bA : Nat} {ka : Nat → Nat} {ra : Nat → Nat} {pa : Nat → Nat} {P : Tr} {L : Lo} {x1₀ : Int32} {x2₀ : Int32} {r0 : Int32} {K' : Tr} {R' : Tr} (F : tF p s m ([.ref (ra 0), .int x1₀, .int x2₀] : List Value).toArray meth c G cA A RX3 cX3_takeWord 4 (some .int)) (hB : tqB bA A s s.heap)    (x1 : Int32) (x3 : Int32) (s0 : Int32) (K : Tr) (R : Tr) (H : Heap) (locs : List Loc) (ls : Array Slot) (h : fJ_X3_takeWord_J24 x1 x3 s0 K R = some (r0, K', R')) (hP : va_P G vwCl (wRP cA ka ra pa K R_4 P L) H) (hD : va_D A (wRP cA ka ra pa K R_4 P L)) (hS : va_S A s.heap H locs) (hl : lv_has ls 4 [(0, .ref (ra 0)), (1, .int x1), (3, .int x3)]) : G_X3_takeWord p l e s m below meth c G cA A bA ka ra pa P L x1₀ x2₀ r0 K' R' H locs (F0 m 24 ls []) := by
  obtain ⟨hx, hb, hr, hml, hT, hown, hlocks, hK, hN, hA⟩ := id F
  unfold fJ_X3_takeWord_J24 at h
  refine lv_iconst (v := 1) hx hb dX3_takeWord_24 (by decide) ?_
  obtain ⟨⟨r3, R_4⟩, hc5, h⟩ := tx_bd h
  replace h := tx_let (y := r3) rfl h
  replace h := tx_let (y := R_4) rfl h
  refine tw_ci tw_all hP hD hS hA (va_runV (As := [.int s0, .int 1]) (rest := []) ⟨hx, hb, hml, hown, hT⟩ (c_X3_expect l G cA H.size bA ka ra pa K R P L s0 (1 : Int32)  r3 R_4 hc5) (cwV 2 hT (tq_gV kw_16_18 kw_16_19 kw_16_20 kw_1_15 kw_16_21) rfl rfl rfl (by decide +kernel) ⟨Nat.le_of_ble_eq_true rfl, Nat.le_of_ble_eq_true rfl⟩) ⟨(tw_preB tw_all hP hD hK hN hS hA hB).1, va_recv hK hP (ci := 3) (q0 := 3) rfl rfl, (tw_preB tw_all hP hD hK hN hS hA hB).2⟩ rfl rfl hl.1 rfl (lv_room (Nat.le_of_ble_eq_true rfl)) dX3_takeWord_25 ⟨Nat.le_of_ble_eq_true rfl, Nat.le_of_ble_eq_true rfl⟩) (fun _ _ H locs z6 hP hD hS => ?_)
  subst z6
  rw [List.append_nil] at hP hD
  have hP : va_P G vwCl (wRP cA ka ra pa K R_4 P L) H := hP
  have hD : va_D A (wRP cA ka ra pa K R_4 P L) := hD
  refine lv_if_ne (tgt := 33) hx hb dX3_takeWord_28 (by decide) (fun c7 => ?_) (fun c7 => ?_)
  · have h := tx_neg c7 h
    refine lv_aload_n hx hb dX3_takeWord_33 rfl (lv_at hl 0 rfl) ?_
    refine va_get (D := G) (ci := 3) (v := .ref (ka 0)) (C := RX3) (T := TX3) (N := 10) hx hb hT ku_3 hown hK hP 3 rfl rfl 0 (by decide) (hT _ kw_2_23) (fun _ h9 => h9) rfl dX3_takeWord_34 ?_
    obtain ⟨K_8, hc9, h⟩ := tx_bd h
    refine tw_cv tw_all hP hD hS hA (va_runV (As := []) (rest := []) ⟨hx, hb, hml, hown, hT⟩ (c_X5_advance l G cA H.size bA ka ra pa K R_4 P L  K_8 hc9) (cwV 0 hT (tq_gV kw_16_23 kw_15_0 kw_15_1 kw_2_22 kw_15_2) rfl rfl rfl (by decide +kernel) ⟨Nat.le_of_ble_eq_true rfl, Nat.le_of_ble_eq_true rfl⟩) ⟨(tw_preB tw_all hP hD hK hN hS hA hB).1, va_recv hK hP (ci := 5) (q0 := 0) rfl rfl, (tw_preB tw_all hP hD hK hN hS hA hB).2⟩ rfl rfl hl.1 rfl (lv_room (Nat.le_of_ble_eq_true rfl)) dX3_takeWord_37 ⟨Nat.le_of_ble_eq_true rfl, Nat.le_of_ble_eq_true rfl⟩) (fun _ H locs z10 hP hD hS => ?_)
    rw [List.append_nil] at hP hD
    have hP : va_P G vwCl (wRP cA ka ra pa K_8 R_4 P L) H := hP
    have hD : va_D A (wRP cA ka ra pa K_8 R_4 P L) := hD
    refine lv_iload_n hx hb dX3_takeWord_40 rfl (lv_at hl 2 rfl) ?_
    refine lv_iload_n hx hb dX3_takeWord_41 rfl (lv_at hl 1 rfl) ?_
    refine lv_isub hx hb dX3_takeWord_42 ?_
    obtain ⟨rfl, rfl, rfl⟩ := tx_3 h
    exact W.iret hx hb hr (fun t ht hW => ⟨⟨_, (), rfl, rfl, by rw [ht]; exact hP, hD⟩, hS.F ht⟩) hS.2.2 dX3_takeWord_43
  · have h := tx_pos c7 h
    refine lv_iconst (v := (-1)) hx hb dX3_takeWord_31 (by decide) ?_
    obtain ⟨rfl, rfl, rfl⟩ := tx_3 h
    exact W.iret hx hb hr (fun t ht hW => ⟨⟨_, (), rfl, rfl, by rw [ht]; exact hP, hD⟩, hS.F ht⟩) hS.2.2 dX3_takeWord_32
set_option maxHeartbeats 4000000 in
set_option maxRecDepth 100000 in
theorem w_X3_takeWord_J23 {p : Program} {l : Launch} {e : Env} {s : State} {m : MethodId} {below : List Frame} {meth : Method} {c : Code} {G : va_G} {cA : Nat → ClassId} {A : Nat → Prop} {bA : Nat} {ka : Nat → Nat} {ra : Nat → Nat} {pa : Nat → Nat} {P : Tr} {L : Lo} {x1₀ : Int32} {x2₀ : Int32} {r0 : Int32} {K' : Tr} {R' : Tr} (F : tF p s m ([.ref (ra 0), .int x1₀, .int x2₀] : List Value).toArray meth c G cA A RX3 cX3_takeWord 4 (some .int)) (hB : tqB bA A s s.heap)    (x1 : Int32) (x3 : Int32) (K : Tr) (R : Tr) (H : Heap) (locs : List Loc) (ls : Array Slot) (h : fJ_X3_takeWord_J23 x1 x3 K R = some (r0, K', R')) (hP : va_P G vwCl (wRP cA ka ra pa K R P L) H) (hD : va_D A (wRP cA ka ra pa K R P L)) (hS : va_S A s.heap H locs) (hl : lv_has ls 4 [(0, .ref (ra 0)), (1, .int x1), (3, .int x3)]) : G_X3_takeWord p l e s m below meth c G cA A bA ka ra pa P L x1₀ x2₀ r0 K' R' H locs (F0 m 23 ls [.int 0, .ref (ra 0)]) := by
  obtain ⟨hx, hb, hr, hml, hT, hown, hlocks, hK, hN, hA⟩ := id F
  unfold fJ_X3_takeWord_J23 at h
  refine lv_iconst (v := 0) hx hb dX3_takeWord_23 (by decide) ?_
  exact w_X3_takeWord_J24 F hB x1 x3 0 K R H locs ls h hP hD hS (lv_sub hl [0, 1, 2] rfl)
set_option maxHeartbeats 4000000 in
set_option maxRecDepth 100000 in
theorem c_X3_takeWord (l : Launch) (G : va_G) (cA : Nat → ClassId) (sz : Nat) (bA : Nat) (ka : Nat → Nat) (ra : Nat → Nat) (pa : Nat → Nat) (K : Tr) (R : Tr) (P : Tr) (L : Lo) (x1 : Int32) (x2 : Int32)  (r0 : Int32) (K' : Tr) (R' : Tr) (h : f_X3_takeWord K R x1 x2 = some (r0, K', R')) : Met l yX3_takeWord (.code yX3_takeWord cX3_takeWord 4 (some .int) :: T0) ({ frames := 3, cells := 0, slots := 0, locals := 65 } : Room) (tqPB bA G cA [.ref (ra 0), .int x1, .int x2] (wRP cA ka ra pa K R P L) sz) (tqQi G cA (fun (r : Int32) (_ : Unit) => r = r0) (fun (_ : Unit) => wRP cA ka ra pa (K') (R') P L) (va_A (wRP cA ka ra pa K R P L) sz)) 0 0 (va_A (wRP cA ka ra pa K R P L) sz) := by
  refine Met.ofW (cc := cX3_takeWord) (maxL := 4) (ret := (some .int)) (by decide) rfl ?_
  intro p e s m args below meth c s₁ B hml hv
  obtain ⟨rfl, hsz, hP, hK, hD0, hN, hB⟩ := hv
  have hx := B.exec
  have hb := B.bytes
  have hr := B.returns
  have hts := atoms_spec (ws := .code yX3_takeWord cX3_takeWord 4 (some .int) :: T0) B.pre
  have hT : ∀ w ∈ T0, w.before _ s = true := fun w h => hts w (List.mem_cons_of_mem _ h)
  have hown : s.vm.findClass RX3 = some m.cls := findClass_of_methodNamed B.named
  have hlocks := B.notSynchronized
  subst hsz
  have hD := hD0.self (sz := s.heap.size)
  generalize hAe : va_A (wRP cA ka ra pa K R P L) s.heap.size = A at hD hB ⊢
  have hA : ∀ q : Nat, s.heap.size ≤ q → A q := fun q h => by rw [← hAe]; exact Or.inr h
  have hS : va_S A s.heap s.heap [] := va_S.rf
  have hl := lv_entry ([.ref (ra 0), .int x1, .int x2]) (n := 4) (Nat.le_of_ble_eq_true rfl)
  rw [lg_entry_eq]
  generalize (lg_sl ([.ref (ra 0), .int x1, .int x2]) ++ List.replicate (4 - (lg_sl ([.ref (ra 0), .int x1, .int x2])).length) Slot.unset).toArray = ls at hl ⊢
  have hl : lv_has ls 4 [(0, .ref (ra 0)), (1, .int x1), (2, .int x2)] := hl
  have F : tF p s m ([.ref (ra 0), .int x1, .int x2] : List Value).toArray meth c G cA A RX3 cX3_takeWord 4 (some .int) := ⟨hx, hb, hr, hml, hT, hown, hlocks, hK, hN, hA⟩
  obtain ⟨H, hH⟩ : ∃ z, z = s.heap := ⟨_, rfl⟩
  rw [← hH] at hP
  have hS : va_S A s.heap H [] := by rw [hH]; exact hS
  suffices hgo : G_X3_takeWord p l e s m below meth c G cA A bA ka ra pa P L x1 x2 r0 K' R' H [] (F0 m 0 ls []) by rw [hH] at hgo; exact hgo
  generalize ([] : List Loc) = locs at hS ⊢
  unfold f_X3_takeWord at h
  refine lv_aload_n hx hb dX3_takeWord_0 rfl (lv_at hl 0 rfl) ?_
  refine va_get (D := G) (ci := 3) (v := .ref (ka 0)) (C := RX3) (T := TX3) (N := 10) hx hb hT ku_3 hown hK hP 3 rfl rfl 0 (by decide) (hT _ kw_2_23) (fun _ h9 => h9) rfl dX3_takeWord_1 ?_
  refine va_get (D := G) (ci := 5) (v := .int (K 0 1)) (C := RX5) (T := TX5) (N := 8) hx hb hT ku_5 hown hK hP 0 rfl rfl 1 (by decide) (hT _ kw_14_15) (fun _ h9 => h9) rfl dX3_takeWord_4 ?_
  refine lv_topi (fun y1 ey1 => ?_)
  have h := tx_let ey1 h
  refine lv_istore_n (lv' := [(3, .int y1), (0, .ref (ra 0)), (1, .int x1), (2, .int x2)]) hx hb dX3_takeWord_7 rfl hl (by decide) rfl (fun ls hl => ?_)
  refine lv_aload_n hx hb dX3_takeWord_8 rfl (lv_at hl 1 rfl) ?_
  refine lv_iload_n hx hb dX3_takeWord_9 rfl (lv_at hl 0 rfl) ?_
  refine lv_iload_n hx hb dX3_takeWord_10 rfl (lv_at hl 2 rfl) ?_
  refine lv_icmp_lt (tgt := 23) hx hb dX3_takeWord_11 (by decide) (fun c2 => ?_) (fun c2 => ?_)
  · have h := tx_pos c2 h
    exact w_X3_takeWord_J23 F hB x1 y1 K R H locs ls h hP hD hS (lv_sub hl [1, 2, 0] rfl)
  · have h := tx_neg c2 h
    refine lv_iload_n hx hb dX3_takeWord_14 rfl (lv_at hl 0 rfl) ?_
    refine lv_iload_n hx hb dX3_takeWord_15 rfl (lv_at hl 3 rfl) ?_
    refine lv_icmp_gt (tgt := 23) hx hb dX3_takeWord_16 (by decide) (fun c11 => ?_) (fun c11 => ?_)
    · have h := tx_pos c11 h
      exact w_X3_takeWord_J23 F hB x1 y1 K R H locs ls h hP hD hS (lv_sub hl [1, 2, 0] rfl)
    · have h := tx_neg c11 h
      refine lv_iconst (v := 1) hx hb dX3_takeWord_19 (by decide) ?_
      refine lv_goto (tgt := 24) hx hb dX3_takeWord_20 (by decide) ?_
      exact w_X3_takeWord_J24 F hB x1 y1 1 K R H locs ls h hP hD hS (lv_sub hl [1, 2, 0] rfl)
abbrev G_X3_readRule (p : Program) (l : Launch) (e : Env) (s : State) (m : MethodId) (below : List Frame) (meth : Method) (c : Code) (G : va_G) (cA : Nat → ClassId) (A : Nat → Prop) (bA : Nat) (ka : Nat → Nat) (ra : Nat → Nat) (pa : Nat → Nat) (L : Lo) (r0 : Int32) (K' : Tr) (R' : Tr) (P' : Tr) (H : Heap) (locs : List Loc) (g : JFrame) : Prop := W p l e (headSpec (.code yX3_readRule cX3_readRule 1 (some .boolean) :: T0) ({ frames := 4, cells := 0, slots := 0, locals := 88 } : Room)).room s m ([.ref (ra 0)] : List Value).toArray below meth c H locs 0 0 (MQ below (tqQi G cA (fun (r : Int32) (_ : Unit) => r = r0) (fun (_ : Unit) => wRP cA ka ra pa (K') (R') (P') L) A) ([.ref (ra 0)] : List Value).toArray s 0 0 A) g
set_option maxHeartbeats 4000000 in
set_option maxRecDepth 100000 in
theorem c_X3_readRule (l : Launch) (G : va_G) (cA : Nat → ClassId) (sz : Nat) (bA : Nat) (ka : Nat → Nat) (ra : Nat → Nat) (pa : Nat → Nat) (K : Tr) (R : Tr) (P : Tr) (L : Lo)  (r0 : Int32) (K' : Tr) (R' : Tr) (P' : Tr) (h : f_X3_readRule K R P = some (r0, K', R', P')) : Met l yX3_readRule (.code yX3_readRule cX3_readRule 1 (some .boolean) :: T0) ({ frames := 4, cells := 0, slots := 0, locals := 88 } : Room) (tqPB bA G cA [.ref (ra 0)] (wRP cA ka ra pa K R P L) sz) (tqQi G cA (fun (r : Int32) (_ : Unit) => r = r0) (fun (_ : Unit) => wRP cA ka ra pa (K') (R') (P') L) (va_A (wRP cA ka ra pa K R P L) sz)) 0 0 (va_A (wRP cA ka ra pa K R P L) sz) := by
  refine Met.ofW (cc := cX3_readRule) (maxL := 1) (ret := (some .boolean)) (by decide) rfl ?_
  intro p e s m args below meth c s₁ B hml hv
  obtain ⟨rfl, hsz, hP, hK, hD0, hN, hB⟩ := hv
  have hx := B.exec
  have hb := B.bytes
  have hr := B.returns
  have hts := atoms_spec (ws := .code yX3_readRule cX3_readRule 1 (some .boolean) :: T0) B.pre
  have hT : ∀ w ∈ T0, w.before _ s = true := fun w h => hts w (List.mem_cons_of_mem _ h)
  have hown : s.vm.findClass RX3 = some m.cls := findClass_of_methodNamed B.named
  have hlocks := B.notSynchronized
  subst hsz
  have hD := hD0.self (sz := s.heap.size)
  generalize hAe : va_A (wRP cA ka ra pa K R P L) s.heap.size = A at hD hB ⊢
  have hA : ∀ q : Nat, s.heap.size ≤ q → A q := fun q h => by rw [← hAe]; exact Or.inr h
  have hS : va_S A s.heap s.heap [] := va_S.rf
  have hl := lv_entry ([.ref (ra 0)]) (n := 1) (Nat.le_of_ble_eq_true rfl)
  rw [lg_entry_eq]
  generalize (lg_sl ([.ref (ra 0)]) ++ List.replicate (1 - (lg_sl ([.ref (ra 0)])).length) Slot.unset).toArray = ls at hl ⊢
  have hl : lv_has ls 1 [(0, .ref (ra 0))] := hl
  have F : tF p s m ([.ref (ra 0)] : List Value).toArray meth c G cA A RX3 cX3_readRule 1 (some .boolean) := ⟨hx, hb, hr, hml, hT, hown, hlocks, hK, hN, hA⟩
  obtain ⟨H, hH⟩ : ∃ z, z = s.heap := ⟨_, rfl⟩
  rw [← hH] at hP
  have hS : va_S A s.heap H [] := by rw [hH]; exact hS
  suffices hgo : G_X3_readRule p l e s m below meth c G cA A bA ka ra pa L r0 K' R' P' H [] (F0 m 0 ls []) by rw [hH] at hgo; exact hgo
  generalize ([] : List Loc) = locs at hS ⊢
  unfold f_X3_readRule at h
  refine lv_aload_n hx hb dX3_readRule_0 rfl (lv_at hl 0 rfl) ?_
  obtain ⟨⟨r1, K_2, R_3⟩, hc4, h⟩ := tx_bd h
  replace h := tx_let (y := r1) rfl h
  replace h := tx_let (y := K_2) rfl h
  replace h := tx_let (y := R_3) rfl h
  refine tw_ci tw_all hP hD hS hA (va_runV (As := []) (rest := []) ⟨hx, hb, hml, hown, hT⟩ (c_X3_startOnce l G cA H.size bA ka ra pa K R P L  r1 K_2 R_3 hc4) (cwV 0 hT (tq_gV kw_19_0 kw_19_1 kw_19_2 kw_1_15 kw_19_3) rfl rfl rfl (by decide +kernel) ⟨Nat.le_of_ble_eq_true rfl, Nat.le_of_ble_eq_true rfl⟩) ⟨(tw_preB tw_all hP hD hK hN hS hA hB).1, va_recv hK hP (ci := 3) (q0 := 3) rfl rfl, (tw_preB tw_all hP hD hK hN hS hA hB).2⟩ rfl rfl hl.1 rfl (lv_room (Nat.le_of_ble_eq_true rfl)) dX3_readRule_1 ⟨Nat.le_of_ble_eq_true rfl, Nat.le_of_ble_eq_true rfl⟩) (fun _ _ H locs z5 hP hD hS => ?_)
  subst z5
  rw [List.append_nil] at hP hD
  have hP : va_P G vwCl (wRP cA ka ra pa K_2 R_3 P L) H := hP
  have hD : va_D A (wRP cA ka ra pa K_2 R_3 P L) := hD
  refine lv_if_ne (tgt := 9) hx hb dX3_readRule_4 (by decide) (fun c6 => ?_) (fun c6 => ?_)
  · have h := tx_neg c6 h
    refine lv_aload_n hx hb dX3_readRule_9 rfl (lv_at hl 0 rfl) ?_
    refine va_get (D := G) (ci := 3) (v := .ref (pa 0)) (C := RX3) (T := TX3) (N := 10) hx hb hT ku_3 hown hK hP 3 rfl rfl 4 (by decide) (hT _ kw_3_4) (fun _ h9 => h9) rfl dX3_readRule_10 ?_
    refine lv_aload_n hx hb dX3_readRule_13 rfl (lv_at hl 0 rfl) ?_
    refine lv_bipush (v := 13) hx hb dX3_readRule_14 (by decide) ?_
    refine lv_bipush (v := 15) hx hb dX3_readRule_16 (by decide) ?_
    obtain ⟨⟨r7, K_8, R_9⟩, hc10, h⟩ := tx_bd h
    replace h := tx_let (y := r7) rfl h
    replace h := tx_let (y := K_8) rfl h
    replace h := tx_let (y := R_9) rfl h
    refine tw_ci tw_all hP hD hS hA (va_runV (As := [.int 13, .int 15]) (rest := [.ref (pa 0)]) ⟨hx, hb, hml, hown, hT⟩ (c_X3_takeWord l G cA H.size bA ka ra pa K_2 R_3 P L (13 : Int32) (15 : Int32)  r7 K_8 R_9 hc10) (cwV 2 hT (tq_gV kw_17_0 kw_17_1 kw_17_2 kw_1_15 kw_17_3) rfl rfl rfl (by decide +kernel) ⟨Nat.le_of_ble_eq_true rfl, Nat.le_of_ble_eq_true rfl⟩) ⟨(tw_preB tw_all hP hD hK hN hS hA hB).1, va_recv hK hP (ci := 3) (q0 := 3) rfl rfl, (tw_preB tw_all hP hD hK hN hS hA hB).2⟩ rfl rfl hl.1 rfl (lv_room (Nat.le_of_ble_eq_true rfl)) dX3_readRule_18 ⟨Nat.le_of_ble_eq_true rfl, Nat.le_of_ble_eq_true rfl⟩) (fun _ _ H locs z11 hP hD hS => ?_)
    subst z11
    rw [List.append_nil] at hP hD
    have hP : va_P G vwCl (wRP cA ka ra pa K_8 R_9 P L) H := hP
    have hD : va_D A (wRP cA ka ra pa K_8 R_9 P L) := hD
    refine va_put (D := G) (ci := 2) (v := .int r7) (ty := .int) (C := RX2) (T := TX2) (N := 19) hx hb hT ku_2 tyX2 tyX2_ok nmX2 hown hK hP hD hS 5 rfl rfl 4 (by decide) (hT _ kw_18_23) (fun _ h9 => h9) rfl (by decide +kernel) rfl rfl (Nat.le_of_ble_eq_true rfl) dX3_readRule_21 (fun H locs hP hD hS => ?_)
    obtain ⟨P_12, eP_12, h⟩ := tx_lt h
    rw [sRP_pa_f4, eP_12] at hP hD
    refine lv_aload_n hx hb dX3_readRule_24 rfl (lv_at hl 0 rfl) ?_
    refine va_get (D := G) (ci := 3) (v := .ref (pa 0)) (C := RX3) (T := TX3) (N := 10) hx hb hT ku_3 hown hK hP 3 rfl rfl 4 (by decide) (hT _ kw_3_4) (fun _ h9 => h9) rfl dX3_readRule_25 ?_
    refine va_get (D := G) (ci := 2) (v := .int (P_12 0 4)) (C := RX2) (T := TX2) (N := 19) hx hb hT ku_2 hown hK hP 5 rfl rfl 4 (by decide) (hT _ kw_18_23) (fun _ h9 => h9) rfl dX3_readRule_28 ?_
    refine lv_if_lt (tgt := 38) hx hb dX3_readRule_31 (by decide) (fun c13 => ?_) (fun c13 => ?_)
    · have h := tx_pos c13 h
      refine lv_iconst (v := 0) hx hb dX3_readRule_38 (by decide) ?_
      obtain ⟨rfl, rfl, rfl, rfl⟩ := tx_4 h
      exact W.zret (ty := .boolean) hx hb hr rfl (fun t ht hW => ⟨⟨_, (), rfl, rfl, by rw [ht]; exact hP, hD⟩, hS.F ht⟩) hS.2.2 dX3_readRule_39
    · have h := tx_neg c13 h
      refine lv_iconst (v := 1) hx hb dX3_readRule_34 (by decide) ?_
      refine lv_goto (tgt := 39) hx hb dX3_readRule_35 (by decide) ?_
      obtain ⟨rfl, rfl, rfl, rfl⟩ := tx_4 h
      exact W.zret (ty := .boolean) hx hb hr rfl (fun t ht hW => ⟨⟨_, (), rfl, rfl, by rw [ht]; exact hP, hD⟩, hS.F ht⟩) hS.2.2 dX3_readRule_39
  · have h := tx_pos c6 h
    refine lv_iconst (v := 0) hx hb dX3_readRule_7 (by decide) ?_
    obtain ⟨rfl, rfl, rfl, rfl⟩ := tx_4 h
    exact W.zret (ty := .boolean) hx hb hr rfl (fun t ht hW => ⟨⟨_, (), rfl, rfl, by rw [ht]; exact hP, hD⟩, hS.F ht⟩) hS.2.2 dX3_readRule_8
abbrev G_J6_bitCount_0f7a4 (p : Program) (l : Launch) (e : Env) (s : State) (m : MethodId) (below : List Frame) (meth : Method) (c : Code) (G : va_G) (cA : Nat → ClassId) (A : Nat → Prop) (x0 : Int32) (r0 : Int32) (H : Heap) (locs : List Loc) (g : JFrame) : Prop := W p l e (headSpec (.code yJ6_bitCount_0f7a4 cJ6_bitCount_0f7a4 1 (some .int) :: T0) ({ frames := 0, cells := 0, slots := 0, locals := 0 } : Room)).room s m ([.int x0] : List Value).toArray below meth c H locs 0 0 (MQ below (tqQi G cA (fun (r : Int32) (_ : Unit) => r = r0) (fun (_ : Unit) => ([] : va_W)) A) ([.int x0] : List Value).toArray s 0 0 A) g
set_option maxHeartbeats 4000000 in
set_option maxRecDepth 100000 in
theorem c_J6_bitCount_0f7a4 (l : Launch) (G : va_G) (cA : Nat → ClassId) (sz : Nat) (x0 : Int32)  (r0 : Int32) (h : f_J6_bitCount_0f7a4 x0 = some r0) : Met l yJ6_bitCount_0f7a4 (.code yJ6_bitCount_0f7a4 cJ6_bitCount_0f7a4 1 (some .int) :: T0) ({ frames := 0, cells := 0, slots := 0, locals := 0 } : Room) (tqP G cA [.int x0] (([] : va_W)) sz) (tqQi G cA (fun (r : Int32) (_ : Unit) => r = r0) (fun (_ : Unit) => ([] : va_W)) (va_A (([] : va_W)) sz)) 0 0 (va_A (([] : va_W)) sz) := by
  refine Met.ofW (cc := cJ6_bitCount_0f7a4) (maxL := 1) (ret := (some .int)) (by decide) rfl ?_
  intro p e s m args below meth c s₁ B hml hv
  obtain ⟨rfl, hsz, hP, hK, hD0, hN⟩ := hv
  have hx := B.exec
  have hb := B.bytes
  have hr := B.returns
  have hts := atoms_spec (ws := .code yJ6_bitCount_0f7a4 cJ6_bitCount_0f7a4 1 (some .int) :: T0) B.pre
  have hT : ∀ w ∈ T0, w.before _ s = true := fun w h => hts w (List.mem_cons_of_mem _ h)
  have hown : s.vm.findClass RJ6 = some m.cls := findClass_of_methodNamed B.named
  have hlocks := B.notSynchronized
  subst hsz
  have hD := hD0.self (sz := s.heap.size)
  generalize hAe : va_A (([] : va_W)) s.heap.size = A at hD ⊢
  have hA : ∀ q : Nat, s.heap.size ≤ q → A q := fun q h => by rw [← hAe]; exact Or.inr h
  have hS : va_S A s.heap s.heap [] := va_S.rf
  have hl := lv_entry ([.int x0]) (n := 1) (Nat.le_of_ble_eq_true rfl)
  rw [lg_entry_eq]
  generalize (lg_sl ([.int x0]) ++ List.replicate (1 - (lg_sl ([.int x0])).length) Slot.unset).toArray = ls at hl ⊢
  have hl : lv_has ls 1 [(0, .int x0)] := hl
  have F : tF p s m ([.int x0] : List Value).toArray meth c G cA A RJ6 cJ6_bitCount_0f7a4 1 (some .int) := ⟨hx, hb, hr, hml, hT, hown, hlocks, hK, hN, hA⟩
  obtain ⟨H, hH⟩ : ∃ z, z = s.heap := ⟨_, rfl⟩
  rw [← hH] at hP
  have hS : va_S A s.heap H [] := by rw [hH]; exact hS
  suffices hgo : G_J6_bitCount_0f7a4 p l e s m below meth c G cA A x0 r0 H [] (F0 m 0 ls []) by rw [hH] at hgo; exact hgo
  generalize ([] : List Loc) = locs at hS ⊢
  unfold f_J6_bitCount_0f7a4 at h
  refine lv_iload_n hx hb dJ6_bitCount_0f7a4_0 rfl (lv_at hl 0 rfl) ?_
  refine lv_iload_n hx hb dJ6_bitCount_0f7a4_1 rfl (lv_at hl 0 rfl) ?_
  refine lv_iconst (v := 1) hx hb dJ6_bitCount_0f7a4_2 (by decide) ?_
  refine lv_iushr hx hb dJ6_bitCount_0f7a4_3 rfl ?_
  refine lv_ldcw (v := 1431655765) hx hb hown (hT _ kw_18_16) dJ6_bitCount_0f7a4_4 ?_
  refine lv_iand hx hb dJ6_bitCount_0f7a4_7 ?_
  refine lv_isub hx hb dJ6_bitCount_0f7a4_8 ?_
  refine lv_topi (fun y1 ey1 => ?_)
  have h := tx_let ey1 h
  refine lv_istore_n (lv' := [(0, .int y1)]) hx hb dJ6_bitCount_0f7a4_9 rfl hl (by decide) rfl (fun ls hl => ?_)
  refine lv_iload_n hx hb dJ6_bitCount_0f7a4_10 rfl (lv_at hl 0 rfl) ?_
  refine lv_ldcw (v := 858993459) hx hb hown (hT _ kw_18_17) dJ6_bitCount_0f7a4_11 ?_
  refine lv_iand hx hb dJ6_bitCount_0f7a4_14 ?_
  refine lv_iload_n hx hb dJ6_bitCount_0f7a4_15 rfl (lv_at hl 0 rfl) ?_
  refine lv_iconst (v := 2) hx hb dJ6_bitCount_0f7a4_16 (by decide) ?_
  refine lv_iushr hx hb dJ6_bitCount_0f7a4_17 rfl ?_
  refine lv_ldcw (v := 858993459) hx hb hown (hT _ kw_18_17) dJ6_bitCount_0f7a4_18 ?_
  refine lv_iand hx hb dJ6_bitCount_0f7a4_21 ?_
  refine lv_iadd hx hb dJ6_bitCount_0f7a4_22 ?_
  refine lv_topi (fun y2 ey2 => ?_)
  have h := tx_let ey2 h
  refine lv_istore_n (lv' := [(0, .int y2)]) hx hb dJ6_bitCount_0f7a4_23 rfl hl (by decide) rfl (fun ls hl => ?_)
  refine lv_iload_n hx hb dJ6_bitCount_0f7a4_24 rfl (lv_at hl 0 rfl) ?_
  refine lv_iload_n hx hb dJ6_bitCount_0f7a4_25 rfl (lv_at hl 0 rfl) ?_
  refine lv_iconst (v := 4) hx hb dJ6_bitCount_0f7a4_26 (by decide) ?_
  refine lv_iushr hx hb dJ6_bitCount_0f7a4_27 rfl ?_
  refine lv_iadd hx hb dJ6_bitCount_0f7a4_28 ?_
  refine lv_ldcw (v := 252645135) hx hb hown (hT _ kw_18_18) dJ6_bitCount_0f7a4_29 ?_
  refine lv_iand hx hb dJ6_bitCount_0f7a4_32 ?_
  refine lv_topi (fun y3 ey3 => ?_)
  have h := tx_let ey3 h
  refine lv_istore_n (lv' := [(0, .int y3)]) hx hb dJ6_bitCount_0f7a4_33 rfl hl (by decide) rfl (fun ls hl => ?_)
  refine lv_iload_n hx hb dJ6_bitCount_0f7a4_34 rfl (lv_at hl 0 rfl) ?_
  refine lv_iload_n hx hb dJ6_bitCount_0f7a4_35 rfl (lv_at hl 0 rfl) ?_
  refine lv_bipush (v := 8) hx hb dJ6_bitCount_0f7a4_36 (by decide) ?_
  refine lv_iushr hx hb dJ6_bitCount_0f7a4_38 rfl ?_
  refine lv_iadd hx hb dJ6_bitCount_0f7a4_39 ?_
  refine lv_topi (fun y4 ey4 => ?_)
  have h := tx_let ey4 h
  refine lv_istore_n (lv' := [(0, .int y4)]) hx hb dJ6_bitCount_0f7a4_40 rfl hl (by decide) rfl (fun ls hl => ?_)
  refine lv_iload_n hx hb dJ6_bitCount_0f7a4_41 rfl (lv_at hl 0 rfl) ?_
  refine lv_iload_n hx hb dJ6_bitCount_0f7a4_42 rfl (lv_at hl 0 rfl) ?_
  refine lv_bipush (v := 16) hx hb dJ6_bitCount_0f7a4_43 (by decide) ?_
  refine lv_iushr hx hb dJ6_bitCount_0f7a4_45 rfl ?_
  refine lv_iadd hx hb dJ6_bitCount_0f7a4_46 ?_
  refine lv_topi (fun y5 ey5 => ?_)
  have h := tx_let ey5 h
  refine lv_istore_n (lv' := [(0, .int y5)]) hx hb dJ6_bitCount_0f7a4_47 rfl hl (by decide) rfl (fun ls hl => ?_)
  refine lv_iload_n hx hb dJ6_bitCount_0f7a4_48 rfl (lv_at hl 0 rfl) ?_
  refine lv_bipush (v := 63) hx hb dJ6_bitCount_0f7a4_49 (by decide) ?_
  refine lv_iand hx hb dJ6_bitCount_0f7a4_51 ?_
  obtain rfl := tx_1 h
  exact W.iret hx hb hr (fun t ht hW => ⟨⟨_, (), rfl, rfl, by rw [ht]; exact hP, hD⟩, hS.F ht⟩) hS.2.2 dJ6_bitCount_0f7a4_52
abbrev G_X3_readWait (p : Program) (l : Launch) (e : Env) (s : State) (m : MethodId) (below : List Frame) (meth : Method) (c : Code) (G : va_G) (cA : Nat → ClassId) (A : Nat → Prop) (bA : Nat) (ka : Nat → Nat) (ra : Nat → Nat) (pa : Nat → Nat) (L : Lo) (r0 : Int32) (K' : Tr) (R' : Tr) (P' : Tr) (H : Heap) (locs : List Loc) (g : JFrame) : Prop := W p l e (headSpec (.code yX3_readWait cX3_readWait 3 (some .boolean) :: T0) ({ frames := 4, cells := 0, slots := 0, locals := 88 } : Room)).room s m ([.ref (ra 0)] : List Value).toArray below meth c H locs 0 0 (MQ below (tqQi G cA (fun (r : Int32) (_ : Unit) => r = r0) (fun (_ : Unit) => wRP cA ka ra pa (K') (R') (P') L) A) ([.ref (ra 0)] : List Value).toArray s 0 0 A) g
set_option maxHeartbeats 4000000 in
set_option maxRecDepth 100000 in
theorem w_X3_readWait_J103 {p : Program} {l : Launch} {e : Env} {s : State} {m : MethodId} {below : List Frame} {meth : Method} {c : Code} {G : va_G} {cA : Nat → ClassId} {A : Nat → Prop} {bA : Nat} {ka : Nat → Nat} {ra : Nat → Nat} {pa : Nat → Nat} {L : Lo} {r0 : Int32} {K' : Tr} {R' : Tr} {P' : Tr} (F : tF p s m ([.ref (ra 0)] : List Value).toArray meth c G cA A RX3 cX3_readWait 3 (some .boolean)) (hB : tqB bA A s s.heap)    (x1 : Int32) (s0 : Int32) (K : Tr) (R : Tr) (P : Tr) (H : Heap) (locs : List Loc) (ls : Array Slot) (h : fJ_X3_readWait_J103 x1 s0 K R P = some (r0, K', R', P')) (hP : va_P G vwCl (wRP cA ka ra pa K R_28 P L) H) (hD : va_D A (wRP cA ka ra pa K R_28 P L)) (hS : va_S A s.heap H locs) (hl : lv_has ls 3 [(0, .ref (ra 0)), (1, .int x1)]) : G_X3_readWait p l e s m below meth c G cA A bA ka ra pa L r0 K' R' P' H locs (F0 m 103 ls []) := by
  obtain ⟨hx, hb, hr, hml, hT, hown, hlocks, hK, hN, hA⟩ := id F
  unfold fJ_X3_readWait_J103 at h
  refine lv_iconst (v := 3) hx hb dX3_readWait_103 (by decide) ?_
  obtain ⟨⟨r27, R_28⟩, hc29, h⟩ := tx_bd h
  replace h := tx_let (y := r27) rfl h
  replace h := tx_let (y := R_28) rfl h
  refine tw_ci tw_all hP hD hS hA (va_runV (As := [.int s0, .int 3]) (rest := []) ⟨hx, hb, hml, hown, hT⟩ (c_X3_expect l G cA H.size bA ka ra pa K R P L s0 (3 : Int32)  r27 R_28 hc29) (cwV 2 hT (tq_gV kw_16_18 kw_16_19 kw_16_20 kw_1_15 kw_16_21) rfl rfl rfl (by decide +kernel) ⟨Nat.le_of_ble_eq_true rfl, Nat.le_of_ble_eq_true rfl⟩) ⟨(tw_preB tw_all hP hD hK hN hS hA hB).1, va_recv hK hP (ci := 3) (q0 := 3) rfl rfl, (tw_preB tw_all hP hD hK hN hS hA hB).2⟩ rfl rfl hl.1 rfl (lv_room (Nat.le_of_ble_eq_true rfl)) dX3_readWait_104 ⟨Nat.le_of_ble_eq_true rfl, Nat.le_of_ble_eq_true rfl⟩) (fun _ _ H locs z30 hP hD hS => ?_)
  subst z30
  rw [List.append_nil] at hP hD
  have hP : va_P G vwCl (wRP cA ka ra pa K R_28 P L) H := hP
  have hD : va_D A (wRP cA ka ra pa K R_28 P L) := hD
  refine lv_if_ne (tgt := 112) hx hb dX3_readWait_107 (by decide) (fun c31 => ?_) (fun c31 => ?_)
  · have h := tx_neg c31 h
    refine lv_aload_n hx hb dX3_readWait_112 rfl (lv_at hl 0 rfl) ?_
    refine va_get (D := G) (ci := 3) (v := .ref (ka 0)) (C := RX3) (T := TX3) (N := 10) hx hb hT ku_3 hown hK hP 3 rfl rfl 0 (by decide) (hT _ kw_2_23) (fun _ h9 => h9) rfl dX3_readWait_113 ?_
    obtain ⟨K_32, hc33, h⟩ := tx_bd h
    refine tw_cv tw_all hP hD hS hA (va_runV (As := []) (rest := []) ⟨hx, hb, hml, hown, hT⟩ (c_X5_advance l G cA H.size bA ka ra pa K R_28 P L  K_32 hc33) (cwV 0 hT (tq_gV kw_16_23 kw_15_0 kw_15_1 kw_2_22 kw_15_2) rfl rfl rfl (by decide +kernel) ⟨Nat.le_of_ble_eq_true rfl, Nat.le_of_ble_eq_true rfl⟩) ⟨(tw_preB tw_all hP hD hK hN hS hA hB).1, va_recv hK hP (ci := 5) (q0 := 0) rfl rfl, (tw_preB tw_all hP hD hK hN hS hA hB).2⟩ rfl rfl hl.1 rfl (lv_room (Nat.le_of_ble_eq_true rfl)) dX3_readWait_116 ⟨Nat.le_of_ble_eq_true rfl, Nat.le_of_ble_eq_true rfl⟩) (fun _ H locs z34 hP hD hS => ?_)
    rw [List.append_nil] at hP hD
    have hP : va_P G vwCl (wRP cA ka ra pa K_32 R_28 P L) H := hP
    have hD : va_D A (wRP cA ka ra pa K_32 R_28 P L) := hD
    refine lv_aload_n hx hb dX3_readWait_119 rfl (lv_at hl 0 rfl) ?_
    refine lv_iconst (v := 0) hx hb dX3_readWait_120 (by decide) ?_
    refine lv_sipush (v := 999) hx hb dX3_readWait_121 (by decide) ?_
    obtain ⟨⟨r35, K_36, R_37⟩, hc38, h⟩ := tx_bd h
    replace h := tx_let (y := r35) rfl h
    replace h := tx_let (y := K_36) rfl h
    replace h := tx_let (y := R_37) rfl h
    refine tw_ci tw_all hP hD hS hA (va_runV (As := [.int 0, .int 999]) (rest := []) ⟨hx, hb, hml, hown, hT⟩ (c_X3_takeNumber l G cA H.size bA ka ra pa K_32 R_28 P L (0 : Int32) (999 : Int32)  r35 K_36 R_37 hc38) (cwV 2 hT (tq_gV kw_17_4 kw_17_5 kw_17_6 kw_1_15 kw_17_7) rfl rfl rfl (by decide +kernel) ⟨Nat.le_of_ble_eq_true rfl, Nat.le_of_ble_eq_true rfl⟩) ⟨(tw_preB tw_all hP hD hK hN hS hA hB).1, va_recv hK hP (ci := 3) (q0 := 3) rfl rfl, (tw_preB tw_all hP hD hK hN hS hA hB).2⟩ rfl rfl hl.1 rfl (lv_room (Nat.le_of_ble_eq_true rfl)) dX3_readWait_124 ⟨Nat.le_of_ble_eq_true rfl, Nat.le_of_ble_eq_true rfl⟩) (fun _ _ H locs z39 hP hD hS => ?_)
    subst z39
    rw [List.append_nil] at hP hD
    have hP : va_P G vwCl (wRP cA ka ra pa K_36 R_37 P L) H := hP
    have hD : va_D A (wRP cA ka ra pa K_36 R_37 P L) := hD
    refine lv_istore_n (lv' := [(2, .int r35), (0, .ref (ra 0)), (1, .int x1)]) hx hb dX3_readWait_127 rfl hl (by decide) rfl (fun ls hl => ?_)
    refine lv_iload_n hx hb dX3_readWait_128 rfl (lv_at hl 0 rfl) ?_
    refine lv_if_ge (tgt := 134) hx hb dX3_readWait_129 (by decide) (fun c40 => ?_) (fun c40 => ?_)
    · have h := tx_pos c40 h
      refine lv_aload_n hx hb dX3_readWait_134 rfl (lv_at hl 1 rfl) ?_
      refine lv_dup hx hb dX3_readWait_135 rfl ?_
      refine va_get (D := G) (ci := 3) (v := .int (R_37 0 6)) (C := RX3) (T := TX3) (N := 10) hx hb hT ku_3 hown hK hP 3 rfl rfl 6 (by decide) (hT _ kw_14_14) (fun _ h9 => h9) rfl dX3_readWait_136 ?_
      refine lv_iconst (v := 1) hx hb dX3_readWait_139 (by decide) ?_
      refine lv_iload_n hx hb dX3_readWait_140 rfl (lv_at hl 2 rfl) ?_
      refine lv_ishl hx hb dX3_readWait_141 ?_
      refine lv_ior hx hb dX3_readWait_142 ?_
      refine va_put (D := G) (ci := 3) (v := .int ((R_37 0 6) ||| ((1 : Int32) <<< (x1 &&& 31)))) (ty := .int) (C := RX3) (T := TX3) (N := 10) hx hb hT ku_3 tyX3 tyX3_ok nmX3 hown hK hP hD hS 3 rfl rfl 6 (by decide) (hT _ kw_14_14) (fun _ h9 => h9) rfl (by decide +kernel) rfl rfl (Nat.le_of_ble_eq_true rfl) dX3_readWait_143 (fun H locs hP hD hS => ?_)
      obtain ⟨R_41, eR_41, h⟩ := tx_lt h
      rw [sRP_ra_f6, eR_41] at hP hD
      refine lv_aload_n hx hb dX3_readWait_146 rfl (lv_at hl 1 rfl) ?_
      refine va_get (D := G) (ci := 3) (v := .ref (pa 0)) (C := RX3) (T := TX3) (N := 10) hx hb hT ku_3 hown hK hP 3 rfl rfl 4 (by decide) (hT _ kw_3_4) (fun _ h9 => h9) rfl dX3_readWait_147 ?_
      refine va_get (D := G) (ci := 2) (v := .ref (pa 18)) (C := RX2) (T := TX2) (N := 19) hx hb hT ku_2 hown hK hP 5 rfl rfl 17 (by decide) (hT _ kw_18_11) (fun _ h9 => h9) rfl dX3_readWait_150 ?_
      refine lv_iload_n hx hb dX3_readWait_153 rfl (lv_at hl 2 rfl) ?_
      refine lv_iload_n hx hb dX3_readWait_154 rfl (lv_at hl 0 rfl) ?_
      obtain ⟨g42, h⟩ := tx_ck h
      refine va_iast (i := x1) hx hb hK hP hD hS 16 0 rfl rfl (tx_in g42) dX3_readWait_155 (fun H locs hP hD hS => ?_)
      obtain ⟨P_43, eP_43, h⟩ := tx_lt h
      rw [sRP_pa_a17, eP_43] at hP hD
      refine lv_iconst (v := 1) hx hb dX3_readWait_156 (by decide) ?_
      obtain ⟨rfl, rfl, rfl, rfl⟩ := tx_4 h
      exact W.zret (ty := .boolean) hx hb hr rfl (fun t ht hW => ⟨⟨_, (), rfl, rfl, by rw [ht]; exact hP, hD⟩, hS.F ht⟩) hS.2.2 dX3_readWait_157
    · have h := tx_neg c40 h
      refine lv_iconst (v := 0) hx hb dX3_readWait_132 (by decide) ?_
      obtain ⟨rfl, rfl, rfl, rfl⟩ := tx_4 h
      exact W.zret (ty := .boolean) hx hb hr rfl (fun t ht hW => ⟨⟨_, (), rfl, rfl, by rw [ht]; exact hP, hD⟩, hS.F ht⟩) hS.2.2 dX3_readWait_133
  · have h := tx_pos c31 h
    refine lv_iconst (v := 0) hx hb dX3_readWait_110 (by decide) ?_
    obtain ⟨rfl, rfl, rfl, rfl⟩ := tx_4 h
    exact W.zret (ty := .boolean) hx hb hr rfl (fun t ht hW => ⟨⟨_, (), rfl, rfl, by rw [ht]; exact hP, hD⟩, hS.F ht⟩) hS.2.2 dX3_readWait_111
set_option maxHeartbeats 4000000 in
set_option maxRecDepth 100000 in
theorem w_X3_readWait_J79 {p : Program} {l : Launch} {e : Env} {s : State} {m : MethodId} {below : List Frame} {meth : Method} {c : Code} {G : va_G} {cA : Nat → ClassId} {A : Nat → Prop} {bA : Nat} {ka : Nat → Nat} {ra : Nat → Nat} {pa : Nat → Nat} {L : Lo} {r0 : Int32} {K' : Tr} {R' : Tr} {P' : Tr} (F : tF p s m ([.ref (ra 0)] : List Value).toArray meth c G cA A RX3 cX3_readWait 3 (some .boolean)) (hB : tqB bA A s s.heap)    (x1 : Int32) (s0 : Int32) (K : Tr) (R : Tr) (P : Tr) (H : Heap) (locs : List Loc) (ls : Array Slot) (h : fJ_X3_readWait_J79 x1 s0 K R P = some (r0, K', R', P')) (hP : va_P G vwCl (wRP cA ka ra pa K R_22 P L) H) (hD : va_D A (wRP cA ka ra pa K R_22 P L)) (hS : va_S A s.heap H locs) (hl : lv_has ls 3 [(0, .ref (ra 0)), (1, .int x1)]) : G_X3_readWait p l e s m below meth c G cA A bA ka ra pa L r0 K' R' P' H locs (F0 m 79 ls []) := by
  obtain ⟨hx, hb, hr, hml, hT, hown, hlocks, hK, hN, hA⟩ := id F
  unfold fJ_X3_readWait_J79 at h
  refine lv_iconst (v := 2) hx hb dX3_readWait_79 (by decide) ?_
  obtain ⟨⟨r21, R_22⟩, hc23, h⟩ := tx_bd h
  replace h := tx_let (y := r21) rfl h
  replace h := tx_let (y := R_22) rfl h
  refine tw_ci tw_all hP hD hS hA (va_runV (As := [.int s0, .int 2]) (rest := []) ⟨hx, hb, hml, hown, hT⟩ (c_X3_expect l G cA H.size bA ka ra pa K R P L s0 (2 : Int32)  r21 R_22 hc23) (cwV 2 hT (tq_gV kw_16_18 kw_16_19 kw_16_20 kw_1_15 kw_16_21) rfl rfl rfl (by decide +kernel) ⟨Nat.le_of_ble_eq_true rfl, Nat.le_of_ble_eq_true rfl⟩) ⟨(tw_preB tw_all hP hD hK hN hS hA hB).1, va_recv hK hP (ci := 3) (q0 := 3) rfl rfl, (tw_preB tw_all hP hD hK hN hS hA hB).2⟩ rfl rfl hl.1 rfl (lv_room (Nat.le_of_ble_eq_true rfl)) dX3_readWait_80 ⟨Nat.le_of_ble_eq_true rfl, Nat.le_of_ble_eq_true rfl⟩) (fun _ _ H locs z24 hP hD hS => ?_)
  subst z24
  rw [List.append_nil] at hP hD
  have hP : va_P G vwCl (wRP cA ka ra pa K R_22 P L) H := hP
  have hD : va_D A (wRP cA ka ra pa K R_22 P L) := hD
  refine lv_if_eq (tgt := 110) hx hb dX3_readWait_83 (by decide) (fun c25 => ?_) (fun c25 => ?_)
  · have h := tx_pos c25 h
    refine lv_iconst (v := 0) hx hb dX3_readWait_110 (by decide) ?_
    obtain ⟨rfl, rfl, rfl, rfl⟩ := tx_4 h
    exact W.zret (ty := .boolean) hx hb hr rfl (fun t ht hW => ⟨⟨_, (), rfl, rfl, by rw [ht]; exact hP, hD⟩, hS.F ht⟩) hS.2.2 dX3_readWait_111
  · have h := tx_neg c25 h
    refine lv_aload_n hx hb dX3_readWait_86 rfl (lv_at hl 0 rfl) ?_
    refine lv_aload_n hx hb dX3_readWait_87 rfl (lv_at hl 0 rfl) ?_
    refine va_get (D := G) (ci := 3) (v := .int (R_22 0 6)) (C := RX3) (T := TX3) (N := 10) hx hb hT ku_3 hown hK hP 3 rfl rfl 6 (by decide) (hT _ kw_14_14) (fun _ h9 => h9) rfl dX3_readWait_88 ?_
    refine lv_iload_n hx hb dX3_readWait_91 rfl (lv_at hl 1 rfl) ?_
    refine lv_ishr hx hb dX3_readWait_92 ?_
    refine lv_iconst (v := 1) hx hb dX3_readWait_93 (by decide) ?_
    refine lv_iand hx hb dX3_readWait_94 ?_
    refine lv_if_ne (tgt := 102) hx hb dX3_readWait_95 (by decide) (fun c26 => ?_) (fun c26 => ?_)
    · have h := tx_neg c26 h
      refine lv_iconst (v := 0) hx hb dX3_readWait_102 (by decide) ?_
      exact w_X3_readWait_J103 F hB x1 0 K R_22 P H locs ls h hP hD hS (lv_sub hl [0, 1] rfl)
    · have h := tx_pos c26 h
      refine lv_iconst (v := 1) hx hb dX3_readWait_98 (by decide) ?_
      refine lv_goto (tgt := 103) hx hb dX3_readWait_99 (by decide) ?_
      exact w_X3_readWait_J103 F hB x1 1 K R_22 P H locs ls h hP hD hS (lv_sub hl [0, 1] rfl)
set_option maxHeartbeats 4000000 in
set_option maxRecDepth 100000 in
theorem w_X3_readWait_J60 {p : Program} {l : Launch} {e : Env} {s : State} {m : MethodId} {below : List Frame} {meth : Method} {c : Code} {G : va_G} {cA : Nat → ClassId} {A : Nat → Prop} {bA : Nat} {ka : Nat → Nat} {ra : Nat → Nat} {pa : Nat → Nat} {L : Lo} {r0 : Int32} {K' : Tr} {R' : Tr} {P' : Tr} (F : tF p s m ([.ref (ra 0)] : List Value).toArray meth c G cA A RX3 cX3_readWait 3 (some .boolean)) (hB : tqB bA A s s.heap)    (x1 : Int32) (s0 : Int32) (K : Tr) (R : Tr) (P : Tr) (H : Heap) (locs : List Loc) (ls : Array Slot) (h : fJ_X3_readWait_J60 x1 s0 K R P = some (r0, K', R', P')) (hP : va_P G vwCl (wRP cA ka ra pa K R_16 P L) H) (hD : va_D A (wRP cA ka ra pa K R_16 P L)) (hS : va_S A s.heap H locs) (hl : lv_has ls 3 [(0, .ref (ra 0)), (1, .int x1)]) : G_X3_readWait p l e s m below meth c G cA A bA ka ra pa L r0 K' R' P' H locs (F0 m 60 ls []) := by
  obtain ⟨hx, hb, hr, hml, hT, hown, hlocks, hK, hN, hA⟩ := id F
  unfold fJ_X3_readWait_J60 at h
  refine lv_iconst (v := 1) hx hb dX3_readWait_60 (by decide) ?_
  obtain ⟨⟨r15, R_16⟩, hc17, h⟩ := tx_bd h
  replace h := tx_let (y := r15) rfl h
  replace h := tx_let (y := R_16) rfl h
  refine tw_ci tw_all hP hD hS hA (va_runV (As := [.int s0, .int 1]) (rest := []) ⟨hx, hb, hml, hown, hT⟩ (c_X3_expect l G cA H.size bA ka ra pa K R P L s0 (1 : Int32)  r15 R_16 hc17) (cwV 2 hT (tq_gV kw_16_18 kw_16_19 kw_16_20 kw_1_15 kw_16_21) rfl rfl rfl (by decide +kernel) ⟨Nat.le_of_ble_eq_true rfl, Nat.le_of_ble_eq_true rfl⟩) ⟨(tw_preB tw_all hP hD hK hN hS hA hB).1, va_recv hK hP (ci := 3) (q0 := 3) rfl rfl, (tw_preB tw_all hP hD hK hN hS hA hB).2⟩ rfl rfl hl.1 rfl (lv_room (Nat.le_of_ble_eq_true rfl)) dX3_readWait_61 ⟨Nat.le_of_ble_eq_true rfl, Nat.le_of_ble_eq_true rfl⟩) (fun _ _ H locs z18 hP hD hS => ?_)
  subst z18
  rw [List.append_nil] at hP hD
  have hP : va_P G vwCl (wRP cA ka ra pa K R_16 P L) H := hP
  have hD : va_D A (wRP cA ka ra pa K R_16 P L) := hD
  refine lv_if_eq (tgt := 110) hx hb dX3_readWait_64 (by decide) (fun c19 => ?_) (fun c19 => ?_)
  · have h := tx_pos c19 h
    refine lv_iconst (v := 0) hx hb dX3_readWait_110 (by decide) ?_
    obtain ⟨rfl, rfl, rfl, rfl⟩ := tx_4 h
    exact W.zret (ty := .boolean) hx hb hr rfl (fun t ht hW => ⟨⟨_, (), rfl, rfl, by rw [ht]; exact hP, hD⟩, hS.F ht⟩) hS.2.2 dX3_readWait_111
  · have h := tx_neg c19 h
    refine lv_aload_n hx hb dX3_readWait_67 rfl (lv_at hl 0 rfl) ?_
    refine lv_iload_n hx hb dX3_readWait_68 rfl (lv_at hl 1 rfl) ?_
    refine lv_bipush (v := 20) hx hb dX3_readWait_69 (by decide) ?_
    refine lv_icmp_ge (tgt := 78) hx hb dX3_readWait_71 (by decide) (fun c20 => ?_) (fun c20 => ?_)
    · have h := tx_pos c20 h
      refine lv_iconst (v := 0) hx hb dX3_readWait_78 (by decide) ?_
      exact w_X3_readWait_J79 F hB x1 0 K R_16 P H locs ls h hP hD hS (lv_sub hl [0, 1] rfl)
    · have h := tx_neg c20 h
      refine lv_iconst (v := 1) hx hb dX3_readWait_74 (by decide) ?_
      refine lv_goto (tgt := 79) hx hb dX3_readWait_75 (by decide) ?_
      exact w_X3_readWait_J79 F hB x1 1 K R_16 P H locs ls h hP hD hS (lv_sub hl [0, 1] rfl)
set_option maxHeartbeats 4000000 in
set_option maxRecDepth 100000 in
theorem w_X3_readWait_J18 {p : Program} {l : Launch} {e : Env} {s : State} {m : MethodId} {below : List Frame} {meth : Method} {c : Code} {G : va_G} {cA : Nat → ClassId} {A : Nat → Prop} {bA : Nat} {ka : Nat → Nat} {ra : Nat → Nat} {pa : Nat → Nat} {L : Lo} {r0 : Int32} {K' : Tr} {R' : Tr} {P' : Tr} (F : tF p s m ([.ref (ra 0)] : List Value).toArray meth c G cA A RX3 cX3_readWait 3 (some .boolean)) (hB : tqB bA A s s.heap)    (s0 : Int32) (K : Tr) (R : Tr) (P : Tr) (H : Heap) (locs : List Loc) (ls : Array Slot) (h : fJ_X3_readWait_J18 s0 K R P = some (r0, K', R', P')) (hP : va_P G vwCl (wRP cA ka ra pa K R_6 P L) H) (hD : va_D A (wRP cA ka ra pa K R_6 P L)) (hS : va_S A s.heap H locs) (hl : lv_has ls 3 [(0, .ref (ra 0))]) : G_X3_readWait p l e s m below meth c G cA A bA ka ra pa L r0 K' R' P' H locs (F0 m 18 ls []) := by
  obtain ⟨hx, hb, hr, hml, hT, hown, hlocks, hK, hN, hA⟩ := id F
  unfold fJ_X3_readWait_J18 at h
  refine lv_iconst (v := 2) hx hb dX3_readWait_18 (by decide) ?_
  obtain ⟨⟨r5, R_6⟩, hc7, h⟩ := tx_bd h
  replace h := tx_let (y := r5) rfl h
  replace h := tx_let (y := R_6) rfl h
  refine tw_ci tw_all hP hD hS hA (va_runV (As := [.int s0, .int 2]) (rest := []) ⟨hx, hb, hml, hown, hT⟩ (c_X3_expect l G cA H.size bA ka ra pa K R P L s0 (2 : Int32)  r5 R_6 hc7) (cwV 2 hT (tq_gV kw_16_18 kw_16_19 kw_16_20 kw_1_15 kw_16_21) rfl rfl rfl (by decide +kernel) ⟨Nat.le_of_ble_eq_true rfl, Nat.le_of_ble_eq_true rfl⟩) ⟨(tw_preB tw_all hP hD hK hN hS hA hB).1, va_recv hK hP (ci := 3) (q0 := 3) rfl rfl, (tw_preB tw_all hP hD hK hN hS hA hB).2⟩ rfl rfl hl.1 rfl (lv_room (Nat.le_of_ble_eq_true rfl)) dX3_readWait_19 ⟨Nat.le_of_ble_eq_true rfl, Nat.le_of_ble_eq_true rfl⟩) (fun _ _ H locs z8 hP hD hS => ?_)
  subst z8
  rw [List.append_nil] at hP hD
  have hP : va_P G vwCl (wRP cA ka ra pa K R_6 P L) H := hP
  have hD : va_D A (wRP cA ka ra pa K R_6 P L) := hD
  refine lv_if_ne (tgt := 27) hx hb dX3_readWait_22 (by decide) (fun c9 => ?_) (fun c9 => ?_)
  · have h := tx_neg c9 h
    refine lv_aload_n hx hb dX3_readWait_27 rfl (lv_at hl 0 rfl) ?_
    refine va_get (D := G) (ci := 3) (v := .ref (ka 0)) (C := RX3) (T := TX3) (N := 10) hx hb hT ku_3 hown hK hP 3 rfl rfl 0 (by decide) (hT _ kw_2_23) (fun _ h9 => h9) rfl dX3_readWait_28 ?_
    obtain ⟨K_10, hc11, h⟩ := tx_bd h
    refine tw_cv tw_all hP hD hS hA (va_runV (As := []) (rest := []) ⟨hx, hb, hml, hown, hT⟩ (c_X5_advance l G cA H.size bA ka ra pa K R_6 P L  K_10 hc11) (cwV 0 hT (tq_gV kw_16_23 kw_15_0 kw_15_1 kw_2_22 kw_15_2) rfl rfl rfl (by decide +kernel) ⟨Nat.le_of_ble_eq_true rfl, Nat.le_of_ble_eq_true rfl⟩) ⟨(tw_preB tw_all hP hD hK hN hS hA hB).1, va_recv hK hP (ci := 5) (q0 := 0) rfl rfl, (tw_preB tw_all hP hD hK hN hS hA hB).2⟩ rfl rfl hl.1 rfl (lv_room (Nat.le_of_ble_eq_true rfl)) dX3_readWait_31 ⟨Nat.le_of_ble_eq_true rfl, Nat.le_of_ble_eq_true rfl⟩) (fun _ H locs z12 hP hD hS => ?_)
    rw [List.append_nil] at hP hD
    have hP : va_P G vwCl (wRP cA ka ra pa K_10 R_6 P L) H := hP
    have hD : va_D A (wRP cA ka ra pa K_10 R_6 P L) := hD
    refine lv_aload_n hx hb dX3_readWait_34 rfl (lv_at hl 0 rfl) ?_
    refine va_get (D := G) (ci := 3) (v := .ref (ka 0)) (C := RX3) (T := TX3) (N := 10) hx hb hT ku_3 hown hK hP 3 rfl rfl 0 (by decide) (hT _ kw_2_23) (fun _ h9 => h9) rfl dX3_readWait_35 ?_
    refine va_get (D := G) (ci := 5) (v := .int (K_10 0 3)) (C := RX5) (T := TX5) (N := 8) hx hb hT ku_5 hown hK hP 0 rfl rfl 3 (by decide) (hT _ kw_17_8) (fun _ h9 => h9) rfl dX3_readWait_38 ?_
    refine lv_topi (fun y13 ey13 => ?_)
    have h := tx_let ey13 h
    refine lv_istore_n (lv' := [(1, .int y13), (0, .ref (ra 0))]) hx hb dX3_readWait_41 rfl hl (by decide) rfl (fun ls hl => ?_)
    refine lv_aload_n hx hb dX3_readWait_42 rfl (lv_at hl 1 rfl) ?_
    refine lv_aload_n hx hb dX3_readWait_43 rfl (lv_at hl 1 rfl) ?_
    refine va_get (D := G) (ci := 3) (v := .ref (ka 0)) (C := RX3) (T := TX3) (N := 10) hx hb hT ku_3 hown hK hP 3 rfl rfl 0 (by decide) (hT _ kw_2_23) (fun _ h9 => h9) rfl dX3_readWait_44 ?_
    refine va_get (D := G) (ci := 5) (v := .int (K_10 0 1)) (C := RX5) (T := TX5) (N := 8) hx hb hT ku_5 hown hK hP 0 rfl rfl 1 (by decide) (hT _ kw_14_15) (fun _ h9 => h9) rfl dX3_readWait_47 ?_
    refine lv_bipush (v := 42) hx hb dX3_readWait_50 (by decide) ?_
    refine lv_icmp_ne (tgt := 59) hx hb dX3_readWait_52 (by decide) (fun c14 => ?_) (fun c14 => ?_)
    · have h := tx_neg c14 h
      refine lv_iconst (v := 0) hx hb dX3_readWait_59 (by decide) ?_
      exact w_X3_readWait_J60 F hB y13 0 K_10 R_6 P H locs ls h hP hD hS (lv_sub hl [1, 0] rfl)
    · have h := tx_pos c14 h
      refine lv_iconst (v := 1) hx hb dX3_readWait_55 (by decide) ?_
      refine lv_goto (tgt := 60) hx hb dX3_readWait_56 (by decide) ?_
      exact w_X3_readWait_J60 F hB y13 1 K_10 R_6 P H locs ls h hP hD hS (lv_sub hl [1, 0] rfl)
  · have h := tx_pos c9 h
    refine lv_iconst (v := 0) hx hb dX3_readWait_25 (by decide) ?_
    obtain ⟨rfl, rfl, rfl, rfl⟩ := tx_4 h
    exact W.zret (ty := .boolean) hx hb hr rfl (fun t ht hW => ⟨⟨_, (), rfl, rfl, by rw [ht]; exact hP, hD⟩, hS.F ht⟩) hS.2.2 dX3_readWait_26
set_option maxHeartbeats 4000000 in
set_option maxRecDepth 100000 in
theorem c_X3_readWait (l : Launch) (G : va_G) (cA : Nat → ClassId) (sz : Nat) (bA : Nat) (ka : Nat → Nat) (ra : Nat → Nat) (pa : Nat → Nat) (K : Tr) (R : Tr) (P : Tr) (L : Lo)  (r0 : Int32) (K' : Tr) (R' : Tr) (P' : Tr) (h : f_X3_readWait K R P = some (r0, K', R', P')) : Met l yX3_readWait (.code yX3_readWait cX3_readWait 3 (some .boolean) :: T0) ({ frames := 4, cells := 0, slots := 0, locals := 88 } : Room) (tqPB bA G cA [.ref (ra 0)] (wRP cA ka ra pa K R P L) sz) (tqQi G cA (fun (r : Int32) (_ : Unit) => r = r0) (fun (_ : Unit) => wRP cA ka ra pa (K') (R') (P') L) (va_A (wRP cA ka ra pa K R P L) sz)) 0 0 (va_A (wRP cA ka ra pa K R P L) sz) := by
  refine Met.ofW (cc := cX3_readWait) (maxL := 3) (ret := (some .boolean)) (by decide) rfl ?_
  intro p e s m args below meth c s₁ B hml hv
  obtain ⟨rfl, hsz, hP, hK, hD0, hN, hB⟩ := hv
  have hx := B.exec
  have hb := B.bytes
  have hr := B.returns
  have hts := atoms_spec (ws := .code yX3_readWait cX3_readWait 3 (some .boolean) :: T0) B.pre
  have hT : ∀ w ∈ T0, w.before _ s = true := fun w h => hts w (List.mem_cons_of_mem _ h)
  have hown : s.vm.findClass RX3 = some m.cls := findClass_of_methodNamed B.named
  have hlocks := B.notSynchronized
  subst hsz
  have hD := hD0.self (sz := s.heap.size)
  generalize hAe : va_A (wRP cA ka ra pa K R P L) s.heap.size = A at hD hB ⊢
  have hA : ∀ q : Nat, s.heap.size ≤ q → A q := fun q h => by rw [← hAe]; exact Or.inr h
  have hS : va_S A s.heap s.heap [] := va_S.rf
  have hl := lv_entry ([.ref (ra 0)]) (n := 3) (Nat.le_of_ble_eq_true rfl)
  rw [lg_entry_eq]
  generalize (lg_sl ([.ref (ra 0)]) ++ List.replicate (3 - (lg_sl ([.ref (ra 0)])).length) Slot.unset).toArray = ls at hl ⊢
  have hl : lv_has ls 3 [(0, .ref (ra 0))] := hl
  have F : tF p s m ([.ref (ra 0)] : List Value).toArray meth c G cA A RX3 cX3_readWait 3 (some .boolean) := ⟨hx, hb, hr, hml, hT, hown, hlocks, hK, hN, hA⟩
  obtain ⟨H, hH⟩ : ∃ z, z = s.heap := ⟨_, rfl⟩
  rw [← hH] at hP
  have hS : va_S A s.heap H [] := by rw [hH]; exact hS
  suffices hgo : G_X3_readWait p l e s m below meth c G cA A bA ka ra pa L r0 K' R' P' H [] (F0 m 0 ls []) by rw [hH] at hgo; exact hgo
  generalize ([] : List Loc) = locs at hS ⊢
  unfold f_X3_readWait at h
  refine lv_aload_n hx hb dX3_readWait_0 rfl (lv_at hl 0 rfl) ?_
  refine lv_aload_n hx hb dX3_readWait_1 rfl (lv_at hl 0 rfl) ?_
  refine va_get (D := G) (ci := 3) (v := .int (R 0 6)) (C := RX3) (T := TX3) (N := 10) hx hb hT ku_3 hown hK hP 3 rfl rfl 6 (by decide) (hT _ kw_14_14) (fun _ h9 => h9) rfl dX3_readWait_2 ?_
  obtain ⟨r1, hc2, h⟩ := tx_bd h
  refine tw_ci (tw_none (ws := wRP cA ka ra pa K R P L)) hP hD hS hA (va_runS (As := [.int (R 0 6)]) (rest := [.ref (ra 0)]) ⟨hx, hb, hml, hown, hT⟩ (c_J6_bitCount_0f7a4 l G cA H.size (R 0 6)  r1 hc2) (va_cwS 1 hT (tq_gS kw_18_12 kw_18_13 kw_18_14 kw_18_15) rfl rfl rfl (by decide +kernel) ⟨Nat.le_of_ble_eq_true rfl, Nat.le_of_ble_eq_true rfl⟩) (tw_pre (tw_none (ws := wRP cA ka ra pa K R P L)) hP hD hK hN) rfl rfl hl.1 rfl (lv_room (Nat.le_of_ble_eq_true rfl)) dX3_readWait_5 ⟨Nat.le_of_ble_eq_true rfl, Nat.le_of_ble_eq_true rfl⟩) (fun _ _ H locs z3 hP hD hS => ?_)
  subst z3
  have hP : va_P G vwCl (wRP cA ka ra pa K R P L) H := hP
  have hD : va_D A (wRP cA ka ra pa K R P L) := hD
  refine lv_bipush (v := 10) hx hb dX3_readWait_8 (by decide) ?_
  refine lv_icmp_ge (tgt := 17) hx hb dX3_readWait_10 (by decide) (fun c4 => ?_) (fun c4 => ?_)
  · have h := tx_pos c4 h
    refine lv_iconst (v := 0) hx hb dX3_readWait_17 (by decide) ?_
    exact w_X3_readWait_J18 F hB 0 K R P H locs ls h hP hD hS (lv_sub hl [0] rfl)
  · have h := tx_neg c4 h
    refine lv_iconst (v := 1) hx hb dX3_readWait_13 (by decide) ?_
    refine lv_goto (tgt := 18) hx hb dX3_readWait_14 (by decide) ?_
    exact w_X3_readWait_J18 F hB 1 K R P H locs ls h hP hD hS (lv_sub hl [0] rfl)
abbrev G_X2_personNamed (p : Program) (l : Launch) (e : Env) (s : State) (m : MethodId) (below : List Frame) (meth : Method) (c : Code) (G : va_G) (cA : Nat → ClassId) (A : Nat → Prop) (bA : Nat) (ka : Nat → Nat) (ra : Nat → Nat) (pa : Nat → Nat) (K : Tr) (R : Tr) (P : Tr) (L : Lo) (x1 : Int32) (r0 : Int32) (H : Heap) (locs : List Loc) (g : JFrame) : Prop := W p l e (headSpec (.code yX2_personNamed cX2_personNamed 3 (some .int) :: T0) ({ frames := 0, cells := 0, slots := 0, locals := 0 } : Room)).room s m ([.ref (pa 0), .int x1] : List Value).toArray below meth c H locs 0 0 (MQ below (tqQi G cA (fun (r : Int32) (_ : Unit) => r = r0) (fun (_ : Unit) => wRP cA ka ra pa K R P L) A) ([.ref (pa 0), .int x1] : List Value).toArray s 0 0 A) g
set_option maxHeartbeats 4000000 in
set_option maxRecDepth 100000 in
theorem w_X2_personNamed_L2 {p : Program} {l : Launch} {e : Env} {s : State} {m : MethodId} {below : List Frame} {meth : Method} {c : Code} {G : va_G} {cA : Nat → ClassId} {A : Nat → Prop} {bA : Nat} {ka : Nat → Nat} {ra : Nat → Nat} {pa : Nat → Nat} {K : Tr} {R : Tr} {P : Tr} {L : Lo} {x1₀ : Int32} {r0 : Int32} {x1 : Int32} (F : tF p s m ([.ref (pa 0), .int x1₀] : List Value).toArray meth c G cA A RX2 cX2_personNamed 3 (some .int)) (hB : tqB bA A s s.heap)    (N : Nat) : ∀ (x2 : Int32) (H : Heap) (locs : List Loc) (ls : Array Slot), lpF (fun _ => none) (fB_X2_personNamed_L2 P x1) N x2 = some r0 → va_P G vwCl (wRP cA ka ra pa K R P L) H → va_D A (wRP cA ka ra pa K R P L) → va_S A s.heap H locs → lv_has ls 3 [(0, .ref (pa 0)), (1, .int x1), (2, .int x2)] → G_X2_personNamed p l e s m below meth c G cA A bA ka ra pa K R P L x1₀ r0 H locs (F0 m 2 ls []) := by
  obtain ⟨hx, hb, hr, hml, hT, hown, hlocks, hK, hN, hA⟩ := id F
  induction N with
  | zero =>
    intro x2 H locs ls h
    have h : (none : Option (Int32)) = some r0 := h
    cases h
  | succ N hk2 =>
    intro x2 H locs ls h hP hD hS hl
    have h : fB_X2_personNamed_L2 P x1 (lpF (fun _ => none) (fB_X2_personNamed_L2 P x1) N) x2 = some r0 := h
    generalize hk2e : lpF (fun _ => none) (fB_X2_personNamed_L2 P x1) N = k2 at h hk2
    unfold fB_X2_personNamed_L2 at h
    refine lv_iload_n hx hb dX2_personNamed_2 rfl (lv_at hl 2 rfl) ?_
    refine lv_aload_n hx hb dX2_personNamed_3 rfl (lv_at hl 0 rfl) ?_
    refine va_get (D := G) (ci := 2) (v := .int (P 0 1)) (C := RX2) (T := TX2) (N := 19) hx hb hT ku_2 hown hK hP 5 rfl rfl 1 (by decide) (hT _ kw_6_19) (fun _ h9 => h9) rfl dX2_personNamed_4 ?_
    refine lv_icmp_ge (tgt := 28) hx hb dX2_personNamed_7 (by decide) (fun c1 => ?_) (fun c1 => ?_)
    · have h := tx_pos c1 h
      refine lv_iconst (v := (-1)) hx hb dX2_personNamed_28 (by decide) ?_
      obtain rfl := tx_1 h
      exact W.iret hx hb hr (fun t ht hW => ⟨⟨_, (), rfl, rfl, by rw [ht]; exact hP, hD⟩, hS.F ht⟩) hS.2.2 dX2_personNamed_29
    · have h := tx_neg c1 h
      refine lv_aload_n hx hb dX2_personNamed_10 rfl (lv_at hl 0 rfl) ?_
      refine va_get (D := G) (ci := 2) (v := .ref (pa 10)) (C := RX2) (T := TX2) (N := 19) hx hb hT ku_2 hown hK hP 5 rfl rfl 9 (by decide) (hT _ kw_5_20) (fun _ h9 => h9) rfl dX2_personNamed_11 ?_
      refine lv_iload_n hx hb dX2_personNamed_14 rfl (lv_at hl 2 rfl) ?_
      obtain ⟨g2, h⟩ := tx_ck h
      refine va_iald (i := x2) hx hb hK hP 8 0 rfl rfl (tx_in g2) dX2_personNamed_15 ?_
      refine lv_iload_n hx hb dX2_personNamed_16 rfl (lv_at hl 1 rfl) ?_
      refine lv_icmp_ne (tgt := 22) hx hb dX2_personNamed_17 (by decide) (fun c3 => ?_) (fun c3 => ?_)
      · have h := tx_neg c3 h
        obtain ⟨y4, ey4, h⟩ := tx_lt h
        refine lv_iinc (v := y4) (lv' := [(2, .int y4), (0, .ref (pa 0)), (1, .int x1)]) hx hb dX2_personNamed_22 hl (k := 2) rfl ey4 (by decide) rfl (fun ls hl => ?_)
        refine lv_goto (tgt := 2) hx hb dX2_personNamed_25 (by decide) ?_
        exact hk2 y4 H locs ls h hP hD hS (lv_sub hl [1, 2, 0] rfl)
      · have h := tx_pos c3 h
        refine lv_iload_n hx hb dX2_personNamed_20 rfl (lv_at hl 2 rfl) ?_
        obtain rfl := tx_1 h
        exact W.iret hx hb hr (fun t ht hW => ⟨⟨_, (), rfl, rfl, by rw [ht]; exact hP, hD⟩, hS.F ht⟩) hS.2.2 dX2_personNamed_21
set_option maxHeartbeats 4000000 in
set_option maxRecDepth 100000 in
theorem c_X2_personNamed (l : Launch) (G : va_G) (cA : Nat → ClassId) (sz : Nat) (bA : Nat) (ka : Nat → Nat) (ra : Nat → Nat) (pa : Nat → Nat) (K : Tr) (R : Tr) (P : Tr) (L : Lo) (x1 : Int32)  (r0 : Int32) (h : f_X2_personNamed P x1 = some r0) : Met l yX2_personNamed (.code yX2_personNamed cX2_personNamed 3 (some .int) :: T0) ({ frames := 0, cells := 0, slots := 0, locals := 0 } : Room) (tqPB bA G cA [.ref (pa 0), .int x1] (wRP cA ka ra pa K R P L) sz) (tqQi G cA (fun (r : Int32) (_ : Unit) => r = r0) (fun (_ : Unit) => wRP cA ka ra pa K R P L) (va_A (wRP cA ka ra pa K R P L) sz)) 0 0 (va_A (wRP cA ka ra pa K R P L) sz) := by
  refine Met.ofW (cc := cX2_personNamed) (maxL := 3) (ret := (some .int)) (by decide) rfl ?_
  intro p e s m args below meth c s₁ B hml hv
  obtain ⟨rfl, hsz, hP, hK, hD0, hN, hB⟩ := hv
  have hx := B.exec
  have hb := B.bytes
  have hr := B.returns
  have hts := atoms_spec (ws := .code yX2_personNamed cX2_personNamed 3 (some .int) :: T0) B.pre
  have hT : ∀ w ∈ T0, w.before _ s = true := fun w h => hts w (List.mem_cons_of_mem _ h)
  have hown : s.vm.findClass RX2 = some m.cls := findClass_of_methodNamed B.named
  have hlocks := B.notSynchronized
  subst hsz
  have hD := hD0.self (sz := s.heap.size)
  generalize hAe : va_A (wRP cA ka ra pa K R P L) s.heap.size = A at hD hB ⊢
  have hA : ∀ q : Nat, s.heap.size ≤ q → A q := fun q h => by rw [← hAe]; exact Or.inr h
  have hS : va_S A s.heap s.heap [] := va_S.rf
  have hl := lv_entry ([.ref (pa 0), .int x1]) (n := 3) (Nat.le_of_ble_eq_true rfl)
  rw [lg_entry_eq]
  generalize (lg_sl ([.ref (pa 0), .int x1]) ++ List.replicate (3 - (lg_sl ([.ref (pa 0), .int x1])).length) Slot.unset).toArray = ls at hl ⊢
  have hl : lv_has ls 3 [(0, .ref (pa 0)), (1, .int x1)] := hl
  have F : tF p s m ([.ref (pa 0), .int x1] : List Value).toArray meth c G cA A RX2 cX2_personNamed 3 (some .int) := ⟨hx, hb, hr, hml, hT, hown, hlocks, hK, hN, hA⟩
  obtain ⟨H, hH⟩ : ∃ z, z = s.heap := ⟨_, rfl⟩
  rw [← hH] at hP
  have hS : va_S A s.heap H [] := by rw [hH]; exact hS
  suffices hgo : G_X2_personNamed p l e s m below meth c G cA A bA ka ra pa K R P L x1 r0 H [] (F0 m 0 ls []) by rw [hH] at hgo; exact hgo
  generalize ([] : List Loc) = locs at hS ⊢
  unfold f_X2_personNamed at h
  refine lv_iconst (v := 0) hx hb dX2_personNamed_0 (by decide) ?_
  refine lv_istore_n (lv' := [(2, .int 0), (0, .ref (pa 0)), (1, .int x1)]) hx hb dX2_personNamed_1 rfl hl (by decide) rfl (fun ls hl => ?_)
  exact w_X2_personNamed_L2 F hB 2000 0 H locs ls h hP hD hS (lv_sub hl [1, 2, 0] rfl)
abbrev G_X3_readPiece (p : Program) (l : Launch) (e : Env) (s : State) (m : MethodId) (below : List Frame) (meth : Method) (c : Code) (G : va_G) (cA : Nat → ClassId) (A : Nat → Prop) (bA : Nat) (ka : Nat → Nat) (ra : Nat → Nat) (pa : Nat → Nat) (L : Lo) (r0 : Int32) (K' : Tr) (R' : Tr) (P' : Tr) (H : Heap) (locs : List Loc) (g : JFrame) : Prop := W p l e (headSpec (.code yX3_readPiece cX3_readPiece 6 (some .boolean) :: T0) ({ frames := 4, cells := 0, slots := 0, locals := 88 } : Room)).room s m ([.ref (ra 0)] : List Value).toArray below meth c H locs 0 0 (MQ below (tqQi G cA (fun (r : Int32) (_ : Unit) => r = r0) (fun (_ : Unit) => wRP cA ka ra pa (K') (R') (P') L) A) ([.ref (ra 0)] : List Value).toArray s 0 0 A) g
set_option maxHeartbeats 4000000 in
set_option maxRecDepth 100000 in
theorem w_X3_readPiece_J192 {p : Program} {l : Launch} {e : Env} {s : State} {m : MethodId} {below : List Frame} {meth : Method} {c : Code} {G : va_G} {cA : Nat → ClassId} {A : Nat → Prop} {bA : Nat} {ka : Nat → Nat} {ra : Nat → Nat} {pa : Nat → Nat} {L : Lo} {r0 : Int32} {K' : Tr} {R' : Tr} {P' : Tr} (F : tF p s m ([.ref (ra 0)] : List Value).toArray meth c G cA A RX3 cX3_readPiece 6 (some .boolean)) (hB : tqB bA A s s.heap)    (x1 : Int32) (x2 : Int32) (x3 : Int32) (x4 : Int32) (x5 : Int32) (K : Tr) (R : Tr) (P : Tr) (H : Heap) (locs : List Loc) (ls : Array Slot) (h : fJ_X3_readPiece_J192 x1 x2 x3 x4 x5 K R P = some (r0, K', R', P')) (hP : va_P G vwCl (wRP cA ka ra pa K R P_47 L) H) (hD : va_D A (wRP cA ka ra pa K R P_47 L)) (hS : va_S A s.heap H locs) (hl : lv_has ls 6 [(0, .ref (ra 0)), (1, .int x1), (2, .int x2), (3, .int x3), (4, .int x4), (5, .int x5)]) : G_X3_readPiece p l e s m below meth c G cA A bA ka ra pa L r0 K' R' P' H locs (F0 m 192 ls []) := by
  obtain ⟨hx, hb, hr, hml, hT, hown, hlocks, hK, hN, hA⟩ := id F
  unfold fJ_X3_readPiece_J192 at h
  refine lv_aload_n hx hb dX3_readPiece_192 rfl (lv_at hl 0 rfl) ?_
  refine va_get (D := G) (ci := 3) (v := .ref (pa 0)) (C := RX3) (T := TX3) (N := 10) hx hb hT ku_3 hown hK hP 3 rfl rfl 4 (by decide) (hT _ kw_3_4) (fun _ h9 => h9) rfl dX3_readPiece_193 ?_
  refine va_get (D := G) (ci := 2) (v := .ref (pa 14)) (C := RX2) (T := TX2) (N := 19) hx hb hT ku_2 hown hK hP 5 rfl rfl 13 (by decide) (hT _ kw_18_3) (fun _ h9 => h9) rfl dX3_readPiece_196 ?_
  refine lv_iload_n hx hb dX3_readPiece_199 rfl (lv_at hl 1 rfl) ?_
  refine lv_iload_n hx hb dX3_readPiece_200 rfl (lv_at hl 2 rfl) ?_
  obtain ⟨g42, h⟩ := tx_ck h
  refine va_iast (i := x1) hx hb hK hP hD hS 12 0 rfl rfl (tx_in g42) dX3_readPiece_201 (fun H locs hP hD hS => ?_)
  obtain ⟨P_43, eP_43, h⟩ := tx_lt h
  rw [sRP_pa_a13, eP_43] at hP hD
  refine lv_aload_n hx hb dX3_readPiece_202 rfl (lv_at hl 0 rfl) ?_
  refine va_get (D := G) (ci := 3) (v := .ref (pa 0)) (C := RX3) (T := TX3) (N := 10) hx hb hT ku_3 hown hK hP 3 rfl rfl 4 (by decide) (hT _ kw_3_4) (fun _ h9 => h9) rfl dX3_readPiece_203 ?_
  refine va_get (D := G) (ci := 2) (v := .ref (pa 15)) (C := RX2) (T := TX2) (N := 19) hx hb hT ku_2 hown hK hP 5 rfl rfl 14 (by decide) (hT _ kw_18_4) (fun _ h9 => h9) rfl dX3_readPiece_206 ?_
  refine lv_iload_n hx hb dX3_readPiece_209 rfl (lv_at hl 1 rfl) ?_
  refine lv_iload_n hx hb dX3_readPiece_210 rfl (lv_at hl 3 rfl) ?_
  refine va_iast (i := x1) hx hb hK hP hD hS 13 0 rfl rfl (tx_in g42) dX3_readPiece_211 (fun H locs hP hD hS => ?_)
  obtain ⟨P_44, eP_44, h⟩ := tx_lt h
  rw [sRP_pa_a14, eP_44] at hP hD
  refine lv_aload_n hx hb dX3_readPiece_212 rfl (lv_at hl 0 rfl) ?_
  refine va_get (D := G) (ci := 3) (v := .ref (pa 0)) (C := RX3) (T := TX3) (N := 10) hx hb hT ku_3 hown hK hP 3 rfl rfl 4 (by decide) (hT _ kw_3_4) (fun _ h9 => h9) rfl dX3_readPiece_213 ?_
  refine va_get (D := G) (ci := 2) (v := .ref (pa 16)) (C := RX2) (T := TX2) (N := 19) hx hb hT ku_2 hown hK hP 5 rfl rfl 15 (by decide) (hT _ kw_18_5) (fun _ h9 => h9) rfl dX3_readPiece_216 ?_
  refine lv_iload_n hx hb dX3_readPiece_219 rfl (lv_at hl 1 rfl) ?_
  refine lv_iload hx hb dX3_readPiece_220 (lv_at hl 4 rfl) ?_
  refine va_iast (i := x1) hx hb hK hP hD hS 14 0 rfl rfl (tx_in g42) dX3_readPiece_222 (fun H locs hP hD hS => ?_)
  obtain ⟨P_45, eP_45, h⟩ := tx_lt h
  rw [sRP_pa_a15, eP_45] at hP hD
  refine lv_aload_n hx hb dX3_readPiece_223 rfl (lv_at hl 0 rfl) ?_
  refine va_get (D := G) (ci := 3) (v := .ref (pa 0)) (C := RX3) (T := TX3) (N := 10) hx hb hT ku_3 hown hK hP 3 rfl rfl 4 (by decide) (hT _ kw_3_4) (fun _ h9 => h9) rfl dX3_readPiece_224 ?_
  refine va_get (D := G) (ci := 2) (v := .ref (pa 17)) (C := RX2) (T := TX2) (N := 19) hx hb hT ku_2 hown hK hP 5 rfl rfl 16 (by decide) (hT _ kw_18_6) (fun _ h9 => h9) rfl dX3_readPiece_227 ?_
  refine lv_iload_n hx hb dX3_readPiece_230 rfl (lv_at hl 1 rfl) ?_
  refine lv_iload hx hb dX3_readPiece_231 (lv_at hl 5 rfl) ?_
  refine va_iast (i := x1) hx hb hK hP hD hS 15 0 rfl rfl (tx_in g42) dX3_readPiece_233 (fun H locs hP hD hS => ?_)
  obtain ⟨P_46, eP_46, h⟩ := tx_lt h
  rw [sRP_pa_a16, eP_46] at hP hD
  refine lv_aload_n hx hb dX3_readPiece_234 rfl (lv_at hl 0 rfl) ?_
  refine va_get (D := G) (ci := 3) (v := .ref (pa 0)) (C := RX3) (T := TX3) (N := 10) hx hb hT ku_3 hown hK hP 3 rfl rfl 4 (by decide) (hT _ kw_3_4) (fun _ h9 => h9) rfl dX3_readPiece_235 ?_
  refine lv_dup hx hb dX3_readPiece_238 rfl ?_
  refine va_get (D := G) (ci := 2) (v := .int (P_46 0 2)) (C := RX2) (T := TX2) (N := 19) hx hb hT ku_2 hown hK hP 5 rfl rfl 2 (by decide) (hT _ kw_18_2) (fun _ h9 => h9) rfl dX3_readPiece_239 ?_
  refine lv_iconst (v := 1) hx hb dX3_readPiece_242 (by decide) ?_
  refine lv_iadd hx hb dX3_readPiece_243 ?_
  refine va_put (D := G) (ci := 2) (v := .int ((P_46 0 2) + 1)) (ty := .int) (C := RX2) (T := TX2) (N := 19) hx hb hT ku_2 tyX2 tyX2_ok nmX2 hown hK hP hD hS 5 rfl rfl 2 (by decide) (hT _ kw_18_2) (fun _ h9 => h9) rfl (by decide +kernel) rfl rfl (Nat.le_of_ble_eq_true rfl) dX3_readPiece_244 (fun H locs hP hD hS => ?_)
  obtain ⟨P_47, eP_47, h⟩ := tx_lt h
  rw [sRP_pa_f2, eP_47] at hP hD
  refine lv_iconst (v := 1) hx hb dX3_readPiece_247 (by decide) ?_
  obtain ⟨rfl, rfl, rfl, rfl⟩ := tx_4 h
  exact W.zret (ty := .boolean) hx hb hr rfl (fun t ht hW => ⟨⟨_, (), rfl, rfl, by rw [ht]; exact hP, hD⟩, hS.F ht⟩) hS.2.2 dX3_readPiece_248
set_option maxHeartbeats 4000000 in
set_option maxRecDepth 100000 in
theorem w_X3_readPiece_J176 {p : Program} {l : Launch} {e : Env} {s : State} {m : MethodId} {below : List Frame} {meth : Method} {c : Code} {G : va_G} {cA : Nat → ClassId} {A : Nat → Prop} {bA : Nat} {ka : Nat → Nat} {ra : Nat → Nat} {pa : Nat → Nat} {L : Lo} {r0 : Int32} {K' : Tr} {R' : Tr} {P' : Tr} (F : tF p s m ([.ref (ra 0)] : List Value).toArray meth c G cA A RX3 cX3_readPiece 6 (some .boolean)) (hB : tqB bA A s s.heap)    (x1 : Int32) (x2 : Int32) (x3 : Int32) (x4 : Int32) (x5 : Int32) (s0 : Int32) (K : Tr) (R : Tr) (P : Tr) (H : Heap) (locs : List Loc) (ls : Array Slot) (h : fJ_X3_readPiece_J176 x1 x2 x3 x4 x5 s0 K R P = some (r0, K', R', P')) (hP : va_P G vwCl (wRP cA ka ra pa K R_51 P L) H) (hD : va_D A (wRP cA ka ra pa K R_51 P L)) (hS : va_S A s.heap H locs) (hl : lv_has ls 6 [(0, .ref (ra 0)), (1, .int x1), (2, .int x2), (3, .int x3), (4, .int x4), (5, .int x5)]) : G_X3_readPiece p l e s m below meth c G cA A bA ka ra pa L r0 K' R' P' H locs (F0 m 176 ls []) := by
  obtain ⟨hx, hb, hr, hml, hT, hown, hlocks, hK, hN, hA⟩ := id F
  unfold fJ_X3_readPiece_J176 at h
  refine lv_iconst (v := 4) hx hb dX3_readPiece_176 (by decide) ?_
  obtain ⟨⟨r50, R_51⟩, hc52, h⟩ := tx_bd h
  replace h := tx_let (y := r50) rfl h
  replace h := tx_let (y := R_51) rfl h
  refine tw_ci tw_all hP hD hS hA (va_runV (As := [.int s0, .int 4]) (rest := []) ⟨hx, hb, hml, hown, hT⟩ (c_X3_expect l G cA H.size bA ka ra pa K R P L s0 (4 : Int32)  r50 R_51 hc52) (cwV 2 hT (tq_gV kw_16_18 kw_16_19 kw_16_20 kw_1_15 kw_16_21) rfl rfl rfl (by decide +kernel) ⟨Nat.le_of_ble_eq_true rfl, Nat.le_of_ble_eq_true rfl⟩) ⟨(tw_preB tw_all hP hD hK hN hS hA hB).1, va_recv hK hP (ci := 3) (q0 := 3) rfl rfl, (tw_preB tw_all hP hD hK hN hS hA hB).2⟩ rfl rfl hl.1 rfl (lv_room (Nat.le_of_ble_eq_true rfl)) dX3_readPiece_177 ⟨Nat.le_of_ble_eq_true rfl, Nat.le_of_ble_eq_true rfl⟩) (fun _ _ H locs z53 hP hD hS => ?_)
  subst z53
  rw [List.append_nil] at hP hD
  have hP : va_P G vwCl (wRP cA ka ra pa K R_51 P L) H := hP
  have hD : va_D A (wRP cA ka ra pa K R_51 P L) := hD
  refine lv_if_ne (tgt := 185) hx hb dX3_readPiece_180 (by decide) (fun c54 => ?_) (fun c54 => ?_)
  · have h := tx_neg c54 h
    refine lv_aload_n hx hb dX3_readPiece_185 rfl (lv_at hl 0 rfl) ?_
    refine va_get (D := G) (ci := 3) (v := .ref (ka 0)) (C := RX3) (T := TX3) (N := 10) hx hb hT ku_3 hown hK hP 3 rfl rfl 0 (by decide) (hT _ kw_2_23) (fun _ h9 => h9) rfl dX3_readPiece_186 ?_
    obtain ⟨K_55, hc56, h⟩ := tx_bd h
    refine tw_cv tw_all hP hD hS hA (va_runV (As := []) (rest := []) ⟨hx, hb, hml, hown, hT⟩ (c_X5_advance l G cA H.size bA ka ra pa K R_51 P L  K_55 hc56) (cwV 0 hT (tq_gV kw_16_23 kw_15_0 kw_15_1 kw_2_22 kw_15_2) rfl rfl rfl (by decide +kernel) ⟨Nat.le_of_ble_eq_true rfl, Nat.le_of_ble_eq_true rfl⟩) ⟨(tw_preB tw_all hP hD hK hN hS hA hB).1, va_recv hK hP (ci := 5) (q0 := 0) rfl rfl, (tw_preB tw_all hP hD hK hN hS hA hB).2⟩ rfl rfl hl.1 rfl (lv_room (Nat.le_of_ble_eq_true rfl)) dX3_readPiece_189 ⟨Nat.le_of_ble_eq_true rfl, Nat.le_of_ble_eq_true rfl⟩) (fun _ H locs z57 hP hD hS => ?_)
    rw [List.append_nil] at hP hD
    have hP : va_P G vwCl (wRP cA ka ra pa K_55 R_51 P L) H := hP
    have hD : va_D A (wRP cA ka ra pa K_55 R_51 P L) := hD
    exact w_X3_readPiece_J192 F hB x1 x2 x3 x4 x5 K_55 R_51 P H locs ls h hP hD hS (lv_sub hl [0, 1, 2, 3, 4, 5] rfl)
  · have h := tx_pos c54 h
    refine lv_iconst (v := 0) hx hb dX3_readPiece_183 (by decide) ?_
    obtain ⟨rfl, rfl, rfl, rfl⟩ := tx_4 h
    exact W.zret (ty := .boolean) hx hb hr rfl (fun t ht hW => ⟨⟨_, (), rfl, rfl, by rw [ht]; exact hP, hD⟩, hS.F ht⟩) hS.2.2 dX3_readPiece_184
set_option maxHeartbeats 4000000 in
set_option maxRecDepth 100000 in
theorem w_X3_readPiece_J125 {p : Program} {l : Launch} {e : Env} {s : State} {m : MethodId} {below : List Frame} {meth : Method} {c : Code} {G : va_G} {cA : Nat → ClassId} {A : Nat → Prop} {bA : Nat} {ka : Nat → Nat} {ra : Nat → Nat} {pa : Nat → Nat} {L : Lo} {r0 : Int32} {K' : Tr} {R' : Tr} {P' : Tr} (F : tF p s m ([.ref (ra 0)] : List Value).toArray meth c G cA A RX3 cX3_readPiece 6 (some .boolean)) (hB : tqB bA A s s.heap)    (x1 : Int32) (x2 : Int32) (x3 : Int32) (s0 : Int32) (K : Tr) (R : Tr) (P : Tr) (H : Heap) (locs : List Loc) (ls : Array Slot) (h : fJ_X3_readPiece_J125 x1 x2 x3 s0 K R P = some (r0, K', R', P')) (hP : va_P G vwCl (wRP cA ka ra pa K R P L) H) (hD : va_D A (wRP cA ka ra pa K R P L)) (hS : va_S A s.heap H locs) (hl : lv_has ls 6 [(4, .int s0), (0, .ref (ra 0)), (1, .int x1), (2, .int x2), (3, .int x3)]) : G_X3_readPiece p l e s m below meth c G cA A bA ka ra pa L r0 K' R' P' H locs (F0 m 125 ls []) := by
  obtain ⟨hx, hb, hr, hml, hT, hown, hlocks, hK, hN, hA⟩ := id F
  unfold fJ_X3_readPiece_J125 at h
  refine lv_istore (lv' := [(4, .int s0), (0, .ref (ra 0)), (1, .int x1), (2, .int x2), (3, .int x3)]) hx hb dX3_readPiece_125 hl (by decide) rfl (fun ls hl => ?_)
  refine lv_iload hx hb dX3_readPiece_127 (lv_at hl 0 rfl) ?_
  refine lv_if_ge (tgt := 134) hx hb dX3_readPiece_129 (by decide) (fun c40 => ?_) (fun c40 => ?_)
  · have h := tx_pos c40 h
    refine lv_iconst (v := (-1)) hx hb dX3_readPiece_134 (by decide) ?_
    refine lv_istore (lv' := [(5, .int (-1)), (4, .int s0), (0, .ref (ra 0)), (1, .int x1), (2, .int x2), (3, .int x3)]) hx hb dX3_readPiece_135 hl (by decide) rfl (fun ls hl => ?_)
    refine lv_aload_n hx hb dX3_readPiece_137 rfl (lv_at hl 2 rfl) ?_
    refine va_get (D := G) (ci := 3) (v := .ref (ka 0)) (C := RX3) (T := TX3) (N := 10) hx hb hT ku_3 hown hK hP 3 rfl rfl 0 (by decide) (hT _ kw_2_23) (fun _ h9 => h9) rfl dX3_readPiece_138 ?_
    refine va_get (D := G) (ci := 5) (v := .int (K 0 1)) (C := RX5) (T := TX5) (N := 8) hx hb hT ku_5 hown hK hP 0 rfl rfl 1 (by decide) (hT _ kw_14_15) (fun _ h9 => h9) rfl dX3_readPiece_141 ?_
    refine lv_bipush (v := 42) hx hb dX3_readPiece_144 (by decide) ?_
    refine lv_icmp_ne (tgt := 192) hx hb dX3_readPiece_146 (by decide) (fun c41 => ?_) (fun c41 => ?_)
    · have h := tx_neg c41 h
      exact w_X3_readPiece_J192 F hB x1 x2 x3 s0 (-1) K R P H locs ls h hP hD hS (lv_sub hl [2, 3, 4, 5, 1, 0] rfl)
    · have h := tx_pos c41 h
      refine lv_aload_n hx hb dX3_readPiece_149 rfl (lv_at hl 2 rfl) ?_
      refine va_get (D := G) (ci := 3) (v := .ref (ka 0)) (C := RX3) (T := TX3) (N := 10) hx hb hT ku_3 hown hK hP 3 rfl rfl 0 (by decide) (hT _ kw_2_23) (fun _ h9 => h9) rfl dX3_readPiece_150 ?_
      refine va_get (D := G) (ci := 5) (v := .int (K 0 3)) (C := RX5) (T := TX5) (N := 8) hx hb hT ku_5 hown hK hP 0 rfl rfl 3 (by decide) (hT _ kw_17_8) (fun _ h9 => h9) rfl dX3_readPiece_153 ?_
      refine lv_topi (fun y48 ey48 => ?_)
      have h := tx_let ey48 h
      refine lv_istore (lv' := [(5, .int y48), (4, .int s0), (0, .ref (ra 0)), (1, .int x1), (2, .int x2), (3, .int x3)]) hx hb dX3_readPiece_156 hl (by decide) rfl (fun ls hl => ?_)
      refine lv_aload_n hx hb dX3_readPiece_158 rfl (lv_at hl 2 rfl) ?_
      refine lv_iload hx hb dX3_readPiece_159 (lv_at hl 0 rfl) ?_
      refine lv_aload_n hx hb dX3_readPiece_161 rfl (lv_at hl 2 rfl) ?_
      refine va_get (D := G) (ci := 3) (v := .ref (pa 0)) (C := RX3) (T := TX3) (N := 10) hx hb hT ku_3 hown hK hP 3 rfl rfl 4 (by decide) (hT _ kw_3_4) (fun _ h9 => h9) rfl dX3_readPiece_162 ?_
      refine va_get (D := G) (ci := 2) (v := .int (P 0 0)) (C := RX2) (T := TX2) (N := 19) hx hb hT ku_2 hown hK hP 5 rfl rfl 0 (by decide) (hT _ kw_16_15) (fun _ h9 => h9) rfl dX3_readPiece_165 ?_
      refine lv_icmp_ge (tgt := 175) hx hb dX3_readPiece_168 (by decide) (fun c49 => ?_) (fun c49 => ?_)
      · have h := tx_pos c49 h
        refine lv_iconst (v := 0) hx hb dX3_readPiece_175 (by decide) ?_
        exact w_X3_readPiece_J176 F hB x1 x2 x3 s0 y48 0 K R P H locs ls h hP hD hS (lv_sub hl [2, 3, 4, 5, 1, 0] rfl)
      · have h := tx_neg c49 h
        refine lv_iconst (v := 1) hx hb dX3_readPiece_171 (by decide) ?_
        refine lv_goto (tgt := 176) hx hb dX3_readPiece_172 (by decide) ?_
        exact w_X3_readPiece_J176 F hB x1 x2 x3 s0 y48 1 K R P H locs ls h hP hD hS (lv_sub hl [2, 3, 4, 5, 1, 0] rfl)
  · have h := tx_neg c40 h
    refine lv_iconst (v := 0) hx hb dX3_readPiece_132 (by decide) ?_
    obtain ⟨rfl, rfl, rfl, rfl⟩ := tx_4 h
    exact W.zret (ty := .boolean) hx hb hr rfl (fun t ht hW => ⟨⟨_, (), rfl, rfl, by rw [ht]; exact hP, hD⟩, hS.F ht⟩) hS.2.2 dX3_readPiece_133
set_option maxHeartbeats 4000000 in
set_option maxRecDepth 100000 in
theorem w_X3_readPiece_J86 {p : Program} {l : Launch} {e : Env} {s : State} {m : MethodId} {below : List Frame} {meth : Method} {c : Code} {G : va_G} {cA : Nat → ClassId} {A : Nat → Prop} {bA : Nat} {ka : Nat → Nat} {ra : Nat → Nat} {pa : Nat → Nat} {L : Lo} {r0 : Int32} {K' : Tr} {R' : Tr} {P' : Tr} (F : tF p s m ([.ref (ra 0)] : List Value).toArray meth c G cA A RX3 cX3_readPiece 6 (some .boolean)) (hB : tqB bA A s s.heap)    (x1 : Int32) (x2 : Int32) (s0 : Int32) (K : Tr) (R : Tr) (P : Tr) (H : Heap) (locs : List Loc) (ls : Array Slot) (h : fJ_X3_readPiece_J86 x1 x2 s0 K R P = some (r0, K', R', P')) (hP : va_P G vwCl (wRP cA ka ra pa K R_22 P L) H) (hD : va_D A (wRP cA ka ra pa K R_22 P L)) (hS : va_S A s.heap H locs) (hl : lv_has ls 6 [(0, .ref (ra 0)), (1, .int x1), (2, .int x2)]) : G_X3_readPiece p l e s m below meth c G cA A bA ka ra pa L r0 K' R' P' H locs (F0 m 86 ls []) := by
  obtain ⟨hx, hb, hr, hml, hT, hown, hlocks, hK, hN, hA⟩ := id F
  unfold fJ_X3_readPiece_J86 at h
  refine lv_iconst (v := 4) hx hb dX3_readPiece_86 (by decide) ?_
  obtain ⟨⟨r21, R_22⟩, hc23, h⟩ := tx_bd h
  replace h := tx_let (y := r21) rfl h
  replace h := tx_let (y := R_22) rfl h
  refine tw_ci tw_all hP hD hS hA (va_runV (As := [.int s0, .int 4]) (rest := []) ⟨hx, hb, hml, hown, hT⟩ (c_X3_expect l G cA H.size bA ka ra pa K R P L s0 (4 : Int32)  r21 R_22 hc23) (cwV 2 hT (tq_gV kw_16_18 kw_16_19 kw_16_20 kw_1_15 kw_16_21) rfl rfl rfl (by decide +kernel) ⟨Nat.le_of_ble_eq_true rfl, Nat.le_of_ble_eq_true rfl⟩) ⟨(tw_preB tw_all hP hD hK hN hS hA hB).1, va_recv hK hP (ci := 3) (q0 := 3) rfl rfl, (tw_preB tw_all hP hD hK hN hS hA hB).2⟩ rfl rfl hl.1 rfl (lv_room (Nat.le_of_ble_eq_true rfl)) dX3_readPiece_87 ⟨Nat.le_of_ble_eq_true rfl, Nat.le_of_ble_eq_true rfl⟩) (fun _ _ H locs z24 hP hD hS => ?_)
  subst z24
  rw [List.append_nil] at hP hD
  have hP : va_P G vwCl (wRP cA ka ra pa K R_22 P L) H := hP
  have hD : va_D A (wRP cA ka ra pa K R_22 P L) := hD
  refine lv_if_ne (tgt := 95) hx hb dX3_readPiece_90 (by decide) (fun c25 => ?_) (fun c25 => ?_)
  · have h := tx_neg c25 h
    refine lv_aload_n hx hb dX3_readPiece_95 rfl (lv_at hl 0 rfl) ?_
    refine va_get (D := G) (ci := 3) (v := .ref (ka 0)) (C := RX3) (T := TX3) (N := 10) hx hb hT ku_3 hown hK hP 3 rfl rfl 0 (by decide) (hT _ kw_2_23) (fun _ h9 => h9) rfl dX3_readPiece_96 ?_
    obtain ⟨K_26, hc27, h⟩ := tx_bd h
    refine tw_cv tw_all hP hD hS hA (va_runV (As := []) (rest := []) ⟨hx, hb, hml, hown, hT⟩ (c_X5_advance l G cA H.size bA ka ra pa K R_22 P L  K_26 hc27) (cwV 0 hT (tq_gV kw_16_23 kw_15_0 kw_15_1 kw_2_22 kw_15_2) rfl rfl rfl (by decide +kernel) ⟨Nat.le_of_ble_eq_true rfl, Nat.le_of_ble_eq_true rfl⟩) ⟨(tw_preB tw_all hP hD hK hN hS hA hB).1, va_recv hK hP (ci := 5) (q0 := 0) rfl rfl, (tw_preB tw_all hP hD hK hN hS hA hB).2⟩ rfl rfl hl.1 rfl (lv_room (Nat.le_of_ble_eq_true rfl)) dX3_readPiece_99 ⟨Nat.le_of_ble_eq_true rfl, Nat.le_of_ble_eq_true rfl⟩) (fun _ H locs z28 hP hD hS => ?_)
    rw [List.append_nil] at hP hD
    have hP : va_P G vwCl (wRP cA ka ra pa K_26 R_22 P L) H := hP
    have hD : va_D A (wRP cA ka ra pa K_26 R_22 P L) := hD
    refine lv_aload_n hx hb dX3_readPiece_102 rfl (lv_at hl 0 rfl) ?_
    refine lv_iconst (v := 1) hx hb dX3_readPiece_103 (by decide) ?_
    refine lv_bipush (v := 99) hx hb dX3_readPiece_104 (by decide) ?_
    obtain ⟨⟨r29, K_30, R_31⟩, hc32, h⟩ := tx_bd h
    replace h := tx_let (y := r29) rfl h
    replace h := tx_let (y := K_30) rfl h
    replace h := tx_let (y := R_31) rfl h
    refine tw_ci tw_all hP hD hS hA (va_runV (As := [.int 1, .int 99]) (rest := []) ⟨hx, hb, hml, hown, hT⟩ (c_X3_takeNumber l G cA H.size bA ka ra pa K_26 R_22 P L (1 : Int32) (99 : Int32)  r29 K_30 R_31 hc32) (cwV 2 hT (tq_gV kw_17_4 kw_17_5 kw_17_6 kw_1_15 kw_17_7) rfl rfl rfl (by decide +kernel) ⟨Nat.le_of_ble_eq_true rfl, Nat.le_of_ble_eq_true rfl⟩) ⟨(tw_preB tw_all hP hD hK hN hS hA hB).1, va_recv hK hP (ci := 3) (q0 := 3) rfl rfl, (tw_preB tw_all hP hD hK hN hS hA hB).2⟩ rfl rfl hl.1 rfl (lv_room (Nat.le_of_ble_eq_true rfl)) dX3_readPiece_106 ⟨Nat.le_of_ble_eq_true rfl, Nat.le_of_ble_eq_true rfl⟩) (fun _ _ H locs z33 hP hD hS => ?_)
    subst z33
    rw [List.append_nil] at hP hD
    have hP : va_P G vwCl (wRP cA ka ra pa K_30 R_31 P L) H := hP
    have hD : va_D A (wRP cA ka ra pa K_30 R_31 P L) := hD
    refine lv_istore_n (lv' := [(3, .int r29), (0, .ref (ra 0)), (1, .int x1), (2, .int x2)]) hx hb dX3_readPiece_109 rfl hl (by decide) rfl (fun ls hl => ?_)
    refine lv_iload_n hx hb dX3_readPiece_110 rfl (lv_at hl 0 rfl) ?_
    refine lv_if_ge (tgt := 118) hx hb dX3_readPiece_111 (by decide) (fun c34 => ?_) (fun c34 => ?_)
    · have h := tx_pos c34 h
      refine lv_aload_n hx hb dX3_readPiece_118 rfl (lv_at hl 1 rfl) ?_
      refine lv_iconst (v := 0) hx hb dX3_readPiece_119 (by decide) ?_
      refine lv_bipush (v := 9) hx hb dX3_readPiece_120 (by decide) ?_
      obtain ⟨⟨r35, K_36, R_37⟩, hc38, h⟩ := tx_bd h
      replace h := tx_let (y := r35) rfl h
      replace h := tx_let (y := K_36) rfl h
      replace h := tx_let (y := R_37) rfl h
      refine tw_ci tw_all hP hD hS hA (va_runV (As := [.int 0, .int 9]) (rest := []) ⟨hx, hb, hml, hown, hT⟩ (c_X3_takeNumber l G cA H.size bA ka ra pa K_30 R_31 P L (0 : Int32) (9 : Int32)  r35 K_36 R_37 hc38) (cwV 2 hT (tq_gV kw_17_4 kw_17_5 kw_17_6 kw_1_15 kw_17_7) rfl rfl rfl (by decide +kernel) ⟨Nat.le_of_ble_eq_true rfl, Nat.le_of_ble_eq_true rfl⟩) ⟨(tw_preB tw_all hP hD hK hN hS hA hB).1, va_recv hK hP (ci := 3) (q0 := 3) rfl rfl, (tw_preB tw_all hP hD hK hN hS hA hB).2⟩ rfl rfl hl.1 rfl (lv_room (Nat.le_of_ble_eq_true rfl)) dX3_readPiece_122 ⟨Nat.le_of_ble_eq_true rfl, Nat.le_of_ble_eq_true rfl⟩) (fun _ _ H locs z39 hP hD hS => ?_)
      subst z39
      rw [List.append_nil] at hP hD
      have hP : va_P G vwCl (wRP cA ka ra pa K_36 R_37 P L) H := hP
      have hD : va_D A (wRP cA ka ra pa K_36 R_37 P L) := hD
      exact w_X3_readPiece_J125 F hB x1 x2 r29 r35 K_36 R_37 P H locs ls h hP hD hS (lv_sub hl [1, 2, 3, 0] rfl)
    · have h := tx_neg c34 h
      refine lv_iconst (v := (-1)) hx hb dX3_readPiece_114 (by decide) ?_
      refine lv_goto (tgt := 125) hx hb dX3_readPiece_115 (by decide) ?_
      exact w_X3_readPiece_J125 F hB x1 x2 r29 (-1) K_30 R_31 P H locs ls h hP hD hS (lv_sub hl [1, 2, 3, 0] rfl)
  · have h := tx_pos c25 h
    refine lv_iconst (v := 0) hx hb dX3_readPiece_93 (by decide) ?_
    obtain ⟨rfl, rfl, rfl, rfl⟩ := tx_4 h
    exact W.zret (ty := .boolean) hx hb hr rfl (fun t ht hW => ⟨⟨_, (), rfl, rfl, by rw [ht]; exact hP, hD⟩, hS.F ht⟩) hS.2.2 dX3_readPiece_94
set_option maxHeartbeats 4000000 in
set_option maxRecDepth 100000 in
theorem w_X3_readPiece_J69 {p : Program} {l : Launch} {e : Env} {s : State} {m : MethodId} {below : List Frame} {meth : Method} {c : Code} {G : va_G} {cA : Nat → ClassId} {A : Nat → Prop} {bA : Nat} {ka : Nat → Nat} {ra : Nat → Nat} {pa : Nat → Nat} {L : Lo} {r0 : Int32} {K' : Tr} {R' : Tr} {P' : Tr} (F : tF p s m ([.ref (ra 0)] : List Value).toArray meth c G cA A RX3 cX3_readPiece 6 (some .boolean)) (hB : tqB bA A s s.heap)    (x1 : Int32) (x2 : Int32) (s0 : Int32) (K : Tr) (R : Tr) (P : Tr) (H : Heap) (locs : List Loc) (ls : Array Slot) (h : fJ_X3_readPiece_J69 x1 x2 s0 K R P = some (r0, K', R', P')) (hP : va_P G vwCl (wRP cA ka ra pa K R_16 P L) H) (hD : va_D A (wRP cA ka ra pa K R_16 P L)) (hS : va_S A s.heap H locs) (hl : lv_has ls 6 [(0, .ref (ra 0)), (1, .int x1), (2, .int x2)]) : G_X3_readPiece p l e s m below meth c G cA A bA ka ra pa L r0 K' R' P' H locs (F0 m 69 ls []) := by
  obtain ⟨hx, hb, hr, hml, hT, hown, hlocks, hK, hN, hA⟩ := id F
  unfold fJ_X3_readPiece_J69 at h
  refine lv_iconst (v := 1) hx hb dX3_readPiece_69 (by decide) ?_
  obtain ⟨⟨r15, R_16⟩, hc17, h⟩ := tx_bd h
  replace h := tx_let (y := r15) rfl h
  replace h := tx_let (y := R_16) rfl h
  refine tw_ci tw_all hP hD hS hA (va_runV (As := [.int s0, .int 1]) (rest := []) ⟨hx, hb, hml, hown, hT⟩ (c_X3_expect l G cA H.size bA ka ra pa K R P L s0 (1 : Int32)  r15 R_16 hc17) (cwV 2 hT (tq_gV kw_16_18 kw_16_19 kw_16_20 kw_1_15 kw_16_21) rfl rfl rfl (by decide +kernel) ⟨Nat.le_of_ble_eq_true rfl, Nat.le_of_ble_eq_true rfl⟩) ⟨(tw_preB tw_all hP hD hK hN hS hA hB).1, va_recv hK hP (ci := 3) (q0 := 3) rfl rfl, (tw_preB tw_all hP hD hK hN hS hA hB).2⟩ rfl rfl hl.1 rfl (lv_room (Nat.le_of_ble_eq_true rfl)) dX3_readPiece_70 ⟨Nat.le_of_ble_eq_true rfl, Nat.le_of_ble_eq_true rfl⟩) (fun _ _ H locs z18 hP hD hS => ?_)
  subst z18
  rw [List.append_nil] at hP hD
  have hP : va_P G vwCl (wRP cA ka ra pa K R_16 P L) H := hP
  have hD : va_D A (wRP cA ka ra pa K R_16 P L) := hD
  refine lv_if_eq (tgt := 93) hx hb dX3_readPiece_73 (by decide) (fun c19 => ?_) (fun c19 => ?_)
  · have h := tx_pos c19 h
    refine lv_iconst (v := 0) hx hb dX3_readPiece_93 (by decide) ?_
    obtain ⟨rfl, rfl, rfl, rfl⟩ := tx_4 h
    exact W.zret (ty := .boolean) hx hb hr rfl (fun t ht hW => ⟨⟨_, (), rfl, rfl, by rw [ht]; exact hP, hD⟩, hS.F ht⟩) hS.2.2 dX3_readPiece_94
  · have h := tx_neg c19 h
    refine lv_aload_n hx hb dX3_readPiece_76 rfl (lv_at hl 0 rfl) ?_
    refine lv_iload_n hx hb dX3_readPiece_77 rfl (lv_at hl 2 rfl) ?_
    refine lv_if_lt (tgt := 85) hx hb dX3_readPiece_78 (by decide) (fun c20 => ?_) (fun c20 => ?_)
    · have h := tx_pos c20 h
      refine lv_iconst (v := 0) hx hb dX3_readPiece_85 (by decide) ?_
      exact w_X3_readPiece_J86 F hB x1 x2 0 K R_16 P H locs ls h hP hD hS (lv_sub hl [0, 1, 2] rfl)
    · have h := tx_neg c20 h
      refine lv_iconst (v := 1) hx hb dX3_readPiece_81 (by decide) ?_
      refine lv_goto (tgt := 86) hx hb dX3_readPiece_82 (by decide) ?_
      exact w_X3_readPiece_J86 F hB x1 x2 1 K R_16 P H locs ls h hP hD hS (lv_sub hl [0, 1, 2] rfl)
set_option maxHeartbeats 4000000 in
set_option maxRecDepth 100000 in
theorem w_X3_readPiece_J20 {p : Program} {l : Launch} {e : Env} {s : State} {m : MethodId} {below : List Frame} {meth : Method} {c : Code} {G : va_G} {cA : Nat → ClassId} {A : Nat → Prop} {bA : Nat} {ka : Nat → Nat} {ra : Nat → Nat} {pa : Nat → Nat} {L : Lo} {r0 : Int32} {K' : Tr} {R' : Tr} {P' : Tr} (F : tF p s m ([.ref (ra 0)] : List Value).toArray meth c G cA A RX3 cX3_readPiece 6 (some .boolean)) (hB : tqB bA A s s.heap)    (x1 : Int32) (s0 : Int32) (K : Tr) (R : Tr) (P : Tr) (H : Heap) (locs : List Loc) (ls : Array Slot) (h : fJ_X3_readPiece_J20 x1 s0 K R P = some (r0, K', R', P')) (hP : va_P G vwCl (wRP cA ka ra pa K R_4 P L) H) (hD : va_D A (wRP cA ka ra pa K R_4 P L)) (hS : va_S A s.heap H locs) (hl : lv_has ls 6 [(0, .ref (ra 0)), (1, .int x1)]) : G_X3_readPiece p l e s m below meth c G cA A bA ka ra pa L r0 K' R' P' H locs (F0 m 20 ls []) := by
  obtain ⟨hx, hb, hr, hml, hT, hown, hlocks, hK, hN, hA⟩ := id F
  unfold fJ_X3_readPiece_J20 at h
  refine lv_iconst (v := 2) hx hb dX3_readPiece_20 (by decide) ?_
  obtain ⟨⟨r3, R_4⟩, hc5, h⟩ := tx_bd h
  replace h := tx_let (y := r3) rfl h
  replace h := tx_let (y := R_4) rfl h
  refine tw_ci tw_all hP hD hS hA (va_runV (As := [.int s0, .int 2]) (rest := []) ⟨hx, hb, hml, hown, hT⟩ (c_X3_expect l G cA H.size bA ka ra pa K R P L s0 (2 : Int32)  r3 R_4 hc5) (cwV 2 hT (tq_gV kw_16_18 kw_16_19 kw_16_20 kw_1_15 kw_16_21) rfl rfl rfl (by decide +kernel) ⟨Nat.le_of_ble_eq_true rfl, Nat.le_of_ble_eq_true rfl⟩) ⟨(tw_preB tw_all hP hD hK hN hS hA hB).1, va_recv hK hP (ci := 3) (q0 := 3) rfl rfl, (tw_preB tw_all hP hD hK hN hS hA hB).2⟩ rfl rfl hl.1 rfl (lv_room (Nat.le_of_ble_eq_true rfl)) dX3_readPiece_21 ⟨Nat.le_of_ble_eq_true rfl, Nat.le_of_ble_eq_true rfl⟩) (fun _ _ H locs z6 hP hD hS => ?_)
  subst z6
  rw [List.append_nil] at hP hD
  have hP : va_P G vwCl (wRP cA ka ra pa K R_4 P L) H := hP
  have hD : va_D A (wRP cA ka ra pa K R_4 P L) := hD
  refine lv_if_ne (tgt := 29) hx hb dX3_readPiece_24 (by decide) (fun c7 => ?_) (fun c7 => ?_)
  · have h := tx_neg c7 h
    refine lv_aload_n hx hb dX3_readPiece_29 rfl (lv_at hl 0 rfl) ?_
    refine va_get (D := G) (ci := 3) (v := .ref (ka 0)) (C := RX3) (T := TX3) (N := 10) hx hb hT ku_3 hown hK hP 3 rfl rfl 0 (by decide) (hT _ kw_2_23) (fun _ h9 => h9) rfl dX3_readPiece_30 ?_
    obtain ⟨K_8, hc9, h⟩ := tx_bd h
    refine tw_cv tw_all hP hD hS hA (va_runV (As := []) (rest := []) ⟨hx, hb, hml, hown, hT⟩ (c_X5_advance l G cA H.size bA ka ra pa K R_4 P L  K_8 hc9) (cwV 0 hT (tq_gV kw_16_23 kw_15_0 kw_15_1 kw_2_22 kw_15_2) rfl rfl rfl (by decide +kernel) ⟨Nat.le_of_ble_eq_true rfl, Nat.le_of_ble_eq_true rfl⟩) ⟨(tw_preB tw_all hP hD hK hN hS hA hB).1, va_recv hK hP (ci := 5) (q0 := 0) rfl rfl, (tw_preB tw_all hP hD hK hN hS hA hB).2⟩ rfl rfl hl.1 rfl (lv_room (Nat.le_of_ble_eq_true rfl)) dX3_readPiece_33 ⟨Nat.le_of_ble_eq_true rfl, Nat.le_of_ble_eq_true rfl⟩) (fun _ H locs z10 hP hD hS => ?_)
    rw [List.append_nil] at hP hD
    have hP : va_P G vwCl (wRP cA ka ra pa K_8 R_4 P L) H := hP
    have hD : va_D A (wRP cA ka ra pa K_8 R_4 P L) := hD
    refine lv_aload_n hx hb dX3_readPiece_36 rfl (lv_at hl 0 rfl) ?_
    refine va_get (D := G) (ci := 3) (v := .ref (pa 0)) (C := RX3) (T := TX3) (N := 10) hx hb hT ku_3 hown hK hP 3 rfl rfl 4 (by decide) (hT _ kw_3_4) (fun _ h9 => h9) rfl dX3_readPiece_37 ?_
    refine lv_aload_n hx hb dX3_readPiece_40 rfl (lv_at hl 0 rfl) ?_
    refine va_get (D := G) (ci := 3) (v := .ref (ka 0)) (C := RX3) (T := TX3) (N := 10) hx hb hT ku_3 hown hK hP 3 rfl rfl 0 (by decide) (hT _ kw_2_23) (fun _ h9 => h9) rfl dX3_readPiece_41 ?_
    refine va_get (D := G) (ci := 5) (v := .int (K_8 0 3)) (C := RX5) (T := TX5) (N := 8) hx hb hT ku_5 hown hK hP 0 rfl rfl 3 (by decide) (hT _ kw_17_8) (fun _ h9 => h9) rfl dX3_readPiece_44 ?_
    obtain ⟨r11, hc12, h⟩ := tx_bd h
    refine tw_ci tw_all hP hD hS hA (va_runV (As := [.int (K_8 0 3)]) (rest := []) ⟨hx, hb, hml, hown, hT⟩ (c_X2_personNamed l G cA H.size bA ka ra pa K_8 R_4 P L (K_8 0 3)  r11 hc12) (cwV 1 hT (tq_gV kw_17_18 kw_17_19 kw_17_20 kw_1_19 kw_17_21) rfl rfl rfl (by decide +kernel) ⟨Nat.le_of_ble_eq_true rfl, Nat.le_of_ble_eq_true rfl⟩) ⟨(tw_preB tw_all hP hD hK hN hS hA hB).1, va_recv hK hP (ci := 2) (q0 := 5) rfl rfl, (tw_preB tw_all hP hD hK hN hS hA hB).2⟩ rfl rfl hl.1 rfl (lv_room (Nat.le_of_ble_eq_true rfl)) dX3_readPiece_47 ⟨Nat.le_of_ble_eq_true rfl, Nat.le_of_ble_eq_true rfl⟩) (fun _ _ H locs z13 hP hD hS => ?_)
    subst z13
    rw [List.append_nil] at hP hD
    have hP : va_P G vwCl (wRP cA ka ra pa K_8 R_4 P L) H := hP
    have hD : va_D A (wRP cA ka ra pa K_8 R_4 P L) := hD
    refine lv_istore_n (lv' := [(2, .int r11), (0, .ref (ra 0)), (1, .int x1)]) hx hb dX3_readPiece_50 rfl hl (by decide) rfl (fun ls hl => ?_)
    refine lv_aload_n hx hb dX3_readPiece_51 rfl (lv_at hl 1 rfl) ?_
    refine lv_aload_n hx hb dX3_readPiece_52 rfl (lv_at hl 1 rfl) ?_
    refine va_get (D := G) (ci := 3) (v := .ref (ka 0)) (C := RX3) (T := TX3) (N := 10) hx hb hT ku_3 hown hK hP 3 rfl rfl 0 (by decide) (hT _ kw_2_23) (fun _ h9 => h9) rfl dX3_readPiece_53 ?_
    refine va_get (D := G) (ci := 5) (v := .int (K_8 0 1)) (C := RX5) (T := TX5) (N := 8) hx hb hT ku_5 hown hK hP 0 rfl rfl 1 (by decide) (hT _ kw_14_15) (fun _ h9 => h9) rfl dX3_readPiece_56 ?_
    refine lv_bipush (v := 43) hx hb dX3_readPiece_59 (by decide) ?_
    refine lv_icmp_ne (tgt := 68) hx hb dX3_readPiece_61 (by decide) (fun c14 => ?_) (fun c14 => ?_)
    · have h := tx_neg c14 h
      refine lv_iconst (v := 0) hx hb dX3_readPiece_68 (by decide) ?_
      exact w_X3_readPiece_J69 F hB x1 r11 0 K_8 R_4 P H locs ls h hP hD hS (lv_sub hl [1, 2, 0] rfl)
    · have h := tx_pos c14 h
      refine lv_iconst (v := 1) hx hb dX3_readPiece_64 (by decide) ?_
      refine lv_goto (tgt := 69) hx hb dX3_readPiece_65 (by decide) ?_
      exact w_X3_readPiece_J69 F hB x1 r11 1 K_8 R_4 P H locs ls h hP hD hS (lv_sub hl [1, 2, 0] rfl)
  · have h := tx_pos c7 h
    refine lv_iconst (v := 0) hx hb dX3_readPiece_27 (by decide) ?_
    obtain ⟨rfl, rfl, rfl, rfl⟩ := tx_4 h
    exact W.zret (ty := .boolean) hx hb hr rfl (fun t ht hW => ⟨⟨_, (), rfl, rfl, by rw [ht]; exact hP, hD⟩, hS.F ht⟩) hS.2.2 dX3_readPiece_28
set_option maxHeartbeats 4000000 in
set_option maxRecDepth 100000 in
theorem c_X3_readPiece (l : Launch) (G : va_G) (cA : Nat → ClassId) (sz : Nat) (bA : Nat) (ka : Nat → Nat) (ra : Nat → Nat) (pa : Nat → Nat) (K : Tr) (R : Tr) (P : Tr) (L : Lo)  (r0 : Int32) (K' : Tr) (R' : Tr) (P' : Tr) (h : f_X3_readPiece K R P = some (r0, K', R', P')) : Met l yX3_readPiece (.code yX3_readPiece cX3_readPiece 6 (some .boolean) :: T0) ({ frames := 4, cells := 0, slots := 0, locals := 88 } : Room) (tqPB bA G cA [.ref (ra 0)] (wRP cA ka ra pa K R P L) sz) (tqQi G cA (fun (r : Int32) (_ : Unit) => r = r0) (fun (_ : Unit) => wRP cA ka ra pa (K') (R') (P') L) (va_A (wRP cA ka ra pa K R P L) sz)) 0 0 (va_A (wRP cA ka ra pa K R P L) sz) := by
  refine Met.ofW (cc := cX3_readPiece) (maxL := 6) (ret := (some .boolean)) (by decide) rfl ?_
  intro p e s m args below meth c s₁ B hml hv
  obtain ⟨rfl, hsz, hP, hK, hD0, hN, hB⟩ := hv
  have hx := B.exec
  have hb := B.bytes
  have hr := B.returns
  have hts := atoms_spec (ws := .code yX3_readPiece cX3_readPiece 6 (some .boolean) :: T0) B.pre
  have hT : ∀ w ∈ T0, w.before _ s = true := fun w h => hts w (List.mem_cons_of_mem _ h)
  have hown : s.vm.findClass RX3 = some m.cls := findClass_of_methodNamed B.named
  have hlocks := B.notSynchronized
  subst hsz
  have hD := hD0.self (sz := s.heap.size)
  generalize hAe : va_A (wRP cA ka ra pa K R P L) s.heap.size = A at hD hB ⊢
  have hA : ∀ q : Nat, s.heap.size ≤ q → A q := fun q h => by rw [← hAe]; exact Or.inr h
  have hS : va_S A s.heap s.heap [] := va_S.rf
  have hl := lv_entry ([.ref (ra 0)]) (n := 6) (Nat.le_of_ble_eq_true rfl)
  rw [lg_entry_eq]
  generalize (lg_sl ([.ref (ra 0)]) ++ List.replicate (6 - (lg_sl ([.ref (ra 0)])).length) Slot.unset).toArray = ls at hl ⊢
  have hl : lv_has ls 6 [(0, .ref (ra 0))] := hl
  have F : tF p s m ([.ref (ra 0)] : List Value).toArray meth c G cA A RX3 cX3_readPiece 6 (some .boolean) := ⟨hx, hb, hr, hml, hT, hown, hlocks, hK, hN, hA⟩
  obtain ⟨H, hH⟩ : ∃ z, z = s.heap := ⟨_, rfl⟩
  rw [← hH] at hP
  have hS : va_S A s.heap H [] := by rw [hH]; exact hS
  suffices hgo : G_X3_readPiece p l e s m below meth c G cA A bA ka ra pa L r0 K' R' P' H [] (F0 m 0 ls []) by rw [hH] at hgo; exact hgo
  generalize ([] : List Loc) = locs at hS ⊢
  unfold f_X3_readPiece at h
  refine lv_aload_n hx hb dX3_readPiece_0 rfl (lv_at hl 0 rfl) ?_
  refine va_get (D := G) (ci := 3) (v := .ref (pa 0)) (C := RX3) (T := TX3) (N := 10) hx hb hT ku_3 hown hK hP 3 rfl rfl 4 (by decide) (hT _ kw_3_4) (fun _ h9 => h9) rfl dX3_readPiece_1 ?_
  refine va_get (D := G) (ci := 2) (v := .int (P 0 2)) (C := RX2) (T := TX2) (N := 19) hx hb hT ku_2 hown hK hP 5 rfl rfl 2 (by decide) (hT _ kw_18_2) (fun _ h9 => h9) rfl dX3_readPiece_4 ?_
  refine lv_topi (fun y1 ey1 => ?_)
  have h := tx_let ey1 h
  refine lv_istore_n (lv' := [(1, .int y1), (0, .ref (ra 0))]) hx hb dX3_readPiece_7 rfl hl (by decide) rfl (fun ls hl => ?_)
  refine lv_aload_n hx hb dX3_readPiece_8 rfl (lv_at hl 1 rfl) ?_
  refine lv_iload_n hx hb dX3_readPiece_9 rfl (lv_at hl 0 rfl) ?_
  refine lv_bipush (v := 10) hx hb dX3_readPiece_10 (by decide) ?_
  refine lv_icmp_ge (tgt := 19) hx hb dX3_readPiece_12 (by decide) (fun c2 => ?_) (fun c2 => ?_)
  · have h := tx_pos c2 h
    refine lv_iconst (v := 0) hx hb dX3_readPiece_19 (by decide) ?_
    exact w_X3_readPiece_J20 F hB y1 0 K R P H locs ls h hP hD hS (lv_sub hl [1, 0] rfl)
  · have h := tx_neg c2 h
    refine lv_iconst (v := 1) hx hb dX3_readPiece_15 (by decide) ?_
    refine lv_goto (tgt := 20) hx hb dX3_readPiece_16 (by decide) ?_
    exact w_X3_readPiece_J20 F hB y1 1 K R P H locs ls h hP hD hS (lv_sub hl [1, 0] rfl)
abbrev G_X3_readPerson (p : Program) (l : Launch) (e : Env) (s : State) (m : MethodId) (below : List Frame) (meth : Method) (c : Code) (G : va_G) (cA : Nat → ClassId) (A : Nat → Prop) (bA : Nat) (ka : Nat → Nat) (ra : Nat → Nat) (pa : Nat → Nat) (L : Lo) (r0 : Int32) (K' : Tr) (R' : Tr) (P' : Tr) (H : Heap) (locs : List Loc) (g : JFrame) : Prop := W p l e (headSpec (.code yX3_readPerson cX3_readPerson 6 (some .boolean) :: T0) ({ frames := 4, cells := 0, slots := 0, locals := 88 } : Room)).room s m ([.ref (ra 0)] : List Value).toArray below meth c H locs 0 0 (MQ below (tqQi G cA (fun (r : Int32) (_ : Unit) => r = r0) (fun (_ : Unit) => wRP cA ka ra pa (K') (R') (P') L) A) ([.ref (ra 0)] : List Value).toArray s 0 0 A) g
set_option maxHeartbeats 4000000 in
set_option maxRecDepth 100000 in
theorem w_X3_readPerson_J145 {p : Program} {l : Launch} {e : Env} {s : State} {m : MethodId} {below : List Frame} {meth : Method} {c : Code} {G : va_G} {cA : Nat → ClassId} {A : Nat → Prop} {bA : Nat} {ka : Nat → Nat} {ra : Nat → Nat} {pa : Nat → Nat} {L : Lo} {r0 : Int32} {K' : Tr} {R' : Tr} {P' : Tr} (F : tF p s m ([.ref (ra 0)] : List Value).toArray meth c G cA A RX3 cX3_readPerson 6 (some .boolean)) (hB : tqB bA A s s.heap)    (x1 : Int32) (x2 : Int32) (x3 : Int32) (x4 : Int32) (s0 : Int32) (K : Tr) (R : Tr) (P : Tr) (H : Heap) (locs : List Loc) (ls : Array Slot) (h : fJ_X3_readPerson_J145 x1 x2 x3 x4 s0 K R P = some (r0, K', R', P')) (hP : va_P G vwCl (wRP cA ka ra pa K R P L) H) (hD : va_D A (wRP cA ka ra pa K R P L)) (hS : va_S A s.heap H locs) (hl : lv_has ls 6 [(5, .int s0), (0, .ref (ra 0)), (1, .int x1), (2, .int x2), (3, .int x3), (4, .int x4)]) : G_X3_readPerson p l e s m below meth c G cA A bA ka ra pa L r0 K' R' P' H locs (F0 m 145 ls []) := by
  obtain ⟨hx, hb, hr, hml, hT, hown, hlocks, hK, hN, hA⟩ := id F
  unfold fJ_X3_readPerson_J145 at h
  refine lv_istore (lv' := [(5, .int s0), (0, .ref (ra 0)), (1, .int x1), (2, .int x2), (3, .int x3), (4, .int x4)]) hx hb dX3_readPerson_145 hl (by decide) rfl (fun ls hl => ?_)
  refine lv_iload hx hb dX3_readPerson_147 (lv_at hl 0 rfl) ?_
  refine lv_if_ge (tgt := 154) hx hb dX3_readPerson_149 (by decide) (fun c47 => ?_) (fun c47 => ?_)
  · have h := tx_pos c47 h
    refine lv_aload_n hx hb dX3_readPerson_154 rfl (lv_at hl 1 rfl) ?_
    refine va_get (D := G) (ci := 3) (v := .ref (pa 0)) (C := RX3) (T := TX3) (N := 10) hx hb hT ku_3 hown hK hP 3 rfl rfl 4 (by decide) (hT _ kw_3_4) (fun _ h9 => h9) rfl dX3_readPerson_155 ?_
    refine va_get (D := G) (ci := 2) (v := .ref (pa 10)) (C := RX2) (T := TX2) (N := 19) hx hb hT ku_2 hown hK hP 5 rfl rfl 9 (by decide) (hT _ kw_17_14) (fun _ h9 => h9) rfl dX3_readPerson_158 ?_
    refine lv_iload_n hx hb dX3_readPerson_161 rfl (lv_at hl 2 rfl) ?_
    refine lv_iload_n hx hb dX3_readPerson_162 rfl (lv_at hl 3 rfl) ?_
    obtain ⟨g48, h⟩ := tx_ck h
    refine va_iast (i := x1) hx hb hK hP hD hS 8 0 rfl rfl (tx_in g48) dX3_readPerson_163 (fun H locs hP hD hS => ?_)
    obtain ⟨P_49, eP_49, h⟩ := tx_lt h
    rw [sRP_pa_a9, eP_49] at hP hD
    refine lv_aload_n hx hb dX3_readPerson_164 rfl (lv_at hl 1 rfl) ?_
    refine va_get (D := G) (ci := 3) (v := .ref (pa 0)) (C := RX3) (T := TX3) (N := 10) hx hb hT ku_3 hown hK hP 3 rfl rfl 4 (by decide) (hT _ kw_3_4) (fun _ h9 => h9) rfl dX3_readPerson_165 ?_
    refine va_get (D := G) (ci := 2) (v := .ref (pa 11)) (C := RX2) (T := TX2) (N := 19) hx hb hT ku_2 hown hK hP 5 rfl rfl 10 (by decide) (hT _ kw_17_15) (fun _ h9 => h9) rfl dX3_readPerson_168 ?_
    refine lv_iload_n hx hb dX3_readPerson_171 rfl (lv_at hl 2 rfl) ?_
    refine lv_iload_n hx hb dX3_readPerson_172 rfl (lv_at hl 4 rfl) ?_
    refine va_iast (i := x1) hx hb hK hP hD hS 9 0 rfl rfl (tx_in g48) dX3_readPerson_173 (fun H locs hP hD hS => ?_)
    obtain ⟨P_50, eP_50, h⟩ := tx_lt h
    rw [sRP_pa_a10, eP_50] at hP hD
    refine lv_aload_n hx hb dX3_readPerson_174 rfl (lv_at hl 1 rfl) ?_
    refine va_get (D := G) (ci := 3) (v := .ref (pa 0)) (C := RX3) (T := TX3) (N := 10) hx hb hT ku_3 hown hK hP 3 rfl rfl 4 (by decide) (hT _ kw_3_4) (fun _ h9 => h9) rfl dX3_readPerson_175 ?_
    refine va_get (D := G) (ci := 2) (v := .ref (pa 12)) (C := RX2) (T := TX2) (N := 19) hx hb hT ku_2 hown hK hP 5 rfl rfl 11 (by decide) (hT _ kw_17_16) (fun _ h9 => h9) rfl dX3_readPerson_178 ?_
    refine lv_iload_n hx hb dX3_readPerson_181 rfl (lv_at hl 2 rfl) ?_
    refine lv_iload hx hb dX3_readPerson_182 (lv_at hl 5 rfl) ?_
    refine va_iast (i := x1) hx hb hK hP hD hS 10 0 rfl rfl (tx_in g48) dX3_readPerson_184 (fun H locs hP hD hS => ?_)
    obtain ⟨P_51, eP_51, h⟩ := tx_lt h
    rw [sRP_pa_a11, eP_51] at hP hD
    refine lv_aload_n hx hb dX3_readPerson_185 rfl (lv_at hl 1 rfl) ?_
    refine va_get (D := G) (ci := 3) (v := .ref (pa 0)) (C := RX3) (T := TX3) (N := 10) hx hb hT ku_3 hown hK hP 3 rfl rfl 4 (by decide) (hT _ kw_3_4) (fun _ h9 => h9) rfl dX3_readPerson_186 ?_
    refine va_get (D := G) (ci := 2) (v := .ref (pa 13)) (C := RX2) (T := TX2) (N := 19) hx hb hT ku_2 hown hK hP 5 rfl rfl 12 (by decide) (hT _ kw_17_17) (fun _ h9 => h9) rfl dX3_readPerson_189 ?_
    refine lv_iload_n hx hb dX3_readPerson_192 rfl (lv_at hl 2 rfl) ?_
    refine lv_iload hx hb dX3_readPerson_193 (lv_at hl 0 rfl) ?_
    refine va_iast (i := x1) hx hb hK hP hD hS 11 0 rfl rfl (tx_in g48) dX3_readPerson_195 (fun H locs hP hD hS => ?_)
    obtain ⟨P_52, eP_52, h⟩ := tx_lt h
    rw [sRP_pa_a12, eP_52] at hP hD
    refine lv_aload_n hx hb dX3_readPerson_196 rfl (lv_at hl 1 rfl) ?_
    refine va_get (D := G) (ci := 3) (v := .ref (pa 0)) (C := RX3) (T := TX3) (N := 10) hx hb hT ku_3 hown hK hP 3 rfl rfl 4 (by decide) (hT _ kw_3_4) (fun _ h9 => h9) rfl dX3_readPerson_197 ?_
    refine lv_dup hx hb dX3_readPerson_200 rfl ?_
    refine va_get (D := G) (ci := 2) (v := .int (P_52 0 1)) (C := RX2) (T := TX2) (N := 19) hx hb hT ku_2 hown hK hP 5 rfl rfl 1 (by decide) (hT _ kw_17_13) (fun _ h9 => h9) rfl dX3_readPerson_201 ?_
    refine lv_iconst (v := 1) hx hb dX3_readPerson_204 (by decide) ?_
    refine lv_iadd hx hb dX3_readPerson_205 ?_
    refine va_put (D := G) (ci := 2) (v := .int ((P_52 0 1) + 1)) (ty := .int) (C := RX2) (T := TX2) (N := 19) hx hb hT ku_2 tyX2 tyX2_ok nmX2 hown hK hP hD hS 5 rfl rfl 1 (by decide) (hT _ kw_17_13) (fun _ h9 => h9) rfl (by decide +kernel) rfl rfl (Nat.le_of_ble_eq_true rfl) dX3_readPerson_206 (fun H locs hP hD hS => ?_)
    obtain ⟨P_53, eP_53, h⟩ := tx_lt h
    rw [sRP_pa_f1, eP_53] at hP hD
    refine lv_iconst (v := 1) hx hb dX3_readPerson_209 (by decide) ?_
    obtain ⟨rfl, rfl, rfl, rfl⟩ := tx_4 h
    exact W.zret (ty := .boolean) hx hb hr rfl (fun t ht hW => ⟨⟨_, (), rfl, rfl, by rw [ht]; exact hP, hD⟩, hS.F ht⟩) hS.2.2 dX3_readPerson_210
  · have h := tx_neg c47 h
    refine lv_iconst (v := 0) hx hb dX3_readPerson_152 (by decide) ?_
    obtain ⟨rfl, rfl, rfl, rfl⟩ := tx_4 h
    exact W.zret (ty := .boolean) hx hb hr rfl (fun t ht hW => ⟨⟨_, (), rfl, rfl, by rw [ht]; exact hP, hD⟩, hS.F ht⟩) hS.2.2 dX3_readPerson_153
set_option maxHeartbeats 4000000 in
set_option maxRecDepth 100000 in
theorem w_X3_readPerson_J127 {p : Program} {l : Launch} {e : Env} {s : State} {m : MethodId} {below : List Frame} {meth : Method} {c : Code} {G : va_G} {cA : Nat → ClassId} {A : Nat → Prop} {bA : Nat} {ka : Nat → Nat} {ra : Nat → Nat} {pa : Nat → Nat} {L : Lo} {r0 : Int32} {K' : Tr} {R' : Tr} {P' : Tr} (F : tF p s m ([.ref (ra 0)] : List Value).toArray meth c G cA A RX3 cX3_readPerson 6 (some .boolean)) (hB : tqB bA A s s.heap)    (x1 : Int32) (x2 : Int32) (x3 : Int32) (s0 : Int32) (K : Tr) (R : Tr) (P : Tr) (H : Heap) (locs : List Loc) (ls : Array Slot) (h : fJ_X3_readPerson_J127 x1 x2 x3 s0 K R P = some (r0, K', R', P')) (hP : va_P G vwCl (wRP cA ka ra pa K R P L) H) (hD : va_D A (wRP cA ka ra pa K R P L)) (hS : va_S A s.heap H locs) (hl : lv_has ls 6 [(4, .int s0), (0, .ref (ra 0)), (1, .int x1), (2, .int x2), (3, .int x3)]) : G_X3_readPerson p l e s m below meth c G cA A bA ka ra pa L r0 K' R' P' H locs (F0 m 127 ls []) := by
  obtain ⟨hx, hb, hr, hml, hT, hown, hlocks, hK, hN, hA⟩ := id F
  unfold fJ_X3_readPerson_J127 at h
  refine lv_istore (lv' := [(4, .int s0), (0, .ref (ra 0)), (1, .int x1), (2, .int x2), (3, .int x3)]) hx hb dX3_readPerson_127 hl (by decide) rfl (fun ls hl => ?_)
  refine lv_iload hx hb dX3_readPerson_129 (lv_at hl 0 rfl) ?_
  refine lv_if_ge (tgt := 138) hx hb dX3_readPerson_131 (by decide) (fun c41 => ?_) (fun c41 => ?_)
  · have h := tx_pos c41 h
    refine lv_aload_n hx hb dX3_readPerson_138 rfl (lv_at hl 1 rfl) ?_
    refine lv_iconst (v := 1) hx hb dX3_readPerson_139 (by decide) ?_
    refine lv_bipush (v := 99) hx hb dX3_readPerson_140 (by decide) ?_
    obtain ⟨⟨r42, K_43, R_44⟩, hc45, h⟩ := tx_bd h
    replace h := tx_let (y := r42) rfl h
    replace h := tx_let (y := K_43) rfl h
    replace h := tx_let (y := R_44) rfl h
    refine tw_ci tw_all hP hD hS hA (va_runV (As := [.int 1, .int 99]) (rest := []) ⟨hx, hb, hml, hown, hT⟩ (c_X3_takeNumber l G cA H.size bA ka ra pa K R P L (1 : Int32) (99 : Int32)  r42 K_43 R_44 hc45) (cwV 2 hT (tq_gV kw_17_4 kw_17_5 kw_17_6 kw_1_15 kw_17_7) rfl rfl rfl (by decide +kernel) ⟨Nat.le_of_ble_eq_true rfl, Nat.le_of_ble_eq_true rfl⟩) ⟨(tw_preB tw_all hP hD hK hN hS hA hB).1, va_recv hK hP (ci := 3) (q0 := 3) rfl rfl, (tw_preB tw_all hP hD hK hN hS hA hB).2⟩ rfl rfl hl.1 rfl (lv_room (Nat.le_of_ble_eq_true rfl)) dX3_readPerson_142 ⟨Nat.le_of_ble_eq_true rfl, Nat.le_of_ble_eq_true rfl⟩) (fun _ _ H locs z46 hP hD hS => ?_)
    subst z46
    rw [List.append_nil] at hP hD
    have hP : va_P G vwCl (wRP cA ka ra pa K_43 R_44 P L) H := hP
    have hD : va_D A (wRP cA ka ra pa K_43 R_44 P L) := hD
    exact w_X3_readPerson_J145 F hB x1 x2 x3 s0 r42 K_43 R_44 P H locs ls h hP hD hS (lv_sub hl [1, 2, 3, 4, 0] rfl)
  · have h := tx_neg c41 h
    refine lv_iconst (v := (-1)) hx hb dX3_readPerson_134 (by decide) ?_
    refine lv_goto (tgt := 145) hx hb dX3_readPerson_135 (by decide) ?_
    exact w_X3_readPerson_J145 F hB x1 x2 x3 s0 (-1) K R P H locs ls h hP hD hS (lv_sub hl [1, 2, 3, 4, 0] rfl)
set_option maxHeartbeats 4000000 in
set_option maxRecDepth 100000 in
theorem w_X3_readPerson_J86 {p : Program} {l : Launch} {e : Env} {s : State} {m : MethodId} {below : List Frame} {meth : Method} {c : Code} {G : va_G} {cA : Nat → ClassId} {A : Nat → Prop} {bA : Nat} {ka : Nat → Nat} {ra : Nat → Nat} {pa : Nat → Nat} {L : Lo} {r0 : Int32} {K' : Tr} {R' : Tr} {P' : Tr} (F : tF p s m ([.ref (ra 0)] : List Value).toArray meth c G cA A RX3 cX3_readPerson 6 (some .boolean)) (hB : tqB bA A s s.heap)    (x1 : Int32) (x2 : Int32) (s0 : Int32) (K : Tr) (R : Tr) (P : Tr) (H : Heap) (locs : List Loc) (ls : Array Slot) (h : fJ_X3_readPerson_J86 x1 x2 s0 K R P = some (r0, K', R', P')) (hP : va_P G vwCl (wRP cA ka ra pa K R_23 P L) H) (hD : va_D A (wRP cA ka ra pa K R_23 P L)) (hS : va_S A s.heap H locs) (hl : lv_has ls 6 [(0, .ref (ra 0)), (1, .int x1), (2, .int x2)]) : G_X3_readPerson p l e s m below meth c G cA A bA ka ra pa L r0 K' R' P' H locs (F0 m 86 ls []) := by
  obtain ⟨hx, hb, hr, hml, hT, hown, hlocks, hK, hN, hA⟩ := id F
  unfold fJ_X3_readPerson_J86 at h
  refine lv_iconst (v := 3) hx hb dX3_readPerson_86 (by decide) ?_
  obtain ⟨⟨r22, R_23⟩, hc24, h⟩ := tx_bd h
  replace h := tx_let (y := r22) rfl h
  replace h := tx_let (y := R_23) rfl h
  refine tw_ci tw_all hP hD hS hA (va_runV (As := [.int s0, .int 3]) (rest := []) ⟨hx, hb, hml, hown, hT⟩ (c_X3_expect l G cA H.size bA ka ra pa K R P L s0 (3 : Int32)  r22 R_23 hc24) (cwV 2 hT (tq_gV kw_16_18 kw_16_19 kw_16_20 kw_1_15 kw_16_21) rfl rfl rfl (by decide +kernel) ⟨Nat.le_of_ble_eq_true rfl, Nat.le_of_ble_eq_true rfl⟩) ⟨(tw_preB tw_all hP hD hK hN hS hA hB).1, va_recv hK hP (ci := 3) (q0 := 3) rfl rfl, (tw_preB tw_all hP hD hK hN hS hA hB).2⟩ rfl rfl hl.1 rfl (lv_room (Nat.le_of_ble_eq_true rfl)) dX3_readPerson_87 ⟨Nat.le_of_ble_eq_true rfl, Nat.le_of_ble_eq_true rfl⟩) (fun _ _ H locs z25 hP hD hS => ?_)
  subst z25
  rw [List.append_nil] at hP hD
  have hP : va_P G vwCl (wRP cA ka ra pa K R_23 P L) H := hP
  have hD : va_D A (wRP cA ka ra pa K R_23 P L) := hD
  refine lv_if_ne (tgt := 95) hx hb dX3_readPerson_90 (by decide) (fun c26 => ?_) (fun c26 => ?_)
  · have h := tx_neg c26 h
    refine lv_aload_n hx hb dX3_readPerson_95 rfl (lv_at hl 0 rfl) ?_
    refine va_get (D := G) (ci := 3) (v := .ref (ka 0)) (C := RX3) (T := TX3) (N := 10) hx hb hT ku_3 hown hK hP 3 rfl rfl 0 (by decide) (hT _ kw_2_23) (fun _ h9 => h9) rfl dX3_readPerson_96 ?_
    obtain ⟨K_27, hc28, h⟩ := tx_bd h
    refine tw_cv tw_all hP hD hS hA (va_runV (As := []) (rest := []) ⟨hx, hb, hml, hown, hT⟩ (c_X5_advance l G cA H.size bA ka ra pa K R_23 P L  K_27 hc28) (cwV 0 hT (tq_gV kw_16_23 kw_15_0 kw_15_1 kw_2_22 kw_15_2) rfl rfl rfl (by decide +kernel) ⟨Nat.le_of_ble_eq_true rfl, Nat.le_of_ble_eq_true rfl⟩) ⟨(tw_preB tw_all hP hD hK hN hS hA hB).1, va_recv hK hP (ci := 5) (q0 := 0) rfl rfl, (tw_preB tw_all hP hD hK hN hS hA hB).2⟩ rfl rfl hl.1 rfl (lv_room (Nat.le_of_ble_eq_true rfl)) dX3_readPerson_99 ⟨Nat.le_of_ble_eq_true rfl, Nat.le_of_ble_eq_true rfl⟩) (fun _ H locs z29 hP hD hS => ?_)
    rw [List.append_nil] at hP hD
    have hP : va_P G vwCl (wRP cA ka ra pa K_27 R_23 P L) H := hP
    have hD : va_D A (wRP cA ka ra pa K_27 R_23 P L) := hD
    refine lv_aload_n hx hb dX3_readPerson_102 rfl (lv_at hl 0 rfl) ?_
    refine lv_iconst (v := 0) hx hb dX3_readPerson_103 (by decide) ?_
    refine lv_bipush (v := 19) hx hb dX3_readPerson_104 (by decide) ?_
    obtain ⟨⟨r30, K_31, R_32⟩, hc33, h⟩ := tx_bd h
    replace h := tx_let (y := r30) rfl h
    replace h := tx_let (y := K_31) rfl h
    replace h := tx_let (y := R_32) rfl h
    refine tw_ci tw_all hP hD hS hA (va_runV (As := [.int 0, .int 19]) (rest := []) ⟨hx, hb, hml, hown, hT⟩ (c_X3_takeNumber l G cA H.size bA ka ra pa K_27 R_23 P L (0 : Int32) (19 : Int32)  r30 K_31 R_32 hc33) (cwV 2 hT (tq_gV kw_17_4 kw_17_5 kw_17_6 kw_1_15 kw_17_7) rfl rfl rfl (by decide +kernel) ⟨Nat.le_of_ble_eq_true rfl, Nat.le_of_ble_eq_true rfl⟩) ⟨(tw_preB tw_all hP hD hK hN hS hA hB).1, va_recv hK hP (ci := 3) (q0 := 3) rfl rfl, (tw_preB tw_all hP hD hK hN hS hA hB).2⟩ rfl rfl hl.1 rfl (lv_room (Nat.le_of_ble_eq_true rfl)) dX3_readPerson_106 ⟨Nat.le_of_ble_eq_true rfl, Nat.le_of_ble_eq_true rfl⟩) (fun _ _ H locs z34 hP hD hS => ?_)
    subst z34
    rw [List.append_nil] at hP hD
    have hP : va_P G vwCl (wRP cA ka ra pa K_31 R_32 P L) H := hP
    have hD : va_D A (wRP cA ka ra pa K_31 R_32 P L) := hD
    refine lv_istore_n (lv' := [(3, .int r30), (0, .ref (ra 0)), (1, .int x1), (2, .int x2)]) hx hb dX3_readPerson_109 rfl hl (by decide) rfl (fun ls hl => ?_)
    refine lv_iload_n hx hb dX3_readPerson_110 rfl (lv_at hl 0 rfl) ?_
    refine lv_if_ge (tgt := 118) hx hb dX3_readPerson_111 (by decide) (fun c35 => ?_) (fun c35 => ?_)
    · have h := tx_pos c35 h
      refine lv_aload_n hx hb dX3_readPerson_118 rfl (lv_at hl 1 rfl) ?_
      refine lv_iload_n hx hb dX3_readPerson_119 rfl (lv_at hl 0 rfl) ?_
      refine lv_iconst (v := 1) hx hb dX3_readPerson_120 (by decide) ?_
      refine lv_iadd hx hb dX3_readPerson_121 ?_
      refine lv_bipush (v := 20) hx hb dX3_readPerson_122 (by decide) ?_
      obtain ⟨⟨r36, K_37, R_38⟩, hc39, h⟩ := tx_bd h
      replace h := tx_let (y := r36) rfl h
      replace h := tx_let (y := K_37) rfl h
      replace h := tx_let (y := R_38) rfl h
      refine tw_ci tw_all hP hD hS hA (va_runV (As := [.int (r30 + 1), .int 20]) (rest := []) ⟨hx, hb, hml, hown, hT⟩ (c_X3_takeNumber l G cA H.size bA ka ra pa K_31 R_32 P L (r30 + 1) (20 : Int32)  r36 K_37 R_38 hc39) (cwV 2 hT (tq_gV kw_17_4 kw_17_5 kw_17_6 kw_1_15 kw_17_7) rfl rfl rfl (by decide +kernel) ⟨Nat.le_of_ble_eq_true rfl, Nat.le_of_ble_eq_true rfl⟩) ⟨(tw_preB tw_all hP hD hK hN hS hA hB).1, va_recv hK hP (ci := 3) (q0 := 3) rfl rfl, (tw_preB tw_all hP hD hK hN hS hA hB).2⟩ rfl rfl hl.1 rfl (lv_room (Nat.le_of_ble_eq_true rfl)) dX3_readPerson_124 ⟨Nat.le_of_ble_eq_true rfl, Nat.le_of_ble_eq_true rfl⟩) (fun _ _ H locs z40 hP hD hS => ?_)
      subst z40
      rw [List.append_nil] at hP hD
      have hP : va_P G vwCl (wRP cA ka ra pa K_37 R_38 P L) H := hP
      have hD : va_D A (wRP cA ka ra pa K_37 R_38 P L) := hD
      exact w_X3_readPerson_J127 F hB x1 x2 r30 r36 K_37 R_38 P H locs ls h hP hD hS (lv_sub hl [1, 2, 3, 0] rfl)
    · have h := tx_neg c35 h
      refine lv_iconst (v := (-1)) hx hb dX3_readPerson_114 (by decide) ?_
      refine lv_goto (tgt := 127) hx hb dX3_readPerson_115 (by decide) ?_
      exact w_X3_readPerson_J127 F hB x1 x2 r30 (-1) K_31 R_32 P H locs ls h hP hD hS (lv_sub hl [1, 2, 3, 0] rfl)
  · have h := tx_pos c26 h
    refine lv_iconst (v := 0) hx hb dX3_readPerson_93 (by decide) ?_
    obtain ⟨rfl, rfl, rfl, rfl⟩ := tx_4 h
    exact W.zret (ty := .boolean) hx hb hr rfl (fun t ht hW => ⟨⟨_, (), rfl, rfl, by rw [ht]; exact hP, hD⟩, hS.F ht⟩) hS.2.2 dX3_readPerson_94
set_option maxHeartbeats 4000000 in
set_option maxRecDepth 100000 in
theorem w_X3_readPerson_J62 {p : Program} {l : Launch} {e : Env} {s : State} {m : MethodId} {below : List Frame} {meth : Method} {c : Code} {G : va_G} {cA : Nat → ClassId} {A : Nat → Prop} {bA : Nat} {ka : Nat → Nat} {ra : Nat → Nat} {pa : Nat → Nat} {L : Lo} {r0 : Int32} {K' : Tr} {R' : Tr} {P' : Tr} (F : tF p s m ([.ref (ra 0)] : List Value).toArray meth c G cA A RX3 cX3_readPerson 6 (some .boolean)) (hB : tqB bA A s s.heap)    (x1 : Int32) (x2 : Int32) (s0 : Int32) (K : Tr) (R : Tr) (P : Tr) (H : Heap) (locs : List Loc) (ls : Array Slot) (h : fJ_X3_readPerson_J62 x1 x2 s0 K R P = some (r0, K', R', P')) (hP : va_P G vwCl (wRP cA ka ra pa K R_14 P L) H) (hD : va_D A (wRP cA ka ra pa K R_14 P L)) (hS : va_S A s.heap H locs) (hl : lv_has ls 6 [(0, .ref (ra 0)), (1, .int x1), (2, .int x2)]) : G_X3_readPerson p l e s m below meth c G cA A bA ka ra pa L r0 K' R' P' H locs (F0 m 62 ls []) := by
  obtain ⟨hx, hb, hr, hml, hT, hown, hlocks, hK, hN, hA⟩ := id F
  unfold fJ_X3_readPerson_J62 at h
  refine lv_iconst (v := 1) hx hb dX3_readPerson_62 (by decide) ?_
  obtain ⟨⟨r13, R_14⟩, hc15, h⟩ := tx_bd h
  replace h := tx_let (y := r13) rfl h
  replace h := tx_let (y := R_14) rfl h
  refine tw_ci tw_all hP hD hS hA (va_runV (As := [.int s0, .int 1]) (rest := []) ⟨hx, hb, hml, hown, hT⟩ (c_X3_expect l G cA H.size bA ka ra pa K R P L s0 (1 : Int32)  r13 R_14 hc15) (cwV 2 hT (tq_gV kw_16_18 kw_16_19 kw_16_20 kw_1_15 kw_16_21) rfl rfl rfl (by decide +kernel) ⟨Nat.le_of_ble_eq_true rfl, Nat.le_of_ble_eq_true rfl⟩) ⟨(tw_preB tw_all hP hD hK hN hS hA hB).1, va_recv hK hP (ci := 3) (q0 := 3) rfl rfl, (tw_preB tw_all hP hD hK hN hS hA hB).2⟩ rfl rfl hl.1 rfl (lv_room (Nat.le_of_ble_eq_true rfl)) dX3_readPerson_63 ⟨Nat.le_of_ble_eq_true rfl, Nat.le_of_ble_eq_true rfl⟩) (fun _ _ H locs z16 hP hD hS => ?_)
  subst z16
  rw [List.append_nil] at hP hD
  have hP : va_P G vwCl (wRP cA ka ra pa K R_14 P L) H := hP
  have hD : va_D A (wRP cA ka ra pa K R_14 P L) := hD
  refine lv_if_eq (tgt := 93) hx hb dX3_readPerson_66 (by decide) (fun c17 => ?_) (fun c17 => ?_)
  · have h := tx_pos c17 h
    refine lv_iconst (v := 0) hx hb dX3_readPerson_93 (by decide) ?_
    obtain ⟨rfl, rfl, rfl, rfl⟩ := tx_4 h
    exact W.zret (ty := .boolean) hx hb hr rfl (fun t ht hW => ⟨⟨_, (), rfl, rfl, by rw [ht]; exact hP, hD⟩, hS.F ht⟩) hS.2.2 dX3_readPerson_94
  · have h := tx_neg c17 h
    refine lv_aload_n hx hb dX3_readPerson_69 rfl (lv_at hl 0 rfl) ?_
    refine lv_aload_n hx hb dX3_readPerson_70 rfl (lv_at hl 0 rfl) ?_
    refine va_get (D := G) (ci := 3) (v := .ref (pa 0)) (C := RX3) (T := TX3) (N := 10) hx hb hT ku_3 hown hK hP 3 rfl rfl 4 (by decide) (hT _ kw_3_4) (fun _ h9 => h9) rfl dX3_readPerson_71 ?_
    refine lv_iload_n hx hb dX3_readPerson_74 rfl (lv_at hl 2 rfl) ?_
    obtain ⟨r18, hc19, h⟩ := tx_bd h
    refine tw_ci tw_all hP hD hS hA (va_runV (As := [.int x2]) (rest := [.ref (ra 0)]) ⟨hx, hb, hml, hown, hT⟩ (c_X2_personNamed l G cA H.size bA ka ra pa K R_14 P L x2  r18 hc19) (cwV 1 hT (tq_gV kw_17_18 kw_17_19 kw_17_20 kw_1_19 kw_17_21) rfl rfl rfl (by decide +kernel) ⟨Nat.le_of_ble_eq_true rfl, Nat.le_of_ble_eq_true rfl⟩) ⟨(tw_preB tw_all hP hD hK hN hS hA hB).1, va_recv hK hP (ci := 2) (q0 := 5) rfl rfl, (tw_preB tw_all hP hD hK hN hS hA hB).2⟩ rfl rfl hl.1 rfl (lv_room (Nat.le_of_ble_eq_true rfl)) dX3_readPerson_75 ⟨Nat.le_of_ble_eq_true rfl, Nat.le_of_ble_eq_true rfl⟩) (fun _ _ H locs z20 hP hD hS => ?_)
    subst z20
    rw [List.append_nil] at hP hD
    have hP : va_P G vwCl (wRP cA ka ra pa K R_14 P L) H := hP
    have hD : va_D A (wRP cA ka ra pa K R_14 P L) := hD
    refine lv_if_ge (tgt := 85) hx hb dX3_readPerson_78 (by decide) (fun c21 => ?_) (fun c21 => ?_)
    · have h := tx_pos c21 h
      refine lv_iconst (v := 0) hx hb dX3_readPerson_85 (by decide) ?_
      exact w_X3_readPerson_J86 F hB x1 x2 0 K R_14 P H locs ls h hP hD hS (lv_sub hl [0, 1, 2] rfl)
    · have h := tx_neg c21 h
      refine lv_iconst (v := 1) hx hb dX3_readPerson_81 (by decide) ?_
      refine lv_goto (tgt := 86) hx hb dX3_readPerson_82 (by decide) ?_
      exact w_X3_readPerson_J86 F hB x1 x2 1 K R_14 P H locs ls h hP hD hS (lv_sub hl [0, 1, 2] rfl)
set_option maxHeartbeats 4000000 in
set_option maxRecDepth 100000 in
theorem w_X3_readPerson_J20 {p : Program} {l : Launch} {e : Env} {s : State} {m : MethodId} {below : List Frame} {meth : Method} {c : Code} {G : va_G} {cA : Nat → ClassId} {A : Nat → Prop} {bA : Nat} {ka : Nat → Nat} {ra : Nat → Nat} {pa : Nat → Nat} {L : Lo} {r0 : Int32} {K' : Tr} {R' : Tr} {P' : Tr} (F : tF p s m ([.ref (ra 0)] : List Value).toArray meth c G cA A RX3 cX3_readPerson 6 (some .boolean)) (hB : tqB bA A s s.heap)    (x1 : Int32) (s0 : Int32) (K : Tr) (R : Tr) (P : Tr) (H : Heap) (locs : List Loc) (ls : Array Slot) (h : fJ_X3_readPerson_J20 x1 s0 K R P = some (r0, K', R', P')) (hP : va_P G vwCl (wRP cA ka ra pa K R_4 P L) H) (hD : va_D A (wRP cA ka ra pa K R_4 P L)) (hS : va_S A s.heap H locs) (hl : lv_has ls 6 [(0, .ref (ra 0)), (1, .int x1)]) : G_X3_readPerson p l e s m below meth c G cA A bA ka ra pa L r0 K' R' P' H locs (F0 m 20 ls []) := by
  obtain ⟨hx, hb, hr, hml, hT, hown, hlocks, hK, hN, hA⟩ := id F
  unfold fJ_X3_readPerson_J20 at h
  refine lv_iconst (v := 2) hx hb dX3_readPerson_20 (by decide) ?_
  obtain ⟨⟨r3, R_4⟩, hc5, h⟩ := tx_bd h
  replace h := tx_let (y := r3) rfl h
  replace h := tx_let (y := R_4) rfl h
  refine tw_ci tw_all hP hD hS hA (va_runV (As := [.int s0, .int 2]) (rest := []) ⟨hx, hb, hml, hown, hT⟩ (c_X3_expect l G cA H.size bA ka ra pa K R P L s0 (2 : Int32)  r3 R_4 hc5) (cwV 2 hT (tq_gV kw_16_18 kw_16_19 kw_16_20 kw_1_15 kw_16_21) rfl rfl rfl (by decide +kernel) ⟨Nat.le_of_ble_eq_true rfl, Nat.le_of_ble_eq_true rfl⟩) ⟨(tw_preB tw_all hP hD hK hN hS hA hB).1, va_recv hK hP (ci := 3) (q0 := 3) rfl rfl, (tw_preB tw_all hP hD hK hN hS hA hB).2⟩ rfl rfl hl.1 rfl (lv_room (Nat.le_of_ble_eq_true rfl)) dX3_readPerson_21 ⟨Nat.le_of_ble_eq_true rfl, Nat.le_of_ble_eq_true rfl⟩) (fun _ _ H locs z6 hP hD hS => ?_)
  subst z6
  rw [List.append_nil] at hP hD
  have hP : va_P G vwCl (wRP cA ka ra pa K R_4 P L) H := hP
  have hD : va_D A (wRP cA ka ra pa K R_4 P L) := hD
  refine lv_if_ne (tgt := 29) hx hb dX3_readPerson_24 (by decide) (fun c7 => ?_) (fun c7 => ?_)
  · have h := tx_neg c7 h
    refine lv_aload_n hx hb dX3_readPerson_29 rfl (lv_at hl 0 rfl) ?_
    refine va_get (D := G) (ci := 3) (v := .ref (ka 0)) (C := RX3) (T := TX3) (N := 10) hx hb hT ku_3 hown hK hP 3 rfl rfl 0 (by decide) (hT _ kw_2_23) (fun _ h9 => h9) rfl dX3_readPerson_30 ?_
    obtain ⟨K_8, hc9, h⟩ := tx_bd h
    refine tw_cv tw_all hP hD hS hA (va_runV (As := []) (rest := []) ⟨hx, hb, hml, hown, hT⟩ (c_X5_advance l G cA H.size bA ka ra pa K R_4 P L  K_8 hc9) (cwV 0 hT (tq_gV kw_16_23 kw_15_0 kw_15_1 kw_2_22 kw_15_2) rfl rfl rfl (by decide +kernel) ⟨Nat.le_of_ble_eq_true rfl, Nat.le_of_ble_eq_true rfl⟩) ⟨(tw_preB tw_all hP hD hK hN hS hA hB).1, va_recv hK hP (ci := 5) (q0 := 0) rfl rfl, (tw_preB tw_all hP hD hK hN hS hA hB).2⟩ rfl rfl hl.1 rfl (lv_room (Nat.le_of_ble_eq_true rfl)) dX3_readPerson_33 ⟨Nat.le_of_ble_eq_true rfl, Nat.le_of_ble_eq_true rfl⟩) (fun _ H locs z10 hP hD hS => ?_)
    rw [List.append_nil] at hP hD
    have hP : va_P G vwCl (wRP cA ka ra pa K_8 R_4 P L) H := hP
    have hD : va_D A (wRP cA ka ra pa K_8 R_4 P L) := hD
    refine lv_aload_n hx hb dX3_readPerson_36 rfl (lv_at hl 0 rfl) ?_
    refine va_get (D := G) (ci := 3) (v := .ref (ka 0)) (C := RX3) (T := TX3) (N := 10) hx hb hT ku_3 hown hK hP 3 rfl rfl 0 (by decide) (hT _ kw_2_23) (fun _ h9 => h9) rfl dX3_readPerson_37 ?_
    refine va_get (D := G) (ci := 5) (v := .int (K_8 0 3)) (C := RX5) (T := TX5) (N := 8) hx hb hT ku_5 hown hK hP 0 rfl rfl 3 (by decide) (hT _ kw_17_8) (fun _ h9 => h9) rfl dX3_readPerson_40 ?_
    refine lv_topi (fun y11 ey11 => ?_)
    have h := tx_let ey11 h
    refine lv_istore_n (lv' := [(2, .int y11), (0, .ref (ra 0)), (1, .int x1)]) hx hb dX3_readPerson_43 rfl hl (by decide) rfl (fun ls hl => ?_)
    refine lv_aload_n hx hb dX3_readPerson_44 rfl (lv_at hl 1 rfl) ?_
    refine lv_aload_n hx hb dX3_readPerson_45 rfl (lv_at hl 1 rfl) ?_
    refine va_get (D := G) (ci := 3) (v := .ref (ka 0)) (C := RX3) (T := TX3) (N := 10) hx hb hT ku_3 hown hK hP 3 rfl rfl 0 (by decide) (hT _ kw_2_23) (fun _ h9 => h9) rfl dX3_readPerson_46 ?_
    refine va_get (D := G) (ci := 5) (v := .int (K_8 0 1)) (C := RX5) (T := TX5) (N := 8) hx hb hT ku_5 hown hK hP 0 rfl rfl 1 (by decide) (hT _ kw_14_15) (fun _ h9 => h9) rfl dX3_readPerson_49 ?_
    refine lv_bipush (v := 43) hx hb dX3_readPerson_52 (by decide) ?_
    refine lv_icmp_ne (tgt := 61) hx hb dX3_readPerson_54 (by decide) (fun c12 => ?_) (fun c12 => ?_)
    · have h := tx_neg c12 h
      refine lv_iconst (v := 0) hx hb dX3_readPerson_61 (by decide) ?_
      exact w_X3_readPerson_J62 F hB x1 y11 0 K_8 R_4 P H locs ls h hP hD hS (lv_sub hl [1, 2, 0] rfl)
    · have h := tx_pos c12 h
      refine lv_iconst (v := 1) hx hb dX3_readPerson_57 (by decide) ?_
      refine lv_goto (tgt := 62) hx hb dX3_readPerson_58 (by decide) ?_
      exact w_X3_readPerson_J62 F hB x1 y11 1 K_8 R_4 P H locs ls h hP hD hS (lv_sub hl [1, 2, 0] rfl)
  · have h := tx_pos c7 h
    refine lv_iconst (v := 0) hx hb dX3_readPerson_27 (by decide) ?_
    obtain ⟨rfl, rfl, rfl, rfl⟩ := tx_4 h
    exact W.zret (ty := .boolean) hx hb hr rfl (fun t ht hW => ⟨⟨_, (), rfl, rfl, by rw [ht]; exact hP, hD⟩, hS.F ht⟩) hS.2.2 dX3_readPerson_28
set_option maxHeartbeats 4000000 in
set_option maxRecDepth 100000 in
theorem c_X3_readPerson (l : Launch) (G : va_G) (cA : Nat → ClassId) (sz : Nat) (bA : Nat) (ka : Nat → Nat) (ra : Nat → Nat) (pa : Nat → Nat) (K : Tr) (R : Tr) (P : Tr) (L : Lo)  (r0 : Int32) (K' : Tr) (R' : Tr) (P' : Tr) (h : f_X3_readPerson K R P = some (r0, K', R', P')) : Met l yX3_readPerson (.code yX3_readPerson cX3_readPerson 6 (some .boolean) :: T0) ({ frames := 4, cells := 0, slots := 0, locals := 88 } : Room) (tqPB bA G cA [.ref (ra 0)] (wRP cA ka ra pa K R P L) sz) (tqQi G cA (fun (r : Int32) (_ : Unit) => r = r0) (fun (_ : Unit) => wRP cA ka ra pa (K') (R') (P') L) (va_A (wRP cA ka ra pa K R P L) sz)) 0 0 (va_A (wRP cA ka ra pa K R P L) sz) := by
  refine Met.ofW (cc := cX3_readPerson) (maxL := 6) (ret := (some .boolean)) (by decide) rfl ?_
  intro p e s m args below meth c s₁ B hml hv
  obtain ⟨rfl, hsz, hP, hK, hD0, hN, hB⟩ := hv
  have hx := B.exec
  have hb := B.bytes
  have hr := B.returns
  have hts := atoms_spec (ws := .code yX3_readPerson cX3_readPerson 6 (some .boolean) :: T0) B.pre
  have hT : ∀ w ∈ T0, w.before _ s = true := fun w h => hts w (List.mem_cons_of_mem _ h)
  have hown : s.vm.findClass RX3 = some m.cls := findClass_of_methodNamed B.named
  have hlocks := B.notSynchronized
  subst hsz
  have hD := hD0.self (sz := s.heap.size)
  generalize hAe : va_A (wRP cA ka ra pa K R P L) s.heap.size = A at hD hB ⊢
  have hA : ∀ q : Nat, s.heap.size ≤ q → A q := fun q h => by rw [← hAe]; exact Or.inr h
  have hS : va_S A s.heap s.heap [] := va_S.rf
  have hl := lv_entry ([.ref (ra 0)]) (n := 6) (Nat.le_of_ble_eq_true rfl)
  rw [lg_entry_eq]
  generalize (lg_sl ([.ref (ra 0)]) ++ List.replicate (6 - (lg_sl ([.ref (ra 0)])).length) Slot.unset).toArray = ls at hl ⊢
  have hl : lv_has ls 6 [(0, .ref (ra 0))] := hl
  have F : tF p s m ([.ref (ra 0)] : List Value).toArray meth c G cA A RX3 cX3_readPerson 6 (some .boolean) := ⟨hx, hb, hr, hml, hT, hown, hlocks, hK, hN, hA⟩
  obtain ⟨H, hH⟩ : ∃ z, z = s.heap := ⟨_, rfl⟩
  rw [← hH] at hP
  have hS : va_S A s.heap H [] := by rw [hH]; exact hS
  suffices hgo : G_X3_readPerson p l e s m below meth c G cA A bA ka ra pa L r0 K' R' P' H [] (F0 m 0 ls []) by rw [hH] at hgo; exact hgo
  generalize ([] : List Loc) = locs at hS ⊢
  unfold f_X3_readPerson at h
  refine lv_aload_n hx hb dX3_readPerson_0 rfl (lv_at hl 0 rfl) ?_
  refine va_get (D := G) (ci := 3) (v := .ref (pa 0)) (C := RX3) (T := TX3) (N := 10) hx hb hT ku_3 hown hK hP 3 rfl rfl 4 (by decide) (hT _ kw_3_4) (fun _ h9 => h9) rfl dX3_readPerson_1 ?_
  refine va_get (D := G) (ci := 2) (v := .int (P 0 1)) (C := RX2) (T := TX2) (N := 19) hx hb hT ku_2 hown hK hP 5 rfl rfl 1 (by decide) (hT _ kw_17_13) (fun _ h9 => h9) rfl dX3_readPerson_4 ?_
  refine lv_topi (fun y1 ey1 => ?_)
  have h := tx_let ey1 h
  refine lv_istore_n (lv' := [(1, .int y1), (0, .ref (ra 0))]) hx hb dX3_readPerson_7 rfl hl (by decide) rfl (fun ls hl => ?_)
  refine lv_aload_n hx hb dX3_readPerson_8 rfl (lv_at hl 1 rfl) ?_
  refine lv_iload_n hx hb dX3_readPerson_9 rfl (lv_at hl 0 rfl) ?_
  refine lv_bipush (v := 6) hx hb dX3_readPerson_10 (by decide) ?_
  refine lv_icmp_ge (tgt := 19) hx hb dX3_readPerson_12 (by decide) (fun c2 => ?_) (fun c2 => ?_)
  · have h := tx_pos c2 h
    refine lv_iconst (v := 0) hx hb dX3_readPerson_19 (by decide) ?_
    exact w_X3_readPerson_J20 F hB y1 0 K R P H locs ls h hP hD hS (lv_sub hl [1, 0] rfl)
  · have h := tx_neg c2 h
    refine lv_iconst (v := 1) hx hb dX3_readPerson_15 (by decide) ?_
    refine lv_goto (tgt := 20) hx hb dX3_readPerson_16 (by decide) ?_
    exact w_X3_readPerson_J20 F hB y1 1 K R P H locs ls h hP hD hS (lv_sub hl [1, 0] rfl)
abbrev G_X3_readPlace (p : Program) (l : Launch) (e : Env) (s : State) (m : MethodId) (below : List Frame) (meth : Method) (c : Code) (G : va_G) (cA : Nat → ClassId) (A : Nat → Prop) (bA : Nat) (ka : Nat → Nat) (ra : Nat → Nat) (pa : Nat → Nat) (L : Lo) (r0 : Int32) (K' : Tr) (R' : Tr) (P' : Tr) (H : Heap) (locs : List Loc) (g : JFrame) : Prop := W p l e (headSpec (.code yX3_readPlace cX3_readPlace 4 (some .boolean) :: T0) ({ frames := 4, cells := 0, slots := 0, locals := 88 } : Room)).room s m ([.ref (ra 0)] : List Value).toArray below meth c H locs 0 0 (MQ below (tqQi G cA (fun (r : Int32) (_ : Unit) => r = r0) (fun (_ : Unit) => wRP cA ka ra pa (K') (R') (P') L) A) ([.ref (ra 0)] : List Value).toArray s 0 0 A) g
set_option maxHeartbeats 4000000 in
set_option maxRecDepth 100000 in
theorem w_X3_readPlace_J60 {p : Program} {l : Launch} {e : Env} {s : State} {m : MethodId} {below : List Frame} {meth : Method} {c : Code} {G : va_G} {cA : Nat → ClassId} {A : Nat → Prop} {bA : Nat} {ka : Nat → Nat} {ra : Nat → Nat} {pa : Nat → Nat} {L : Lo} {r0 : Int32} {K' : Tr} {R' : Tr} {P' : Tr} (F : tF p s m ([.ref (ra 0)] : List Value).toArray meth c G cA A RX3 cX3_readPlace 4 (some .boolean)) (hB : tqB bA A s s.heap)    (x1 : Int32) (x2 : Int32) (s0 : Int32) (K : Tr) (R : Tr) (P : Tr) (H : Heap) (locs : List Loc) (ls : Array Slot) (h : fJ_X3_readPlace_J60 x1 x2 s0 K R P = some (r0, K', R', P')) (hP : va_P G vwCl (wRP cA ka ra pa K R P L) H) (hD : va_D A (wRP cA ka ra pa K R P L)) (hS : va_S A s.heap H locs) (hl : lv_has ls 4 [(3, .int s0), (0, .ref (ra 0)), (1, .int x1), (2, .int x2)]) : G_X3_readPlace p l e s m below meth c G cA A bA ka ra pa L r0 K' R' P' H locs (F0 m 60 ls []) := by
  obtain ⟨hx, hb, hr, hml, hT, hown, hlocks, hK, hN, hA⟩ := id F
  unfold fJ_X3_readPlace_J60 at h
  refine lv_istore_n (lv' := [(3, .int s0), (0, .ref (ra 0)), (1, .int x1), (2, .int x2)]) hx hb dX3_readPlace_60 rfl hl (by decide) rfl (fun ls hl => ?_)
  refine lv_iload_n hx hb dX3_readPlace_61 rfl (lv_at hl 0 rfl) ?_
  refine lv_if_ge (tgt := 67) hx hb dX3_readPlace_62 (by decide) (fun c22 => ?_) (fun c22 => ?_)
  · have h := tx_pos c22 h
    refine lv_aload_n hx hb dX3_readPlace_67 rfl (lv_at hl 1 rfl) ?_
    refine va_get (D := G) (ci := 3) (v := .ref (pa 0)) (C := RX3) (T := TX3) (N := 10) hx hb hT ku_3 hown hK hP 3 rfl rfl 4 (by decide) (hT _ kw_3_4) (fun _ h9 => h9) rfl dX3_readPlace_68 ?_
    refine va_get (D := G) (ci := 2) (v := .ref (pa 8)) (C := RX2) (T := TX2) (N := 19) hx hb hT ku_2 hown hK hP 5 rfl rfl 7 (by decide) (hT _ kw_16_16) (fun _ h9 => h9) rfl dX3_readPlace_71 ?_
    refine lv_iload_n hx hb dX3_readPlace_74 rfl (lv_at hl 2 rfl) ?_
    refine lv_iload_n hx hb dX3_readPlace_75 rfl (lv_at hl 3 rfl) ?_
    obtain ⟨g23, h⟩ := tx_ck h
    refine va_iast (i := x1) hx hb hK hP hD hS 6 0 rfl rfl (tx_in g23) dX3_readPlace_76 (fun H locs hP hD hS => ?_)
    obtain ⟨P_24, eP_24, h⟩ := tx_lt h
    rw [sRP_pa_a7, eP_24] at hP hD
    refine lv_aload_n hx hb dX3_readPlace_77 rfl (lv_at hl 1 rfl) ?_
    refine va_get (D := G) (ci := 3) (v := .ref (pa 0)) (C := RX3) (T := TX3) (N := 10) hx hb hT ku_3 hown hK hP 3 rfl rfl 4 (by decide) (hT _ kw_3_4) (fun _ h9 => h9) rfl dX3_readPlace_78 ?_
    refine va_get (D := G) (ci := 2) (v := .ref (pa 9)) (C := RX2) (T := TX2) (N := 19) hx hb hT ku_2 hown hK hP 5 rfl rfl 8 (by decide) (hT _ kw_16_17) (fun _ h9 => h9) rfl dX3_readPlace_81 ?_
    refine lv_iload_n hx hb dX3_readPlace_84 rfl (lv_at hl 2 rfl) ?_
    refine lv_iload_n hx hb dX3_readPlace_85 rfl (lv_at hl 0 rfl) ?_
    refine va_iast (i := x1) hx hb hK hP hD hS 7 0 rfl rfl (tx_in g23) dX3_readPlace_86 (fun H locs hP hD hS => ?_)
    obtain ⟨P_25, eP_25, h⟩ := tx_lt h
    rw [sRP_pa_a8, eP_25] at hP hD
    refine lv_aload_n hx hb dX3_readPlace_87 rfl (lv_at hl 1 rfl) ?_
    refine va_get (D := G) (ci := 3) (v := .ref (pa 0)) (C := RX3) (T := TX3) (N := 10) hx hb hT ku_3 hown hK hP 3 rfl rfl 4 (by decide) (hT _ kw_3_4) (fun _ h9 => h9) rfl dX3_readPlace_88 ?_
    refine lv_dup hx hb dX3_readPlace_91 rfl ?_
    refine va_get (D := G) (ci := 2) (v := .int (P_25 0 0)) (C := RX2) (T := TX2) (N := 19) hx hb hT ku_2 hown hK hP 5 rfl rfl 0 (by decide) (hT _ kw_16_15) (fun _ h9 => h9) rfl dX3_readPlace_92 ?_
    refine lv_iconst (v := 1) hx hb dX3_readPlace_95 (by decide) ?_
    refine lv_iadd hx hb dX3_readPlace_96 ?_
    refine va_put (D := G) (ci := 2) (v := .int ((P_25 0 0) + 1)) (ty := .int) (C := RX2) (T := TX2) (N := 19) hx hb hT ku_2 tyX2 tyX2_ok nmX2 hown hK hP hD hS 5 rfl rfl 0 (by decide) (hT _ kw_16_15) (fun _ h9 => h9) rfl (by decide +kernel) rfl rfl (Nat.le_of_ble_eq_true rfl) dX3_readPlace_97 (fun H locs hP hD hS => ?_)
    obtain ⟨P_26, eP_26, h⟩ := tx_lt h
    rw [sRP_pa_f0, eP_26] at hP hD
    refine lv_iconst (v := 1) hx hb dX3_readPlace_100 (by decide) ?_
    obtain ⟨rfl, rfl, rfl, rfl⟩ := tx_4 h
    exact W.zret (ty := .boolean) hx hb hr rfl (fun t ht hW => ⟨⟨_, (), rfl, rfl, by rw [ht]; exact hP, hD⟩, hS.F ht⟩) hS.2.2 dX3_readPlace_101
  · have h := tx_neg c22 h
    refine lv_iconst (v := 0) hx hb dX3_readPlace_65 (by decide) ?_
    obtain ⟨rfl, rfl, rfl, rfl⟩ := tx_4 h
    exact W.zret (ty := .boolean) hx hb hr rfl (fun t ht hW => ⟨⟨_, (), rfl, rfl, by rw [ht]; exact hP, hD⟩, hS.F ht⟩) hS.2.2 dX3_readPlace_66
set_option maxHeartbeats 4000000 in
set_option maxRecDepth 100000 in
theorem w_X3_readPlace_J19 {p : Program} {l : Launch} {e : Env} {s : State} {m : MethodId} {below : List Frame} {meth : Method} {c : Code} {G : va_G} {cA : Nat → ClassId} {A : Nat → Prop} {bA : Nat} {ka : Nat → Nat} {ra : Nat → Nat} {pa : Nat → Nat} {L : Lo} {r0 : Int32} {K' : Tr} {R' : Tr} {P' : Tr} (F : tF p s m ([.ref (ra 0)] : List Value).toArray meth c G cA A RX3 cX3_readPlace 4 (some .boolean)) (hB : tqB bA A s s.heap)    (x1 : Int32) (s0 : Int32) (K : Tr) (R : Tr) (P : Tr) (H : Heap) (locs : List Loc) (ls : Array Slot) (h : fJ_X3_readPlace_J19 x1 s0 K R P = some (r0, K', R', P')) (hP : va_P G vwCl (wRP cA ka ra pa K R_4 P L) H) (hD : va_D A (wRP cA ka ra pa K R_4 P L)) (hS : va_S A s.heap H locs) (hl : lv_has ls 4 [(0, .ref (ra 0)), (1, .int x1)]) : G_X3_readPlace p l e s m below meth c G cA A bA ka ra pa L r0 K' R' P' H locs (F0 m 19 ls []) := by
  obtain ⟨hx, hb, hr, hml, hT, hown, hlocks, hK, hN, hA⟩ := id F
  unfold fJ_X3_readPlace_J19 at h
  refine lv_iconst (v := 2) hx hb dX3_readPlace_19 (by decide) ?_
  obtain ⟨⟨r3, R_4⟩, hc5, h⟩ := tx_bd h
  replace h := tx_let (y := r3) rfl h
  replace h := tx_let (y := R_4) rfl h
  refine tw_ci tw_all hP hD hS hA (va_runV (As := [.int s0, .int 2]) (rest := []) ⟨hx, hb, hml, hown, hT⟩ (c_X3_expect l G cA H.size bA ka ra pa K R P L s0 (2 : Int32)  r3 R_4 hc5) (cwV 2 hT (tq_gV kw_16_18 kw_16_19 kw_16_20 kw_1_15 kw_16_21) rfl rfl rfl (by decide +kernel) ⟨Nat.le_of_ble_eq_true rfl, Nat.le_of_ble_eq_true rfl⟩) ⟨(tw_preB tw_all hP hD hK hN hS hA hB).1, va_recv hK hP (ci := 3) (q0 := 3) rfl rfl, (tw_preB tw_all hP hD hK hN hS hA hB).2⟩ rfl rfl hl.1 rfl (lv_room (Nat.le_of_ble_eq_true rfl)) dX3_readPlace_20 ⟨Nat.le_of_ble_eq_true rfl, Nat.le_of_ble_eq_true rfl⟩) (fun _ _ H locs z6 hP hD hS => ?_)
  subst z6
  rw [List.append_nil] at hP hD
  have hP : va_P G vwCl (wRP cA ka ra pa K R_4 P L) H := hP
  have hD : va_D A (wRP cA ka ra pa K R_4 P L) := hD
  refine lv_if_ne (tgt := 28) hx hb dX3_readPlace_23 (by decide) (fun c7 => ?_) (fun c7 => ?_)
  · have h := tx_neg c7 h
    refine lv_aload_n hx hb dX3_readPlace_28 rfl (lv_at hl 0 rfl) ?_
    refine va_get (D := G) (ci := 3) (v := .ref (ka 0)) (C := RX3) (T := TX3) (N := 10) hx hb hT ku_3 hown hK hP 3 rfl rfl 0 (by decide) (hT _ kw_2_23) (fun _ h9 => h9) rfl dX3_readPlace_29 ?_
    obtain ⟨K_8, hc9, h⟩ := tx_bd h
    refine tw_cv tw_all hP hD hS hA (va_runV (As := []) (rest := []) ⟨hx, hb, hml, hown, hT⟩ (c_X5_advance l G cA H.size bA ka ra pa K R_4 P L  K_8 hc9) (cwV 0 hT (tq_gV kw_16_23 kw_15_0 kw_15_1 kw_2_22 kw_15_2) rfl rfl rfl (by decide +kernel) ⟨Nat.le_of_ble_eq_true rfl, Nat.le_of_ble_eq_true rfl⟩) ⟨(tw_preB tw_all hP hD hK hN hS hA hB).1, va_recv hK hP (ci := 5) (q0 := 0) rfl rfl, (tw_preB tw_all hP hD hK hN hS hA hB).2⟩ rfl rfl hl.1 rfl (lv_room (Nat.le_of_ble_eq_true rfl)) dX3_readPlace_32 ⟨Nat.le_of_ble_eq_true rfl, Nat.le_of_ble_eq_true rfl⟩) (fun _ H locs z10 hP hD hS => ?_)
    rw [List.append_nil] at hP hD
    have hP : va_P G vwCl (wRP cA ka ra pa K_8 R_4 P L) H := hP
    have hD : va_D A (wRP cA ka ra pa K_8 R_4 P L) := hD
    refine lv_aload_n hx hb dX3_readPlace_35 rfl (lv_at hl 0 rfl) ?_
    refine lv_bipush (v := 8) hx hb dX3_readPlace_36 (by decide) ?_
    refine lv_bipush (v := 12) hx hb dX3_readPlace_38 (by decide) ?_
    obtain ⟨⟨r11, K_12, R_13⟩, hc14, h⟩ := tx_bd h
    replace h := tx_let (y := r11) rfl h
    replace h := tx_let (y := K_12) rfl h
    replace h := tx_let (y := R_13) rfl h
    refine tw_ci tw_all hP hD hS hA (va_runV (As := [.int 8, .int 12]) (rest := []) ⟨hx, hb, hml, hown, hT⟩ (c_X3_takeWord l G cA H.size bA ka ra pa K_8 R_4 P L (8 : Int32) (12 : Int32)  r11 K_12 R_13 hc14) (cwV 2 hT (tq_gV kw_17_0 kw_17_1 kw_17_2 kw_1_15 kw_17_3) rfl rfl rfl (by decide +kernel) ⟨Nat.le_of_ble_eq_true rfl, Nat.le_of_ble_eq_true rfl⟩) ⟨(tw_preB tw_all hP hD hK hN hS hA hB).1, va_recv hK hP (ci := 3) (q0 := 3) rfl rfl, (tw_preB tw_all hP hD hK hN hS hA hB).2⟩ rfl rfl hl.1 rfl (lv_room (Nat.le_of_ble_eq_true rfl)) dX3_readPlace_40 ⟨Nat.le_of_ble_eq_true rfl, Nat.le_of_ble_eq_true rfl⟩) (fun _ _ H locs z15 hP hD hS => ?_)
    subst z15
    rw [List.append_nil] at hP hD
    have hP : va_P G vwCl (wRP cA ka ra pa K_12 R_13 P L) H := hP
    have hD : va_D A (wRP cA ka ra pa K_12 R_13 P L) := hD
    refine lv_istore_n (lv' := [(2, .int r11), (0, .ref (ra 0)), (1, .int x1)]) hx hb dX3_readPlace_43 rfl hl (by decide) rfl (fun ls hl => ?_)
    refine lv_iload_n hx hb dX3_readPlace_44 rfl (lv_at hl 0 rfl) ?_
    refine lv_if_ge (tgt := 52) hx hb dX3_readPlace_45 (by decide) (fun c16 => ?_) (fun c16 => ?_)
    · have h := tx_pos c16 h
      refine lv_aload_n hx hb dX3_readPlace_52 rfl (lv_at hl 1 rfl) ?_
      refine lv_iconst (v := 0) hx hb dX3_readPlace_53 (by decide) ?_
      refine lv_sipush (v := 999) hx hb dX3_readPlace_54 (by decide) ?_
      obtain ⟨⟨r17, K_18, R_19⟩, hc20, h⟩ := tx_bd h
      replace h := tx_let (y := r17) rfl h
      replace h := tx_let (y := K_18) rfl h
      replace h := tx_let (y := R_19) rfl h
      refine tw_ci tw_all hP hD hS hA (va_runV (As := [.int 0, .int 999]) (rest := []) ⟨hx, hb, hml, hown, hT⟩ (c_X3_takeNumber l G cA H.size bA ka ra pa K_12 R_13 P L (0 : Int32) (999 : Int32)  r17 K_18 R_19 hc20) (cwV 2 hT (tq_gV kw_17_4 kw_17_5 kw_17_6 kw_1_15 kw_17_7) rfl rfl rfl (by decide +kernel) ⟨Nat.le_of_ble_eq_true rfl, Nat.le_of_ble_eq_true rfl⟩) ⟨(tw_preB tw_all hP hD hK hN hS hA hB).1, va_recv hK hP (ci := 3) (q0 := 3) rfl rfl, (tw_preB tw_all hP hD hK hN hS hA hB).2⟩ rfl rfl hl.1 rfl (lv_room (Nat.le_of_ble_eq_true rfl)) dX3_readPlace_57 ⟨Nat.le_of_ble_eq_true rfl, Nat.le_of_ble_eq_true rfl⟩) (fun _ _ H locs z21 hP hD hS => ?_)
      subst z21
      rw [List.append_nil] at hP hD
      have hP : va_P G vwCl (wRP cA ka ra pa K_18 R_19 P L) H := hP
      have hD : va_D A (wRP cA ka ra pa K_18 R_19 P L) := hD
      exact w_X3_readPlace_J60 F hB x1 r11 r17 K_18 R_19 P H locs ls h hP hD hS (lv_sub hl [1, 2, 0] rfl)
    · have h := tx_neg c16 h
      refine lv_iconst (v := (-1)) hx hb dX3_readPlace_48 (by decide) ?_
      refine lv_goto (tgt := 60) hx hb dX3_readPlace_49 (by decide) ?_
      exact w_X3_readPlace_J60 F hB x1 r11 (-1) K_12 R_13 P H locs ls h hP hD hS (lv_sub hl [1, 2, 0] rfl)
  · have h := tx_pos c7 h
    refine lv_iconst (v := 0) hx hb dX3_readPlace_26 (by decide) ?_
    obtain ⟨rfl, rfl, rfl, rfl⟩ := tx_4 h
    exact W.zret (ty := .boolean) hx hb hr rfl (fun t ht hW => ⟨⟨_, (), rfl, rfl, by rw [ht]; exact hP, hD⟩, hS.F ht⟩) hS.2.2 dX3_readPlace_27
set_option maxHeartbeats 4000000 in
set_option maxRecDepth 100000 in
theorem c_X3_readPlace (l : Launch) (G : va_G) (cA : Nat → ClassId) (sz : Nat) (bA : Nat) (ka : Nat → Nat) (ra : Nat → Nat) (pa : Nat → Nat) (K : Tr) (R : Tr) (P : Tr) (L : Lo)  (r0 : Int32) (K' : Tr) (R' : Tr) (P' : Tr) (h : f_X3_readPlace K R P = some (r0, K', R', P')) : Met l yX3_readPlace (.code yX3_readPlace cX3_readPlace 4 (some .boolean) :: T0) ({ frames := 4, cells := 0, slots := 0, locals := 88 } : Room) (tqPB bA G cA [.ref (ra 0)] (wRP cA ka ra pa K R P L) sz) (tqQi G cA (fun (r : Int32) (_ : Unit) => r = r0) (fun (_ : Unit) => wRP cA ka ra pa (K') (R') (P') L) (va_A (wRP cA ka ra pa K R P L) sz)) 0 0 (va_A (wRP cA ka ra pa K R P L) sz) := by
  refine Met.ofW (cc := cX3_readPlace) (maxL := 4) (ret := (some .boolean)) (by decide) rfl ?_
  intro p e s m args below meth c s₁ B hml hv
  obtain ⟨rfl, hsz, hP, hK, hD0, hN, hB⟩ := hv
  have hx := B.exec
  have hb := B.bytes
  have hr := B.returns
  have hts := atoms_spec (ws := .code yX3_readPlace cX3_readPlace 4 (some .boolean) :: T0) B.pre
  have hT : ∀ w ∈ T0, w.before _ s = true := fun w h => hts w (List.mem_cons_of_mem _ h)
  have hown : s.vm.findClass RX3 = some m.cls := findClass_of_methodNamed B.named
  have hlocks := B.notSynchronized
  subst hsz
  have hD := hD0.self (sz := s.heap.size)
  generalize hAe : va_A (wRP cA ka ra pa K R P L) s.heap.size = A at hD hB ⊢
  have hA : ∀ q : Nat, s.heap.size ≤ q → A q := fun q h => by rw [← hAe]; exact Or.inr h
  have hS : va_S A s.heap s.heap [] := va_S.rf
  have hl := lv_entry ([.ref (ra 0)]) (n := 4) (Nat.le_of_ble_eq_true rfl)
  rw [lg_entry_eq]
  generalize (lg_sl ([.ref (ra 0)]) ++ List.replicate (4 - (lg_sl ([.ref (ra 0)])).length) Slot.unset).toArray = ls at hl ⊢
  have hl : lv_has ls 4 [(0, .ref (ra 0))] := hl
  have F : tF p s m ([.ref (ra 0)] : List Value).toArray meth c G cA A RX3 cX3_readPlace 4 (some .boolean) := ⟨hx, hb, hr, hml, hT, hown, hlocks, hK, hN, hA⟩
  obtain ⟨H, hH⟩ : ∃ z, z = s.heap := ⟨_, rfl⟩
  rw [← hH] at hP
  have hS : va_S A s.heap H [] := by rw [hH]; exact hS
  suffices hgo : G_X3_readPlace p l e s m below meth c G cA A bA ka ra pa L r0 K' R' P' H [] (F0 m 0 ls []) by rw [hH] at hgo; exact hgo
  generalize ([] : List Loc) = locs at hS ⊢
  unfold f_X3_readPlace at h
  refine lv_aload_n hx hb dX3_readPlace_0 rfl (lv_at hl 0 rfl) ?_
  refine va_get (D := G) (ci := 3) (v := .ref (pa 0)) (C := RX3) (T := TX3) (N := 10) hx hb hT ku_3 hown hK hP 3 rfl rfl 4 (by decide) (hT _ kw_3_4) (fun _ h9 => h9) rfl dX3_readPlace_1 ?_
  refine va_get (D := G) (ci := 2) (v := .int (P 0 0)) (C := RX2) (T := TX2) (N := 19) hx hb hT ku_2 hown hK hP 5 rfl rfl 0 (by decide) (hT _ kw_16_15) (fun _ h9 => h9) rfl dX3_readPlace_4 ?_
  refine lv_topi (fun y1 ey1 => ?_)
  have h := tx_let ey1 h
  refine lv_istore_n (lv' := [(1, .int y1), (0, .ref (ra 0))]) hx hb dX3_readPlace_7 rfl hl (by decide) rfl (fun ls hl => ?_)
  refine lv_aload_n hx hb dX3_readPlace_8 rfl (lv_at hl 1 rfl) ?_
  refine lv_iload_n hx hb dX3_readPlace_9 rfl (lv_at hl 0 rfl) ?_
  refine lv_iconst (v := 5) hx hb dX3_readPlace_10 (by decide) ?_
  refine lv_icmp_ge (tgt := 18) hx hb dX3_readPlace_11 (by decide) (fun c2 => ?_) (fun c2 => ?_)
  · have h := tx_pos c2 h
    refine lv_iconst (v := 0) hx hb dX3_readPlace_18 (by decide) ?_
    exact w_X3_readPlace_J19 F hB y1 0 K R P H locs ls h hP hD hS (lv_sub hl [1, 0] rfl)
  · have h := tx_neg c2 h
    refine lv_iconst (v := 1) hx hb dX3_readPlace_14 (by decide) ?_
    refine lv_goto (tgt := 19) hx hb dX3_readPlace_15 (by decide) ?_
    exact w_X3_readPlace_J19 F hB y1 1 K R P H locs ls h hP hD hS (lv_sub hl [1, 0] rfl)
