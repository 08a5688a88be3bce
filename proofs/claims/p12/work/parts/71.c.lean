set_option maxHeartbeats 8000000 in
set_option maxRecDepth 100000 in
theorem k_X0_init (l : Launch) (G : va_G) (cA : Nat → ClassId) (sz : Nat) (h0 : Nat)  : Met l yX0_init (.code yX0_init cX0_init 1 none :: T0) ({ frames := 1, cells := 1, slots := 1520, locals := 13 } : Room) (tqP G cA [.ref h0] ([(h0, .inr (0, [.int 0, .int 0, .null]))]) sz) (tqQv G cA (fun (u : Nat) => True) (fun (u : Nat) => List.flatten [[(h0, .inr (0, [.int 0, .int 0, .ref u]))], [(u, .inl (cA 0, 1520, .inl (fun _ => 0)))]]) (va_A ([(h0, .inr (0, [.int 0, .int 0, .null]))]) sz)) 1 1520 (va_A ([(h0, .inr (0, [.int 0, .int 0, .null]))]) sz) := by
  refine Met.ofW (cc := cX0_init) (maxL := 1) (ret := none) (by decide) rfl ?_
  intro p e s m args below meth c s₁ B hml hv
  obtain ⟨rfl, hsz, hP, hK, hD0, hN⟩ := hv
  have hx := B.exec
  have hb := B.bytes
  have hr := B.returns
  have hts := atoms_spec (ws := .code yX0_init cX0_init 1 none :: T0) B.pre
  have hT : ∀ w ∈ T0, w.before _ s = true := fun w h => hts w (List.mem_cons_of_mem _ h)
  have hown : s.vm.findClass RX0 = some m.cls := findClass_of_methodNamed B.named
  have hlocks := B.notSynchronized
  have hin : meth.name = "<init>" := (name_of_methodNamed B.named B.method).1
  subst hsz
  have hD := hD0.self (sz := s.heap.size)
  generalize hAe : va_A ([(h0, .inr (0, [.int 0, .int 0, .null]))]) s.heap.size = A at hD ⊢
  have hA : ∀ q : Nat, s.heap.size ≤ q → A q := fun q h => by rw [← hAe]; exact Or.inr h
  have hS : va_S A s.heap s.heap [] := va_S.rf
  have hl := lv_entry ([.ref h0]) (n := 1) (Nat.le_of_ble_eq_true rfl)
  rw [lg_entry_eq]
  generalize (lg_sl ([.ref h0]) ++ List.replicate (1 - (lg_sl ([.ref h0])).length) Slot.unset).toArray = ls at hl ⊢
  have hl : lv_has ls 1 [(0, .ref h0)] := hl
  obtain ⟨H, hH⟩ : ∃ z, z = s.heap := ⟨_, rfl⟩
  rw [← hH] at hP
  have hS : va_S A s.heap H [] := by rw [hH]; exact hS
  suffices hgo : W p l e _ s m _ below meth c H [] 0 0 _ _ by rw [hH] at hgo; exact hgo
  have hO := hN.2.2.2.2
  have hP : va_P G vwCl (List.flatten [[(h0, .inr (0, [.int 0, .int 0, .null]))]]) H := hP
  have hD : va_D A (List.flatten [[(h0, .inr (0, [.int 0, .int 0, .null]))]]) := hD
  refine lv_aload_n hx hb dX0_init_0 rfl (lv_at hl 0 rfl) ?_
  refine W.objInit hx hb hown (hT _ kw_8_15) (hT _ kw_1_11) (hT _ kw_1_12) rfl (by rw [hml]; exact hl.1) rfl dX0_init_1 (Nat.le_of_ble_eq_true rfl) (Nat.le_of_ble_eq_true rfl) ?_
  refine W.eq (g2 := F0 m 4 ls []) rfl ?_
  refine lv_aload_n hx hb dX0_init_4 rfl (lv_at hl 0 rfl) ?_
  refine lv_iconst (v := 0) hx hb dX0_init_5 (by decide) ?_
  refine va_put (D := G) (ci := 0) (v := .int 0) (ty := .int) (C := RX0) (T := TX0) (N := 3) hx hb hT ku_0 tyX0 tyX0_ok nmX0 hown hK hP hD hS 0 rfl rfl 0 (by decide) (hT _ kw_8_16) (fun _ h9 => h9) rfl (by decide +kernel) rfl rfl (Nat.le_of_ble_eq_true rfl) dX0_init_6 (fun H locs hP hD hS => ?_)
  have hP : va_P G vwCl (List.flatten [[(h0, .inr (0, [.int 0, .int 0, .null]))]]) H := hP
  have hD : va_D A (List.flatten [[(h0, .inr (0, [.int 0, .int 0, .null]))]]) := hD
  refine lv_aload_n hx hb dX0_init_9 rfl (lv_at hl 0 rfl) ?_
  refine lv_iconst (v := 0) hx hb dX0_init_10 (by decide) ?_
  refine va_put (D := G) (ci := 0) (v := .int 0) (ty := .int) (C := RX0) (T := TX0) (N := 3) hx hb hT ku_0 tyX0 tyX0_ok nmX0 hown hK hP hD hS 0 rfl rfl 1 (by decide) (hT _ kw_8_17) (fun _ h9 => h9) rfl (by decide +kernel) rfl rfl (Nat.le_of_ble_eq_true rfl) dX0_init_11 (fun H locs hP hD hS => ?_)
  have hP : va_P G vwCl (List.flatten [[(h0, .inr (0, [.int 0, .int 0, .null]))]]) H := hP
  have hD : va_D A (List.flatten [[(h0, .inr (0, [.int 0, .int 0, .null]))]]) := hD
  refine lv_aload_n hx hb dX0_init_14 rfl (lv_at hl 0 rfl) ?_
  refine lv_sipush (v := 1520) hx hb dX0_init_15 (by decide) ?_
  refine tq_newa (atype := .int) (ty := .int) (n := 1520) (N' := 1520) (a0 := (1520, .inl (fun _ => 0))) hx hb (hT _ kw_2_13) rfl hK hP hD hS hA 0 (cA 0) rfl (fun _ => rfl) (by decide) (by decide) (by decide) (Nat.le_of_ble_eq_true rfl) (Nat.le_of_ble_eq_true rfl) dX0_init_18 (fun q1 H hP hD hS => ?_)
  refine W.widen (k := 1) (n := 1520) (Nat.le_of_ble_eq_true rfl) (Nat.le_of_ble_eq_true rfl) ?_
  have hP : va_P G vwCl (List.flatten [[(h0, .inr (0, [.int 0, .int 0, .null]))], [(q1, .inl (cA 0, 1520, .inl (fun _ => 0)))]]) H := by rw [fl_app] at hP; exact hP
  have hD : va_D A (List.flatten [[(h0, .inr (0, [.int 0, .int 0, .null]))], [(q1, .inl (cA 0, 1520, .inl (fun _ => 0)))]]) := by rw [fl_app] at hD; exact hD
  refine va_putF (D := G) (ci := 0) (v := .ref q1) (ty := (.array .int)) (C := RX0) (T := TX0) (N := 3) hx hb hT ku_0 tyX0 tyX0_ok nmX0 hown hK hP hD hS 0 rfl rfl 2 (by decide) (hT _ kw_8_18) (fun _ h9 => h9) rfl hin rfl (by decide +kernel) rfl rfl (Nat.le_of_ble_eq_true rfl) dX0_init_20 (fun H locs hP hD hS => ?_)
  have hP : va_P G vwCl (List.flatten [[(h0, .inr (0, [.int 0, .int 0, .ref q1]))], [(q1, .inl (cA 0, 1520, .inl (fun _ => 0)))]]) H := hP
  have hD : va_D A (List.flatten [[(h0, .inr (0, [.int 0, .int 0, .ref q1]))], [(q1, .inl (cA 0, 1520, .inl (fun _ => 0)))]]) := hD
  exact W.vret hx hb hr (fun t ht hW => ⟨⟨q1, rfl, trivial, by rw [ht]; exact hP, hD⟩, hS.F ht⟩) hS.2.2 dX0_init_23
set_option maxHeartbeats 8000000 in
set_option maxRecDepth 100000 in
theorem k_X4_init (l : Launch) (G : va_G) (cA : Nat → ClassId) (sz : Nat) (h0 : Nat)  : Met l yX4_init (.code yX4_init cX4_init 1 none :: T0) ({ frames := 1, cells := 5, slots := 120, locals := 13 } : Room) (tqP G cA [.ref h0] ([(h0, .inr (4, [.int 0, .int 0, .null, .null, .null, .null, .null]))]) sz) (tqQv G cA (fun (u : Nat → Nat) => True) (fun (u : Nat → Nat) => List.flatten [[(h0, .inr (4, [.int 0, .int (-1), .ref (u 1), .ref (u 2), .ref (u 3), .ref (u 4), .ref (u 5)]))], [((u 1), .inl (cA 0, 24, .inl (fun _ => 0)))], [((u 2), .inl (cA 0, 24, .inl (fun _ => 0)))], [((u 3), .inl (cA 0, 24, .inl (fun _ => 0)))], [((u 4), .inl (cA 0, 24, .inl (fun _ => 0)))], [((u 5), .inl (cA 1, 24, .inl (fun _ => 0)))]]) (va_A ([(h0, .inr (4, [.int 0, .int 0, .null, .null, .null, .null, .null]))]) sz)) 5 120 (va_A ([(h0, .inr (4, [.int 0, .int 0, .null, .null, .null, .null, .null]))]) sz) := by
  refine Met.ofW (cc := cX4_init) (maxL := 1) (ret := none) (by decide) rfl ?_
  intro p e s m args below meth c s₁ B hml hv
  obtain ⟨rfl, hsz, hP, hK, hD0, hN⟩ := hv
  have hx := B.exec
  have hb := B.bytes
  have hr := B.returns
  have hts := atoms_spec (ws := .code yX4_init cX4_init 1 none :: T0) B.pre
  have hT : ∀ w ∈ T0, w.before _ s = true := fun w h => hts w (List.mem_cons_of_mem _ h)
  have hown : s.vm.findClass RX4 = some m.cls := findClass_of_methodNamed B.named
  have hlocks := B.notSynchronized
  have hin : meth.name = "<init>" := (name_of_methodNamed B.named B.method).1
  subst hsz
  have hD := hD0.self (sz := s.heap.size)
  generalize hAe : va_A ([(h0, .inr (4, [.int 0, .int 0, .null, .null, .null, .null, .null]))]) s.heap.size = A at hD ⊢
  have hA : ∀ q : Nat, s.heap.size ≤ q → A q := fun q h => by rw [← hAe]; exact Or.inr h
  have hS : va_S A s.heap s.heap [] := va_S.rf
  have hl := lv_entry ([.ref h0]) (n := 1) (Nat.le_of_ble_eq_true rfl)
  rw [lg_entry_eq]
  generalize (lg_sl ([.ref h0]) ++ List.replicate (1 - (lg_sl ([.ref h0])).length) Slot.unset).toArray = ls at hl ⊢
  have hl : lv_has ls 1 [(0, .ref h0)] := hl
  obtain ⟨H, hH⟩ : ∃ z, z = s.heap := ⟨_, rfl⟩
  rw [← hH] at hP
  have hS : va_S A s.heap H [] := by rw [hH]; exact hS
  suffices hgo : W p l e _ s m _ below meth c H [] 0 0 _ _ by rw [hH] at hgo; exact hgo
  have hO := hN.2.2.2.2
  have hP : va_P G vwCl (List.flatten [[(h0, .inr (4, [.int 0, .int 0, .null, .null, .null, .null, .null]))]]) H := hP
  have hD : va_D A (List.flatten [[(h0, .inr (4, [.int 0, .int 0, .null, .null, .null, .null, .null]))]]) := hD
  refine lv_aload_n hx hb dX4_init_0 rfl (lv_at hl 0 rfl) ?_
  refine W.objInit hx hb hown (hT _ kw_8_21) (hT _ kw_1_11) (hT _ kw_1_12) rfl (by rw [hml]; exact hl.1) rfl dX4_init_1 (Nat.le_of_ble_eq_true rfl) (Nat.le_of_ble_eq_true rfl) ?_
  refine W.eq (g2 := F0 m 4 ls []) rfl ?_
  refine lv_aload_n hx hb dX4_init_4 rfl (lv_at hl 0 rfl) ?_
  refine lv_iconst (v := 0) hx hb dX4_init_5 (by decide) ?_
  refine va_put (D := G) (ci := 4) (v := .int 0) (ty := .int) (C := RX4) (T := TX4) (N := 7) hx hb hT ku_4 tyX4 tyX4_ok nmX4 hown hK hP hD hS 0 rfl rfl 0 (by decide) (hT _ kw_8_22) (fun _ h9 => h9) rfl (by decide +kernel) rfl rfl (Nat.le_of_ble_eq_true rfl) dX4_init_6 (fun H locs hP hD hS => ?_)
  have hP : va_P G vwCl (List.flatten [[(h0, .inr (4, [.int 0, .int 0, .null, .null, .null, .null, .null]))]]) H := hP
  have hD : va_D A (List.flatten [[(h0, .inr (4, [.int 0, .int 0, .null, .null, .null, .null, .null]))]]) := hD
  refine lv_aload_n hx hb dX4_init_9 rfl (lv_at hl 0 rfl) ?_
  refine lv_iconst (v := (-1)) hx hb dX4_init_10 (by decide) ?_
  refine va_put (D := G) (ci := 4) (v := .int (-1)) (ty := .int) (C := RX4) (T := TX4) (N := 7) hx hb hT ku_4 tyX4 tyX4_ok nmX4 hown hK hP hD hS 0 rfl rfl 1 (by decide) (hT _ kw_8_23) (fun _ h9 => h9) rfl (by decide +kernel) rfl rfl (Nat.le_of_ble_eq_true rfl) dX4_init_11 (fun H locs hP hD hS => ?_)
  have hP : va_P G vwCl (List.flatten [[(h0, .inr (4, [.int 0, .int (-1), .null, .null, .null, .null, .null]))]]) H := hP
  have hD : va_D A (List.flatten [[(h0, .inr (4, [.int 0, .int (-1), .null, .null, .null, .null, .null]))]]) := hD
  refine lv_aload_n hx hb dX4_init_14 rfl (lv_at hl 0 rfl) ?_
  refine lv_bipush (v := 24) hx hb dX4_init_15 (by decide) ?_
  refine tq_newa (atype := .int) (ty := .int) (n := 24) (N' := 24) (a0 := (24, .inl (fun _ => 0))) hx hb (hT _ kw_2_13) rfl hK hP hD hS hA 0 (cA 0) rfl (fun _ => rfl) (by decide) (by decide) (by decide) (Nat.le_of_ble_eq_true rfl) (Nat.le_of_ble_eq_true rfl) dX4_init_17 (fun q1 H hP hD hS => ?_)
  refine W.widen (k := 1) (n := 24) (Nat.le_of_ble_eq_true rfl) (Nat.le_of_ble_eq_true rfl) ?_
  have hP : va_P G vwCl (List.flatten [[(h0, .inr (4, [.int 0, .int (-1), .null, .null, .null, .null, .null]))], [(q1, .inl (cA 0, 24, .inl (fun _ => 0)))]]) H := by rw [fl_app] at hP; exact hP
  have hD : va_D A (List.flatten [[(h0, .inr (4, [.int 0, .int (-1), .null, .null, .null, .null, .null]))], [(q1, .inl (cA 0, 24, .inl (fun _ => 0)))]]) := by rw [fl_app] at hD; exact hD
  refine va_putF (D := G) (ci := 4) (v := .ref q1) (ty := (.array .int)) (C := RX4) (T := TX4) (N := 7) hx hb hT ku_4 tyX4 tyX4_ok nmX4 hown hK hP hD hS 0 rfl rfl 2 (by decide) (hT _ kw_9_0) (fun _ h9 => h9) rfl hin rfl (by decide +kernel) rfl rfl (Nat.le_of_ble_eq_true rfl) dX4_init_19 (fun H locs hP hD hS => ?_)
  have hP : va_P G vwCl (List.flatten [[(h0, .inr (4, [.int 0, .int (-1), .ref q1, .null, .null, .null, .null]))], [(q1, .inl (cA 0, 24, .inl (fun _ => 0)))]]) H := hP
  have hD : va_D A (List.flatten [[(h0, .inr (4, [.int 0, .int (-1), .ref q1, .null, .null, .null, .null]))], [(q1, .inl (cA 0, 24, .inl (fun _ => 0)))]]) := hD
  refine lv_aload_n hx hb dX4_init_22 rfl (lv_at hl 0 rfl) ?_
  refine lv_bipush (v := 24) hx hb dX4_init_23 (by decide) ?_
  refine tq_newa (atype := .int) (ty := .int) (n := 24) (N' := 24) (a0 := (24, .inl (fun _ => 0))) hx hb (hT _ kw_2_13) rfl hK hP hD hS hA 0 (cA 0) rfl (fun _ => rfl) (by decide) (by decide) (by decide) (Nat.le_of_ble_eq_true rfl) (Nat.le_of_ble_eq_true rfl) dX4_init_25 (fun q2 H hP hD hS => ?_)
  refine W.widen (k := 2) (n := 48) (Nat.le_of_ble_eq_true rfl) (Nat.le_of_ble_eq_true rfl) ?_
  have hP : va_P G vwCl (List.flatten [[(h0, .inr (4, [.int 0, .int (-1), .ref q1, .null, .null, .null, .null]))], [(q1, .inl (cA 0, 24, .inl (fun _ => 0)))], [(q2, .inl (cA 0, 24, .inl (fun _ => 0)))]]) H := by rw [fl_app] at hP; exact hP
  have hD : va_D A (List.flatten [[(h0, .inr (4, [.int 0, .int (-1), .ref q1, .null, .null, .null, .null]))], [(q1, .inl (cA 0, 24, .inl (fun _ => 0)))], [(q2, .inl (cA 0, 24, .inl (fun _ => 0)))]]) := by rw [fl_app] at hD; exact hD
  refine va_putF (D := G) (ci := 4) (v := .ref q2) (ty := (.array .int)) (C := RX4) (T := TX4) (N := 7) hx hb hT ku_4 tyX4 tyX4_ok nmX4 hown hK hP hD hS 0 rfl rfl 3 (by decide) (hT _ kw_9_1) (fun _ h9 => h9) rfl hin rfl (by decide +kernel) rfl rfl (Nat.le_of_ble_eq_true rfl) dX4_init_27 (fun H locs hP hD hS => ?_)
  have hP : va_P G vwCl (List.flatten [[(h0, .inr (4, [.int 0, .int (-1), .ref q1, .ref q2, .null, .null, .null]))], [(q1, .inl (cA 0, 24, .inl (fun _ => 0)))], [(q2, .inl (cA 0, 24, .inl (fun _ => 0)))]]) H := hP
  have hD : va_D A (List.flatten [[(h0, .inr (4, [.int 0, .int (-1), .ref q1, .ref q2, .null, .null, .null]))], [(q1, .inl (cA 0, 24, .inl (fun _ => 0)))], [(q2, .inl (cA 0, 24, .inl (fun _ => 0)))]]) := hD
  refine lv_aload_n hx hb dX4_init_30 rfl (lv_at hl 0 rfl) ?_
  refine lv_bipush (v := 24) hx hb dX4_init_31 (by decide) ?_
  refine tq_newa (atype := .int) (ty := .int) (n := 24) (N' := 24) (a0 := (24, .inl (fun _ => 0))) hx hb (hT _ kw_2_13) rfl hK hP hD hS hA 0 (cA 0) rfl (fun _ => rfl) (by decide) (by decide) (by decide) (Nat.le_of_ble_eq_true rfl) (Nat.le_of_ble_eq_true rfl) dX4_init_33 (fun q3 H hP hD hS => ?_)
  refine W.widen (k := 3) (n := 72) (Nat.le_of_ble_eq_true rfl) (Nat.le_of_ble_eq_true rfl) ?_
  have hP : va_P G vwCl (List.flatten [[(h0, .inr (4, [.int 0, .int (-1), .ref q1, .ref q2, .null, .null, .null]))], [(q1, .inl (cA 0, 24, .inl (fun _ => 0)))], [(q2, .inl (cA 0, 24, .inl (fun _ => 0)))], [(q3, .inl (cA 0, 24, .inl (fun _ => 0)))]]) H := by rw [fl_app] at hP; exact hP
  have hD : va_D A (List.flatten [[(h0, .inr (4, [.int 0, .int (-1), .ref q1, .ref q2, .null, .null, .null]))], [(q1, .inl (cA 0, 24, .inl (fun _ => 0)))], [(q2, .inl (cA 0, 24, .inl (fun _ => 0)))], [(q3, .inl (cA 0, 24, .inl (fun _ => 0)))]]) := by rw [fl_app] at hD; exact hD
  refine va_putF (D := G) (ci := 4) (v := .ref q3) (ty := (.array .int)) (C := RX4) (T := TX4) (N := 7) hx hb hT ku_4 tyX4 tyX4_ok nmX4 hown hK hP hD hS 0 rfl rfl 4 (by decide) (hT _ kw_9_2) (fun _ h9 => h9) rfl hin rfl (by decide +kernel) rfl rfl (Nat.le_of_ble_eq_true rfl) dX4_init_35 (fun H locs hP hD hS => ?_)
  have hP : va_P G vwCl (List.flatten [[(h0, .inr (4, [.int 0, .int (-1), .ref q1, .ref q2, .ref q3, .null, .null]))], [(q1, .inl (cA 0, 24, .inl (fun _ => 0)))], [(q2, .inl (cA 0, 24, .inl (fun _ => 0)))], [(q3, .inl (cA 0, 24, .inl (fun _ => 0)))]]) H := hP
  have hD : va_D A (List.flatten [[(h0, .inr (4, [.int 0, .int (-1), .ref q1, .ref q2, .ref q3, .null, .null]))], [(q1, .inl (cA 0, 24, .inl (fun _ => 0)))], [(q2, .inl (cA 0, 24, .inl (fun _ => 0)))], [(q3, .inl (cA 0, 24, .inl (fun _ => 0)))]]) := hD
  refine lv_aload_n hx hb dX4_init_38 rfl (lv_at hl 0 rfl) ?_
  refine lv_bipush (v := 24) hx hb dX4_init_39 (by decide) ?_
  refine tq_newa (atype := .int) (ty := .int) (n := 24) (N' := 24) (a0 := (24, .inl (fun _ => 0))) hx hb (hT _ kw_2_13) rfl hK hP hD hS hA 0 (cA 0) rfl (fun _ => rfl) (by decide) (by decide) (by decide) (Nat.le_of_ble_eq_true rfl) (Nat.le_of_ble_eq_true rfl) dX4_init_41 (fun q4 H hP hD hS => ?_)
  refine W.widen (k := 4) (n := 96) (Nat.le_of_ble_eq_true rfl) (Nat.le_of_ble_eq_true rfl) ?_
  have hP : va_P G vwCl (List.flatten [[(h0, .inr (4, [.int 0, .int (-1), .ref q1, .ref q2, .ref q3, .null, .null]))], [(q1, .inl (cA 0, 24, .inl (fun _ => 0)))], [(q2, .inl (cA 0, 24, .inl (fun _ => 0)))], [(q3, .inl (cA 0, 24, .inl (fun _ => 0)))], [(q4, .inl (cA 0, 24, .inl (fun _ => 0)))]]) H := by rw [fl_app] at hP; exact hP
  have hD : va_D A (List.flatten [[(h0, .inr (4, [.int 0, .int (-1), .ref q1, .ref q2, .ref q3, .null, .null]))], [(q1, .inl (cA 0, 24, .inl (fun _ => 0)))], [(q2, .inl (cA 0, 24, .inl (fun _ => 0)))], [(q3, .inl (cA 0, 24, .inl (fun _ => 0)))], [(q4, .inl (cA 0, 24, .inl (fun _ => 0)))]]) := by rw [fl_app] at hD; exact hD
  refine va_putF (D := G) (ci := 4) (v := .ref q4) (ty := (.array .int)) (C := RX4) (T := TX4) (N := 7) hx hb hT ku_4 tyX4 tyX4_ok nmX4 hown hK hP hD hS 0 rfl rfl 5 (by decide) (hT _ kw_9_3) (fun _ h9 => h9) rfl hin rfl (by decide +kernel) rfl rfl (Nat.le_of_ble_eq_true rfl) dX4_init_43 (fun H locs hP hD hS => ?_)
  have hP : va_P G vwCl (List.flatten [[(h0, .inr (4, [.int 0, .int (-1), .ref q1, .ref q2, .ref q3, .ref q4, .null]))], [(q1, .inl (cA 0, 24, .inl (fun _ => 0)))], [(q2, .inl (cA 0, 24, .inl (fun _ => 0)))], [(q3, .inl (cA 0, 24, .inl (fun _ => 0)))], [(q4, .inl (cA 0, 24, .inl (fun _ => 0)))]]) H := hP
  have hD : va_D A (List.flatten [[(h0, .inr (4, [.int 0, .int (-1), .ref q1, .ref q2, .ref q3, .ref q4, .null]))], [(q1, .inl (cA 0, 24, .inl (fun _ => 0)))], [(q2, .inl (cA 0, 24, .inl (fun _ => 0)))], [(q3, .inl (cA 0, 24, .inl (fun _ => 0)))], [(q4, .inl (cA 0, 24, .inl (fun _ => 0)))]]) := hD
  refine lv_aload_n hx hb dX4_init_46 rfl (lv_at hl 0 rfl) ?_
  refine lv_bipush (v := 24) hx hb dX4_init_47 (by decide) ?_
  refine tq_newa (atype := .boolean) (ty := .boolean) (n := 24) (N' := 24) (a0 := (24, .inl (fun _ => 0))) hx hb (hT _ kw_9_4) rfl hK hP hD hS hA 1 (cA 1) rfl (fun _ => rfl) (by decide) (by decide) (by decide) (Nat.le_of_ble_eq_true rfl) (Nat.le_of_ble_eq_true rfl) dX4_init_49 (fun q5 H hP hD hS => ?_)
  refine W.widen (k := 5) (n := 120) (Nat.le_of_ble_eq_true rfl) (Nat.le_of_ble_eq_true rfl) ?_
  have hP : va_P G vwCl (List.flatten [[(h0, .inr (4, [.int 0, .int (-1), .ref q1, .ref q2, .ref q3, .ref q4, .null]))], [(q1, .inl (cA 0, 24, .inl (fun _ => 0)))], [(q2, .inl (cA 0, 24, .inl (fun _ => 0)))], [(q3, .inl (cA 0, 24, .inl (fun _ => 0)))], [(q4, .inl (cA 0, 24, .inl (fun _ => 0)))], [(q5, .inl (cA 1, 24, .inl (fun _ => 0)))]]) H := by rw [fl_app] at hP; exact hP
  have hD : va_D A (List.flatten [[(h0, .inr (4, [.int 0, .int (-1), .ref q1, .ref q2, .ref q3, .ref q4, .null]))], [(q1, .inl (cA 0, 24, .inl (fun _ => 0)))], [(q2, .inl (cA 0, 24, .inl (fun _ => 0)))], [(q3, .inl (cA 0, 24, .inl (fun _ => 0)))], [(q4, .inl (cA 0, 24, .inl (fun _ => 0)))], [(q5, .inl (cA 1, 24, .inl (fun _ => 0)))]]) := by rw [fl_app] at hD; exact hD
  refine va_putF (D := G) (ci := 4) (v := .ref q5) (ty := (.array .boolean)) (C := RX4) (T := TX4) (N := 7) hx hb hT ku_4 tyX4 tyX4_ok nmX4 hown hK hP hD hS 0 rfl rfl 6 (by decide) (hT _ kw_9_5) (fun _ h9 => h9) rfl hin rfl (by decide +kernel) rfl rfl (Nat.le_of_ble_eq_true rfl) dX4_init_51 (fun H locs hP hD hS => ?_)
  have hP : va_P G vwCl (List.flatten [[(h0, .inr (4, [.int 0, .int (-1), .ref q1, .ref q2, .ref q3, .ref q4, .ref q5]))], [(q1, .inl (cA 0, 24, .inl (fun _ => 0)))], [(q2, .inl (cA 0, 24, .inl (fun _ => 0)))], [(q3, .inl (cA 0, 24, .inl (fun _ => 0)))], [(q4, .inl (cA 0, 24, .inl (fun _ => 0)))], [(q5, .inl (cA 1, 24, .inl (fun _ => 0)))]]) H := hP
  have hD : va_D A (List.flatten [[(h0, .inr (4, [.int 0, .int (-1), .ref q1, .ref q2, .ref q3, .ref q4, .ref q5]))], [(q1, .inl (cA 0, 24, .inl (fun _ => 0)))], [(q2, .inl (cA 0, 24, .inl (fun _ => 0)))], [(q3, .inl (cA 0, 24, .inl (fun _ => 0)))], [(q4, .inl (cA 0, 24, .inl (fun _ => 0)))], [(q5, .inl (cA 1, 24, .inl (fun _ => 0)))]]) := hD
  exact W.vret hx hb hr (fun t ht hW => ⟨⟨(fun k => bif Nat.beq k 1 then q1 else bif Nat.beq k 2 then q2 else bif Nat.beq k 3 then q3 else bif Nat.beq k 4 then q4 else bif Nat.beq k 5 then q5 else 0), rfl, trivial, by rw [ht]; exact hP, hD⟩, hS.F ht⟩) hS.2.2 dX4_init_54
set_option maxHeartbeats 8000000 in
set_option maxRecDepth 100000 in
theorem k_X1_init (l : Launch) (G : va_G) (cA : Nat → ClassId) (sz : Nat) (h0 : Nat)  : Met l yX1_init (.code yX1_init cX1_init 1 none :: T0) ({ frames := 1, cells := 2, slots := 128, locals := 13 } : Room) (tqP G cA [.ref h0] ([(h0, .inr (1, [.null, .int 0, .null]))]) sz) (tqQv G cA (fun (u : Nat × Nat) => True) (fun (u : Nat × Nat) => List.flatten [[(h0, .inr (1, [.ref u.1, .int 0, .ref u.2]))], [(u.1, .inl (cA 0, 64, .inl (fun _ => 0)))], [(u.2, .inl (cA 2, 64, .inr (.inl (fun _ => 0))))]]) (va_A ([(h0, .inr (1, [.null, .int 0, .null]))]) sz)) 2 128 (va_A ([(h0, .inr (1, [.null, .int 0, .null]))]) sz) := by
  refine Met.ofW (cc := cX1_init) (maxL := 1) (ret := none) (by decide) rfl ?_
  intro p e s m args below meth c s₁ B hml hv
  obtain ⟨rfl, hsz, hP, hK, hD0, hN⟩ := hv
  have hx := B.exec
  have hb := B.bytes
  have hr := B.returns
  have hts := atoms_spec (ws := .code yX1_init cX1_init 1 none :: T0) B.pre
  have hT : ∀ w ∈ T0, w.before _ s = true := fun w h => hts w (List.mem_cons_of_mem _ h)
  have hown : s.vm.findClass RX1 = some m.cls := findClass_of_methodNamed B.named
  have hlocks := B.notSynchronized
  have hin : meth.name = "<init>" := (name_of_methodNamed B.named B.method).1
  subst hsz
  have hD := hD0.self (sz := s.heap.size)
  generalize hAe : va_A ([(h0, .inr (1, [.null, .int 0, .null]))]) s.heap.size = A at hD ⊢
  have hA : ∀ q : Nat, s.heap.size ≤ q → A q := fun q h => by rw [← hAe]; exact Or.inr h
  have hS : va_S A s.heap s.heap [] := va_S.rf
  have hl := lv_entry ([.ref h0]) (n := 1) (Nat.le_of_ble_eq_true rfl)
  rw [lg_entry_eq]
  generalize (lg_sl ([.ref h0]) ++ List.replicate (1 - (lg_sl ([.ref h0])).length) Slot.unset).toArray = ls at hl ⊢
  have hl : lv_has ls 1 [(0, .ref h0)] := hl
  obtain ⟨H, hH⟩ : ∃ z, z = s.heap := ⟨_, rfl⟩
  rw [← hH] at hP
  have hS : va_S A s.heap H [] := by rw [hH]; exact hS
  suffices hgo : W p l e _ s m _ below meth c H [] 0 0 _ _ by rw [hH] at hgo; exact hgo
  have hO := hN.2.2.2.2
  have hP : va_P G vwCl (List.flatten [[(h0, .inr (1, [.null, .int 0, .null]))]]) H := hP
  have hD : va_D A (List.flatten [[(h0, .inr (1, [.null, .int 0, .null]))]]) := hD
  refine lv_aload_n hx hb dX1_init_0 rfl (lv_at hl 0 rfl) ?_
  refine W.objInit hx hb hown (hT _ kw_6_11) (hT _ kw_1_11) (hT _ kw_1_12) rfl (by rw [hml]; exact hl.1) rfl dX1_init_1 (Nat.le_of_ble_eq_true rfl) (Nat.le_of_ble_eq_true rfl) ?_
  refine W.eq (g2 := F0 m 4 ls []) rfl ?_
  refine lv_aload_n hx hb dX1_init_4 rfl (lv_at hl 0 rfl) ?_
  refine lv_bipush (v := 64) hx hb dX1_init_5 (by decide) ?_
  refine tq_newa (atype := .int) (ty := .int) (n := 64) (N' := 64) (a0 := (64, .inl (fun _ => 0))) hx hb (hT _ kw_2_13) rfl hK hP hD hS hA 0 (cA 0) rfl (fun _ => rfl) (by decide) (by decide) (by decide) (Nat.le_of_ble_eq_true rfl) (Nat.le_of_ble_eq_true rfl) dX1_init_7 (fun q1 H hP hD hS => ?_)
  refine W.widen (k := 1) (n := 64) (Nat.le_of_ble_eq_true rfl) (Nat.le_of_ble_eq_true rfl) ?_
  have hP : va_P G vwCl (List.flatten [[(h0, .inr (1, [.null, .int 0, .null]))], [(q1, .inl (cA 0, 64, .inl (fun _ => 0)))]]) H := by rw [fl_app] at hP; exact hP
  have hD : va_D A (List.flatten [[(h0, .inr (1, [.null, .int 0, .null]))], [(q1, .inl (cA 0, 64, .inl (fun _ => 0)))]]) := by rw [fl_app] at hD; exact hD
  refine va_putF (D := G) (ci := 1) (v := .ref q1) (ty := (.array .int)) (C := RX1) (T := TX1) (N := 3) hx hb hT ku_1 tyX1 tyX1_ok nmX1 hown hK hP hD hS 0 rfl rfl 0 (by decide) (hT _ kw_6_12) (fun _ h9 => h9) rfl hin rfl (by decide +kernel) rfl rfl (Nat.le_of_ble_eq_true rfl) dX1_init_9 (fun H locs hP hD hS => ?_)
  have hP : va_P G vwCl (List.flatten [[(h0, .inr (1, [.ref q1, .int 0, .null]))], [(q1, .inl (cA 0, 64, .inl (fun _ => 0)))]]) H := hP
  have hD : va_D A (List.flatten [[(h0, .inr (1, [.ref q1, .int 0, .null]))], [(q1, .inl (cA 0, 64, .inl (fun _ => 0)))]]) := hD
  refine lv_aload_n hx hb dX1_init_12 rfl (lv_at hl 0 rfl) ?_
  refine lv_bipush (v := 64) hx hb dX1_init_13 (by decide) ?_
  refine tq_newa (atype := .long) (ty := .long) (n := 64) (N' := 64) (a0 := (64, .inr (.inl (fun _ => 0)))) hx hb (hT _ kw_1_6) rfl hK hP hD hS hA 2 (cA 2) rfl (fun _ => rfl) (by decide) (by decide) (by decide) (Nat.le_of_ble_eq_true rfl) (Nat.le_of_ble_eq_true rfl) dX1_init_15 (fun q2 H hP hD hS => ?_)
  refine W.widen (k := 2) (n := 128) (Nat.le_of_ble_eq_true rfl) (Nat.le_of_ble_eq_true rfl) ?_
  have hP : va_P G vwCl (List.flatten [[(h0, .inr (1, [.ref q1, .int 0, .null]))], [(q1, .inl (cA 0, 64, .inl (fun _ => 0)))], [(q2, .inl (cA 2, 64, .inr (.inl (fun _ => 0))))]]) H := by rw [fl_app] at hP; exact hP
  have hD : va_D A (List.flatten [[(h0, .inr (1, [.ref q1, .int 0, .null]))], [(q1, .inl (cA 0, 64, .inl (fun _ => 0)))], [(q2, .inl (cA 2, 64, .inr (.inl (fun _ => 0))))]]) := by rw [fl_app] at hD; exact hD
  refine va_putF (D := G) (ci := 1) (v := .ref q2) (ty := (.array .long)) (C := RX1) (T := TX1) (N := 3) hx hb hT ku_1 tyX1 tyX1_ok nmX1 hown hK hP hD hS 0 rfl rfl 2 (by decide) (hT _ kw_6_13) (fun _ h9 => h9) rfl hin rfl (by decide +kernel) rfl rfl (Nat.le_of_ble_eq_true rfl) dX1_init_17 (fun H locs hP hD hS => ?_)
  have hP : va_P G vwCl (List.flatten [[(h0, .inr (1, [.ref q1, .int 0, .ref q2]))], [(q1, .inl (cA 0, 64, .inl (fun _ => 0)))], [(q2, .inl (cA 2, 64, .inr (.inl (fun _ => 0))))]]) H := hP
  have hD : va_D A (List.flatten [[(h0, .inr (1, [.ref q1, .int 0, .ref q2]))], [(q1, .inl (cA 0, 64, .inl (fun _ => 0)))], [(q2, .inl (cA 2, 64, .inr (.inl (fun _ => 0))))]]) := hD
  exact W.vret hx hb hr (fun t ht hW => ⟨⟨(q1, q2), rfl, trivial, by rw [ht]; exact hP, hD⟩, hS.F ht⟩) hS.2.2 dX1_init_20
