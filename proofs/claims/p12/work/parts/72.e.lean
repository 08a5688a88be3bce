set_option maxHeartbeats 8000000 in
set_option maxRecDepth 100000 in
theorem k_X3_init (l : Launch) (G : va_G) (cA : Nat → ClassId) (sz : Nat) (h0 : Nat) (sA vA : Nat) (fb : Nat → Int32) (hfb : ∀ j, j < 153 → fb j = wrX j) : Met l yX3_init (.code yX3_init cX3_init 1 none :: T0) ({ frames := 5, cells := 26, slots := 1319, locals := 110 } : Room) (tqP2 G cA sA vA fb [.ref h0] ([(h0, .inr (3, [.null, .int 0, .int 0, .int 0, .null, .int 0, .int 0, .null, .int 0, .int 0]))]) sz) (tqQv G cA (fun (u : (Nat → Nat) × (Nat → Nat) × (Nat → Nat) × Tr × Tr) => u.2.1 0 = h0 ∧ iR BK u.2.2.2.1 ∧ (u.2.2.2.1 0 0 = 0 ∧ wC u.2.2.2.1) ∧ iR BP u.2.2.2.2) (fun (u : (Nat → Nat) × (Nat → Nat) × (Nat → Nat) × Tr × Tr) => List.flatten [gK cA u.1 u.2.2.2.1, gR cA u.2.1 (u.1 0) (u.2.2.1 0) R0Z, gP cA u.2.2.1 u.2.2.2.2, gL cA u.2.2.1 u.2.2.2.2 L0Z]) (va_A ([(h0, .inr (3, [.null, .int 0, .int 0, .int 0, .null, .int 0, .int 0, .null, .int 0, .int 0]))]) sz)) 26 1319 (va_A ([(h0, .inr (3, [.null, .int 0, .int 0, .int 0, .null, .int 0, .int 0, .null, .int 0, .int 0]))]) sz) := by
  refine Met.ofW (cc := cX3_init) (maxL := 1) (ret := none) (by decide) rfl ?_
  intro p e s m args below meth c s₁ B hml hv
  obtain ⟨rfl, hsz, hP, hK, hD0, hN, hSt, hR⟩ := hv
  have hx := B.exec
  have hb := B.bytes
  have hr := B.returns
  have hts := atoms_spec (ws := .code yX3_init cX3_init 1 none :: T0) B.pre
  have hT : ∀ w ∈ T0, w.before _ s = true := fun w h => hts w (List.mem_cons_of_mem _ h)
  have hown : s.vm.findClass RX3 = some m.cls := findClass_of_methodNamed B.named
  have hlocks := B.notSynchronized
  have hin : meth.name = "<init>" := (name_of_methodNamed B.named B.method).1
  subst hsz
  have hD := hD0.self (sz := s.heap.size)
  generalize hAe : va_A ([(h0, .inr (3, [.null, .int 0, .int 0, .int 0, .null, .int 0, .int 0, .null, .int 0, .int 0]))]) s.heap.size = A at hD hSt ⊢
  have hA : ∀ q : Nat, s.heap.size ≤ q → A q := fun q h => by rw [← hAe]; exact Or.inr h
  have hS : va_S A s.heap s.heap [] := va_S.rf
  have hl := lv_entry ([.ref h0]) (n := 1) (Nat.le_of_ble_eq_true rfl)
  rw [lg_entry_eq]
  generalize (lg_sl ([.ref h0]) ++ List.replicate (1 - (lg_sl ([.ref h0])).length) Slot.unset).toArray = ls at hl ⊢
  have hl : lv_has ls 1 [(0, .ref h0)] := hl
  obtain ⟨H, hH⟩ : ∃ z, z = s.heap := ⟨_, rfl⟩
  rw [← hH] at hP
  have hS : va_S A s.heap H [] := by rw [hH]; exact hS
  suffices hgo : W p l e _ s m _ below meth c H [] 0 0 _ _ by rw [hH] at hgo; exact hgo
  have hO := hN.2.2.2.2
  have hP : va_P G vwCl (List.flatten [[(h0, .inr (3, [.null, .int 0, .int 0, .int 0, .null, .int 0, .int 0, .null, .int 0, .int 0]))]]) H := hP
  have hD : va_D A (List.flatten [[(h0, .inr (3, [.null, .int 0, .int 0, .int 0, .null, .int 0, .int 0, .null, .int 0, .int 0]))]]) := hD
  refine lv_aload_n hx hb dX3_init_0 rfl (lv_at hl 0 rfl) ?_
  refine W.objInit hx hb hown (hT _ kw_2_19) (hT _ kw_1_11) (hT _ kw_1_12) rfl (by rw [hml]; exact hl.1) rfl dX3_init_1 (Nat.le_of_ble_eq_true rfl) (Nat.le_of_ble_eq_true rfl) ?_
  refine W.eq (g2 := F0 m 4 ls []) rfl ?_
  refine lv_aload_n hx hb dX3_init_4 rfl (lv_at hl 0 rfl) ?_
  refine va_new (ci := 5) (fs := [.int 0, .int 0, .int 0, .int 0, .null, .null, .int 0, .int 0]) (C := RX5) (T := TX5) (N := 8) hx hb hT ku_5 tyX5 tyX5_ok hown (hT _ kw_2_20) (hT _ kw_2_21) (hT _ kw_2_22) hK hP hD hS hA rfl tq_dfX5 (Nat.le_of_ble_eq_true rfl) (Nat.le_of_ble_eq_true rfl) dX3_init_5 (fun q1 H hP hD hS => ?_)
  refine W.widen (k := 1) (n := 8) (Nat.le_of_ble_eq_true rfl) (Nat.le_of_ble_eq_true rfl) ?_
  have hP : va_P G vwCl (List.flatten [[(h0, .inr (3, [.null, .int 0, .int 0, .int 0, .null, .int 0, .int 0, .null, .int 0, .int 0]))], [(q1, .inr (5, [.int 0, .int 0, .int 0, .int 0, .null, .null, .int 0, .int 0]))]]) H := by rw [fl_app] at hP; exact hP
  have hD : va_D A (List.flatten [[(h0, .inr (3, [.null, .int 0, .int 0, .int 0, .null, .int 0, .int 0, .null, .int 0, .int 0]))], [(q1, .inr (5, [.int 0, .int 0, .int 0, .int 0, .null, .null, .int 0, .int 0]))]]) := by rw [fl_app] at hD; exact hD
  refine lv_dup hx hb dX3_init_8 rfl ?_
  have pm := (pk_flat (α := Nat × va_E) (sel := [[(q1, .inr (5, [.int 0, .int 0, .int 0, .int 0, .null, .null, .int 0, .int 0]))]]) (oth := [[(h0, .inr (3, [.null, .int 0, .int 0, .int 0, .null, .int 0, .int 0, .null, .int 0, .int 0]))]]) ((by decide : List.Perm [0, 1] [1, 0]).map (fun k => List.getD [([(h0, .inr (3, [.null, .int 0, .int 0, .int 0, .null, .int 0, .int 0, .null, .int 0, .int 0]))] : va_W), ([(q1, .inr (5, [.int 0, .int 0, .int 0, .int 0, .null, .null, .int 0, .int 0]))] : va_W)] k [])))
  refine tw_cvm pm hP hD hS hA (va_runI (As := []) (rest := [.ref q1, .ref h0]) ⟨hx, hb, hml, hown, hT⟩ (c_X5_init l G cA H.size q1 [.int 0, .int 0, .int 0, .int 0, .null, .null, .int 0, .int 0] sA vA fb hfb fh_dfX5) (cwI 0 hT (tq_gC kw_3_8) rfl rfl rfl (hT _ kw_2_22) (hT _ kw_3_6) (hT _ kw_3_7) rfl (by decide +kernel) ⟨Nat.le_of_ble_eq_true rfl, Nat.le_of_ble_eq_true rfl⟩) (tw_pre2 pm hP hD hK hN hS hA hSt hR) rfl rfl hl.1 rfl (lv_room (Nat.le_of_ble_eq_true rfl)) dX3_init_9 ⟨Nat.le_of_ble_eq_true rfl, Nat.le_of_ble_eq_true rfl⟩) (fun u H locs hw hP3 hD3 hS3 => ?_)
  refine W.widen (k := 3) (n := 737) (Nat.le_of_ble_eq_true rfl) (Nat.le_of_ble_eq_true rfl) ?_
  obtain ⟨fsK, tp, f1, wd, f2⟩ := u
  have hu : fsK = [.int 0, .int 0, .int 0, .int 0, .ref tp, .ref wd, .int 0, .int 0] := x5_list hw.1
  have hwC := hw.2
  subst hu
  have hS := hS3
  have pm2 := (pk_all (α := Nat × va_E) (a := 1) (it := [([(q1, .inr (5, [.int 0, .int 0, .int 0, .int 0, .ref tp, .ref wd, .int 0, .int 0])), (tp, .inl (cA 3, 700, .inl f1)), (wd, .inl (cA 0, 29, .inl f2))] : va_W), ([(h0, .inr (3, [.null, .int 0, .int 0, .int 0, .null, .int 0, .int 0, .null, .int 0, .int 0]))] : va_W)]) (by decide : List.Perm [0, 1] [1, 0]))
  have hP : va_P G vwCl (List.flatten [[(h0, .inr (3, [.null, .int 0, .int 0, .int 0, .null, .int 0, .int 0, .null, .int 0, .int 0]))], [(q1, .inr (5, [.int 0, .int 0, .int 0, .int 0, .ref tp, .ref wd, .int 0, .int 0])), (tp, .inl (cA 3, 700, .inl f1)), (wd, .inl (cA 0, 29, .inl f2))]]) H := tw_P pm2 hP3
  have hD : va_D A (List.flatten [[(h0, .inr (3, [.null, .int 0, .int 0, .int 0, .null, .int 0, .int 0, .null, .int 0, .int 0]))], [(q1, .inr (5, [.int 0, .int 0, .int 0, .int 0, .ref tp, .ref wd, .int 0, .int 0])), (tp, .inl (cA 3, 700, .inl f1)), (wd, .inl (cA 0, 29, .inl f2))]]) := tw_D pm2 hD3
  refine va_putF (D := G) (ci := 3) (v := .ref q1) (ty := (.object "RackTrain$Tokens")) (C := RX3) (T := TX3) (N := 10) hx hb hT ku_3 tyX3 tyX3_ok nmX3 hown hK hP hD hS 0 rfl rfl 0 (by decide) (hT _ kw_2_23) (fun _ h9 => h9) rfl hin rfl (by decide +kernel) rfl rfl (Nat.le_of_ble_eq_true rfl) dX3_init_12 (fun H locs hP hD hS => ?_)
  have hP : va_P G vwCl (List.flatten [[(h0, .inr (3, [.ref q1, .int 0, .int 0, .int 0, .null, .int 0, .int 0, .null, .int 0, .int 0]))], [(q1, .inr (5, [.int 0, .int 0, .int 0, .int 0, .ref tp, .ref wd, .int 0, .int 0])), (tp, .inl (cA 3, 700, .inl f1)), (wd, .inl (cA 0, 29, .inl f2))]]) H := hP
  have hD : va_D A (List.flatten [[(h0, .inr (3, [.ref q1, .int 0, .int 0, .int 0, .null, .int 0, .int 0, .null, .int 0, .int 0]))], [(q1, .inr (5, [.int 0, .int 0, .int 0, .int 0, .ref tp, .ref wd, .int 0, .int 0])), (tp, .inl (cA 3, 700, .inl f1)), (wd, .inl (cA 0, 29, .inl f2))]]) := hD
  refine lv_aload_n hx hb dX3_init_15 rfl (lv_at hl 0 rfl) ?_
  refine lv_iconst (v := 0) hx hb dX3_init_16 (by decide) ?_
  refine va_put (D := G) (ci := 3) (v := .int 0) (ty := .int) (C := RX3) (T := TX3) (N := 10) hx hb hT ku_3 tyX3 tyX3_ok nmX3 hown hK hP hD hS 0 rfl rfl 1 (by decide) (hT _ kw_3_0) (fun _ h9 => h9) rfl (by decide +kernel) rfl rfl (Nat.le_of_ble_eq_true rfl) dX3_init_17 (fun H locs hP hD hS => ?_)
  have hP : va_P G vwCl (List.flatten [[(h0, .inr (3, [.ref q1, .int 0, .int 0, .int 0, .null, .int 0, .int 0, .null, .int 0, .int 0]))], [(q1, .inr (5, [.int 0, .int 0, .int 0, .int 0, .ref tp, .ref wd, .int 0, .int 0])), (tp, .inl (cA 3, 700, .inl f1)), (wd, .inl (cA 0, 29, .inl f2))]]) H := hP
  have hD : va_D A (List.flatten [[(h0, .inr (3, [.ref q1, .int 0, .int 0, .int 0, .null, .int 0, .int 0, .null, .int 0, .int 0]))], [(q1, .inr (5, [.int 0, .int 0, .int 0, .int 0, .ref tp, .ref wd, .int 0, .int 0])), (tp, .inl (cA 3, 700, .inl f1)), (wd, .inl (cA 0, 29, .inl f2))]]) := hD
  refine lv_aload_n hx hb dX3_init_20 rfl (lv_at hl 0 rfl) ?_
  refine lv_iconst (v := (-1)) hx hb dX3_init_21 (by decide) ?_
  refine va_put (D := G) (ci := 3) (v := .int (-1)) (ty := .int) (C := RX3) (T := TX3) (N := 10) hx hb hT ku_3 tyX3 tyX3_ok nmX3 hown hK hP hD hS 0 rfl rfl 2 (by decide) (hT _ kw_3_1) (fun _ h9 => h9) rfl (by decide +kernel) rfl rfl (Nat.le_of_ble_eq_true rfl) dX3_init_22 (fun H locs hP hD hS => ?_)
  have hP : va_P G vwCl (List.flatten [[(h0, .inr (3, [.ref q1, .int 0, .int (-1), .int 0, .null, .int 0, .int 0, .null, .int 0, .int 0]))], [(q1, .inr (5, [.int 0, .int 0, .int 0, .int 0, .ref tp, .ref wd, .int 0, .int 0])), (tp, .inl (cA 3, 700, .inl f1)), (wd, .inl (cA 0, 29, .inl f2))]]) H := hP
  have hD : va_D A (List.flatten [[(h0, .inr (3, [.ref q1, .int 0, .int (-1), .int 0, .null, .int 0, .int 0, .null, .int 0, .int 0]))], [(q1, .inr (5, [.int 0, .int 0, .int 0, .int 0, .ref tp, .ref wd, .int 0, .int 0])), (tp, .inl (cA 3, 700, .inl f1)), (wd, .inl (cA 0, 29, .inl f2))]]) := hD
  refine lv_aload_n hx hb dX3_init_25 rfl (lv_at hl 0 rfl) ?_
  refine lv_iconst (v := 0) hx hb dX3_init_26 (by decide) ?_
  refine va_put (D := G) (ci := 3) (v := .int 0) (ty := .int) (C := RX3) (T := TX3) (N := 10) hx hb hT ku_3 tyX3 tyX3_ok nmX3 hown hK hP hD hS 0 rfl rfl 3 (by decide) (hT _ kw_3_2) (fun _ h9 => h9) rfl (by decide +kernel) rfl rfl (Nat.le_of_ble_eq_true rfl) dX3_init_27 (fun H locs hP hD hS => ?_)
  have hP : va_P G vwCl (List.flatten [[(h0, .inr (3, [.ref q1, .int 0, .int (-1), .int 0, .null, .int 0, .int 0, .null, .int 0, .int 0]))], [(q1, .inr (5, [.int 0, .int 0, .int 0, .int 0, .ref tp, .ref wd, .int 0, .int 0])), (tp, .inl (cA 3, 700, .inl f1)), (wd, .inl (cA 0, 29, .inl f2))]]) H := hP
  have hD : va_D A (List.flatten [[(h0, .inr (3, [.ref q1, .int 0, .int (-1), .int 0, .null, .int 0, .int 0, .null, .int 0, .int 0]))], [(q1, .inr (5, [.int 0, .int 0, .int 0, .int 0, .ref tp, .ref wd, .int 0, .int 0])), (tp, .inl (cA 3, 700, .inl f1)), (wd, .inl (cA 0, 29, .inl f2))]]) := hD
  refine lv_aload_n hx hb dX3_init_30 rfl (lv_at hl 0 rfl) ?_
  refine va_new (ci := 2) (fs := [.int 0, .int 0, .int 0, .int 0, .int 0, .int 0, .int 0, .null, .null, .null, .null, .null, .null, .null, .null, .null, .null, .null, .null]) (C := RX2) (T := TX2) (N := 19) hx hb hT ku_2 tyX2 tyX2_ok hown (hT _ kw_3_3) (hT _ kw_1_18) (hT _ kw_1_19) hK hP hD hS hA rfl tq_dfX2 (Nat.le_of_ble_eq_true rfl) (Nat.le_of_ble_eq_true rfl) dX3_init_31 (fun q2 H hP hD hS => ?_)
  refine W.widen (k := 4) (n := 756) (Nat.le_of_ble_eq_true rfl) (Nat.le_of_ble_eq_true rfl) ?_
  have hP : va_P G vwCl (List.flatten [[(h0, .inr (3, [.ref q1, .int 0, .int (-1), .int 0, .null, .int 0, .int 0, .null, .int 0, .int 0]))], [(q1, .inr (5, [.int 0, .int 0, .int 0, .int 0, .ref tp, .ref wd, .int 0, .int 0])), (tp, .inl (cA 3, 700, .inl f1)), (wd, .inl (cA 0, 29, .inl f2))], [(q2, .inr (2, [.int 0, .int 0, .int 0, .int 0, .int 0, .int 0, .int 0, .null, .null, .null, .null, .null, .null, .null, .null, .null, .null, .null, .null]))]]) H := by rw [fl_app] at hP; exact hP
  have hD : va_D A (List.flatten [[(h0, .inr (3, [.ref q1, .int 0, .int (-1), .int 0, .null, .int 0, .int 0, .null, .int 0, .int 0]))], [(q1, .inr (5, [.int 0, .int 0, .int 0, .int 0, .ref tp, .ref wd, .int 0, .int 0])), (tp, .inl (cA 3, 700, .inl f1)), (wd, .inl (cA 0, 29, .inl f2))], [(q2, .inr (2, [.int 0, .int 0, .int 0, .int 0, .int 0, .int 0, .int 0, .null, .null, .null, .null, .null, .null, .null, .null, .null, .null, .null, .null]))]]) := by rw [fl_app] at hD; exact hD
  refine lv_dup hx hb dX3_init_34 rfl ?_
  have pm := (pk_flat (α := Nat × va_E) (sel := [[(q2, .inr (2, [.int 0, .int 0, .int 0, .int 0, .int 0, .int 0, .int 0, .null, .null, .null, .null, .null, .null, .null, .null, .null, .null, .null, .null]))]]) (oth := [[(h0, .inr (3, [.ref q1, .int 0, .int (-1), .int 0, .null, .int 0, .int 0, .null, .int 0, .int 0]))], [(q1, .inr (5, [.int 0, .int 0, .int 0, .int 0, .ref tp, .ref wd, .int 0, .int 0])), (tp, .inl (cA 3, 700, .inl f1)), (wd, .inl (cA 0, 29, .inl f2))]]) ((by decide : List.Perm [0, 1, 2] [2, 0, 1]).map (fun k => List.getD [([(h0, .inr (3, [.ref q1, .int 0, .int (-1), .int 0, .null, .int 0, .int 0, .null, .int 0, .int 0]))] : va_W), ([(q1, .inr (5, [.int 0, .int 0, .int 0, .int 0, .ref tp, .ref wd, .int 0, .int 0])), (tp, .inl (cA 3, 700, .inl f1)), (wd, .inl (cA 0, 29, .inl f2))] : va_W), ([(q2, .inr (2, [.int 0, .int 0, .int 0, .int 0, .int 0, .int 0, .int 0, .null, .null, .null, .null, .null, .null, .null, .null, .null, .null, .null, .null]))] : va_W)] k [])))
  refine tw_cvm pm hP hD hS hA (va_runI (As := []) (rest := [.ref q2, .ref h0]) ⟨hx, hb, hml, hown, hT⟩ (k_X2_init l G cA H.size q2) (cwI 0 hT (tq_gC kw_5_16) rfl rfl rfl (hT _ kw_1_19) (hT _ kw_5_14) (hT _ kw_5_15) rfl (by decide +kernel) ⟨Nat.le_of_ble_eq_true rfl, Nat.le_of_ble_eq_true rfl⟩) (tw_pre pm hP hD hK hN) rfl rfl hl.1 rfl (lv_room (Nat.le_of_ble_eq_true rfl)) dX3_init_35 ⟨Nat.le_of_ble_eq_true rfl, Nat.le_of_ble_eq_true rfl⟩) (fun u H locs hw hP25 hD25 hS25 => ?_)
  refine W.widen (k := 25) (n := 1247) (Nat.le_of_ble_eq_true rfl) (Nat.le_of_ble_eq_true rfl) ?_
  obtain ⟨pa, P⟩ := u
  obtain ⟨e9, hPb, _⟩ := hw
  have e9 : pa 0 = q2 := e9
  have hPb : iR BP P := hPb
  subst e9
  have hS := hS25
  have pm2 := (pk_all (α := Nat × va_E) (a := 2) (it := [(gP cA pa P : va_W), (gL cA pa P L0Z : va_W), ([(h0, .inr (3, [.ref q1, .int 0, .int (-1), .int 0, .null, .int 0, .int 0, .null, .int 0, .int 0]))] : va_W), ([(q1, .inr (5, [.int 0, .int 0, .int 0, .int 0, .ref tp, .ref wd, .int 0, .int 0])), (tp, .inl (cA 3, 700, .inl f1)), (wd, .inl (cA 0, 29, .inl f2))] : va_W)]) (by decide : List.Perm [0, 1, 2, 3] [2, 3, 0, 1]))
  have hP : va_P G vwCl (List.flatten [[(h0, .inr (3, [.ref q1, .int 0, .int (-1), .int 0, .null, .int 0, .int 0, .null, .int 0, .int 0]))], [(q1, .inr (5, [.int 0, .int 0, .int 0, .int 0, .ref tp, .ref wd, .int 0, .int 0])), (tp, .inl (cA 3, 700, .inl f1)), (wd, .inl (cA 0, 29, .inl f2))], gP cA pa P, gL cA pa P L0Z]) H := tw_P pm2 hP25
  have hD : va_D A (List.flatten [[(h0, .inr (3, [.ref q1, .int 0, .int (-1), .int 0, .null, .int 0, .int 0, .null, .int 0, .int 0]))], [(q1, .inr (5, [.int 0, .int 0, .int 0, .int 0, .ref tp, .ref wd, .int 0, .int 0])), (tp, .inl (cA 3, 700, .inl f1)), (wd, .inl (cA 0, 29, .inl f2))], gP cA pa P, gL cA pa P L0Z]) := tw_D pm2 hD25
  refine va_put (D := G) (ci := 3) (v := .ref (pa 0)) (ty := (.object "RackTrain$Plan")) (C := RX3) (T := TX3) (N := 10) hx hb hT ku_3 tyX3 tyX3_ok nmX3 hown hK hP hD hS 0 rfl rfl 4 (by decide) (hT _ kw_3_4) (fun _ h9 => h9) rfl (by decide +kernel) rfl rfl (Nat.le_of_ble_eq_true rfl) dX3_init_38 (fun H locs hP hD hS => ?_)
  have hP : va_P G vwCl (List.flatten [[(h0, .inr (3, [.ref q1, .int 0, .int (-1), .int 0, .ref (pa 0), .int 0, .int 0, .null, .int 0, .int 0]))], [(q1, .inr (5, [.int 0, .int 0, .int 0, .int 0, .ref tp, .ref wd, .int 0, .int 0])), (tp, .inl (cA 3, 700, .inl f1)), (wd, .inl (cA 0, 29, .inl f2))], gP cA pa P, gL cA pa P L0Z]) H := hP
  have hD : va_D A (List.flatten [[(h0, .inr (3, [.ref q1, .int 0, .int (-1), .int 0, .ref (pa 0), .int 0, .int 0, .null, .int 0, .int 0]))], [(q1, .inr (5, [.int 0, .int 0, .int 0, .int 0, .ref tp, .ref wd, .int 0, .int 0])), (tp, .inl (cA 3, 700, .inl f1)), (wd, .inl (cA 0, 29, .inl f2))], gP cA pa P, gL cA pa P L0Z]) := hD
  refine lv_aload_n hx hb dX3_init_41 rfl (lv_at hl 0 rfl) ?_
  refine lv_bipush (v := 72) hx hb dX3_init_42 (by decide) ?_
  refine tq_newa (atype := .int) (ty := .int) (n := 72) (N' := 72) (a0 := (72, .inl (fun _ => 0))) hx hb (hT _ kw_2_13) rfl hK hP hD hS hA 0 (cA 0) rfl (fun _ => rfl) (by decide) (by decide) (by decide) (Nat.le_of_ble_eq_true rfl) (Nat.le_of_ble_eq_true rfl) dX3_init_44 (fun q3 H hP hD hS => ?_)
  refine W.widen (k := 26) (n := 1319) (Nat.le_of_ble_eq_true rfl) (Nat.le_of_ble_eq_true rfl) ?_
  have hP : va_P G vwCl (List.flatten [[(h0, .inr (3, [.ref q1, .int 0, .int (-1), .int 0, .ref (pa 0), .int 0, .int 0, .null, .int 0, .int 0]))], [(q1, .inr (5, [.int 0, .int 0, .int 0, .int 0, .ref tp, .ref wd, .int 0, .int 0])), (tp, .inl (cA 3, 700, .inl f1)), (wd, .inl (cA 0, 29, .inl f2))], gP cA pa P, gL cA pa P L0Z, [(q3, .inl (cA 0, 72, .inl (fun _ => 0)))]]) H := by rw [fl_app] at hP; exact hP
  have hD : va_D A (List.flatten [[(h0, .inr (3, [.ref q1, .int 0, .int (-1), .int 0, .ref (pa 0), .int 0, .int 0, .null, .int 0, .int 0]))], [(q1, .inr (5, [.int 0, .int 0, .int 0, .int 0, .ref tp, .ref wd, .int 0, .int 0])), (tp, .inl (cA 3, 700, .inl f1)), (wd, .inl (cA 0, 29, .inl f2))], gP cA pa P, gL cA pa P L0Z, [(q3, .inl (cA 0, 72, .inl (fun _ => 0)))]]) := by rw [fl_app] at hD; exact hD
  refine va_putF (D := G) (ci := 3) (v := .ref q3) (ty := (.array .int)) (C := RX3) (T := TX3) (N := 10) hx hb hT ku_3 tyX3 tyX3_ok nmX3 hown hK hP hD hS 0 rfl rfl 7 (by decide) (hT _ kw_3_5) (fun _ h9 => h9) rfl hin rfl (by decide +kernel) rfl rfl (Nat.le_of_ble_eq_true rfl) dX3_init_46 (fun H locs hP hD hS => ?_)
  have hP : va_P G vwCl (List.flatten [[(h0, .inr (3, [.ref q1, .int 0, .int (-1), .int 0, .ref (pa 0), .int 0, .int 0, .ref q3, .int 0, .int 0]))], [(q1, .inr (5, [.int 0, .int 0, .int 0, .int 0, .ref tp, .ref wd, .int 0, .int 0])), (tp, .inl (cA 3, 700, .inl f1)), (wd, .inl (cA 0, 29, .inl f2))], gP cA pa P, gL cA pa P L0Z, [(q3, .inl (cA 0, 72, .inl (fun _ => 0)))]]) H := hP
  have hD : va_D A (List.flatten [[(h0, .inr (3, [.ref q1, .int 0, .int (-1), .int 0, .ref (pa 0), .int 0, .int 0, .ref q3, .int 0, .int 0]))], [(q1, .inr (5, [.int 0, .int 0, .int 0, .int 0, .ref tp, .ref wd, .int 0, .int 0])), (tp, .inl (cA 3, 700, .inl f1)), (wd, .inl (cA 0, 29, .inl f2))], gP cA pa P, gL cA pa P L0Z, [(q3, .inl (cA 0, 72, .inl (fun _ => 0)))]]) := hD
  have pm := (pk_flat (α := Nat × va_E) (sel := [[(q1, .inr (5, [.int 0, .int 0, .int 0, .int 0, .ref tp, .ref wd, .int 0, .int 0])), (tp, .inl (cA 3, 700, .inl f1)), (wd, .inl (cA 0, 29, .inl f2))], [(h0, .inr (3, [.ref q1, .int 0, .int (-1), .int 0, .ref (pa 0), .int 0, .int 0, .ref q3, .int 0, .int 0]))], [(q3, .inl (cA 0, 72, .inl (fun _ => 0)))], gP cA pa P, gL cA pa P L0Z]) (oth := []) ((by decide : List.Perm [0, 1, 2, 3, 4] [1, 0, 4, 2, 3]).map (fun k => List.getD [([(h0, .inr (3, [.ref q1, .int 0, .int (-1), .int 0, .ref (pa 0), .int 0, .int 0, .ref q3, .int 0, .int 0]))] : va_W), ([(q1, .inr (5, [.int 0, .int 0, .int 0, .int 0, .ref tp, .ref wd, .int 0, .int 0])), (tp, .inl (cA 3, 700, .inl f1)), (wd, .inl (cA 0, 29, .inl f2))] : va_W), (gP cA pa P : va_W), (gL cA pa P L0Z : va_W), ([(q3, .inl (cA 0, 72, .inl (fun _ => 0)))] : va_W)] k [])))
  have hP : va_P G vwCl (List.flatten [gK cA (fun k => bif Nat.beq k 5 then tp else bif Nat.beq k 6 then wd else q1) (KZ f1 f2), gR cA (fun k => bif Nat.beq k 8 then q3 else h0) ((fun k => bif Nat.beq k 5 then tp else bif Nat.beq k 6 then wd else q1) 0) (pa 0) R0Z, gP cA pa P, gL cA pa P L0Z]) H := by have h9 := tw_P pm hP; rw [List.flatten_nil, List.append_nil] at h9; exact h9
  have hD : va_D A (List.flatten [gK cA (fun k => bif Nat.beq k 5 then tp else bif Nat.beq k 6 then wd else q1) (KZ f1 f2), gR cA (fun k => bif Nat.beq k 8 then q3 else h0) ((fun k => bif Nat.beq k 5 then tp else bif Nat.beq k 6 then wd else q1) 0) (pa 0) R0Z, gP cA pa P, gL cA pa P L0Z]) := by have h9 := tw_D pm hD; rw [List.flatten_nil, List.append_nil] at h9; exact h9
  exact W.vret hx hb hr (fun t ht hW => ⟨⟨((fun k => bif Nat.beq k 5 then tp else bif Nat.beq k 6 then wd else q1), (fun k => bif Nat.beq k 8 then q3 else h0), pa, KZ f1 f2, P), rfl, ⟨rfl, iR_KZ f1 f2, ⟨rfl, fun j hj => hwC j hj⟩, hPb⟩, by rw [ht]; exact hP, hD⟩, hS.F ht⟩) hS.2.2 dX3_init_49
