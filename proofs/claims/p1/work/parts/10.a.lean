set_option maxHeartbeats 4000000 in
set_option maxRecDepth 100000 in
theorem c_X1_init (l : Launch) (G : va_G) (cA : Nat → ClassId) (sz : Nat) (h0 : Nat) (fs : List Value) (hf : fh fs 3 [(0, .null), (1, .int 0), (2, .null)]) : Met l yX1_init (.code yX1_init cX1_init 1 none :: T0) ({ frames := 1, cells := 2, slots := 128, locals := 13 }) (tqP G cA [.ref h0] [(h0, .inr (1, fs))] sz) (tqQv G cA (fun (u : List Value × Nat × (Nat → Int32) × Nat × (Nat → Int64)) => fo fs u.1 [2, 0] ∧ fh u.1 3 [(2, .ref u.2.2.2.1), (0, .ref u.2.1)]) (fun (u : List Value × Nat × (Nat → Int32) × Nat × (Nat → Int64)) => [(h0, .inr (1, u.1)), (u.2.1, .inl (cA 0, 64, .inl u.2.2.1)), (u.2.2.2.1, .inl (cA 2, 64, .inr (.inl u.2.2.2.2)))]) (va_A [(h0, .inr (1, fs))] sz)) 2 128 (va_A [(h0, .inr (1, fs))] sz) := by
  refine Met.ofW (cc := cX1_init) (maxL := 1) (ret := none) (by decide) rfl ?_
  intro p e s m args below meth c s₁ B hml hv
  obtain ⟨rfl, hsz, hP, hK, hD0, hN⟩ := hv
  have hx := B.exec
  have hb := B.bytes
  have hr := B.returns
  have hts := atoms_spec (ws := .code yX1_init cX1_init 1 none :: T0) B.pre
  have hT : ∀ w ∈ T0, w.before _ s = true := fun w h => hts w (List.mem_cons_of_mem _ h)
  have hown : s.vm.findClass RX1 = some m.cls := findClass_of_methodNamed B.named
  have hlocks := B.notSynchronized
  have hin : meth.name = "<init>" := (name_of_methodNamed B.named B.method).1
  subst hsz
  have hD := hD0.self (sz := s.heap.size)
  generalize hAe : va_A [(h0, .inr (1, fs))] s.heap.size = A at hD ⊢
  have hA : ∀ q : Nat, s.heap.size ≤ q → A q := fun q h => by rw [← hAe]; exact Or.inr h
  have hS : va_S A s.heap s.heap [] := va_S.rf
  have hl := lv_entry ([.ref h0]) (n := 1) (Nat.le_of_ble_eq_true rfl)
  rw [lg_entry_eq]
  generalize (lg_sl ([.ref h0]) ++ List.replicate (1 - (lg_sl ([.ref h0])).length) Slot.unset).toArray = ls at hl ⊢
  have hl : lv_has ls 1 [(0, .ref h0)] := hl
  obtain ⟨H, hH⟩ : ∃ z, z = s.heap := ⟨_, rfl⟩
  rw [← hH] at hP
  have hS : va_S A s.heap H [] := by rw [hH]; exact hS
  suffices hgo : W p l e _ s m _ below meth c H [] 0 0 _ _ by rw [hH] at hgo; exact hgo
  have hO := hN.2.2.2.2
  have ho_hf := fo_refl fs
  refine lv_aload_n hx hb dX1_init_0 rfl (lv_at hl 0 rfl) ?_
  refine W.objInit hx hb hown (hT _ kw_6_11) (hT _ kw_1_11) (hT _ kw_1_12) rfl (by rw [hml]; exact hl.1) rfl dX1_init_1 (Nat.le_of_ble_eq_true rfl) (Nat.le_of_ble_eq_true rfl) ?_
  refine W.eq (g2 := F0 m 4 ls []) rfl ?_
  refine lv_aload_n hx hb dX1_init_4 rfl (lv_at hl 0 rfl) ?_
  refine lv_bipush (v := 64) hx hb dX1_init_5 (by decide) ?_
  refine tq_newa (atype := .int) (ty := .int) (n := 64) (N' := 64) (a0 := (64, .inl (fun _ => 0))) hx hb (hT _ kw_2_13) rfl hK hP hD hS hA 0 (cA 0) rfl (fun _ => rfl) (by decide) (by decide) (by decide) (Nat.le_of_ble_eq_true rfl) (Nat.le_of_ble_eq_true rfl) dX1_init_7 (fun q101 H hP hD hS => ?_)
  have hP : va_P G vwCl [(h0, .inr (1, fs)), (q101, .inl (cA 0, 64, .inl ((fun _ => 0))))] H := hP
  have hD : va_D A [(h0, .inr (1, fs)), (q101, .inl (cA 0, 64, .inl ((fun _ => 0))))] := hD
  refine W.widen (k := 1) (n := 64) (Nat.le_of_ble_eq_true rfl) (Nat.le_of_ble_eq_true rfl) ?_
  obtain ⟨f102, ef102⟩ : ∃ z : Nat → Int32, z = (fun _ => 0) := ⟨_, rfl⟩
  rw [← ef102] at hP hD
  refine va_putF (D := G) (ci := 1) (v := .ref q101) (ty := (.array .int)) (C := RX1) (T := TX1) (N := 3) hx hb hT ku_1 tyX1 tyX1_ok nmX1 hown hK hP hD hS 0 rfl rfl 0 (by decide) (hT _ kw_6_12) (fun _ h9 => h9) rfl hin rfl (by decide +kernel) rfl rfl (fh_lt hf (by decide)) dX1_init_9 (fun H locs hP hD hS => ?_)
  have hP : va_P G vwCl [(h0, .inr (1, (fs.set 0 (.ref q101)))), (q101, .inl (cA 0, 64, .inl f102))] H := hP
  have hD : va_D A [(h0, .inr (1, (fs.set 0 (.ref q101)))), (q101, .inl (cA 0, 64, .inl f102))] := hD
  have hf := fh_set (l' := [(0, .ref q101), (1, .int 0), (2, .null)]) hf 0 (.ref q101) (by decide) rfl
  have ho104 := fo_set ho_hf 0 (.ref q101)
  generalize (fs.set 0 (.ref q101)) = fs103 at hP hD hf ho104
  refine lv_aload_n hx hb dX1_init_12 rfl (lv_at hl 0 rfl) ?_
  refine lv_bipush (v := 64) hx hb dX1_init_13 (by decide) ?_
  refine tq_newa (atype := .long) (ty := .long) (n := 64) (N' := 64) (a0 := (64, .inr (.inl (fun _ => 0)))) hx hb (hT _ kw_1_6) rfl hK hP hD hS hA 2 (cA 2) rfl (fun _ => rfl) (by decide) (by decide) (by decide) (Nat.le_of_ble_eq_true rfl) (Nat.le_of_ble_eq_true rfl) dX1_init_15 (fun q105 H hP hD hS => ?_)
  have hP : va_P G vwCl [(h0, .inr (1, fs103)), (q101, .inl (cA 0, 64, .inl f102)), (q105, .inl (cA 2, 64, .inr (.inl ((fun _ => 0)))))] H := hP
  have hD : va_D A [(h0, .inr (1, fs103)), (q101, .inl (cA 0, 64, .inl f102)), (q105, .inl (cA 2, 64, .inr (.inl ((fun _ => 0)))))] := hD
  refine W.widen (k := 2) (n := 128) (Nat.le_of_ble_eq_true rfl) (Nat.le_of_ble_eq_true rfl) ?_
  obtain ⟨f106, ef106⟩ : ∃ z : Nat → Int64, z = (fun _ => 0) := ⟨_, rfl⟩
  rw [← ef106] at hP hD
  refine va_putF (D := G) (ci := 1) (v := .ref q105) (ty := (.array .long)) (C := RX1) (T := TX1) (N := 3) hx hb hT ku_1 tyX1 tyX1_ok nmX1 hown hK hP hD hS 0 rfl rfl 2 (by decide) (hT _ kw_6_13) (fun _ h9 => h9) rfl hin rfl (by decide +kernel) rfl rfl (fh_lt hf (by decide)) dX1_init_17 (fun H locs hP hD hS => ?_)
  have hP : va_P G vwCl [(h0, .inr (1, (fs103.set 2 (.ref q105)))), (q101, .inl (cA 0, 64, .inl f102)), (q105, .inl (cA 2, 64, .inr (.inl f106)))] H := hP
  have hD : va_D A [(h0, .inr (1, (fs103.set 2 (.ref q105)))), (q101, .inl (cA 0, 64, .inl f102)), (q105, .inl (cA 2, 64, .inr (.inl f106)))] := hD
  have hf := fh_set (l' := [(2, .ref q105), (0, .ref q101), (1, .int 0)]) hf 2 (.ref q105) (by decide) rfl
  have ho108 := fo_set ho104 2 (.ref q105)
  generalize (fs103.set 2 (.ref q105)) = fs107 at hP hD hf ho108
  have qho108 := fo_mono (k2 := [2, 0]) ho108 (by decide)
  exact W.vret hx hb hr (fun t ht hW => ⟨⟨(fs107, q101, f102, q105, f106), rfl, ⟨qho108, fh_sub hf [0, 1] rfl⟩, by rw [ht]; exact hP, hD⟩, hS.F ht⟩) hS.2.2 dX1_init_20

set_option maxHeartbeats 4000000 in
set_option maxRecDepth 100000 in
theorem c_X2_clear (l : Launch) (G : va_G) (cA : Nat → ClassId) (sz : Nat) (h0 : Nat) (fs : List Value) (sa : Nat) (la : Nat) (fsec : Nat → Int32) (fl : Nat → Option Nat) (l0 : Nat) (l1 : Nat) (l2 : Nat) (fs0 : List Value) (fs1 : List Value) (fs2 : List Value) (hf : fh fs 19 [(17, .ref sa), (18, .ref la)]) (hl0 : fl 0 = some l0) (hl1 : fl 1 = some l1) (hl2 : fl 2 = some l2) (hf0 : fh fs0 3 []) (hf1 : fh fs1 3 []) (hf2 : fh fs2 3 []) : Met l yX2_clear (.code yX2_clear cX2_clear 2 none :: T0) ({ frames := 0, cells := 0, slots := 0, locals := 0 }) (tqP G cA [.ref h0] [(h0, .inr (2, fs)), (sa, .inl (cA 0, 21, .inl fsec)), (la, .inl (cA 4, 3, .inr (.inr (.inr (.inr fl))))), (l0, .inr (1, fs0)), (l1, .inr (1, fs1)), (l2, .inr (1, fs2))] sz) (tqQv G cA (fun (u : List Value × (Nat → Int32) × List Value × List Value × List Value) => fo fs u.1 [6, 5, 4, 3, 2, 1, 0] ∧ fh u.1 19 [(6, .int 0), (5, .int 0), (4, .int 0), (3, .int 0), (2, .int 0), (1, .int 0), (0, .int 0)] ∧ (∀ j, j < 21 → u.2.1 j = 60) ∧ fo fs0 u.2.2.1 [1] ∧ fh u.2.2.1 3 [(1, .int 0)] ∧ fo fs1 u.2.2.2.1 [1] ∧ fh u.2.2.2.1 3 [(1, .int 0)] ∧ fo fs2 u.2.2.2.2 [1] ∧ fh u.2.2.2.2 3 [(1, .int 0)]) (fun (u : List Value × (Nat → Int32) × List Value × List Value × List Value) => [(h0, .inr (2, u.1)), (sa, .inl (cA 0, 21, .inl u.2.1)), (la, .inl (cA 4, 3, .inr (.inr (.inr (.inr fl))))), (l0, .inr (1, u.2.2.1)), (l1, .inr (1, u.2.2.2.1)), (l2, .inr (1, u.2.2.2.2))]) (va_A [(h0, .inr (2, fs)), (sa, .inl (cA 0, 21, .inl fsec)), (la, .inl (cA 4, 3, .inr (.inr (.inr (.inr fl))))), (l0, .inr (1, fs0)), (l1, .inr (1, fs1)), (l2, .inr (1, fs2))] sz)) 0 0 (va_A [(h0, .inr (2, fs)), (sa, .inl (cA 0, 21, .inl fsec)), (la, .inl (cA 4, 3, .inr (.inr (.inr (.inr fl))))), (l0, .inr (1, fs0)), (l1, .inr (1, fs1)), (l2, .inr (1, fs2))] sz) := by
  refine Met.ofW (cc := cX2_clear) (maxL := 2) (ret := none) (by decide) rfl ?_
  intro p e s m args below meth c s₁ B hml hv
  obtain ⟨rfl, hsz, hP, hK, hD0, hN⟩ := hv
  have hx := B.exec
  have hb := B.bytes
  have hr := B.returns
  have hts := atoms_spec (ws := .code yX2_clear cX2_clear 2 none :: T0) B.pre
  have hT : ∀ w ∈ T0, w.before _ s = true := fun w h => hts w (List.mem_cons_of_mem _ h)
  have hown : s.vm.findClass RX2 = some m.cls := findClass_of_methodNamed B.named
  have hlocks := B.notSynchronized
  subst hsz
  have hD := hD0.self (sz := s.heap.size)
  generalize hAe : va_A [(h0, .inr (2, fs)), (sa, .inl (cA 0, 21, .inl fsec)), (la, .inl (cA 4, 3, .inr (.inr (.inr (.inr fl))))), (l0, .inr (1, fs0)), (l1, .inr (1, fs1)), (l2, .inr (1, fs2))] s.heap.size = A at hD ⊢
  have hA : ∀ q : Nat, s.heap.size ≤ q → A q := fun q h => by rw [← hAe]; exact Or.inr h
  have hS : va_S A s.heap s.heap [] := va_S.rf
  have hl := lv_entry ([.ref h0]) (n := 2) (Nat.le_of_ble_eq_true rfl)
  rw [lg_entry_eq]
  generalize (lg_sl ([.ref h0]) ++ List.replicate (2 - (lg_sl ([.ref h0])).length) Slot.unset).toArray = ls at hl ⊢
  have hl : lv_has ls 2 [(0, .ref h0)] := hl
  obtain ⟨H, hH⟩ : ∃ z, z = s.heap := ⟨_, rfl⟩
  rw [← hH] at hP
  have hS : va_S A s.heap H [] := by rw [hH]; exact hS
  suffices hgo : W p l e _ s m _ below meth c H [] 0 0 _ _ by rw [hH] at hgo; exact hgo
  have hO := hN.2.2.2.2
  have ho_hf := fo_refl fs
  have ho_hf0 := fo_refl fs0
  have ho_hf1 := fo_refl fs1
  have ho_hf2 := fo_refl fs2
  refine lv_aload_n hx hb dX2_clear_0 rfl (lv_at hl 0 rfl) ?_
  refine lv_iconst (v := 0) hx hb dX2_clear_1 (by decide) ?_
  refine va_put (D := G) (ci := 2) (v := .int 0) (ty := .int) (C := RX2) (T := TX2) (N := 19) hx hb hT ku_2 tyX2 tyX2_ok nmX2 hown hK hP hD hS 0 rfl rfl 0 (by decide) (hT _ kw_6_18) (fun _ h9 => h9) rfl (by decide +kernel) rfl rfl (fh_lt hf (by decide)) dX2_clear_2 (fun H locs hP hD hS => ?_)
  have hP : va_P G vwCl [(h0, .inr (2, (fs.set 0 (.int 0)))), (sa, .inl (cA 0, 21, .inl fsec)), (la, .inl (cA 4, 3, .inr (.inr (.inr (.inr fl))))), (l0, .inr (1, fs0)), (l1, .inr (1, fs1)), (l2, .inr (1, fs2))] H := hP
  have hD : va_D A [(h0, .inr (2, (fs.set 0 (.int 0)))), (sa, .inl (cA 0, 21, .inl fsec)), (la, .inl (cA 4, 3, .inr (.inr (.inr (.inr fl))))), (l0, .inr (1, fs0)), (l1, .inr (1, fs1)), (l2, .inr (1, fs2))] := hD
  have hf := fh_set (l' := [(0, .int 0), (17, .ref sa), (18, .ref la)]) hf 0 (.int 0) (by decide) rfl
  have ho102 := fo_set ho_hf 0 (.int 0)
  generalize (fs.set 0 (.int 0)) = fs101 at hP hD hf ho102
  refine lv_aload_n hx hb dX2_clear_5 rfl (lv_at hl 0 rfl) ?_
  refine lv_iconst (v := 0) hx hb dX2_clear_6 (by decide) ?_
  refine va_put (D := G) (ci := 2) (v := .int 0) (ty := .int) (C := RX2) (T := TX2) (N := 19) hx hb hT ku_2 tyX2 tyX2_ok nmX2 hown hK hP hD hS 0 rfl rfl 1 (by decide) (hT _ kw_6_19) (fun _ h9 => h9) rfl (by decide +kernel) rfl rfl (fh_lt hf (by decide)) dX2_clear_7 (fun H locs hP hD hS => ?_)
  have hP : va_P G vwCl [(h0, .inr (2, (fs101.set 1 (.int 0)))), (sa, .inl (cA 0, 21, .inl fsec)), (la, .inl (cA 4, 3, .inr (.inr (.inr (.inr fl))))), (l0, .inr (1, fs0)), (l1, .inr (1, fs1)), (l2, .inr (1, fs2))] H := hP
  have hD : va_D A [(h0, .inr (2, (fs101.set 1 (.int 0)))), (sa, .inl (cA 0, 21, .inl fsec)), (la, .inl (cA 4, 3, .inr (.inr (.inr (.inr fl))))), (l0, .inr (1, fs0)), (l1, .inr (1, fs1)), (l2, .inr (1, fs2))] := hD
  have hf := fh_set (l' := [(1, .int 0), (0, .int 0), (17, .ref sa), (18, .ref la)]) hf 1 (.int 0) (by decide) rfl
  have ho104 := fo_set ho102 1 (.int 0)
  generalize (fs101.set 1 (.int 0)) = fs103 at hP hD hf ho104
  refine lv_aload_n hx hb dX2_clear_10 rfl (lv_at hl 0 rfl) ?_
  refine lv_iconst (v := 0) hx hb dX2_clear_11 (by decide) ?_
  refine va_put (D := G) (ci := 2) (v := .int 0) (ty := .int) (C := RX2) (T := TX2) (N := 19) hx hb hT ku_2 tyX2 tyX2_ok nmX2 hown hK hP hD hS 0 rfl rfl 2 (by decide) (hT _ kw_6_20) (fun _ h9 => h9) rfl (by decide +kernel) rfl rfl (fh_lt hf (by decide)) dX2_clear_12 (fun H locs hP hD hS => ?_)
  have hP : va_P G vwCl [(h0, .inr (2, (fs103.set 2 (.int 0)))), (sa, .inl (cA 0, 21, .inl fsec)), (la, .inl (cA 4, 3, .inr (.inr (.inr (.inr fl))))), (l0, .inr (1, fs0)), (l1, .inr (1, fs1)), (l2, .inr (1, fs2))] H := hP
  have hD : va_D A [(h0, .inr (2, (fs103.set 2 (.int 0)))), (sa, .inl (cA 0, 21, .inl fsec)), (la, .inl (cA 4, 3, .inr (.inr (.inr (.inr fl))))), (l0, .inr (1, fs0)), (l1, .inr (1, fs1)), (l2, .inr (1, fs2))] := hD
  have hf := fh_set (l' := [(2, .int 0), (1, .int 0), (0, .int 0), (17, .ref sa), (18, .ref la)]) hf 2 (.int 0) (by decide) rfl
  have ho106 := fo_set ho104 2 (.int 0)
  generalize (fs103.set 2 (.int 0)) = fs105 at hP hD hf ho106
  refine lv_aload_n hx hb dX2_clear_15 rfl (lv_at hl 0 rfl) ?_
  refine lv_iconst (v := 0) hx hb dX2_clear_16 (by decide) ?_
  refine va_put (D := G) (ci := 2) (v := .int 0) (ty := .int) (C := RX2) (T := TX2) (N := 19) hx hb hT ku_2 tyX2 tyX2_ok nmX2 hown hK hP hD hS 0 rfl rfl 3 (by decide) (hT _ kw_6_21) (fun _ h9 => h9) rfl (by decide +kernel) rfl rfl (fh_lt hf (by decide)) dX2_clear_17 (fun H locs hP hD hS => ?_)
  have hP : va_P G vwCl [(h0, .inr (2, (fs105.set 3 (.int 0)))), (sa, .inl (cA 0, 21, .inl fsec)), (la, .inl (cA 4, 3, .inr (.inr (.inr (.inr fl))))), (l0, .inr (1, fs0)), (l1, .inr (1, fs1)), (l2, .inr (1, fs2))] H := hP
  have hD : va_D A [(h0, .inr (2, (fs105.set 3 (.int 0)))), (sa, .inl (cA 0, 21, .inl fsec)), (la, .inl (cA 4, 3, .inr (.inr (.inr (.inr fl))))), (l0, .inr (1, fs0)), (l1, .inr (1, fs1)), (l2, .inr (1, fs2))] := hD
  have hf := fh_set (l' := [(3, .int 0), (2, .int 0), (1, .int 0), (0, .int 0), (17, .ref sa), (18, .ref la)]) hf 3 (.int 0) (by decide) rfl
  have ho108 := fo_set ho106 3 (.int 0)
  generalize (fs105.set 3 (.int 0)) = fs107 at hP hD hf ho108
  refine lv_aload_n hx hb dX2_clear_20 rfl (lv_at hl 0 rfl) ?_
  refine lv_iconst (v := 0) hx hb dX2_clear_21 (by decide) ?_
  refine va_put (D := G) (ci := 2) (v := .int 0) (ty := .int) (C := RX2) (T := TX2) (N := 19) hx hb hT ku_2 tyX2 tyX2_ok nmX2 hown hK hP hD hS 0 rfl rfl 4 (by decide) (hT _ kw_6_22) (fun _ h9 => h9) rfl (by decide +kernel) rfl rfl (fh_lt hf (by decide)) dX2_clear_22 (fun H locs hP hD hS => ?_)
  have hP : va_P G vwCl [(h0, .inr (2, (fs107.set 4 (.int 0)))), (sa, .inl (cA 0, 21, .inl fsec)), (la, .inl (cA 4, 3, .inr (.inr (.inr (.inr fl))))), (l0, .inr (1, fs0)), (l1, .inr (1, fs1)), (l2, .inr (1, fs2))] H := hP
  have hD : va_D A [(h0, .inr (2, (fs107.set 4 (.int 0)))), (sa, .inl (cA 0, 21, .inl fsec)), (la, .inl (cA 4, 3, .inr (.inr (.inr (.inr fl))))), (l0, .inr (1, fs0)), (l1, .inr (1, fs1)), (l2, .inr (1, fs2))] := hD
  have hf := fh_set (l' := [(4, .int 0), (3, .int 0), (2, .int 0), (1, .int 0), (0, .int 0), (17, .ref sa), (18, .ref la)]) hf 4 (.int 0) (by decide) rfl
  have ho110 := fo_set ho108 4 (.int 0)
  generalize (fs107.set 4 (.int 0)) = fs109 at hP hD hf ho110
  refine lv_aload_n hx hb dX2_clear_25 rfl (lv_at hl 0 rfl) ?_
  refine lv_iconst (v := 0) hx hb dX2_clear_26 (by decide) ?_
  refine va_put (D := G) (ci := 2) (v := .int 0) (ty := .int) (C := RX2) (T := TX2) (N := 19) hx hb hT ku_2 tyX2 tyX2_ok nmX2 hown hK hP hD hS 0 rfl rfl 5 (by decide) (hT _ kw_6_23) (fun _ h9 => h9) rfl (by decide +kernel) rfl rfl (fh_lt hf (by decide)) dX2_clear_27 (fun H locs hP hD hS => ?_)
  have hP : va_P G vwCl [(h0, .inr (2, (fs109.set 5 (.int 0)))), (sa, .inl (cA 0, 21, .inl fsec)), (la, .inl (cA 4, 3, .inr (.inr (.inr (.inr fl))))), (l0, .inr (1, fs0)), (l1, .inr (1, fs1)), (l2, .inr (1, fs2))] H := hP
  have hD : va_D A [(h0, .inr (2, (fs109.set 5 (.int 0)))), (sa, .inl (cA 0, 21, .inl fsec)), (la, .inl (cA 4, 3, .inr (.inr (.inr (.inr fl))))), (l0, .inr (1, fs0)), (l1, .inr (1, fs1)), (l2, .inr (1, fs2))] := hD
  have hf := fh_set (l' := [(5, .int 0), (4, .int 0), (3, .int 0), (2, .int 0), (1, .int 0), (0, .int 0), (17, .ref sa), (18, .ref la)]) hf 5 (.int 0) (by decide) rfl
  have ho112 := fo_set ho110 5 (.int 0)
  generalize (fs109.set 5 (.int 0)) = fs111 at hP hD hf ho112
  refine lv_aload_n hx hb dX2_clear_30 rfl (lv_at hl 0 rfl) ?_
  refine lv_iconst (v := 0) hx hb dX2_clear_31 (by decide) ?_
  refine va_put (D := G) (ci := 2) (v := .int 0) (ty := .int) (C := RX2) (T := TX2) (N := 19) hx hb hT ku_2 tyX2 tyX2_ok nmX2 hown hK hP hD hS 0 rfl rfl 6 (by decide) (hT _ kw_7_0) (fun _ h9 => h9) rfl (by decide +kernel) rfl rfl (fh_lt hf (by decide)) dX2_clear_32 (fun H locs hP hD hS => ?_)
  have hP : va_P G vwCl [(h0, .inr (2, (fs111.set 6 (.int 0)))), (sa, .inl (cA 0, 21, .inl fsec)), (la, .inl (cA 4, 3, .inr (.inr (.inr (.inr fl))))), (l0, .inr (1, fs0)), (l1, .inr (1, fs1)), (l2, .inr (1, fs2))] H := hP
  have hD : va_D A [(h0, .inr (2, (fs111.set 6 (.int 0)))), (sa, .inl (cA 0, 21, .inl fsec)), (la, .inl (cA 4, 3, .inr (.inr (.inr (.inr fl))))), (l0, .inr (1, fs0)), (l1, .inr (1, fs1)), (l2, .inr (1, fs2))] := hD
  have hf := fh_set (l' := [(6, .int 0), (5, .int 0), (4, .int 0), (3, .int 0), (2, .int 0), (1, .int 0), (0, .int 0), (17, .ref sa), (18, .ref la)]) hf 6 (.int 0) (by decide) rfl
  have ho114 := fo_set ho112 6 (.int 0)
  generalize (fs111.set 6 (.int 0)) = fs113 at hP hD hf ho114
  refine lv_iconst (v := 0) hx hb dX2_clear_35 (by decide) ?_
  refine lv_istore_n (lv' := [(1, .int 0), (0, .ref h0)]) hx hb dX2_clear_36 rfl hl (by decide) rfl (fun ls hl => ?_)
  refine lv_iload_n hx hb dX2_clear_37 rfl (lv_at hl 0 rfl) ?_
  refine lv_bipush (v := 20) hx hb dX2_clear_38 (by decide) ?_
  refine lv_icmp_gt (tgt := 57) hx hb dX2_clear_40 (by decide) (fun c115 => absurd c115 (by decide)) (fun c115 => ?_)
  refine lv_aload_n hx hb dX2_clear_43 rfl (lv_at hl 1 rfl) ?_
  refine va_get (D := G) (ci := 2) (v := .ref sa) (C := RX2) (T := TX2) (N := 19) hx hb hT ku_2 hown hK hP 0 rfl rfl 17 (by decide) (hT _ kw_6_4) (fun _ h9 => h9) (fh_at hf 7 rfl) dX2_clear_44 ?_
  refine lv_iload_n hx hb dX2_clear_47 rfl (lv_at hl 0 rfl) ?_
  refine lv_bipush (v := 60) hx hb dX2_clear_48 (by decide) ?_
  refine va_iast (i := 0) hx hb hK hP hD hS 1 0 rfl rfl (tq_in (by decide)) dX2_clear_50 (fun H locs hP hD hS => ?_)
  have hP : va_P G vwCl [(h0, .inr (2, fs113)), (sa, .inl (cA 0, 21, .inl ((upd fsec (0 : Int32).toNatClampNeg 60)))), (la, .inl (cA 4, 3, .inr (.inr (.inr (.inr fl))))), (l0, .inr (1, fs0)), (l1, .inr (1, fs1)), (l2, .inr (1, fs2))] H := hP
  have hD : va_D A [(h0, .inr (2, fs113)), (sa, .inl (cA 0, 21, .inl ((upd fsec (0 : Int32).toNatClampNeg 60)))), (la, .inl (cA 4, 3, .inr (.inr (.inr (.inr fl))))), (l0, .inr (1, fs0)), (l1, .inr (1, fs1)), (l2, .inr (1, fs2))] := hD
  have hF117 := tq_fill (f := fsec) (x := 60) (i := 0) (n := 0) (by decide) tq_no
  have hF117 : ∀ j, j < 1 → (upd fsec (0 : Int32).toNatClampNeg 60) j = 60 := hF117
  generalize (upd fsec (0 : Int32).toNatClampNeg 60) = f116 at hP hD hF117
  refine lv_iinc (v := 1) (lv' := [(1, .int 1), (0, .ref h0)]) hx hb dX2_clear_51 hl (k := 0) rfl (by decide) (by decide) rfl (fun ls hl => ?_)
  refine lv_goto (tgt := 37) hx hb dX2_clear_54 (by decide) ?_
  refine lv_iload_n hx hb dX2_clear_37 rfl (lv_at hl 0 rfl) ?_
  refine lv_bipush (v := 20) hx hb dX2_clear_38 (by decide) ?_
  refine lv_icmp_gt (tgt := 57) hx hb dX2_clear_40 (by decide) (fun c118 => absurd c118 (by decide)) (fun c118 => ?_)
  refine lv_aload_n hx hb dX2_clear_43 rfl (lv_at hl 1 rfl) ?_
  refine va_get (D := G) (ci := 2) (v := .ref sa) (C := RX2) (T := TX2) (N := 19) hx hb hT ku_2 hown hK hP 0 rfl rfl 17 (by decide) (hT _ kw_6_4) (fun _ h9 => h9) (fh_at hf 7 rfl) dX2_clear_44 ?_
  refine lv_iload_n hx hb dX2_clear_47 rfl (lv_at hl 0 rfl) ?_
  refine lv_bipush (v := 60) hx hb dX2_clear_48 (by decide) ?_
  refine va_iast (i := 1) hx hb hK hP hD hS 1 0 rfl rfl (tq_in (by decide)) dX2_clear_50 (fun H locs hP hD hS => ?_)
  have hP : va_P G vwCl [(h0, .inr (2, fs113)), (sa, .inl (cA 0, 21, .inl ((upd f116 (1 : Int32).toNatClampNeg 60)))), (la, .inl (cA 4, 3, .inr (.inr (.inr (.inr fl))))), (l0, .inr (1, fs0)), (l1, .inr (1, fs1)), (l2, .inr (1, fs2))] H := hP
  have hD : va_D A [(h0, .inr (2, fs113)), (sa, .inl (cA 0, 21, .inl ((upd f116 (1 : Int32).toNatClampNeg 60)))), (la, .inl (cA 4, 3, .inr (.inr (.inr (.inr fl))))), (l0, .inr (1, fs0)), (l1, .inr (1, fs1)), (l2, .inr (1, fs2))] := hD
  have hF120 := tq_fill (f := f116) (x := 60) (i := 1) (n := 1) (by decide) hF117
  have hF120 : ∀ j, j < 2 → (upd f116 (1 : Int32).toNatClampNeg 60) j = 60 := hF120
  generalize (upd f116 (1 : Int32).toNatClampNeg 60) = f119 at hP hD hF120
  refine lv_iinc (v := 2) (lv' := [(1, .int 2), (0, .ref h0)]) hx hb dX2_clear_51 hl (k := 0) rfl (by decide) (by decide) rfl (fun ls hl => ?_)
  refine lv_goto (tgt := 37) hx hb dX2_clear_54 (by decide) ?_
  refine lv_iload_n hx hb dX2_clear_37 rfl (lv_at hl 0 rfl) ?_
  refine lv_bipush (v := 20) hx hb dX2_clear_38 (by decide) ?_
  refine lv_icmp_gt (tgt := 57) hx hb dX2_clear_40 (by decide) (fun c121 => absurd c121 (by decide)) (fun c121 => ?_)
  refine lv_aload_n hx hb dX2_clear_43 rfl (lv_at hl 1 rfl) ?_
  refine va_get (D := G) (ci := 2) (v := .ref sa) (C := RX2) (T := TX2) (N := 19) hx hb hT ku_2 hown hK hP 0 rfl rfl 17 (by decide) (hT _ kw_6_4) (fun _ h9 => h9) (fh_at hf 7 rfl) dX2_clear_44 ?_
  refine lv_iload_n hx hb dX2_clear_47 rfl (lv_at hl 0 rfl) ?_
  refine lv_bipush (v := 60) hx hb dX2_clear_48 (by decide) ?_
  refine va_iast (i := 2) hx hb hK hP hD hS 1 0 rfl rfl (tq_in (by decide)) dX2_clear_50 (fun H locs hP hD hS => ?_)
  have hP : va_P G vwCl [(h0, .inr (2, fs113)), (sa, .inl (cA 0, 21, .inl ((upd f119 (2 : Int32).toNatClampNeg 60)))), (la, .inl (cA 4, 3, .inr (.inr (.inr (.inr fl))))), (l0, .inr (1, fs0)), (l1, .inr (1, fs1)), (l2, .inr (1, fs2))] H := hP
  have hD : va_D A [(h0, .inr (2, fs113)), (sa, .inl (cA 0, 21, .inl ((upd f119 (2 : Int32).toNatClampNeg 60)))), (la, .inl (cA 4, 3, .inr (.inr (.inr (.inr fl))))), (l0, .inr (1, fs0)), (l1, .inr (1, fs1)), (l2, .inr (1, fs2))] := hD
  have hF123 := tq_fill (f := f119) (x := 60) (i := 2) (n := 2) (by decide) hF120
  have hF123 : ∀ j, j < 3 → (upd f119 (2 : Int32).toNatClampNeg 60) j = 60 := hF123
  generalize (upd f119 (2 : Int32).toNatClampNeg 60) = f122 at hP hD hF123
  refine lv_iinc (v := 3) (lv' := [(1, .int 3), (0, .ref h0)]) hx hb dX2_clear_51 hl (k := 0) rfl (by decide) (by decide) rfl (fun ls hl => ?_)
  refine lv_goto (tgt := 37) hx hb dX2_clear_54 (by decide) ?_
  refine lv_iload_n hx hb dX2_clear_37 rfl (lv_at hl 0 rfl) ?_
  refine lv_bipush (v := 20) hx hb dX2_clear_38 (by decide) ?_
  refine lv_icmp_gt (tgt := 57) hx hb dX2_clear_40 (by decide) (fun c124 => absurd c124 (by decide)) (fun c124 => ?_)
  refine lv_aload_n hx hb dX2_clear_43 rfl (lv_at hl 1 rfl) ?_
  refine va_get (D := G) (ci := 2) (v := .ref sa) (C := RX2) (T := TX2) (N := 19) hx hb hT ku_2 hown hK hP 0 rfl rfl 17 (by decide) (hT _ kw_6_4) (fun _ h9 => h9) (fh_at hf 7 rfl) dX2_clear_44 ?_
  refine lv_iload_n hx hb dX2_clear_47 rfl (lv_at hl 0 rfl) ?_
  refine lv_bipush (v := 60) hx hb dX2_clear_48 (by decide) ?_
  refine va_iast (i := 3) hx hb hK hP hD hS 1 0 rfl rfl (tq_in (by decide)) dX2_clear_50 (fun H locs hP hD hS => ?_)
  have hP : va_P G vwCl [(h0, .inr (2, fs113)), (sa, .inl (cA 0, 21, .inl ((upd f122 (3 : Int32).toNatClampNeg 60)))), (la, .inl (cA 4, 3, .inr (.inr (.inr (.inr fl))))), (l0, .inr (1, fs0)), (l1, .inr (1, fs1)), (l2, .inr (1, fs2))] H := hP
  have hD : va_D A [(h0, .inr (2, fs113)), (sa, .inl (cA 0, 21, .inl ((upd f122 (3 : Int32).toNatClampNeg 60)))), (la, .inl (cA 4, 3, .inr (.inr (.inr (.inr fl))))), (l0, .inr (1, fs0)), (l1, .inr (1, fs1)), (l2, .inr (1, fs2))] := hD
  have hF126 := tq_fill (f := f122) (x := 60) (i := 3) (n := 3) (by decide) hF123
  have hF126 : ∀ j, j < 4 → (upd f122 (3 : Int32).toNatClampNeg 60) j = 60 := hF126
  generalize (upd f122 (3 : Int32).toNatClampNeg 60) = f125 at hP hD hF126
  refine lv_iinc (v := 4) (lv' := [(1, .int 4), (0, .ref h0)]) hx hb dX2_clear_51 hl (k := 0) rfl (by decide) (by decide) rfl (fun ls hl => ?_)
  refine lv_goto (tgt := 37) hx hb dX2_clear_54 (by decide) ?_
  refine lv_iload_n hx hb dX2_clear_37 rfl (lv_at hl 0 rfl) ?_
  refine lv_bipush (v := 20) hx hb dX2_clear_38 (by decide) ?_
  refine lv_icmp_gt (tgt := 57) hx hb dX2_clear_40 (by decide) (fun c127 => absurd c127 (by decide)) (fun c127 => ?_)
  refine lv_aload_n hx hb dX2_clear_43 rfl (lv_at hl 1 rfl) ?_
  refine va_get (D := G) (ci := 2) (v := .ref sa) (C := RX2) (T := TX2) (N := 19) hx hb hT ku_2 hown hK hP 0 rfl rfl 17 (by decide) (hT _ kw_6_4) (fun _ h9 => h9) (fh_at hf 7 rfl) dX2_clear_44 ?_
  refine lv_iload_n hx hb dX2_clear_47 rfl (lv_at hl 0 rfl) ?_
  refine lv_bipush (v := 60) hx hb dX2_clear_48 (by decide) ?_
  refine va_iast (i := 4) hx hb hK hP hD hS 1 0 rfl rfl (tq_in (by decide)) dX2_clear_50 (fun H locs hP hD hS => ?_)
  have hP : va_P G vwCl [(h0, .inr (2, fs113)), (sa, .inl (cA 0, 21, .inl ((upd f125 (4 : Int32).toNatClampNeg 60)))), (la, .inl (cA 4, 3, .inr (.inr (.inr (.inr fl))))), (l0, .inr (1, fs0)), (l1, .inr (1, fs1)), (l2, .inr (1, fs2))] H := hP
  have hD : va_D A [(h0, .inr (2, fs113)), (sa, .inl (cA 0, 21, .inl ((upd f125 (4 : Int32).toNatClampNeg 60)))), (la, .inl (cA 4, 3, .inr (.inr (.inr (.inr fl))))), (l0, .inr (1, fs0)), (l1, .inr (1, fs1)), (l2, .inr (1, fs2))] := hD
  have hF129 := tq_fill (f := f125) (x := 60) (i := 4) (n := 4) (by decide) hF126
  have hF129 : ∀ j, j < 5 → (upd f125 (4 : Int32).toNatClampNeg 60) j = 60 := hF129
  generalize (upd f125 (4 : Int32).toNatClampNeg 60) = f128 at hP hD hF129
  refine lv_iinc (v := 5) (lv' := [(1, .int 5), (0, .ref h0)]) hx hb dX2_clear_51 hl (k := 0) rfl (by decide) (by decide) rfl (fun ls hl => ?_)
  refine lv_goto (tgt := 37) hx hb dX2_clear_54 (by decide) ?_
  refine lv_iload_n hx hb dX2_clear_37 rfl (lv_at hl 0 rfl) ?_
  refine lv_bipush (v := 20) hx hb dX2_clear_38 (by decide) ?_
  refine lv_icmp_gt (tgt := 57) hx hb dX2_clear_40 (by decide) (fun c130 => absurd c130 (by decide)) (fun c130 => ?_)
  refine lv_aload_n hx hb dX2_clear_43 rfl (lv_at hl 1 rfl) ?_
  refine va_get (D := G) (ci := 2) (v := .ref sa) (C := RX2) (T := TX2) (N := 19) hx hb hT ku_2 hown hK hP 0 rfl rfl 17 (by decide) (hT _ kw_6_4) (fun _ h9 => h9) (fh_at hf 7 rfl) dX2_clear_44 ?_
  refine lv_iload_n hx hb dX2_clear_47 rfl (lv_at hl 0 rfl) ?_
  refine lv_bipush (v := 60) hx hb dX2_clear_48 (by decide) ?_
  refine va_iast (i := 5) hx hb hK hP hD hS 1 0 rfl rfl (tq_in (by decide)) dX2_clear_50 (fun H locs hP hD hS => ?_)
  have hP : va_P G vwCl [(h0, .inr (2, fs113)), (sa, .inl (cA 0, 21, .inl ((upd f128 (5 : Int32).toNatClampNeg 60)))), (la, .inl (cA 4, 3, .inr (.inr (.inr (.inr fl))))), (l0, .inr (1, fs0)), (l1, .inr (1, fs1)), (l2, .inr (1, fs2))] H := hP
  have hD : va_D A [(h0, .inr (2, fs113)), (sa, .inl (cA 0, 21, .inl ((upd f128 (5 : Int32).toNatClampNeg 60)))), (la, .inl (cA 4, 3, .inr (.inr (.inr (.inr fl))))), (l0, .inr (1, fs0)), (l1, .inr (1, fs1)), (l2, .inr (1, fs2))] := hD
  have hF132 := tq_fill (f := f128) (x := 60) (i := 5) (n := 5) (by decide) hF129
  have hF132 : ∀ j, j < 6 → (upd f128 (5 : Int32).toNatClampNeg 60) j = 60 := hF132
  generalize (upd f128 (5 : Int32).toNatClampNeg 60) = f131 at hP hD hF132
  refine lv_iinc (v := 6) (lv' := [(1, .int 6), (0, .ref h0)]) hx hb dX2_clear_51 hl (k := 0) rfl (by decide) (by decide) rfl (fun ls hl => ?_)
  refine lv_goto (tgt := 37) hx hb dX2_clear_54 (by decide) ?_
  refine lv_iload_n hx hb dX2_clear_37 rfl (lv_at hl 0 rfl) ?_
  refine lv_bipush (v := 20) hx hb dX2_clear_38 (by decide) ?_
  refine lv_icmp_gt (tgt := 57) hx hb dX2_clear_40 (by decide) (fun c133 => absurd c133 (by decide)) (fun c133 => ?_)
  refine lv_aload_n hx hb dX2_clear_43 rfl (lv_at hl 1 rfl) ?_
  refine va_get (D := G) (ci := 2) (v := .ref sa) (C := RX2) (T := TX2) (N := 19) hx hb hT ku_2 hown hK hP 0 rfl rfl 17 (by decide) (hT _ kw_6_4) (fun _ h9 => h9) (fh_at hf 7 rfl) dX2_clear_44 ?_
  refine lv_iload_n hx hb dX2_clear_47 rfl (lv_at hl 0 rfl) ?_
  refine lv_bipush (v := 60) hx hb dX2_clear_48 (by decide) ?_
  refine va_iast (i := 6) hx hb hK hP hD hS 1 0 rfl rfl (tq_in (by decide)) dX2_clear_50 (fun H locs hP hD hS => ?_)
  have hP : va_P G vwCl [(h0, .inr (2, fs113)), (sa, .inl (cA 0, 21, .inl ((upd f131 (6 : Int32).toNatClampNeg 60)))), (la, .inl (cA 4, 3, .inr (.inr (.inr (.inr fl))))), (l0, .inr (1, fs0)), (l1, .inr (1, fs1)), (l2, .inr (1, fs2))] H := hP
  have hD : va_D A [(h0, .inr (2, fs113)), (sa, .inl (cA 0, 21, .inl ((upd f131 (6 : Int32).toNatClampNeg 60)))), (la, .inl (cA 4, 3, .inr (.inr (.inr (.inr fl))))), (l0, .inr (1, fs0)), (l1, .inr (1, fs1)), (l2, .inr (1, fs2))] := hD
  have hF135 := tq_fill (f := f131) (x := 60) (i := 6) (n := 6) (by decide) hF132
  have hF135 : ∀ j, j < 7 → (upd f131 (6 : Int32).toNatClampNeg 60) j = 60 := hF135
  generalize (upd f131 (6 : Int32).toNatClampNeg 60) = f134 at hP hD hF135
  refine lv_iinc (v := 7) (lv' := [(1, .int 7), (0, .ref h0)]) hx hb dX2_clear_51 hl (k := 0) rfl (by decide) (by decide) rfl (fun ls hl => ?_)
  refine lv_goto (tgt := 37) hx hb dX2_clear_54 (by decide) ?_
  refine lv_iload_n hx hb dX2_clear_37 rfl (lv_at hl 0 rfl) ?_
  refine lv_bipush (v := 20) hx hb dX2_clear_38 (by decide) ?_
  refine lv_icmp_gt (tgt := 57) hx hb dX2_clear_40 (by decide) (fun c136 => absurd c136 (by decide)) (fun c136 => ?_)
  refine lv_aload_n hx hb dX2_clear_43 rfl (lv_at hl 1 rfl) ?_
  refine va_get (D := G) (ci := 2) (v := .ref sa) (C := RX2) (T := TX2) (N := 19) hx hb hT ku_2 hown hK hP 0 rfl rfl 17 (by decide) (hT _ kw_6_4) (fun _ h9 => h9) (fh_at hf 7 rfl) dX2_clear_44 ?_
  refine lv_iload_n hx hb dX2_clear_47 rfl (lv_at hl 0 rfl) ?_
  refine lv_bipush (v := 60) hx hb dX2_clear_48 (by decide) ?_
  refine va_iast (i := 7) hx hb hK hP hD hS 1 0 rfl rfl (tq_in (by decide)) dX2_clear_50 (fun H locs hP hD hS => ?_)
  have hP : va_P G vwCl [(h0, .inr (2, fs113)), (sa, .inl (cA 0, 21, .inl ((upd f134 (7 : Int32).toNatClampNeg 60)))), (la, .inl (cA 4, 3, .inr (.inr (.inr (.inr fl))))), (l0, .inr (1, fs0)), (l1, .inr (1, fs1)), (l2, .inr (1, fs2))] H := hP
  have hD : va_D A [(h0, .inr (2, fs113)), (sa, .inl (cA 0, 21, .inl ((upd f134 (7 : Int32).toNatClampNeg 60)))), (la, .inl (cA 4, 3, .inr (.inr (.inr (.inr fl))))), (l0, .inr (1, fs0)), (l1, .inr (1, fs1)), (l2, .inr (1, fs2))] := hD
  have hF138 := tq_fill (f := f134) (x := 60) (i := 7) (n := 7) (by decide) hF135
  have hF138 : ∀ j, j < 8 → (upd f134 (7 : Int32).toNatClampNeg 60) j = 60 := hF138
  generalize (upd f134 (7 : Int32).toNatClampNeg 60) = f137 at hP hD hF138
  refine lv_iinc (v := 8) (lv' := [(1, .int 8), (0, .ref h0)]) hx hb dX2_clear_51 hl (k := 0) rfl (by decide) (by decide) rfl (fun ls hl => ?_)
  refine lv_goto (tgt := 37) hx hb dX2_clear_54 (by decide) ?_
  refine lv_iload_n hx hb dX2_clear_37 rfl (lv_at hl 0 rfl) ?_
  refine lv_bipush (v := 20) hx hb dX2_clear_38 (by decide) ?_
  refine lv_icmp_gt (tgt := 57) hx hb dX2_clear_40 (by decide) (fun c139 => absurd c139 (by decide)) (fun c139 => ?_)
  refine lv_aload_n hx hb dX2_clear_43 rfl (lv_at hl 1 rfl) ?_
  refine va_get (D := G) (ci := 2) (v := .ref sa) (C := RX2) (T := TX2) (N := 19) hx hb hT ku_2 hown hK hP 0 rfl rfl 17 (by decide) (hT _ kw_6_4) (fun _ h9 => h9) (fh_at hf 7 rfl) dX2_clear_44 ?_
  refine lv_iload_n hx hb dX2_clear_47 rfl (lv_at hl 0 rfl) ?_
  refine lv_bipush (v := 60) hx hb dX2_clear_48 (by decide) ?_
  refine va_iast (i := 8) hx hb hK hP hD hS 1 0 rfl rfl (tq_in (by decide)) dX2_clear_50 (fun H locs hP hD hS => ?_)
  have hP : va_P G vwCl [(h0, .inr (2, fs113)), (sa, .inl (cA 0, 21, .inl ((upd f137 (8 : Int32).toNatClampNeg 60)))), (la, .inl (cA 4, 3, .inr (.inr (.inr (.inr fl))))), (l0, .inr (1, fs0)), (l1, .inr (1, fs1)), (l2, .inr (1, fs2))] H := hP
  have hD : va_D A [(h0, .inr (2, fs113)), (sa, .inl (cA 0, 21, .inl ((upd f137 (8 : Int32).toNatClampNeg 60)))), (la, .inl (cA 4, 3, .inr (.inr (.inr (.inr fl))))), (l0, .inr (1, fs0)), (l1, .inr (1, fs1)), (l2, .inr (1, fs2))] := hD
  have hF141 := tq_fill (f := f137) (x := 60) (i := 8) (n := 8) (by decide) hF138
  have hF141 : ∀ j, j < 9 → (upd f137 (8 : Int32).toNatClampNeg 60) j = 60 := hF141
  generalize (upd f137 (8 : Int32).toNatClampNeg 60) = f140 at hP hD hF141
  refine lv_iinc (v := 9) (lv' := [(1, .int 9), (0, .ref h0)]) hx hb dX2_clear_51 hl (k := 0) rfl (by decide) (by decide) rfl (fun ls hl => ?_)
  refine lv_goto (tgt := 37) hx hb dX2_clear_54 (by decide) ?_
  refine lv_iload_n hx hb dX2_clear_37 rfl (lv_at hl 0 rfl) ?_
  refine lv_bipush (v := 20) hx hb dX2_clear_38 (by decide) ?_
  refine lv_icmp_gt (tgt := 57) hx hb dX2_clear_40 (by decide) (fun c142 => absurd c142 (by decide)) (fun c142 => ?_)
  refine lv_aload_n hx hb dX2_clear_43 rfl (lv_at hl 1 rfl) ?_
  refine va_get (D := G) (ci := 2) (v := .ref sa) (C := RX2) (T := TX2) (N := 19) hx hb hT ku_2 hown hK hP 0 rfl rfl 17 (by decide) (hT _ kw_6_4) (fun _ h9 => h9) (fh_at hf 7 rfl) dX2_clear_44 ?_
  refine lv_iload_n hx hb dX2_clear_47 rfl (lv_at hl 0 rfl) ?_
  refine lv_bipush (v := 60) hx hb dX2_clear_48 (by decide) ?_
  refine va_iast (i := 9) hx hb hK hP hD hS 1 0 rfl rfl (tq_in (by decide)) dX2_clear_50 (fun H locs hP hD hS => ?_)
  have hP : va_P G vwCl [(h0, .inr (2, fs113)), (sa, .inl (cA 0, 21, .inl ((upd f140 (9 : Int32).toNatClampNeg 60)))), (la, .inl (cA 4, 3, .inr (.inr (.inr (.inr fl))))), (l0, .inr (1, fs0)), (l1, .inr (1, fs1)), (l2, .inr (1, fs2))] H := hP
  have hD : va_D A [(h0, .inr (2, fs113)), (sa, .inl (cA 0, 21, .inl ((upd f140 (9 : Int32).toNatClampNeg 60)))), (la, .inl (cA 4, 3, .inr (.inr (.inr (.inr fl))))), (l0, .inr (1, fs0)), (l1, .inr (1, fs1)), (l2, .inr (1, fs2))] := hD
  have hF144 := tq_fill (f := f140) (x := 60) (i := 9) (n := 9) (by decide) hF141
  have hF144 : ∀ j, j < 10 → (upd f140 (9 : Int32).toNatClampNeg 60) j = 60 := hF144
  generalize (upd f140 (9 : Int32).toNatClampNeg 60) = f143 at hP hD hF144
  refine lv_iinc (v := 10) (lv' := [(1, .int 10), (0, .ref h0)]) hx hb dX2_clear_51 hl (k := 0) rfl (by decide) (by decide) rfl (fun ls hl => ?_)
  refine lv_goto (tgt := 37) hx hb dX2_clear_54 (by decide) ?_
  refine lv_iload_n hx hb dX2_clear_37 rfl (lv_at hl 0 rfl) ?_
  refine lv_bipush (v := 20) hx hb dX2_clear_38 (by decide) ?_
  refine lv_icmp_gt (tgt := 57) hx hb dX2_clear_40 (by decide) (fun c145 => absurd c145 (by decide)) (fun c145 => ?_)
  refine lv_aload_n hx hb dX2_clear_43 rfl (lv_at hl 1 rfl) ?_
  refine va_get (D := G) (ci := 2) (v := .ref sa) (C := RX2) (T := TX2) (N := 19) hx hb hT ku_2 hown hK hP 0 rfl rfl 17 (by decide) (hT _ kw_6_4) (fun _ h9 => h9) (fh_at hf 7 rfl) dX2_clear_44 ?_
  refine lv_iload_n hx hb dX2_clear_47 rfl (lv_at hl 0 rfl) ?_
  refine lv_bipush (v := 60) hx hb dX2_clear_48 (by decide) ?_
  refine va_iast (i := 10) hx hb hK hP hD hS 1 0 rfl rfl (tq_in (by decide)) dX2_clear_50 (fun H locs hP hD hS => ?_)
  have hP : va_P G vwCl [(h0, .inr (2, fs113)), (sa, .inl (cA 0, 21, .inl ((upd f143 (10 : Int32).toNatClampNeg 60)))), (la, .inl (cA 4, 3, .inr (.inr (.inr (.inr fl))))), (l0, .inr (1, fs0)), (l1, .inr (1, fs1)), (l2, .inr (1, fs2))] H := hP
  have hD : va_D A [(h0, .inr (2, fs113)), (sa, .inl (cA 0, 21, .inl ((upd f143 (10 : Int32).toNatClampNeg 60)))), (la, .inl (cA 4, 3, .inr (.inr (.inr (.inr fl))))), (l0, .inr (1, fs0)), (l1, .inr (1, fs1)), (l2, .inr (1, fs2))] := hD
  have hF147 := tq_fill (f := f143) (x := 60) (i := 10) (n := 10) (by decide) hF144
  have hF147 : ∀ j, j < 11 → (upd f143 (10 : Int32).toNatClampNeg 60) j = 60 := hF147
  generalize (upd f143 (10 : Int32).toNatClampNeg 60) = f146 at hP hD hF147
  refine lv_iinc (v := 11) (lv' := [(1, .int 11), (0, .ref h0)]) hx hb dX2_clear_51 hl (k := 0) rfl (by decide) (by decide) rfl (fun ls hl => ?_)
  refine lv_goto (tgt := 37) hx hb dX2_clear_54 (by decide) ?_
  refine lv_iload_n hx hb dX2_clear_37 rfl (lv_at hl 0 rfl) ?_
  refine lv_bipush (v := 20) hx hb dX2_clear_38 (by decide) ?_
  refine lv_icmp_gt (tgt := 57) hx hb dX2_clear_40 (by decide) (fun c148 => absurd c148 (by decide)) (fun c148 => ?_)
  refine lv_aload_n hx hb dX2_clear_43 rfl (lv_at hl 1 rfl) ?_
  refine va_get (D := G) (ci := 2) (v := .ref sa) (C := RX2) (T := TX2) (N := 19) hx hb hT ku_2 hown hK hP 0 rfl rfl 17 (by decide) (hT _ kw_6_4) (fun _ h9 => h9) (fh_at hf 7 rfl) dX2_clear_44 ?_
  refine lv_iload_n hx hb dX2_clear_47 rfl (lv_at hl 0 rfl) ?_
  refine lv_bipush (v := 60) hx hb dX2_clear_48 (by decide) ?_
  refine va_iast (i := 11) hx hb hK hP hD hS 1 0 rfl rfl (tq_in (by decide)) dX2_clear_50 (fun H locs hP hD hS => ?_)
  have hP : va_P G vwCl [(h0, .inr (2, fs113)), (sa, .inl (cA 0, 21, .inl ((upd f146 (11 : Int32).toNatClampNeg 60)))), (la, .inl (cA 4, 3, .inr (.inr (.inr (.inr fl))))), (l0, .inr (1, fs0)), (l1, .inr (1, fs1)), (l2, .inr (1, fs2))] H := hP
  have hD : va_D A [(h0, .inr (2, fs113)), (sa, .inl (cA 0, 21, .inl ((upd f146 (11 : Int32).toNatClampNeg 60)))), (la, .inl (cA 4, 3, .inr (.inr (.inr (.inr fl))))), (l0, .inr (1, fs0)), (l1, .inr (1, fs1)), (l2, .inr (1, fs2))] := hD
  have hF150 := tq_fill (f := f146) (x := 60) (i := 11) (n := 11) (by decide) hF147
  have hF150 : ∀ j, j < 12 → (upd f146 (11 : Int32).toNatClampNeg 60) j = 60 := hF150
  generalize (upd f146 (11 : Int32).toNatClampNeg 60) = f149 at hP hD hF150
  refine lv_iinc (v := 12) (lv' := [(1, .int 12), (0, .ref h0)]) hx hb dX2_clear_51 hl (k := 0) rfl (by decide) (by decide) rfl (fun ls hl => ?_)
  refine lv_goto (tgt := 37) hx hb dX2_clear_54 (by decide) ?_
  refine lv_iload_n hx hb dX2_clear_37 rfl (lv_at hl 0 rfl) ?_
  refine lv_bipush (v := 20) hx hb dX2_clear_38 (by decide) ?_
  refine lv_icmp_gt (tgt := 57) hx hb dX2_clear_40 (by decide) (fun c151 => absurd c151 (by decide)) (fun c151 => ?_)
  refine lv_aload_n hx hb dX2_clear_43 rfl (lv_at hl 1 rfl) ?_
  refine va_get (D := G) (ci := 2) (v := .ref sa) (C := RX2) (T := TX2) (N := 19) hx hb hT ku_2 hown hK hP 0 rfl rfl 17 (by decide) (hT _ kw_6_4) (fun _ h9 => h9) (fh_at hf 7 rfl) dX2_clear_44 ?_
  refine lv_iload_n hx hb dX2_clear_47 rfl (lv_at hl 0 rfl) ?_
  refine lv_bipush (v := 60) hx hb dX2_clear_48 (by decide) ?_
  refine va_iast (i := 12) hx hb hK hP hD hS 1 0 rfl rfl (tq_in (by decide)) dX2_clear_50 (fun H locs hP hD hS => ?_)
  have hP : va_P G vwCl [(h0, .inr (2, fs113)), (sa, .inl (cA 0, 21, .inl ((upd f149 (12 : Int32).toNatClampNeg 60)))), (la, .inl (cA 4, 3, .inr (.inr (.inr (.inr fl))))), (l0, .inr (1, fs0)), (l1, .inr (1, fs1)), (l2, .inr (1, fs2))] H := hP
  have hD : va_D A [(h0, .inr (2, fs113)), (sa, .inl (cA 0, 21, .inl ((upd f149 (12 : Int32).toNatClampNeg 60)))), (la, .inl (cA 4, 3, .inr (.inr (.inr (.inr fl))))), (l0, .inr (1, fs0)), (l1, .inr (1, fs1)), (l2, .inr (1, fs2))] := hD
  have hF153 := tq_fill (f := f149) (x := 60) (i := 12) (n := 12) (by decide) hF150
  have hF153 : ∀ j, j < 13 → (upd f149 (12 : Int32).toNatClampNeg 60) j = 60 := hF153
  generalize (upd f149 (12 : Int32).toNatClampNeg 60) = f152 at hP hD hF153
  refine lv_iinc (v := 13) (lv' := [(1, .int 13), (0, .ref h0)]) hx hb dX2_clear_51 hl (k := 0) rfl (by decide) (by decide) rfl (fun ls hl => ?_)
  refine lv_goto (tgt := 37) hx hb dX2_clear_54 (by decide) ?_
  refine lv_iload_n hx hb dX2_clear_37 rfl (lv_at hl 0 rfl) ?_
  refine lv_bipush (v := 20) hx hb dX2_clear_38 (by decide) ?_
  refine lv_icmp_gt (tgt := 57) hx hb dX2_clear_40 (by decide) (fun c154 => absurd c154 (by decide)) (fun c154 => ?_)
  refine lv_aload_n hx hb dX2_clear_43 rfl (lv_at hl 1 rfl) ?_
  refine va_get (D := G) (ci := 2) (v := .ref sa) (C := RX2) (T := TX2) (N := 19) hx hb hT ku_2 hown hK hP 0 rfl rfl 17 (by decide) (hT _ kw_6_4) (fun _ h9 => h9) (fh_at hf 7 rfl) dX2_clear_44 ?_
  refine lv_iload_n hx hb dX2_clear_47 rfl (lv_at hl 0 rfl) ?_
  refine lv_bipush (v := 60) hx hb dX2_clear_48 (by decide) ?_
  refine va_iast (i := 13) hx hb hK hP hD hS 1 0 rfl rfl (tq_in (by decide)) dX2_clear_50 (fun H locs hP hD hS => ?_)
  have hP : va_P G vwCl [(h0, .inr (2, fs113)), (sa, .inl (cA 0, 21, .inl ((upd f152 (13 : Int32).toNatClampNeg 60)))), (la, .inl (cA 4, 3, .inr (.inr (.inr (.inr fl))))), (l0, .inr (1, fs0)), (l1, .inr (1, fs1)), (l2, .inr (1, fs2))] H := hP
  have hD : va_D A [(h0, .inr (2, fs113)), (sa, .inl (cA 0, 21, .inl ((upd f152 (13 : Int32).toNatClampNeg 60)))), (la, .inl (cA 4, 3, .inr (.inr (.inr (.inr fl))))), (l0, .inr (1, fs0)), (l1, .inr (1, fs1)), (l2, .inr (1, fs2))] := hD
  have hF156 := tq_fill (f := f152) (x := 60) (i := 13) (n := 13) (by decide) hF153
  have hF156 : ∀ j, j < 14 → (upd f152 (13 : Int32).toNatClampNeg 60) j = 60 := hF156
  generalize (upd f152 (13 : Int32).toNatClampNeg 60) = f155 at hP hD hF156
  refine lv_iinc (v := 14) (lv' := [(1, .int 14), (0, .ref h0)]) hx hb dX2_clear_51 hl (k := 0) rfl (by decide) (by decide) rfl (fun ls hl => ?_)
  refine lv_goto (tgt := 37) hx hb dX2_clear_54 (by decide) ?_
  refine lv_iload_n hx hb dX2_clear_37 rfl (lv_at hl 0 rfl) ?_
  refine lv_bipush (v := 20) hx hb dX2_clear_38 (by decide) ?_
  refine lv_icmp_gt (tgt := 57) hx hb dX2_clear_40 (by decide) (fun c157 => absurd c157 (by decide)) (fun c157 => ?_)
  refine lv_aload_n hx hb dX2_clear_43 rfl (lv_at hl 1 rfl) ?_
  refine va_get (D := G) (ci := 2) (v := .ref sa) (C := RX2) (T := TX2) (N := 19) hx hb hT ku_2 hown hK hP 0 rfl rfl 17 (by decide) (hT _ kw_6_4) (fun _ h9 => h9) (fh_at hf 7 rfl) dX2_clear_44 ?_
  refine lv_iload_n hx hb dX2_clear_47 rfl (lv_at hl 0 rfl) ?_
  refine lv_bipush (v := 60) hx hb dX2_clear_48 (by decide) ?_
  refine va_iast (i := 14) hx hb hK hP hD hS 1 0 rfl rfl (tq_in (by decide)) dX2_clear_50 (fun H locs hP hD hS => ?_)
  have hP : va_P G vwCl [(h0, .inr (2, fs113)), (sa, .inl (cA 0, 21, .inl ((upd f155 (14 : Int32).toNatClampNeg 60)))), (la, .inl (cA 4, 3, .inr (.inr (.inr (.inr fl))))), (l0, .inr (1, fs0)), (l1, .inr (1, fs1)), (l2, .inr (1, fs2))] H := hP
  have hD : va_D A [(h0, .inr (2, fs113)), (sa, .inl (cA 0, 21, .inl ((upd f155 (14 : Int32).toNatClampNeg 60)))), (la, .inl (cA 4, 3, .inr (.inr (.inr (.inr fl))))), (l0, .inr (1, fs0)), (l1, .inr (1, fs1)), (l2, .inr (1, fs2))] := hD
  have hF159 := tq_fill (f := f155) (x := 60) (i := 14) (n := 14) (by decide) hF156
  have hF159 : ∀ j, j < 15 → (upd f155 (14 : Int32).toNatClampNeg 60) j = 60 := hF159
  generalize (upd f155 (14 : Int32).toNatClampNeg 60) = f158 at hP hD hF159
  refine lv_iinc (v := 15) (lv' := [(1, .int 15), (0, .ref h0)]) hx hb dX2_clear_51 hl (k := 0) rfl (by decide) (by decide) rfl (fun ls hl => ?_)
  refine lv_goto (tgt := 37) hx hb dX2_clear_54 (by decide) ?_
  refine lv_iload_n hx hb dX2_clear_37 rfl (lv_at hl 0 rfl) ?_
  refine lv_bipush (v := 20) hx hb dX2_clear_38 (by decide) ?_
  refine lv_icmp_gt (tgt := 57) hx hb dX2_clear_40 (by decide) (fun c160 => absurd c160 (by decide)) (fun c160 => ?_)
  refine lv_aload_n hx hb dX2_clear_43 rfl (lv_at hl 1 rfl) ?_
  refine va_get (D := G) (ci := 2) (v := .ref sa) (C := RX2) (T := TX2) (N := 19) hx hb hT ku_2 hown hK hP 0 rfl rfl 17 (by decide) (hT _ kw_6_4) (fun _ h9 => h9) (fh_at hf 7 rfl) dX2_clear_44 ?_
  refine lv_iload_n hx hb dX2_clear_47 rfl (lv_at hl 0 rfl) ?_
  refine lv_bipush (v := 60) hx hb dX2_clear_48 (by decide) ?_
  refine va_iast (i := 15) hx hb hK hP hD hS 1 0 rfl rfl (tq_in (by decide)) dX2_clear_50 (fun H locs hP hD hS => ?_)
  have hP : va_P G vwCl [(h0, .inr (2, fs113)), (sa, .inl (cA 0, 21, .inl ((upd f158 (15 : Int32).toNatClampNeg 60)))), (la, .inl (cA 4, 3, .inr (.inr (.inr (.inr fl))))), (l0, .inr (1, fs0)), (l1, .inr (1, fs1)), (l2, .inr (1, fs2))] H := hP
  have hD : va_D A [(h0, .inr (2, fs113)), (sa, .inl (cA 0, 21, .inl ((upd f158 (15 : Int32).toNatClampNeg 60)))), (la, .inl (cA 4, 3, .inr (.inr (.inr (.inr fl))))), (l0, .inr (1, fs0)), (l1, .inr (1, fs1)), (l2, .inr (1, fs2))] := hD
  have hF162 := tq_fill (f := f158) (x := 60) (i := 15) (n := 15) (by decide) hF159
  have hF162 : ∀ j, j < 16 → (upd f158 (15 : Int32).toNatClampNeg 60) j = 60 := hF162
  generalize (upd f158 (15 : Int32).toNatClampNeg 60) = f161 at hP hD hF162
  refine lv_iinc (v := 16) (lv' := [(1, .int 16), (0, .ref h0)]) hx hb dX2_clear_51 hl (k := 0) rfl (by decide) (by decide) rfl (fun ls hl => ?_)
  refine lv_goto (tgt := 37) hx hb dX2_clear_54 (by decide) ?_
  refine lv_iload_n hx hb dX2_clear_37 rfl (lv_at hl 0 rfl) ?_
  refine lv_bipush (v := 20) hx hb dX2_clear_38 (by decide) ?_
  refine lv_icmp_gt (tgt := 57) hx hb dX2_clear_40 (by decide) (fun c163 => absurd c163 (by decide)) (fun c163 => ?_)
  refine lv_aload_n hx hb dX2_clear_43 rfl (lv_at hl 1 rfl) ?_
  refine va_get (D := G) (ci := 2) (v := .ref sa) (C := RX2) (T := TX2) (N := 19) hx hb hT ku_2 hown hK hP 0 rfl rfl 17 (by decide) (hT _ kw_6_4) (fun _ h9 => h9) (fh_at hf 7 rfl) dX2_clear_44 ?_
  refine lv_iload_n hx hb dX2_clear_47 rfl (lv_at hl 0 rfl) ?_
  refine lv_bipush (v := 60) hx hb dX2_clear_48 (by decide) ?_
  refine va_iast (i := 16) hx hb hK hP hD hS 1 0 rfl rfl (tq_in (by decide)) dX2_clear_50 (fun H locs hP hD hS => ?_)
  have hP : va_P G vwCl [(h0, .inr (2, fs113)), (sa, .inl (cA 0, 21, .inl ((upd f161 (16 : Int32).toNatClampNeg 60)))), (la, .inl (cA 4, 3, .inr (.inr (.inr (.inr fl))))), (l0, .inr (1, fs0)), (l1, .inr (1, fs1)), (l2, .inr (1, fs2))] H := hP
  have hD : va_D A [(h0, .inr (2, fs113)), (sa, .inl (cA 0, 21, .inl ((upd f161 (16 : Int32).toNatClampNeg 60)))), (la, .inl (cA 4, 3, .inr (.inr (.inr (.inr fl))))), (l0, .inr (1, fs0)), (l1, .inr (1, fs1)), (l2, .inr (1, fs2))] := hD
  have hF165 := tq_fill (f := f161) (x := 60) (i := 16) (n := 16) (by decide) hF162
  have hF165 : ∀ j, j < 17 → (upd f161 (16 : Int32).toNatClampNeg 60) j = 60 := hF165
  generalize (upd f161 (16 : Int32).toNatClampNeg 60) = f164 at hP hD hF165
  refine lv_iinc (v := 17) (lv' := [(1, .int 17), (0, .ref h0)]) hx hb dX2_clear_51 hl (k := 0) rfl (by decide) (by decide) rfl (fun ls hl => ?_)
  refine lv_goto (tgt := 37) hx hb dX2_clear_54 (by decide) ?_
  refine lv_iload_n hx hb dX2_clear_37 rfl (lv_at hl 0 rfl) ?_
  refine lv_bipush (v := 20) hx hb dX2_clear_38 (by decide) ?_
  refine lv_icmp_gt (tgt := 57) hx hb dX2_clear_40 (by decide) (fun c166 => absurd c166 (by decide)) (fun c166 => ?_)
  refine lv_aload_n hx hb dX2_clear_43 rfl (lv_at hl 1 rfl) ?_
  refine va_get (D := G) (ci := 2) (v := .ref sa) (C := RX2) (T := TX2) (N := 19) hx hb hT ku_2 hown hK hP 0 rfl rfl 17 (by decide) (hT _ kw_6_4) (fun _ h9 => h9) (fh_at hf 7 rfl) dX2_clear_44 ?_
  refine lv_iload_n hx hb dX2_clear_47 rfl (lv_at hl 0 rfl) ?_
  refine lv_bipush (v := 60) hx hb dX2_clear_48 (by decide) ?_
  refine va_iast (i := 17) hx hb hK hP hD hS 1 0 rfl rfl (tq_in (by decide)) dX2_clear_50 (fun H locs hP hD hS => ?_)
  have hP : va_P G vwCl [(h0, .inr (2, fs113)), (sa, .inl (cA 0, 21, .inl ((upd f164 (17 : Int32).toNatClampNeg 60)))), (la, .inl (cA 4, 3, .inr (.inr (.inr (.inr fl))))), (l0, .inr (1, fs0)), (l1, .inr (1, fs1)), (l2, .inr (1, fs2))] H := hP
  have hD : va_D A [(h0, .inr (2, fs113)), (sa, .inl (cA 0, 21, .inl ((upd f164 (17 : Int32).toNatClampNeg 60)))), (la, .inl (cA 4, 3, .inr (.inr (.inr (.inr fl))))), (l0, .inr (1, fs0)), (l1, .inr (1, fs1)), (l2, .inr (1, fs2))] := hD
  have hF168 := tq_fill (f := f164) (x := 60) (i := 17) (n := 17) (by decide) hF165
  have hF168 : ∀ j, j < 18 → (upd f164 (17 : Int32).toNatClampNeg 60) j = 60 := hF168
  generalize (upd f164 (17 : Int32).toNatClampNeg 60) = f167 at hP hD hF168
  refine lv_iinc (v := 18) (lv' := [(1, .int 18), (0, .ref h0)]) hx hb dX2_clear_51 hl (k := 0) rfl (by decide) (by decide) rfl (fun ls hl => ?_)
  refine lv_goto (tgt := 37) hx hb dX2_clear_54 (by decide) ?_
  refine lv_iload_n hx hb dX2_clear_37 rfl (lv_at hl 0 rfl) ?_
  refine lv_bipush (v := 20) hx hb dX2_clear_38 (by decide) ?_
  refine lv_icmp_gt (tgt := 57) hx hb dX2_clear_40 (by decide) (fun c169 => absurd c169 (by decide)) (fun c169 => ?_)
  refine lv_aload_n hx hb dX2_clear_43 rfl (lv_at hl 1 rfl) ?_
  refine va_get (D := G) (ci := 2) (v := .ref sa) (C := RX2) (T := TX2) (N := 19) hx hb hT ku_2 hown hK hP 0 rfl rfl 17 (by decide) (hT _ kw_6_4) (fun _ h9 => h9) (fh_at hf 7 rfl) dX2_clear_44 ?_
  refine lv_iload_n hx hb dX2_clear_47 rfl (lv_at hl 0 rfl) ?_
  refine lv_bipush (v := 60) hx hb dX2_clear_48 (by decide) ?_
  refine va_iast (i := 18) hx hb hK hP hD hS 1 0 rfl rfl (tq_in (by decide)) dX2_clear_50 (fun H locs hP hD hS => ?_)
  have hP : va_P G vwCl [(h0, .inr (2, fs113)), (sa, .inl (cA 0, 21, .inl ((upd f167 (18 : Int32).toNatClampNeg 60)))), (la, .inl (cA 4, 3, .inr (.inr (.inr (.inr fl))))), (l0, .inr (1, fs0)), (l1, .inr (1, fs1)), (l2, .inr (1, fs2))] H := hP
  have hD : va_D A [(h0, .inr (2, fs113)), (sa, .inl (cA 0, 21, .inl ((upd f167 (18 : Int32).toNatClampNeg 60)))), (la, .inl (cA 4, 3, .inr (.inr (.inr (.inr fl))))), (l0, .inr (1, fs0)), (l1, .inr (1, fs1)), (l2, .inr (1, fs2))] := hD
  have hF171 := tq_fill (f := f167) (x := 60) (i := 18) (n := 18) (by decide) hF168
  have hF171 : ∀ j, j < 19 → (upd f167 (18 : Int32).toNatClampNeg 60) j = 60 := hF171
  generalize (upd f167 (18 : Int32).toNatClampNeg 60) = f170 at hP hD hF171
  refine lv_iinc (v := 19) (lv' := [(1, .int 19), (0, .ref h0)]) hx hb dX2_clear_51 hl (k := 0) rfl (by decide) (by decide) rfl (fun ls hl => ?_)
  refine lv_goto (tgt := 37) hx hb dX2_clear_54 (by decide) ?_
  refine lv_iload_n hx hb dX2_clear_37 rfl (lv_at hl 0 rfl) ?_
  refine lv_bipush (v := 20) hx hb dX2_clear_38 (by decide) ?_
  refine lv_icmp_gt (tgt := 57) hx hb dX2_clear_40 (by decide) (fun c172 => absurd c172 (by decide)) (fun c172 => ?_)
  refine lv_aload_n hx hb dX2_clear_43 rfl (lv_at hl 1 rfl) ?_
  refine va_get (D := G) (ci := 2) (v := .ref sa) (C := RX2) (T := TX2) (N := 19) hx hb hT ku_2 hown hK hP 0 rfl rfl 17 (by decide) (hT _ kw_6_4) (fun _ h9 => h9) (fh_at hf 7 rfl) dX2_clear_44 ?_
  refine lv_iload_n hx hb dX2_clear_47 rfl (lv_at hl 0 rfl) ?_
  refine lv_bipush (v := 60) hx hb dX2_clear_48 (by decide) ?_
  refine va_iast (i := 19) hx hb hK hP hD hS 1 0 rfl rfl (tq_in (by decide)) dX2_clear_50 (fun H locs hP hD hS => ?_)
  have hP : va_P G vwCl [(h0, .inr (2, fs113)), (sa, .inl (cA 0, 21, .inl ((upd f170 (19 : Int32).toNatClampNeg 60)))), (la, .inl (cA 4, 3, .inr (.inr (.inr (.inr fl))))), (l0, .inr (1, fs0)), (l1, .inr (1, fs1)), (l2, .inr (1, fs2))] H := hP
  have hD : va_D A [(h0, .inr (2, fs113)), (sa, .inl (cA 0, 21, .inl ((upd f170 (19 : Int32).toNatClampNeg 60)))), (la, .inl (cA 4, 3, .inr (.inr (.inr (.inr fl))))), (l0, .inr (1, fs0)), (l1, .inr (1, fs1)), (l2, .inr (1, fs2))] := hD
  have hF174 := tq_fill (f := f170) (x := 60) (i := 19) (n := 19) (by decide) hF171
  have hF174 : ∀ j, j < 20 → (upd f170 (19 : Int32).toNatClampNeg 60) j = 60 := hF174
  generalize (upd f170 (19 : Int32).toNatClampNeg 60) = f173 at hP hD hF174
  refine lv_iinc (v := 20) (lv' := [(1, .int 20), (0, .ref h0)]) hx hb dX2_clear_51 hl (k := 0) rfl (by decide) (by decide) rfl (fun ls hl => ?_)
  refine lv_goto (tgt := 37) hx hb dX2_clear_54 (by decide) ?_
  refine lv_iload_n hx hb dX2_clear_37 rfl (lv_at hl 0 rfl) ?_
  refine lv_bipush (v := 20) hx hb dX2_clear_38 (by decide) ?_
  refine lv_icmp_gt (tgt := 57) hx hb dX2_clear_40 (by decide) (fun c175 => absurd c175 (by decide)) (fun c175 => ?_)
  refine lv_aload_n hx hb dX2_clear_43 rfl (lv_at hl 1 rfl) ?_
  refine va_get (D := G) (ci := 2) (v := .ref sa) (C := RX2) (T := TX2) (N := 19) hx hb hT ku_2 hown hK hP 0 rfl rfl 17 (by decide) (hT _ kw_6_4) (fun _ h9 => h9) (fh_at hf 7 rfl) dX2_clear_44 ?_
  refine lv_iload_n hx hb dX2_clear_47 rfl (lv_at hl 0 rfl) ?_
  refine lv_bipush (v := 60) hx hb dX2_clear_48 (by decide) ?_
  refine va_iast (i := 20) hx hb hK hP hD hS 1 0 rfl rfl (tq_in (by decide)) dX2_clear_50 (fun H locs hP hD hS => ?_)
  have hP : va_P G vwCl [(h0, .inr (2, fs113)), (sa, .inl (cA 0, 21, .inl ((upd f173 (20 : Int32).toNatClampNeg 60)))), (la, .inl (cA 4, 3, .inr (.inr (.inr (.inr fl))))), (l0, .inr (1, fs0)), (l1, .inr (1, fs1)), (l2, .inr (1, fs2))] H := hP
  have hD : va_D A [(h0, .inr (2, fs113)), (sa, .inl (cA 0, 21, .inl ((upd f173 (20 : Int32).toNatClampNeg 60)))), (la, .inl (cA 4, 3, .inr (.inr (.inr (.inr fl))))), (l0, .inr (1, fs0)), (l1, .inr (1, fs1)), (l2, .inr (1, fs2))] := hD
  have hF177 := tq_fill (f := f173) (x := 60) (i := 20) (n := 20) (by decide) hF174
  have hF177 : ∀ j, j < 21 → (upd f173 (20 : Int32).toNatClampNeg 60) j = 60 := hF177
  generalize (upd f173 (20 : Int32).toNatClampNeg 60) = f176 at hP hD hF177
  refine lv_iinc (v := 21) (lv' := [(1, .int 21), (0, .ref h0)]) hx hb dX2_clear_51 hl (k := 0) rfl (by decide) (by decide) rfl (fun ls hl => ?_)
  refine lv_goto (tgt := 37) hx hb dX2_clear_54 (by decide) ?_
  refine lv_iload_n hx hb dX2_clear_37 rfl (lv_at hl 0 rfl) ?_
  refine lv_bipush (v := 20) hx hb dX2_clear_38 (by decide) ?_
  refine lv_icmp_gt (tgt := 57) hx hb dX2_clear_40 (by decide) (fun c178 => ?_) (fun c178 => absurd (by decide) c178)
  refine lv_iconst (v := 0) hx hb dX2_clear_57 (by decide) ?_
  refine lv_istore_n (lv' := [(1, .int 0), (0, .ref h0)]) hx hb dX2_clear_58 rfl hl (by decide) rfl (fun ls hl => ?_)
  refine lv_iload_n hx hb dX2_clear_59 rfl (lv_at hl 0 rfl) ?_
  refine lv_iconst (v := 3) hx hb dX2_clear_60 (by decide) ?_
  refine lv_icmp_ge (tgt := 80) hx hb dX2_clear_61 (by decide) (fun c179 => absurd c179 (by decide)) (fun c179 => ?_)
  refine lv_aload_n hx hb dX2_clear_64 rfl (lv_at hl 1 rfl) ?_
  refine va_get (D := G) (ci := 2) (v := .ref la) (C := RX2) (T := TX2) (N := 19) hx hb hT ku_2 hown hK hP 0 rfl rfl 18 (by decide) (hT _ kw_6_6) (fun _ h9 => h9) (fh_at hf 8 rfl) dX2_clear_65 ?_
  refine lv_iload_n hx hb dX2_clear_68 rfl (lv_at hl 0 rfl) ?_
  refine va_aldq (i := 0) hx hb hK hP 2 4 rfl rfl (tq_in (by decide)) dX2_clear_69 ?_
  refine W.eq (g2 := F0 m 70 ls (.ref l0 :: [])) (by rw [show fl (0 : Int32).toNatClampNeg = some l0 from hl0]; rfl) ?_
  refine lv_iconst (v := 0) hx hb dX2_clear_70 (by decide) ?_
  refine va_put (D := G) (ci := 1) (v := .int 0) (ty := .int) (C := RX1) (T := TX1) (N := 3) hx hb hT ku_1 tyX1 tyX1_ok nmX1 hown hK hP hD hS 3 rfl rfl 1 (by decide) (hT _ kw_7_1) (fun _ h9 => h9) rfl (by decide +kernel) rfl rfl (fh_lt hf0 (by decide)) dX2_clear_71 (fun H locs hP hD hS => ?_)
  have hP : va_P G vwCl [(h0, .inr (2, fs113)), (sa, .inl (cA 0, 21, .inl f176)), (la, .inl (cA 4, 3, .inr (.inr (.inr (.inr fl))))), (l0, .inr (1, (fs0.set 1 (.int 0)))), (l1, .inr (1, fs1)), (l2, .inr (1, fs2))] H := hP
  have hD : va_D A [(h0, .inr (2, fs113)), (sa, .inl (cA 0, 21, .inl f176)), (la, .inl (cA 4, 3, .inr (.inr (.inr (.inr fl))))), (l0, .inr (1, (fs0.set 1 (.int 0)))), (l1, .inr (1, fs1)), (l2, .inr (1, fs2))] := hD
  have hf0 := fh_set (l' := [(1, .int 0)]) hf0 1 (.int 0) (by decide) rfl
  have ho181 := fo_set ho_hf0 1 (.int 0)
  generalize (fs0.set 1 (.int 0)) = fs180 at hP hD hf0 ho181
  refine lv_iinc (v := 1) (lv' := [(1, .int 1), (0, .ref h0)]) hx hb dX2_clear_74 hl (k := 0) rfl (by decide) (by decide) rfl (fun ls hl => ?_)
  refine lv_goto (tgt := 59) hx hb dX2_clear_77 (by decide) ?_
  refine lv_iload_n hx hb dX2_clear_59 rfl (lv_at hl 0 rfl) ?_
  refine lv_iconst (v := 3) hx hb dX2_clear_60 (by decide) ?_
  refine lv_icmp_ge (tgt := 80) hx hb dX2_clear_61 (by decide) (fun c182 => absurd c182 (by decide)) (fun c182 => ?_)
  refine lv_aload_n hx hb dX2_clear_64 rfl (lv_at hl 1 rfl) ?_
  refine va_get (D := G) (ci := 2) (v := .ref la) (C := RX2) (T := TX2) (N := 19) hx hb hT ku_2 hown hK hP 0 rfl rfl 18 (by decide) (hT _ kw_6_6) (fun _ h9 => h9) (fh_at hf 8 rfl) dX2_clear_65 ?_
  refine lv_iload_n hx hb dX2_clear_68 rfl (lv_at hl 0 rfl) ?_
  refine va_aldq (i := 1) hx hb hK hP 2 4 rfl rfl (tq_in (by decide)) dX2_clear_69 ?_
  refine W.eq (g2 := F0 m 70 ls (.ref l1 :: [])) (by rw [show fl (1 : Int32).toNatClampNeg = some l1 from hl1]; rfl) ?_
  refine lv_iconst (v := 0) hx hb dX2_clear_70 (by decide) ?_
  refine va_put (D := G) (ci := 1) (v := .int 0) (ty := .int) (C := RX1) (T := TX1) (N := 3) hx hb hT ku_1 tyX1 tyX1_ok nmX1 hown hK hP hD hS 4 rfl rfl 1 (by decide) (hT _ kw_7_1) (fun _ h9 => h9) rfl (by decide +kernel) rfl rfl (fh_lt hf1 (by decide)) dX2_clear_71 (fun H locs hP hD hS => ?_)
  have hP : va_P G vwCl [(h0, .inr (2, fs113)), (sa, .inl (cA 0, 21, .inl f176)), (la, .inl (cA 4, 3, .inr (.inr (.inr (.inr fl))))), (l0, .inr (1, fs180)), (l1, .inr (1, (fs1.set 1 (.int 0)))), (l2, .inr (1, fs2))] H := hP
  have hD : va_D A [(h0, .inr (2, fs113)), (sa, .inl (cA 0, 21, .inl f176)), (la, .inl (cA 4, 3, .inr (.inr (.inr (.inr fl))))), (l0, .inr (1, fs180)), (l1, .inr (1, (fs1.set 1 (.int 0)))), (l2, .inr (1, fs2))] := hD
  have hf1 := fh_set (l' := [(1, .int 0)]) hf1 1 (.int 0) (by decide) rfl
  have ho184 := fo_set ho_hf1 1 (.int 0)
  generalize (fs1.set 1 (.int 0)) = fs183 at hP hD hf1 ho184
  refine lv_iinc (v := 2) (lv' := [(1, .int 2), (0, .ref h0)]) hx hb dX2_clear_74 hl (k := 0) rfl (by decide) (by decide) rfl (fun ls hl => ?_)
  refine lv_goto (tgt := 59) hx hb dX2_clear_77 (by decide) ?_
  refine lv_iload_n hx hb dX2_clear_59 rfl (lv_at hl 0 rfl) ?_
  refine lv_iconst (v := 3) hx hb dX2_clear_60 (by decide) ?_
  refine lv_icmp_ge (tgt := 80) hx hb dX2_clear_61 (by decide) (fun c185 => absurd c185 (by decide)) (fun c185 => ?_)
  refine lv_aload_n hx hb dX2_clear_64 rfl (lv_at hl 1 rfl) ?_
  refine va_get (D := G) (ci := 2) (v := .ref la) (C := RX2) (T := TX2) (N := 19) hx hb hT ku_2 hown hK hP 0 rfl rfl 18 (by decide) (hT _ kw_6_6) (fun _ h9 => h9) (fh_at hf 8 rfl) dX2_clear_65 ?_
  refine lv_iload_n hx hb dX2_clear_68 rfl (lv_at hl 0 rfl) ?_
  refine va_aldq (i := 2) hx hb hK hP 2 4 rfl rfl (tq_in (by decide)) dX2_clear_69 ?_
  refine W.eq (g2 := F0 m 70 ls (.ref l2 :: [])) (by rw [show fl (2 : Int32).toNatClampNeg = some l2 from hl2]; rfl) ?_
  refine lv_iconst (v := 0) hx hb dX2_clear_70 (by decide) ?_
  refine va_put (D := G) (ci := 1) (v := .int 0) (ty := .int) (C := RX1) (T := TX1) (N := 3) hx hb hT ku_1 tyX1 tyX1_ok nmX1 hown hK hP hD hS 5 rfl rfl 1 (by decide) (hT _ kw_7_1) (fun _ h9 => h9) rfl (by decide +kernel) rfl rfl (fh_lt hf2 (by decide)) dX2_clear_71 (fun H locs hP hD hS => ?_)
  have hP : va_P G vwCl [(h0, .inr (2, fs113)), (sa, .inl (cA 0, 21, .inl f176)), (la, .inl (cA 4, 3, .inr (.inr (.inr (.inr fl))))), (l0, .inr (1, fs180)), (l1, .inr (1, fs183)), (l2, .inr (1, (fs2.set 1 (.int 0))))] H := hP
  have hD : va_D A [(h0, .inr (2, fs113)), (sa, .inl (cA 0, 21, .inl f176)), (la, .inl (cA 4, 3, .inr (.inr (.inr (.inr fl))))), (l0, .inr (1, fs180)), (l1, .inr (1, fs183)), (l2, .inr (1, (fs2.set 1 (.int 0))))] := hD
  have hf2 := fh_set (l' := [(1, .int 0)]) hf2 1 (.int 0) (by decide) rfl
  have ho187 := fo_set ho_hf2 1 (.int 0)
  generalize (fs2.set 1 (.int 0)) = fs186 at hP hD hf2 ho187
  refine lv_iinc (v := 3) (lv' := [(1, .int 3), (0, .ref h0)]) hx hb dX2_clear_74 hl (k := 0) rfl (by decide) (by decide) rfl (fun ls hl => ?_)
  refine lv_goto (tgt := 59) hx hb dX2_clear_77 (by decide) ?_
  refine lv_iload_n hx hb dX2_clear_59 rfl (lv_at hl 0 rfl) ?_
  refine lv_iconst (v := 3) hx hb dX2_clear_60 (by decide) ?_
  refine lv_icmp_ge (tgt := 80) hx hb dX2_clear_61 (by decide) (fun c188 => ?_) (fun c188 => absurd (by decide) c188)
  have qho114 := fo_mono (k2 := [6, 5, 4, 3, 2, 1, 0]) ho114 (by decide)
  have qho181 := fo_mono (k2 := [1]) ho181 (by decide)
  have qho184 := fo_mono (k2 := [1]) ho184 (by decide)
  have qho187 := fo_mono (k2 := [1]) ho187 (by decide)
  exact W.vret hx hb hr (fun t ht hW => ⟨⟨(fs113, f176, fs180, fs183, fs186), rfl, ⟨qho114, fh_sub hf [0, 1, 2, 3, 4, 5, 6] rfl, hF177, qho181, fh_sub hf0 [0] rfl, qho184, fh_sub hf1 [0] rfl, qho187, fh_sub hf2 [0] rfl⟩, by rw [ht]; exact hP, hD⟩, hS.F ht⟩) hS.2.2 dX2_clear_80

set_option maxHeartbeats 4000000 in
set_option maxRecDepth 100000 in
theorem c_X2_init (l : Launch) (G : va_G) (cA : Nat → ClassId) (sz : Nat) (h0 : Nat) (fs : List Value) (hf : fh fs 19 [(0, .int 0), (1, .int 0), (2, .int 0), (3, .int 0), (4, .int 0), (5, .int 0), (6, .int 0), (7, .null), (8, .null), (9, .null), (10, .null), (11, .null), (12, .null), (13, .null), (14, .null), (15, .null), (16, .null), (17, .null), (18, .null)]) : Met l yX2_init (.code yX2_init cX2_init 2 none :: T0) ({ frames := 2, cells := 21, slots := 491, locals := 33 }) (tqP G cA [.ref h0] [(h0, .inr (2, fs))] sz) (tqQv G cA (fun (u : List Value × Nat × (Nat → Int32) × Nat × (Nat → Int32) × Nat × (Nat → Int32) × Nat × (Nat → Int32) × Nat × (Nat → Int32) × Nat × (Nat → Int32) × Nat × (Nat → Int32) × Nat × (Nat → Int32) × Nat × (Nat → Int32) × Nat × (Nat → Int32) × Nat × (Nat → Int32) × Nat × (Nat → Int64) × Nat × (Nat → Int32) × Nat × (Nat → Int64) × Nat × (Nat → Int32) × Nat × (Nat → Int64) × Nat × (Nat → Int32) × Nat × (Nat → Option Nat) × Nat × List Value × Nat × List Value × Nat × List Value) => fo fs u.1 [6, 5, 4, 3, 2, 1, 0, 18, 17, 16, 15, 14, 13, 12, 11, 10, 9, 8, 7] ∧ fh u.1 19 [(6, .int 0), (5, .int 0), (4, .int 0), (3, .int 0), (2, .int 0), (1, .int 0), (0, .int 0), (18, .ref u.2.2.2.2.2.2.2.2.2.2.2.2.2.2.2.2.2.2.2.2.2.2.2.2.2.2.2.2.2.2.2.2.2.2.2.1), (17, .ref u.2.2.2.2.2.2.2.2.2.2.2.2.2.2.2.2.2.2.2.2.2.2.2.2.2.2.2.2.2.2.2.2.2.1), (16, .ref u.2.2.2.2.2.2.2.2.2.2.2.2.2.2.2.2.2.2.2.1), (15, .ref u.2.2.2.2.2.2.2.2.2.2.2.2.2.2.2.2.2.1), (14, .ref u.2.2.2.2.2.2.2.2.2.2.2.2.2.2.2.1), (13, .ref u.2.2.2.2.2.2.2.2.2.2.2.2.2.1), (12, .ref u.2.2.2.2.2.2.2.2.2.2.2.1), (11, .ref u.2.2.2.2.2.2.2.2.2.1), (10, .ref u.2.2.2.2.2.2.2.1), (9, .ref u.2.2.2.2.2.1), (8, .ref u.2.2.2.1), (7, .ref u.2.1)] ∧ (∀ j, j < 21 → u.2.2.2.2.2.2.2.2.2.2.2.2.2.2.2.2.2.2.2.2.2.2.2.2.2.2.2.2.2.2.2.2.2.2.1 j = 60) ∧ u.2.2.2.2.2.2.2.2.2.2.2.2.2.2.2.2.2.2.2.2.2.2.2.2.2.2.2.2.2.2.2.2.2.2.2.2.1 0 = some u.2.2.2.2.2.2.2.2.2.2.2.2.2.2.2.2.2.2.2.2.2.2.2.2.2.2.2.2.2.2.2.2.2.2.2.2.2.1 ∧ u.2.2.2.2.2.2.2.2.2.2.2.2.2.2.2.2.2.2.2.2.2.2.2.2.2.2.2.2.2.2.2.2.2.2.2.2.1 1 = some u.2.2.2.2.2.2.2.2.2.2.2.2.2.2.2.2.2.2.2.2.2.2.2.2.2.2.2.2.2.2.2.2.2.2.2.2.2.2.2.1 ∧ u.2.2.2.2.2.2.2.2.2.2.2.2.2.2.2.2.2.2.2.2.2.2.2.2.2.2.2.2.2.2.2.2.2.2.2.2.1 2 = some u.2.2.2.2.2.2.2.2.2.2.2.2.2.2.2.2.2.2.2.2.2.2.2.2.2.2.2.2.2.2.2.2.2.2.2.2.2.2.2.2.2.1 ∧ fh u.2.2.2.2.2.2.2.2.2.2.2.2.2.2.2.2.2.2.2.2.2.2.2.2.2.2.2.2.2.2.2.2.2.2.2.2.2.2.1 3 [(0, .ref u.2.2.2.2.2.2.2.2.2.2.2.2.2.2.2.2.2.2.2.2.2.1), (1, .int 0), (2, .ref u.2.2.2.2.2.2.2.2.2.2.2.2.2.2.2.2.2.2.2.2.2.2.2.1)] ∧ fh u.2.2.2.2.2.2.2.2.2.2.2.2.2.2.2.2.2.2.2.2.2.2.2.2.2.2.2.2.2.2.2.2.2.2.2.2.2.2.2.2.1 3 [(0, .ref u.2.2.2.2.2.2.2.2.2.2.2.2.2.2.2.2.2.2.2.2.2.2.2.2.2.1), (1, .int 0), (2, .ref u.2.2.2.2.2.2.2.2.2.2.2.2.2.2.2.2.2.2.2.2.2.2.2.2.2.2.2.1)] ∧ fh u.2.2.2.2.2.2.2.2.2.2.2.2.2.2.2.2.2.2.2.2.2.2.2.2.2.2.2.2.2.2.2.2.2.2.2.2.2.2.2.2.2.2 3 [(0, .ref u.2.2.2.2.2.2.2.2.2.2.2.2.2.2.2.2.2.2.2.2.2.2.2.2.2.2.2.2.2.1), (1, .int 0), (2, .ref u.2.2.2.2.2.2.2.2.2.2.2.2.2.2.2.2.2.2.2.2.2.2.2.2.2.2.2.2.2.2.2.1)]) (fun (u : List Value × Nat × (Nat → Int32) × Nat × (Nat → Int32) × Nat × (Nat → Int32) × Nat × (Nat → Int32) × Nat × (Nat → Int32) × Nat × (Nat → Int32) × Nat × (Nat → Int32) × Nat × (Nat → Int32) × Nat × (Nat → Int32) × Nat × (Nat → Int32) × Nat × (Nat → Int32) × Nat × (Nat → Int64) × Nat × (Nat → Int32) × Nat × (Nat → Int64) × Nat × (Nat → Int32) × Nat × (Nat → Int64) × Nat × (Nat → Int32) × Nat × (Nat → Option Nat) × Nat × List Value × Nat × List Value × Nat × List Value) => [(h0, .inr (2, u.1)), (u.2.1, .inl (cA 0, 5, .inl u.2.2.1)), (u.2.2.2.1, .inl (cA 0, 5, .inl u.2.2.2.2.1)), (u.2.2.2.2.2.1, .inl (cA 0, 6, .inl u.2.2.2.2.2.2.1)), (u.2.2.2.2.2.2.2.1, .inl (cA 0, 6, .inl u.2.2.2.2.2.2.2.2.1)), (u.2.2.2.2.2.2.2.2.2.1, .inl (cA 0, 6, .inl u.2.2.2.2.2.2.2.2.2.2.1)), (u.2.2.2.2.2.2.2.2.2.2.2.1, .inl (cA 0, 6, .inl u.2.2.2.2.2.2.2.2.2.2.2.2.1)), (u.2.2.2.2.2.2.2.2.2.2.2.2.2.1, .inl (cA 0, 10, .inl u.2.2.2.2.2.2.2.2.2.2.2.2.2.2.1)), (u.2.2.2.2.2.2.2.2.2.2.2.2.2.2.2.1, .inl (cA 0, 10, .inl u.2.2.2.2.2.2.2.2.2.2.2.2.2.2.2.2.1)), (u.2.2.2.2.2.2.2.2.2.2.2.2.2.2.2.2.2.1, .inl (cA 0, 10, .inl u.2.2.2.2.2.2.2.2.2.2.2.2.2.2.2.2.2.2.1)), (u.2.2.2.2.2.2.2.2.2.2.2.2.2.2.2.2.2.2.2.1, .inl (cA 0, 10, .inl u.2.2.2.2.2.2.2.2.2.2.2.2.2.2.2.2.2.2.2.2.1)), (u.2.2.2.2.2.2.2.2.2.2.2.2.2.2.2.2.2.2.2.2.2.1, .inl (cA 0, 64, .inl u.2.2.2.2.2.2.2.2.2.2.2.2.2.2.2.2.2.2.2.2.2.2.1)), (u.2.2.2.2.2.2.2.2.2.2.2.2.2.2.2.2.2.2.2.2.2.2.2.1, .inl (cA 2, 64, .inr (.inl u.2.2.2.2.2.2.2.2.2.2.2.2.2.2.2.2.2.2.2.2.2.2.2.2.1))), (u.2.2.2.2.2.2.2.2.2.2.2.2.2.2.2.2.2.2.2.2.2.2.2.2.2.1, .inl (cA 0, 64, .inl u.2.2.2.2.2.2.2.2.2.2.2.2.2.2.2.2.2.2.2.2.2.2.2.2.2.2.1)), (u.2.2.2.2.2.2.2.2.2.2.2.2.2.2.2.2.2.2.2.2.2.2.2.2.2.2.2.1, .inl (cA 2, 64, .inr (.inl u.2.2.2.2.2.2.2.2.2.2.2.2.2.2.2.2.2.2.2.2.2.2.2.2.2.2.2.2.1))), (u.2.2.2.2.2.2.2.2.2.2.2.2.2.2.2.2.2.2.2.2.2.2.2.2.2.2.2.2.2.1, .inl (cA 0, 64, .inl u.2.2.2.2.2.2.2.2.2.2.2.2.2.2.2.2.2.2.2.2.2.2.2.2.2.2.2.2.2.2.1)), (u.2.2.2.2.2.2.2.2.2.2.2.2.2.2.2.2.2.2.2.2.2.2.2.2.2.2.2.2.2.2.2.1, .inl (cA 2, 64, .inr (.inl u.2.2.2.2.2.2.2.2.2.2.2.2.2.2.2.2.2.2.2.2.2.2.2.2.2.2.2.2.2.2.2.2.1))), (u.2.2.2.2.2.2.2.2.2.2.2.2.2.2.2.2.2.2.2.2.2.2.2.2.2.2.2.2.2.2.2.2.2.1, .inl (cA 0, 21, .inl u.2.2.2.2.2.2.2.2.2.2.2.2.2.2.2.2.2.2.2.2.2.2.2.2.2.2.2.2.2.2.2.2.2.2.1)), (u.2.2.2.2.2.2.2.2.2.2.2.2.2.2.2.2.2.2.2.2.2.2.2.2.2.2.2.2.2.2.2.2.2.2.2.1, .inl (cA 4, 3, .inr (.inr (.inr (.inr u.2.2.2.2.2.2.2.2.2.2.2.2.2.2.2.2.2.2.2.2.2.2.2.2.2.2.2.2.2.2.2.2.2.2.2.2.1))))), (u.2.2.2.2.2.2.2.2.2.2.2.2.2.2.2.2.2.2.2.2.2.2.2.2.2.2.2.2.2.2.2.2.2.2.2.2.2.1, .inr (1, u.2.2.2.2.2.2.2.2.2.2.2.2.2.2.2.2.2.2.2.2.2.2.2.2.2.2.2.2.2.2.2.2.2.2.2.2.2.2.1)), (u.2.2.2.2.2.2.2.2.2.2.2.2.2.2.2.2.2.2.2.2.2.2.2.2.2.2.2.2.2.2.2.2.2.2.2.2.2.2.2.1, .inr (1, u.2.2.2.2.2.2.2.2.2.2.2.2.2.2.2.2.2.2.2.2.2.2.2.2.2.2.2.2.2.2.2.2.2.2.2.2.2.2.2.2.1)), (u.2.2.2.2.2.2.2.2.2.2.2.2.2.2.2.2.2.2.2.2.2.2.2.2.2.2.2.2.2.2.2.2.2.2.2.2.2.2.2.2.2.1, .inr (1, u.2.2.2.2.2.2.2.2.2.2.2.2.2.2.2.2.2.2.2.2.2.2.2.2.2.2.2.2.2.2.2.2.2.2.2.2.2.2.2.2.2.2))]) (va_A [(h0, .inr (2, fs))] sz)) 21 491 (va_A [(h0, .inr (2, fs))] sz) := by
  refine Met.ofW (cc := cX2_init) (maxL := 2) (ret := none) (by decide) rfl ?_
  intro p e s m args below meth c s₁ B hml hv
  obtain ⟨rfl, hsz, hP, hK, hD0, hN⟩ := hv
  have hx := B.exec
  have hb := B.bytes
  have hr := B.returns
  have hts := atoms_spec (ws := .code yX2_init cX2_init 2 none :: T0) B.pre
  have hT : ∀ w ∈ T0, w.before _ s = true := fun w h => hts w (List.mem_cons_of_mem _ h)
  have hown : s.vm.findClass RX2 = some m.cls := findClass_of_methodNamed B.named
  have hlocks := B.notSynchronized
  have hin : meth.name = "<init>" := (name_of_methodNamed B.named B.method).1
  subst hsz
  have hD := hD0.self (sz := s.heap.size)
  generalize hAe : va_A [(h0, .inr (2, fs))] s.heap.size = A at hD ⊢
  have hA : ∀ q : Nat, s.heap.size ≤ q → A q := fun q h => by rw [← hAe]; exact Or.inr h
  have hS : va_S A s.heap s.heap [] := va_S.rf
  have hl := lv_entry ([.ref h0]) (n := 2) (Nat.le_of_ble_eq_true rfl)
  rw [lg_entry_eq]
  generalize (lg_sl ([.ref h0]) ++ List.replicate (2 - (lg_sl ([.ref h0])).length) Slot.unset).toArray = ls at hl ⊢
  have hl : lv_has ls 2 [(0, .ref h0)] := hl
  obtain ⟨H, hH⟩ : ∃ z, z = s.heap := ⟨_, rfl⟩
  rw [← hH] at hP
  have hS : va_S A s.heap H [] := by rw [hH]; exact hS
  suffices hgo : W p l e _ s m _ below meth c H [] 0 0 _ _ by rw [hH] at hgo; exact hgo
  have hO := hN.2.2.2.2
  have ho_hf := fo_refl fs
  refine lv_aload_n hx hb dX2_init_0 rfl (lv_at hl 0 rfl) ?_
  refine W.objInit hx hb hown (hT _ kw_5_17) (hT _ kw_1_11) (hT _ kw_1_12) rfl (by rw [hml]; exact hl.1) rfl dX2_init_1 (Nat.le_of_ble_eq_true rfl) (Nat.le_of_ble_eq_true rfl) ?_
  refine W.eq (g2 := F0 m 4 ls []) rfl ?_
  refine lv_aload_n hx hb dX2_init_4 rfl (lv_at hl 0 rfl) ?_
  refine lv_iconst (v := 5) hx hb dX2_init_5 (by decide) ?_
  refine tq_newa (atype := .int) (ty := .int) (n := 5) (N' := 5) (a0 := (5, .inl (fun _ => 0))) hx hb (hT _ kw_2_13) rfl hK hP hD hS hA 0 (cA 0) rfl (fun _ => rfl) (by decide) (by decide) (by decide) (Nat.le_of_ble_eq_true rfl) (Nat.le_of_ble_eq_true rfl) dX2_init_6 (fun q101 H hP hD hS => ?_)
  have hP : va_P G vwCl [(h0, .inr (2, fs)), (q101, .inl (cA 0, 5, .inl ((fun _ => 0))))] H := hP
  have hD : va_D A [(h0, .inr (2, fs)), (q101, .inl (cA 0, 5, .inl ((fun _ => 0))))] := hD
  refine W.widen (k := 1) (n := 5) (Nat.le_of_ble_eq_true rfl) (Nat.le_of_ble_eq_true rfl) ?_
  obtain ⟨f102, ef102⟩ : ∃ z : Nat → Int32, z = (fun _ => 0) := ⟨_, rfl⟩
  rw [← ef102] at hP hD
  refine va_putF (D := G) (ci := 2) (v := .ref q101) (ty := (.array .int)) (C := RX2) (T := TX2) (N := 19) hx hb hT ku_2 tyX2 tyX2_ok nmX2 hown hK hP hD hS 0 rfl rfl 7 (by decide) (hT _ kw_5_18) (fun _ h9 => h9) rfl hin rfl (by decide +kernel) rfl rfl (fh_lt hf (by decide)) dX2_init_8 (fun H locs hP hD hS => ?_)
  have hP : va_P G vwCl [(h0, .inr (2, (fs.set 7 (.ref q101)))), (q101, .inl (cA 0, 5, .inl f102))] H := hP
  have hD : va_D A [(h0, .inr (2, (fs.set 7 (.ref q101)))), (q101, .inl (cA 0, 5, .inl f102))] := hD
  have hf := fh_set (l' := [(7, .ref q101), (0, .int 0), (1, .int 0), (2, .int 0), (3, .int 0), (4, .int 0), (5, .int 0), (6, .int 0), (8, .null), (9, .null), (10, .null), (11, .null), (12, .null), (13, .null), (14, .null), (15, .null), (16, .null), (17, .null), (18, .null)]) hf 7 (.ref q101) (by decide) rfl
  have ho104 := fo_set ho_hf 7 (.ref q101)
  generalize (fs.set 7 (.ref q101)) = fs103 at hP hD hf ho104
  refine lv_aload_n hx hb dX2_init_11 rfl (lv_at hl 0 rfl) ?_
  refine lv_iconst (v := 5) hx hb dX2_init_12 (by decide) ?_
  refine tq_newa (atype := .int) (ty := .int) (n := 5) (N' := 5) (a0 := (5, .inl (fun _ => 0))) hx hb (hT _ kw_2_13) rfl hK hP hD hS hA 0 (cA 0) rfl (fun _ => rfl) (by decide) (by decide) (by decide) (Nat.le_of_ble_eq_true rfl) (Nat.le_of_ble_eq_true rfl) dX2_init_13 (fun q105 H hP hD hS => ?_)
  have hP : va_P G vwCl [(h0, .inr (2, fs103)), (q101, .inl (cA 0, 5, .inl f102)), (q105, .inl (cA 0, 5, .inl ((fun _ => 0))))] H := hP
  have hD : va_D A [(h0, .inr (2, fs103)), (q101, .inl (cA 0, 5, .inl f102)), (q105, .inl (cA 0, 5, .inl ((fun _ => 0))))] := hD
  refine W.widen (k := 2) (n := 10) (Nat.le_of_ble_eq_true rfl) (Nat.le_of_ble_eq_true rfl) ?_
  obtain ⟨f106, ef106⟩ : ∃ z : Nat → Int32, z = (fun _ => 0) := ⟨_, rfl⟩
  rw [← ef106] at hP hD
  refine va_putF (D := G) (ci := 2) (v := .ref q105) (ty := (.array .int)) (C := RX2) (T := TX2) (N := 19) hx hb hT ku_2 tyX2 tyX2_ok nmX2 hown hK hP hD hS 0 rfl rfl 8 (by decide) (hT _ kw_5_19) (fun _ h9 => h9) rfl hin rfl (by decide +kernel) rfl rfl (fh_lt hf (by decide)) dX2_init_15 (fun H locs hP hD hS => ?_)
  have hP : va_P G vwCl [(h0, .inr (2, (fs103.set 8 (.ref q105)))), (q101, .inl (cA 0, 5, .inl f102)), (q105, .inl (cA 0, 5, .inl f106))] H := hP
  have hD : va_D A [(h0, .inr (2, (fs103.set 8 (.ref q105)))), (q101, .inl (cA 0, 5, .inl f102)), (q105, .inl (cA 0, 5, .inl f106))] := hD
  have hf := fh_set (l' := [(8, .ref q105), (7, .ref q101), (0, .int 0), (1, .int 0), (2, .int 0), (3, .int 0), (4, .int 0), (5, .int 0), (6, .int 0), (9, .null), (10, .null), (11, .null), (12, .null), (13, .null), (14, .null), (15, .null), (16, .null), (17, .null), (18, .null)]) hf 8 (.ref q105) (by decide) rfl
  have ho108 := fo_set ho104 8 (.ref q105)
  generalize (fs103.set 8 (.ref q105)) = fs107 at hP hD hf ho108
  refine lv_aload_n hx hb dX2_init_18 rfl (lv_at hl 0 rfl) ?_
  refine lv_bipush (v := 6) hx hb dX2_init_19 (by decide) ?_
  refine tq_newa (atype := .int) (ty := .int) (n := 6) (N' := 6) (a0 := (6, .inl (fun _ => 0))) hx hb (hT _ kw_2_13) rfl hK hP hD hS hA 0 (cA 0) rfl (fun _ => rfl) (by decide) (by decide) (by decide) (Nat.le_of_ble_eq_true rfl) (Nat.le_of_ble_eq_true rfl) dX2_init_21 (fun q109 H hP hD hS => ?_)
  have hP : va_P G vwCl [(h0, .inr (2, fs107)), (q101, .inl (cA 0, 5, .inl f102)), (q105, .inl (cA 0, 5, .inl f106)), (q109, .inl (cA 0, 6, .inl ((fun _ => 0))))] H := hP
  have hD : va_D A [(h0, .inr (2, fs107)), (q101, .inl (cA 0, 5, .inl f102)), (q105, .inl (cA 0, 5, .inl f106)), (q109, .inl (cA 0, 6, .inl ((fun _ => 0))))] := hD
  refine W.widen (k := 3) (n := 16) (Nat.le_of_ble_eq_true rfl) (Nat.le_of_ble_eq_true rfl) ?_
  obtain ⟨f110, ef110⟩ : ∃ z : Nat → Int32, z = (fun _ => 0) := ⟨_, rfl⟩
  rw [← ef110] at hP hD
  refine va_putF (D := G) (ci := 2) (v := .ref q109) (ty := (.array .int)) (C := RX2) (T := TX2) (N := 19) hx hb hT ku_2 tyX2 tyX2_ok nmX2 hown hK hP hD hS 0 rfl rfl 9 (by decide) (hT _ kw_5_20) (fun _ h9 => h9) rfl hin rfl (by decide +kernel) rfl rfl (fh_lt hf (by decide)) dX2_init_23 (fun H locs hP hD hS => ?_)
  have hP : va_P G vwCl [(h0, .inr (2, (fs107.set 9 (.ref q109)))), (q101, .inl (cA 0, 5, .inl f102)), (q105, .inl (cA 0, 5, .inl f106)), (q109, .inl (cA 0, 6, .inl f110))] H := hP
  have hD : va_D A [(h0, .inr (2, (fs107.set 9 (.ref q109)))), (q101, .inl (cA 0, 5, .inl f102)), (q105, .inl (cA 0, 5, .inl f106)), (q109, .inl (cA 0, 6, .inl f110))] := hD
  have hf := fh_set (l' := [(9, .ref q109), (8, .ref q105), (7, .ref q101), (0, .int 0), (1, .int 0), (2, .int 0), (3, .int 0), (4, .int 0), (5, .int 0), (6, .int 0), (10, .null), (11, .null), (12, .null), (13, .null), (14, .null), (15, .null), (16, .null), (17, .null), (18, .null)]) hf 9 (.ref q109) (by decide) rfl
  have ho112 := fo_set ho108 9 (.ref q109)
  generalize (fs107.set 9 (.ref q109)) = fs111 at hP hD hf ho112
  refine lv_aload_n hx hb dX2_init_26 rfl (lv_at hl 0 rfl) ?_
  refine lv_bipush (v := 6) hx hb dX2_init_27 (by decide) ?_
  refine tq_newa (atype := .int) (ty := .int) (n := 6) (N' := 6) (a0 := (6, .inl (fun _ => 0))) hx hb (hT _ kw_2_13) rfl hK hP hD hS hA 0 (cA 0) rfl (fun _ => rfl) (by decide) (by decide) (by decide) (Nat.le_of_ble_eq_true rfl) (Nat.le_of_ble_eq_true rfl) dX2_init_29 (fun q113 H hP hD hS => ?_)
  have hP : va_P G vwCl [(h0, .inr (2, fs111)), (q101, .inl (cA 0, 5, .inl f102)), (q105, .inl (cA 0, 5, .inl f106)), (q109, .inl (cA 0, 6, .inl f110)), (q113, .inl (cA 0, 6, .inl ((fun _ => 0))))] H := hP
  have hD : va_D A [(h0, .inr (2, fs111)), (q101, .inl (cA 0, 5, .inl f102)), (q105, .inl (cA 0, 5, .inl f106)), (q109, .inl (cA 0, 6, .inl f110)), (q113, .inl (cA 0, 6, .inl ((fun _ => 0))))] := hD
  refine W.widen (k := 4) (n := 22) (Nat.le_of_ble_eq_true rfl) (Nat.le_of_ble_eq_true rfl) ?_
  obtain ⟨f114, ef114⟩ : ∃ z : Nat → Int32, z = (fun _ => 0) := ⟨_, rfl⟩
  rw [← ef114] at hP hD
  refine va_putF (D := G) (ci := 2) (v := .ref q113) (ty := (.array .int)) (C := RX2) (T := TX2) (N := 19) hx hb hT ku_2 tyX2 tyX2_ok nmX2 hown hK hP hD hS 0 rfl rfl 10 (by decide) (hT _ kw_5_21) (fun _ h9 => h9) rfl hin rfl (by decide +kernel) rfl rfl (fh_lt hf (by decide)) dX2_init_31 (fun H locs hP hD hS => ?_)
  have hP : va_P G vwCl [(h0, .inr (2, (fs111.set 10 (.ref q113)))), (q101, .inl (cA 0, 5, .inl f102)), (q105, .inl (cA 0, 5, .inl f106)), (q109, .inl (cA 0, 6, .inl f110)), (q113, .inl (cA 0, 6, .inl f114))] H := hP
  have hD : va_D A [(h0, .inr (2, (fs111.set 10 (.ref q113)))), (q101, .inl (cA 0, 5, .inl f102)), (q105, .inl (cA 0, 5, .inl f106)), (q109, .inl (cA 0, 6, .inl f110)), (q113, .inl (cA 0, 6, .inl f114))] := hD
  have hf := fh_set (l' := [(10, .ref q113), (9, .ref q109), (8, .ref q105), (7, .ref q101), (0, .int 0), (1, .int 0), (2, .int 0), (3, .int 0), (4, .int 0), (5, .int 0), (6, .int 0), (11, .null), (12, .null), (13, .null), (14, .null), (15, .null), (16, .null), (17, .null), (18, .null)]) hf 10 (.ref q113) (by decide) rfl
  have ho116 := fo_set ho112 10 (.ref q113)
  generalize (fs111.set 10 (.ref q113)) = fs115 at hP hD hf ho116
  refine lv_aload_n hx hb dX2_init_34 rfl (lv_at hl 0 rfl) ?_
  refine lv_bipush (v := 6) hx hb dX2_init_35 (by decide) ?_
  refine tq_newa (atype := .int) (ty := .int) (n := 6) (N' := 6) (a0 := (6, .inl (fun _ => 0))) hx hb (hT _ kw_2_13) rfl hK hP hD hS hA 0 (cA 0) rfl (fun _ => rfl) (by decide) (by decide) (by decide) (Nat.le_of_ble_eq_true rfl) (Nat.le_of_ble_eq_true rfl) dX2_init_37 (fun q117 H hP hD hS => ?_)
  have hP : va_P G vwCl [(h0, .inr (2, fs115)), (q101, .inl (cA 0, 5, .inl f102)), (q105, .inl (cA 0, 5, .inl f106)), (q109, .inl (cA 0, 6, .inl f110)), (q113, .inl (cA 0, 6, .inl f114)), (q117, .inl (cA 0, 6, .inl ((fun _ => 0))))] H := hP
  have hD : va_D A [(h0, .inr (2, fs115)), (q101, .inl (cA 0, 5, .inl f102)), (q105, .inl (cA 0, 5, .inl f106)), (q109, .inl (cA 0, 6, .inl f110)), (q113, .inl (cA 0, 6, .inl f114)), (q117, .inl (cA 0, 6, .inl ((fun _ => 0))))] := hD
  refine W.widen (k := 5) (n := 28) (Nat.le_of_ble_eq_true rfl) (Nat.le_of_ble_eq_true rfl) ?_
  obtain ⟨f118, ef118⟩ : ∃ z : Nat → Int32, z = (fun _ => 0) := ⟨_, rfl⟩
  rw [← ef118] at hP hD
  refine va_putF (D := G) (ci := 2) (v := .ref q117) (ty := (.array .int)) (C := RX2) (T := TX2) (N := 19) hx hb hT ku_2 tyX2 tyX2_ok nmX2 hown hK hP hD hS 0 rfl rfl 11 (by decide) (hT _ kw_5_22) (fun _ h9 => h9) rfl hin rfl (by decide +kernel) rfl rfl (fh_lt hf (by decide)) dX2_init_39 (fun H locs hP hD hS => ?_)
  have hP : va_P G vwCl [(h0, .inr (2, (fs115.set 11 (.ref q117)))), (q101, .inl (cA 0, 5, .inl f102)), (q105, .inl (cA 0, 5, .inl f106)), (q109, .inl (cA 0, 6, .inl f110)), (q113, .inl (cA 0, 6, .inl f114)), (q117, .inl (cA 0, 6, .inl f118))] H := hP
  have hD : va_D A [(h0, .inr (2, (fs115.set 11 (.ref q117)))), (q101, .inl (cA 0, 5, .inl f102)), (q105, .inl (cA 0, 5, .inl f106)), (q109, .inl (cA 0, 6, .inl f110)), (q113, .inl (cA 0, 6, .inl f114)), (q117, .inl (cA 0, 6, .inl f118))] := hD
  have hf := fh_set (l' := [(11, .ref q117), (10, .ref q113), (9, .ref q109), (8, .ref q105), (7, .ref q101), (0, .int 0), (1, .int 0), (2, .int 0), (3, .int 0), (4, .int 0), (5, .int 0), (6, .int 0), (12, .null), (13, .null), (14, .null), (15, .null), (16, .null), (17, .null), (18, .null)]) hf 11 (.ref q117) (by decide) rfl
  have ho120 := fo_set ho116 11 (.ref q117)
  generalize (fs115.set 11 (.ref q117)) = fs119 at hP hD hf ho120
  refine lv_aload_n hx hb dX2_init_42 rfl (lv_at hl 0 rfl) ?_
  refine lv_bipush (v := 6) hx hb dX2_init_43 (by decide) ?_
  refine tq_newa (atype := .int) (ty := .int) (n := 6) (N' := 6) (a0 := (6, .inl (fun _ => 0))) hx hb (hT _ kw_2_13) rfl hK hP hD hS hA 0 (cA 0) rfl (fun _ => rfl) (by decide) (by decide) (by decide) (Nat.le_of_ble_eq_true rfl) (Nat.le_of_ble_eq_true rfl) dX2_init_45 (fun q121 H hP hD hS => ?_)
  have hP : va_P G vwCl [(h0, .inr (2, fs119)), (q101, .inl (cA 0, 5, .inl f102)), (q105, .inl (cA 0, 5, .inl f106)), (q109, .inl (cA 0, 6, .inl f110)), (q113, .inl (cA 0, 6, .inl f114)), (q117, .inl (cA 0, 6, .inl f118)), (q121, .inl (cA 0, 6, .inl ((fun _ => 0))))] H := hP
  have hD : va_D A [(h0, .inr (2, fs119)), (q101, .inl (cA 0, 5, .inl f102)), (q105, .inl (cA 0, 5, .inl f106)), (q109, .inl (cA 0, 6, .inl f110)), (q113, .inl (cA 0, 6, .inl f114)), (q117, .inl (cA 0, 6, .inl f118)), (q121, .inl (cA 0, 6, .inl ((fun _ => 0))))] := hD
  refine W.widen (k := 6) (n := 34) (Nat.le_of_ble_eq_true rfl) (Nat.le_of_ble_eq_true rfl) ?_
  obtain ⟨f122, ef122⟩ : ∃ z : Nat → Int32, z = (fun _ => 0) := ⟨_, rfl⟩
  rw [← ef122] at hP hD
  refine va_putF (D := G) (ci := 2) (v := .ref q121) (ty := (.array .int)) (C := RX2) (T := TX2) (N := 19) hx hb hT ku_2 tyX2 tyX2_ok nmX2 hown hK hP hD hS 0 rfl rfl 12 (by decide) (hT _ kw_5_23) (fun _ h9 => h9) rfl hin rfl (by decide +kernel) rfl rfl (fh_lt hf (by decide)) dX2_init_47 (fun H locs hP hD hS => ?_)
  have hP : va_P G vwCl [(h0, .inr (2, (fs119.set 12 (.ref q121)))), (q101, .inl (cA 0, 5, .inl f102)), (q105, .inl (cA 0, 5, .inl f106)), (q109, .inl (cA 0, 6, .inl f110)), (q113, .inl (cA 0, 6, .inl f114)), (q117, .inl (cA 0, 6, .inl f118)), (q121, .inl (cA 0, 6, .inl f122))] H := hP
  have hD : va_D A [(h0, .inr (2, (fs119.set 12 (.ref q121)))), (q101, .inl (cA 0, 5, .inl f102)), (q105, .inl (cA 0, 5, .inl f106)), (q109, .inl (cA 0, 6, .inl f110)), (q113, .inl (cA 0, 6, .inl f114)), (q117, .inl (cA 0, 6, .inl f118)), (q121, .inl (cA 0, 6, .inl f122))] := hD
  have hf := fh_set (l' := [(12, .ref q121), (11, .ref q117), (10, .ref q113), (9, .ref q109), (8, .ref q105), (7, .ref q101), (0, .int 0), (1, .int 0), (2, .int 0), (3, .int 0), (4, .int 0), (5, .int 0), (6, .int 0), (13, .null), (14, .null), (15, .null), (16, .null), (17, .null), (18, .null)]) hf 12 (.ref q121) (by decide) rfl
  have ho124 := fo_set ho120 12 (.ref q121)
  generalize (fs119.set 12 (.ref q121)) = fs123 at hP hD hf ho124
  refine lv_aload_n hx hb dX2_init_50 rfl (lv_at hl 0 rfl) ?_
  refine lv_bipush (v := 10) hx hb dX2_init_51 (by decide) ?_
  refine tq_newa (atype := .int) (ty := .int) (n := 10) (N' := 10) (a0 := (10, .inl (fun _ => 0))) hx hb (hT _ kw_2_13) rfl hK hP hD hS hA 0 (cA 0) rfl (fun _ => rfl) (by decide) (by decide) (by decide) (Nat.le_of_ble_eq_true rfl) (Nat.le_of_ble_eq_true rfl) dX2_init_53 (fun q125 H hP hD hS => ?_)
  have hP : va_P G vwCl [(h0, .inr (2, fs123)), (q101, .inl (cA 0, 5, .inl f102)), (q105, .inl (cA 0, 5, .inl f106)), (q109, .inl (cA 0, 6, .inl f110)), (q113, .inl (cA 0, 6, .inl f114)), (q117, .inl (cA 0, 6, .inl f118)), (q121, .inl (cA 0, 6, .inl f122)), (q125, .inl (cA 0, 10, .inl ((fun _ => 0))))] H := hP
  have hD : va_D A [(h0, .inr (2, fs123)), (q101, .inl (cA 0, 5, .inl f102)), (q105, .inl (cA 0, 5, .inl f106)), (q109, .inl (cA 0, 6, .inl f110)), (q113, .inl (cA 0, 6, .inl f114)), (q117, .inl (cA 0, 6, .inl f118)), (q121, .inl (cA 0, 6, .inl f122)), (q125, .inl (cA 0, 10, .inl ((fun _ => 0))))] := hD
  refine W.widen (k := 7) (n := 44) (Nat.le_of_ble_eq_true rfl) (Nat.le_of_ble_eq_true rfl) ?_
  obtain ⟨f126, ef126⟩ : ∃ z : Nat → Int32, z = (fun _ => 0) := ⟨_, rfl⟩
  rw [← ef126] at hP hD
  refine va_putF (D := G) (ci := 2) (v := .ref q125) (ty := (.array .int)) (C := RX2) (T := TX2) (N := 19) hx hb hT ku_2 tyX2 tyX2_ok nmX2 hown hK hP hD hS 0 rfl rfl 13 (by decide) (hT _ kw_6_0) (fun _ h9 => h9) rfl hin rfl (by decide +kernel) rfl rfl (fh_lt hf (by decide)) dX2_init_55 (fun H locs hP hD hS => ?_)
  have hP : va_P G vwCl [(h0, .inr (2, (fs123.set 13 (.ref q125)))), (q101, .inl (cA 0, 5, .inl f102)), (q105, .inl (cA 0, 5, .inl f106)), (q109, .inl (cA 0, 6, .inl f110)), (q113, .inl (cA 0, 6, .inl f114)), (q117, .inl (cA 0, 6, .inl f118)), (q121, .inl (cA 0, 6, .inl f122)), (q125, .inl (cA 0, 10, .inl f126))] H := hP
  have hD : va_D A [(h0, .inr (2, (fs123.set 13 (.ref q125)))), (q101, .inl (cA 0, 5, .inl f102)), (q105, .inl (cA 0, 5, .inl f106)), (q109, .inl (cA 0, 6, .inl f110)), (q113, .inl (cA 0, 6, .inl f114)), (q117, .inl (cA 0, 6, .inl f118)), (q121, .inl (cA 0, 6, .inl f122)), (q125, .inl (cA 0, 10, .inl f126))] := hD
  have hf := fh_set (l' := [(13, .ref q125), (12, .ref q121), (11, .ref q117), (10, .ref q113), (9, .ref q109), (8, .ref q105), (7, .ref q101), (0, .int 0), (1, .int 0), (2, .int 0), (3, .int 0), (4, .int 0), (5, .int 0), (6, .int 0), (14, .null), (15, .null), (16, .null), (17, .null), (18, .null)]) hf 13 (.ref q125) (by decide) rfl
  have ho128 := fo_set ho124 13 (.ref q125)
  generalize (fs123.set 13 (.ref q125)) = fs127 at hP hD hf ho128
  refine lv_aload_n hx hb dX2_init_58 rfl (lv_at hl 0 rfl) ?_
  refine lv_bipush (v := 10) hx hb dX2_init_59 (by decide) ?_
  refine tq_newa (atype := .int) (ty := .int) (n := 10) (N' := 10) (a0 := (10, .inl (fun _ => 0))) hx hb (hT _ kw_2_13) rfl hK hP hD hS hA 0 (cA 0) rfl (fun _ => rfl) (by decide) (by decide) (by decide) (Nat.le_of_ble_eq_true rfl) (Nat.le_of_ble_eq_true rfl) dX2_init_61 (fun q129 H hP hD hS => ?_)
  have hP : va_P G vwCl [(h0, .inr (2, fs127)), (q101, .inl (cA 0, 5, .inl f102)), (q105, .inl (cA 0, 5, .inl f106)), (q109, .inl (cA 0, 6, .inl f110)), (q113, .inl (cA 0, 6, .inl f114)), (q117, .inl (cA 0, 6, .inl f118)), (q121, .inl (cA 0, 6, .inl f122)), (q125, .inl (cA 0, 10, .inl f126)), (q129, .inl (cA 0, 10, .inl ((fun _ => 0))))] H := hP
  have hD : va_D A [(h0, .inr (2, fs127)), (q101, .inl (cA 0, 5, .inl f102)), (q105, .inl (cA 0, 5, .inl f106)), (q109, .inl (cA 0, 6, .inl f110)), (q113, .inl (cA 0, 6, .inl f114)), (q117, .inl (cA 0, 6, .inl f118)), (q121, .inl (cA 0, 6, .inl f122)), (q125, .inl (cA 0, 10, .inl f126)), (q129, .inl (cA 0, 10, .inl ((fun _ => 0))))] := hD
  refine W.widen (k := 8) (n := 54) (Nat.le_of_ble_eq_true rfl) (Nat.le_of_ble_eq_true rfl) ?_
  obtain ⟨f130, ef130⟩ : ∃ z : Nat → Int32, z = (fun _ => 0) := ⟨_, rfl⟩
  rw [← ef130] at hP hD
  refine va_putF (D := G) (ci := 2) (v := .ref q129) (ty := (.array .int)) (C := RX2) (T := TX2) (N := 19) hx hb hT ku_2 tyX2 tyX2_ok nmX2 hown hK hP hD hS 0 rfl rfl 14 (by decide) (hT _ kw_6_1) (fun _ h9 => h9) rfl hin rfl (by decide +kernel) rfl rfl (fh_lt hf (by decide)) dX2_init_63 (fun H locs hP hD hS => ?_)
  have hP : va_P G vwCl [(h0, .inr (2, (fs127.set 14 (.ref q129)))), (q101, .inl (cA 0, 5, .inl f102)), (q105, .inl (cA 0, 5, .inl f106)), (q109, .inl (cA 0, 6, .inl f110)), (q113, .inl (cA 0, 6, .inl f114)), (q117, .inl (cA 0, 6, .inl f118)), (q121, .inl (cA 0, 6, .inl f122)), (q125, .inl (cA 0, 10, .inl f126)), (q129, .inl (cA 0, 10, .inl f130))] H := hP
  have hD : va_D A [(h0, .inr (2, (fs127.set 14 (.ref q129)))), (q101, .inl (cA 0, 5, .inl f102)), (q105, .inl (cA 0, 5, .inl f106)), (q109, .inl (cA 0, 6, .inl f110)), (q113, .inl (cA 0, 6, .inl f114)), (q117, .inl (cA 0, 6, .inl f118)), (q121, .inl (cA 0, 6, .inl f122)), (q125, .inl (cA 0, 10, .inl f126)), (q129, .inl (cA 0, 10, .inl f130))] := hD
  have hf := fh_set (l' := [(14, .ref q129), (13, .ref q125), (12, .ref q121), (11, .ref q117), (10, .ref q113), (9, .ref q109), (8, .ref q105), (7, .ref q101), (0, .int 0), (1, .int 0), (2, .int 0), (3, .int 0), (4, .int 0), (5, .int 0), (6, .int 0), (15, .null), (16, .null), (17, .null), (18, .null)]) hf 14 (.ref q129) (by decide) rfl
  have ho132 := fo_set ho128 14 (.ref q129)
  generalize (fs127.set 14 (.ref q129)) = fs131 at hP hD hf ho132
  refine lv_aload_n hx hb dX2_init_66 rfl (lv_at hl 0 rfl) ?_
  refine lv_bipush (v := 10) hx hb dX2_init_67 (by decide) ?_
  refine tq_newa (atype := .int) (ty := .int) (n := 10) (N' := 10) (a0 := (10, .inl (fun _ => 0))) hx hb (hT _ kw_2_13) rfl hK hP hD hS hA 0 (cA 0) rfl (fun _ => rfl) (by decide) (by decide) (by decide) (Nat.le_of_ble_eq_true rfl) (Nat.le_of_ble_eq_true rfl) dX2_init_69 (fun q133 H hP hD hS => ?_)
  have hP : va_P G vwCl [(h0, .inr (2, fs131)), (q101, .inl (cA 0, 5, .inl f102)), (q105, .inl (cA 0, 5, .inl f106)), (q109, .inl (cA 0, 6, .inl f110)), (q113, .inl (cA 0, 6, .inl f114)), (q117, .inl (cA 0, 6, .inl f118)), (q121, .inl (cA 0, 6, .inl f122)), (q125, .inl (cA 0, 10, .inl f126)), (q129, .inl (cA 0, 10, .inl f130)), (q133, .inl (cA 0, 10, .inl ((fun _ => 0))))] H := hP
  have hD : va_D A [(h0, .inr (2, fs131)), (q101, .inl (cA 0, 5, .inl f102)), (q105, .inl (cA 0, 5, .inl f106)), (q109, .inl (cA 0, 6, .inl f110)), (q113, .inl (cA 0, 6, .inl f114)), (q117, .inl (cA 0, 6, .inl f118)), (q121, .inl (cA 0, 6, .inl f122)), (q125, .inl (cA 0, 10, .inl f126)), (q129, .inl (cA 0, 10, .inl f130)), (q133, .inl (cA 0, 10, .inl ((fun _ => 0))))] := hD
  refine W.widen (k := 9) (n := 64) (Nat.le_of_ble_eq_true rfl) (Nat.le_of_ble_eq_true rfl) ?_
  obtain ⟨f134, ef134⟩ : ∃ z : Nat → Int32, z = (fun _ => 0) := ⟨_, rfl⟩
  rw [← ef134] at hP hD
  refine va_putF (D := G) (ci := 2) (v := .ref q133) (ty := (.array .int)) (C := RX2) (T := TX2) (N := 19) hx hb hT ku_2 tyX2 tyX2_ok nmX2 hown hK hP hD hS 0 rfl rfl 15 (by decide) (hT _ kw_6_2) (fun _ h9 => h9) rfl hin rfl (by decide +kernel) rfl rfl (fh_lt hf (by decide)) dX2_init_71 (fun H locs hP hD hS => ?_)
  have hP : va_P G vwCl [(h0, .inr (2, (fs131.set 15 (.ref q133)))), (q101, .inl (cA 0, 5, .inl f102)), (q105, .inl (cA 0, 5, .inl f106)), (q109, .inl (cA 0, 6, .inl f110)), (q113, .inl (cA 0, 6, .inl f114)), (q117, .inl (cA 0, 6, .inl f118)), (q121, .inl (cA 0, 6, .inl f122)), (q125, .inl (cA 0, 10, .inl f126)), (q129, .inl (cA 0, 10, .inl f130)), (q133, .inl (cA 0, 10, .inl f134))] H := hP
  have hD : va_D A [(h0, .inr (2, (fs131.set 15 (.ref q133)))), (q101, .inl (cA 0, 5, .inl f102)), (q105, .inl (cA 0, 5, .inl f106)), (q109, .inl (cA 0, 6, .inl f110)), (q113, .inl (cA 0, 6, .inl f114)), (q117, .inl (cA 0, 6, .inl f118)), (q121, .inl (cA 0, 6, .inl f122)), (q125, .inl (cA 0, 10, .inl f126)), (q129, .inl (cA 0, 10, .inl f130)), (q133, .inl (cA 0, 10, .inl f134))] := hD
  have hf := fh_set (l' := [(15, .ref q133), (14, .ref q129), (13, .ref q125), (12, .ref q121), (11, .ref q117), (10, .ref q113), (9, .ref q109), (8, .ref q105), (7, .ref q101), (0, .int 0), (1, .int 0), (2, .int 0), (3, .int 0), (4, .int 0), (5, .int 0), (6, .int 0), (16, .null), (17, .null), (18, .null)]) hf 15 (.ref q133) (by decide) rfl
  have ho136 := fo_set ho132 15 (.ref q133)
  generalize (fs131.set 15 (.ref q133)) = fs135 at hP hD hf ho136
  refine lv_aload_n hx hb dX2_init_74 rfl (lv_at hl 0 rfl) ?_
  refine lv_bipush (v := 10) hx hb dX2_init_75 (by decide) ?_
  refine tq_newa (atype := .int) (ty := .int) (n := 10) (N' := 10) (a0 := (10, .inl (fun _ => 0))) hx hb (hT _ kw_2_13) rfl hK hP hD hS hA 0 (cA 0) rfl (fun _ => rfl) (by decide) (by decide) (by decide) (Nat.le_of_ble_eq_true rfl) (Nat.le_of_ble_eq_true rfl) dX2_init_77 (fun q137 H hP hD hS => ?_)
  have hP : va_P G vwCl [(h0, .inr (2, fs135)), (q101, .inl (cA 0, 5, .inl f102)), (q105, .inl (cA 0, 5, .inl f106)), (q109, .inl (cA 0, 6, .inl f110)), (q113, .inl (cA 0, 6, .inl f114)), (q117, .inl (cA 0, 6, .inl f118)), (q121, .inl (cA 0, 6, .inl f122)), (q125, .inl (cA 0, 10, .inl f126)), (q129, .inl (cA 0, 10, .inl f130)), (q133, .inl (cA 0, 10, .inl f134)), (q137, .inl (cA 0, 10, .inl ((fun _ => 0))))] H := hP
  have hD : va_D A [(h0, .inr (2, fs135)), (q101, .inl (cA 0, 5, .inl f102)), (q105, .inl (cA 0, 5, .inl f106)), (q109, .inl (cA 0, 6, .inl f110)), (q113, .inl (cA 0, 6, .inl f114)), (q117, .inl (cA 0, 6, .inl f118)), (q121, .inl (cA 0, 6, .inl f122)), (q125, .inl (cA 0, 10, .inl f126)), (q129, .inl (cA 0, 10, .inl f130)), (q133, .inl (cA 0, 10, .inl f134)), (q137, .inl (cA 0, 10, .inl ((fun _ => 0))))] := hD
  refine W.widen (k := 10) (n := 74) (Nat.le_of_ble_eq_true rfl) (Nat.le_of_ble_eq_true rfl) ?_
  obtain ⟨f138, ef138⟩ : ∃ z : Nat → Int32, z = (fun _ => 0) := ⟨_, rfl⟩
  rw [← ef138] at hP hD
  refine va_putF (D := G) (ci := 2) (v := .ref q137) (ty := (.array .int)) (C := RX2) (T := TX2) (N := 19) hx hb hT ku_2 tyX2 tyX2_ok nmX2 hown hK hP hD hS 0 rfl rfl 16 (by decide) (hT _ kw_6_3) (fun _ h9 => h9) rfl hin rfl (by decide +kernel) rfl rfl (fh_lt hf (by decide)) dX2_init_79 (fun H locs hP hD hS => ?_)
  have hP : va_P G vwCl [(h0, .inr (2, (fs135.set 16 (.ref q137)))), (q101, .inl (cA 0, 5, .inl f102)), (q105, .inl (cA 0, 5, .inl f106)), (q109, .inl (cA 0, 6, .inl f110)), (q113, .inl (cA 0, 6, .inl f114)), (q117, .inl (cA 0, 6, .inl f118)), (q121, .inl (cA 0, 6, .inl f122)), (q125, .inl (cA 0, 10, .inl f126)), (q129, .inl (cA 0, 10, .inl f130)), (q133, .inl (cA 0, 10, .inl f134)), (q137, .inl (cA 0, 10, .inl f138))] H := hP
  have hD : va_D A [(h0, .inr (2, (fs135.set 16 (.ref q137)))), (q101, .inl (cA 0, 5, .inl f102)), (q105, .inl (cA 0, 5, .inl f106)), (q109, .inl (cA 0, 6, .inl f110)), (q113, .inl (cA 0, 6, .inl f114)), (q117, .inl (cA 0, 6, .inl f118)), (q121, .inl (cA 0, 6, .inl f122)), (q125, .inl (cA 0, 10, .inl f126)), (q129, .inl (cA 0, 10, .inl f130)), (q133, .inl (cA 0, 10, .inl f134)), (q137, .inl (cA 0, 10, .inl f138))] := hD
  have hf := fh_set (l' := [(16, .ref q137), (15, .ref q133), (14, .ref q129), (13, .ref q125), (12, .ref q121), (11, .ref q117), (10, .ref q113), (9, .ref q109), (8, .ref q105), (7, .ref q101), (0, .int 0), (1, .int 0), (2, .int 0), (3, .int 0), (4, .int 0), (5, .int 0), (6, .int 0), (17, .null), (18, .null)]) hf 16 (.ref q137) (by decide) rfl
  have ho140 := fo_set ho136 16 (.ref q137)
  generalize (fs135.set 16 (.ref q137)) = fs139 at hP hD hf ho140
  refine lv_aload_n hx hb dX2_init_82 rfl (lv_at hl 0 rfl) ?_
  refine lv_bipush (v := 21) hx hb dX2_init_83 (by decide) ?_
  refine tq_newa (atype := .int) (ty := .int) (n := 21) (N' := 21) (a0 := (21, .inl (fun _ => 0))) hx hb (hT _ kw_2_13) rfl hK hP hD hS hA 0 (cA 0) rfl (fun _ => rfl) (by decide) (by decide) (by decide) (Nat.le_of_ble_eq_true rfl) (Nat.le_of_ble_eq_true rfl) dX2_init_85 (fun q141 H hP hD hS => ?_)
  have hP : va_P G vwCl [(h0, .inr (2, fs139)), (q101, .inl (cA 0, 5, .inl f102)), (q105, .inl (cA 0, 5, .inl f106)), (q109, .inl (cA 0, 6, .inl f110)), (q113, .inl (cA 0, 6, .inl f114)), (q117, .inl (cA 0, 6, .inl f118)), (q121, .inl (cA 0, 6, .inl f122)), (q125, .inl (cA 0, 10, .inl f126)), (q129, .inl (cA 0, 10, .inl f130)), (q133, .inl (cA 0, 10, .inl f134)), (q137, .inl (cA 0, 10, .inl f138)), (q141, .inl (cA 0, 21, .inl ((fun _ => 0))))] H := hP
  have hD : va_D A [(h0, .inr (2, fs139)), (q101, .inl (cA 0, 5, .inl f102)), (q105, .inl (cA 0, 5, .inl f106)), (q109, .inl (cA 0, 6, .inl f110)), (q113, .inl (cA 0, 6, .inl f114)), (q117, .inl (cA 0, 6, .inl f118)), (q121, .inl (cA 0, 6, .inl f122)), (q125, .inl (cA 0, 10, .inl f126)), (q129, .inl (cA 0, 10, .inl f130)), (q133, .inl (cA 0, 10, .inl f134)), (q137, .inl (cA 0, 10, .inl f138)), (q141, .inl (cA 0, 21, .inl ((fun _ => 0))))] := hD
  refine W.widen (k := 11) (n := 95) (Nat.le_of_ble_eq_true rfl) (Nat.le_of_ble_eq_true rfl) ?_
  obtain ⟨f142, ef142⟩ : ∃ z : Nat → Int32, z = (fun _ => 0) := ⟨_, rfl⟩
  rw [← ef142] at hP hD
  refine va_putF (D := G) (ci := 2) (v := .ref q141) (ty := (.array .int)) (C := RX2) (T := TX2) (N := 19) hx hb hT ku_2 tyX2 tyX2_ok nmX2 hown hK hP hD hS 0 rfl rfl 17 (by decide) (hT _ kw_6_4) (fun _ h9 => h9) rfl hin rfl (by decide +kernel) rfl rfl (fh_lt hf (by decide)) dX2_init_87 (fun H locs hP hD hS => ?_)
  have hP : va_P G vwCl [(h0, .inr (2, (fs139.set 17 (.ref q141)))), (q101, .inl (cA 0, 5, .inl f102)), (q105, .inl (cA 0, 5, .inl f106)), (q109, .inl (cA 0, 6, .inl f110)), (q113, .inl (cA 0, 6, .inl f114)), (q117, .inl (cA 0, 6, .inl f118)), (q121, .inl (cA 0, 6, .inl f122)), (q125, .inl (cA 0, 10, .inl f126)), (q129, .inl (cA 0, 10, .inl f130)), (q133, .inl (cA 0, 10, .inl f134)), (q137, .inl (cA 0, 10, .inl f138)), (q141, .inl (cA 0, 21, .inl f142))] H := hP
  have hD : va_D A [(h0, .inr (2, (fs139.set 17 (.ref q141)))), (q101, .inl (cA 0, 5, .inl f102)), (q105, .inl (cA 0, 5, .inl f106)), (q109, .inl (cA 0, 6, .inl f110)), (q113, .inl (cA 0, 6, .inl f114)), (q117, .inl (cA 0, 6, .inl f118)), (q121, .inl (cA 0, 6, .inl f122)), (q125, .inl (cA 0, 10, .inl f126)), (q129, .inl (cA 0, 10, .inl f130)), (q133, .inl (cA 0, 10, .inl f134)), (q137, .inl (cA 0, 10, .inl f138)), (q141, .inl (cA 0, 21, .inl f142))] := hD
  have hf := fh_set (l' := [(17, .ref q141), (16, .ref q137), (15, .ref q133), (14, .ref q129), (13, .ref q125), (12, .ref q121), (11, .ref q117), (10, .ref q113), (9, .ref q109), (8, .ref q105), (7, .ref q101), (0, .int 0), (1, .int 0), (2, .int 0), (3, .int 0), (4, .int 0), (5, .int 0), (6, .int 0), (18, .null)]) hf 17 (.ref q141) (by decide) rfl
  have ho144 := fo_set ho140 17 (.ref q141)
  generalize (fs139.set 17 (.ref q141)) = fs143 at hP hD hf ho144
  refine lv_aload_n hx hb dX2_init_90 rfl (lv_at hl 0 rfl) ?_
  refine lv_iconst (v := 3) hx hb dX2_init_91 (by decide) ?_
  refine tq_newq (n := 3) (N' := 3) hx hb hown (hT _ kw_6_5) hO hK hP hD hS hA 4 (cA 4) rfl (by decide) (by decide) (by decide) (Nat.le_of_ble_eq_true rfl) (Nat.le_of_ble_eq_true rfl) dX2_init_92 (fun q145 H hP hD hS => ?_)
  have hP : va_P G vwCl [(h0, .inr (2, fs143)), (q101, .inl (cA 0, 5, .inl f102)), (q105, .inl (cA 0, 5, .inl f106)), (q109, .inl (cA 0, 6, .inl f110)), (q113, .inl (cA 0, 6, .inl f114)), (q117, .inl (cA 0, 6, .inl f118)), (q121, .inl (cA 0, 6, .inl f122)), (q125, .inl (cA 0, 10, .inl f126)), (q129, .inl (cA 0, 10, .inl f130)), (q133, .inl (cA 0, 10, .inl f134)), (q137, .inl (cA 0, 10, .inl f138)), (q141, .inl (cA 0, 21, .inl f142)), (q145, .inl (cA 4, 3, .inr (.inr (.inr (.inr ((fun _ => none)))))))] H := hP
  have hD : va_D A [(h0, .inr (2, fs143)), (q101, .inl (cA 0, 5, .inl f102)), (q105, .inl (cA 0, 5, .inl f106)), (q109, .inl (cA 0, 6, .inl f110)), (q113, .inl (cA 0, 6, .inl f114)), (q117, .inl (cA 0, 6, .inl f118)), (q121, .inl (cA 0, 6, .inl f122)), (q125, .inl (cA 0, 10, .inl f126)), (q129, .inl (cA 0, 10, .inl f130)), (q133, .inl (cA 0, 10, .inl f134)), (q137, .inl (cA 0, 10, .inl f138)), (q141, .inl (cA 0, 21, .inl f142)), (q145, .inl (cA 4, 3, .inr (.inr (.inr (.inr ((fun _ => none)))))))] := hD
  refine W.widen (k := 12) (n := 98) (Nat.le_of_ble_eq_true rfl) (Nat.le_of_ble_eq_true rfl) ?_
  refine va_putF (D := G) (ci := 2) (v := .ref q145) (ty := (.array (.object "RackTrain$Law"))) (C := RX2) (T := TX2) (N := 19) hx hb hT ku_2 tyX2 tyX2_ok nmX2 hown hK hP hD hS 0 rfl rfl 18 (by decide) (hT _ kw_6_6) (fun _ h9 => h9) rfl hin rfl (by decide +kernel) rfl rfl (fh_lt hf (by decide)) dX2_init_95 (fun H locs hP hD hS => ?_)
  have hP : va_P G vwCl [(h0, .inr (2, (fs143.set 18 (.ref q145)))), (q101, .inl (cA 0, 5, .inl f102)), (q105, .inl (cA 0, 5, .inl f106)), (q109, .inl (cA 0, 6, .inl f110)), (q113, .inl (cA 0, 6, .inl f114)), (q117, .inl (cA 0, 6, .inl f118)), (q121, .inl (cA 0, 6, .inl f122)), (q125, .inl (cA 0, 10, .inl f126)), (q129, .inl (cA 0, 10, .inl f130)), (q133, .inl (cA 0, 10, .inl f134)), (q137, .inl (cA 0, 10, .inl f138)), (q141, .inl (cA 0, 21, .inl f142)), (q145, .inl (cA 4, 3, .inr (.inr (.inr (.inr ((fun _ => none)))))))] H := hP
  have hD : va_D A [(h0, .inr (2, (fs143.set 18 (.ref q145)))), (q101, .inl (cA 0, 5, .inl f102)), (q105, .inl (cA 0, 5, .inl f106)), (q109, .inl (cA 0, 6, .inl f110)), (q113, .inl (cA 0, 6, .inl f114)), (q117, .inl (cA 0, 6, .inl f118)), (q121, .inl (cA 0, 6, .inl f122)), (q125, .inl (cA 0, 10, .inl f126)), (q129, .inl (cA 0, 10, .inl f130)), (q133, .inl (cA 0, 10, .inl f134)), (q137, .inl (cA 0, 10, .inl f138)), (q141, .inl (cA 0, 21, .inl f142)), (q145, .inl (cA 4, 3, .inr (.inr (.inr (.inr ((fun _ => none)))))))] := hD
  have hf := fh_set (l' := [(18, .ref q145), (17, .ref q141), (16, .ref q137), (15, .ref q133), (14, .ref q129), (13, .ref q125), (12, .ref q121), (11, .ref q117), (10, .ref q113), (9, .ref q109), (8, .ref q105), (7, .ref q101), (0, .int 0), (1, .int 0), (2, .int 0), (3, .int 0), (4, .int 0), (5, .int 0), (6, .int 0)]) hf 18 (.ref q145) (by decide) rfl
  have ho147 := fo_set ho144 18 (.ref q145)
  generalize (fs143.set 18 (.ref q145)) = fs146 at hP hD hf ho147
  refine lv_iconst (v := 0) hx hb dX2_init_98 (by decide) ?_
  refine lv_istore_n (lv' := [(1, .int 0), (0, .ref h0)]) hx hb dX2_init_99 rfl hl (by decide) rfl (fun ls hl => ?_)
  refine lv_iload_n hx hb dX2_init_100 rfl (lv_at hl 0 rfl) ?_
  refine lv_iconst (v := 3) hx hb dX2_init_101 (by decide) ?_
  refine lv_icmp_ge (tgt := 124) hx hb dX2_init_102 (by decide) (fun c148 => absurd c148 (by decide)) (fun c148 => ?_)
  refine lv_aload_n hx hb dX2_init_105 rfl (lv_at hl 1 rfl) ?_
  refine va_get (D := G) (ci := 2) (v := .ref q145) (C := RX2) (T := TX2) (N := 19) hx hb hT ku_2 hown hK hP 0 rfl rfl 18 (by decide) (hT _ kw_6_6) (fun _ h9 => h9) (fh_at hf 0 rfl) dX2_init_106 ?_
  refine lv_iload_n hx hb dX2_init_109 rfl (lv_at hl 0 rfl) ?_
  refine va_new (ci := 1) (fs := [.null, .int 0, .null]) (C := RX1) (T := TX1) (N := 3) hx hb hT ku_1 tyX1 tyX1_ok hown (hT _ kw_6_5) (hT _ kw_6_7) (hT _ kw_6_8) hK hP hD hS hA rfl tq_dfX1 (Nat.le_of_ble_eq_true rfl) (Nat.le_of_ble_eq_true rfl) dX2_init_110 (fun q149 H hP hD hS => ?_)
  have hP : va_P G vwCl [(h0, .inr (2, fs146)), (q101, .inl (cA 0, 5, .inl f102)), (q105, .inl (cA 0, 5, .inl f106)), (q109, .inl (cA 0, 6, .inl f110)), (q113, .inl (cA 0, 6, .inl f114)), (q117, .inl (cA 0, 6, .inl f118)), (q121, .inl (cA 0, 6, .inl f122)), (q125, .inl (cA 0, 10, .inl f126)), (q129, .inl (cA 0, 10, .inl f130)), (q133, .inl (cA 0, 10, .inl f134)), (q137, .inl (cA 0, 10, .inl f138)), (q141, .inl (cA 0, 21, .inl f142)), (q145, .inl (cA 4, 3, .inr (.inr (.inr (.inr ((fun _ => none))))))), (q149, .inr (1, [.null, .int 0, .null]))] H := hP
  have hD : va_D A [(h0, .inr (2, fs146)), (q101, .inl (cA 0, 5, .inl f102)), (q105, .inl (cA 0, 5, .inl f106)), (q109, .inl (cA 0, 6, .inl f110)), (q113, .inl (cA 0, 6, .inl f114)), (q117, .inl (cA 0, 6, .inl f118)), (q121, .inl (cA 0, 6, .inl f122)), (q125, .inl (cA 0, 10, .inl f126)), (q129, .inl (cA 0, 10, .inl f130)), (q133, .inl (cA 0, 10, .inl f134)), (q137, .inl (cA 0, 10, .inl f138)), (q141, .inl (cA 0, 21, .inl f142)), (q145, .inl (cA 4, 3, .inr (.inr (.inr (.inr ((fun _ => none))))))), (q149, .inr (1, [.null, .int 0, .null]))] := hD
  have hf151 : fh [.null, .int 0, .null] 3 [(0, .null), (1, .int 0), (2, .null)] := fh_dfX1
  generalize ([.null, .int 0, .null] : List Value) = fs150 at hP hD hf151
  refine W.widen (k := 13) (n := 101) (Nat.le_of_ble_eq_true rfl) (Nat.le_of_ble_eq_true rfl) ?_
  refine lv_dup hx hb dX2_init_113 rfl ?_
  refine tq_cv (wr := [(h0, .inr (2, fs146)), (q101, .inl (cA 0, 5, .inl f102)), (q105, .inl (cA 0, 5, .inl f106)), (q109, .inl (cA 0, 6, .inl f110)), (q113, .inl (cA 0, 6, .inl f114)), (q117, .inl (cA 0, 6, .inl f118)), (q121, .inl (cA 0, 6, .inl f122)), (q125, .inl (cA 0, 10, .inl f126)), (q129, .inl (cA 0, 10, .inl f130)), (q133, .inl (cA 0, 10, .inl f134)), (q137, .inl (cA 0, 10, .inl f138)), (q141, .inl (cA 0, 21, .inl f142)), (q145, .inl (cA 4, 3, .inr (.inr (.inr (.inr ((fun _ => none)))))))]) hP hD hS hA [13] [0, 1, 2, 3, 4, 5, 6, 7, 8, 9, 10, 11, 12] rfl rfl (by decide) (by decide) (va_runIN (As := []) (rest := [.ref q149, .int 0, .ref q145]) ⟨hx, hb, hml, hown, hT⟩ (c_X1_init l G cA H.size q149 fs150 (fh_sub hf151 [0, 1, 2] rfl)) ⟨va_cnB (host := "RackTrain") 0 hT (tq_gC kw_6_10) rfl rfl rfl hN.2.1 (hT _ kw_6_8) (by decide +kernel) ⟨Nat.le_of_ble_eq_true rfl, Nat.le_of_ble_eq_true rfl⟩, rfl, hT _ kw_6_9⟩ (tq_pre (isC := [13]) hP hD hK hN rfl (by decide)) rfl rfl hl.1 rfl (lv_room (Nat.le_of_ble_eq_true rfl)) dX2_init_114 ⟨Nat.le_of_ble_eq_true rfl, Nat.le_of_ble_eq_true rfl⟩) (fun u152 H locs hw153 hP hD hS => ?_)
  refine W.widen (k := 15) (n := 229) (Nat.le_of_ble_eq_true rfl) (Nat.le_of_ble_eq_true rfl) ?_
  obtain ⟨g154, q155, g156, q157, g158⟩ := u152
  obtain ⟨ho159, hf160⟩ := hw153
  try dsimp only at hP hD ho159 hf160
  have hf160 := fh_app (fo_fh (l' := [(1, .int 0)]) hf151 ho159 rfl) hf160
  have hf160 : fh g154 3 [(1, .int 0), (2, .ref q157), (0, .ref q155)] := hf160
  have hP : va_P G vwCl [(h0, .inr (2, fs146)), (q101, .inl (cA 0, 5, .inl f102)), (q105, .inl (cA 0, 5, .inl f106)), (q109, .inl (cA 0, 6, .inl f110)), (q113, .inl (cA 0, 6, .inl f114)), (q117, .inl (cA 0, 6, .inl f118)), (q121, .inl (cA 0, 6, .inl f122)), (q125, .inl (cA 0, 10, .inl f126)), (q129, .inl (cA 0, 10, .inl f130)), (q133, .inl (cA 0, 10, .inl f134)), (q137, .inl (cA 0, 10, .inl f138)), (q141, .inl (cA 0, 21, .inl f142)), (q145, .inl (cA 4, 3, .inr (.inr (.inr (.inr ((fun _ => none))))))), (q149, .inr (1, g154)), (q155, .inl (cA 0, 64, .inl g156)), (q157, .inl (cA 2, 64, .inr (.inl g158)))] H := hP
  have hD : va_D A [(h0, .inr (2, fs146)), (q101, .inl (cA 0, 5, .inl f102)), (q105, .inl (cA 0, 5, .inl f106)), (q109, .inl (cA 0, 6, .inl f110)), (q113, .inl (cA 0, 6, .inl f114)), (q117, .inl (cA 0, 6, .inl f118)), (q121, .inl (cA 0, 6, .inl f122)), (q125, .inl (cA 0, 10, .inl f126)), (q129, .inl (cA 0, 10, .inl f130)), (q133, .inl (cA 0, 10, .inl f134)), (q137, .inl (cA 0, 10, .inl f138)), (q141, .inl (cA 0, 21, .inl f142)), (q145, .inl (cA 4, 3, .inr (.inr (.inr (.inr ((fun _ => none))))))), (q149, .inr (1, g154)), (q155, .inl (cA 0, 64, .inl g156)), (q157, .inl (cA 2, 64, .inr (.inl g158)))] := hD
  refine va_astq (r := (RX1, TX1, 3)) (i := 0) hx hb hK hP hD hS 12 4 13 1 rfl rfl rfl rfl (tq_in (by decide)) dX2_init_117 (fun H locs hP hD hS => ?_)
  have hP : va_P G vwCl [(h0, .inr (2, fs146)), (q101, .inl (cA 0, 5, .inl f102)), (q105, .inl (cA 0, 5, .inl f106)), (q109, .inl (cA 0, 6, .inl f110)), (q113, .inl (cA 0, 6, .inl f114)), (q117, .inl (cA 0, 6, .inl f118)), (q121, .inl (cA 0, 6, .inl f122)), (q125, .inl (cA 0, 10, .inl f126)), (q129, .inl (cA 0, 10, .inl f130)), (q133, .inl (cA 0, 10, .inl f134)), (q137, .inl (cA 0, 10, .inl f138)), (q141, .inl (cA 0, 21, .inl f142)), (q145, .inl (cA 4, 3, .inr (.inr (.inr (.inr ((va_up ((fun _ => none)) (0 : Int32).toNatClampNeg (some q149)))))))), (q149, .inr (1, g154)), (q155, .inl (cA 0, 64, .inl g156)), (q157, .inl (cA 2, 64, .inr (.inl g158)))] H := hP
  have hD : va_D A [(h0, .inr (2, fs146)), (q101, .inl (cA 0, 5, .inl f102)), (q105, .inl (cA 0, 5, .inl f106)), (q109, .inl (cA 0, 6, .inl f110)), (q113, .inl (cA 0, 6, .inl f114)), (q117, .inl (cA 0, 6, .inl f118)), (q121, .inl (cA 0, 6, .inl f122)), (q125, .inl (cA 0, 10, .inl f126)), (q129, .inl (cA 0, 10, .inl f130)), (q133, .inl (cA 0, 10, .inl f134)), (q137, .inl (cA 0, 10, .inl f138)), (q141, .inl (cA 0, 21, .inl f142)), (q145, .inl (cA 4, 3, .inr (.inr (.inr (.inr ((va_up ((fun _ => none)) (0 : Int32).toNatClampNeg (some q149)))))))), (q149, .inr (1, g154)), (q155, .inl (cA 0, 64, .inl g156)), (q157, .inl (cA 2, 64, .inr (.inl g158)))] := hD
  refine lv_iinc (v := 1) (lv' := [(1, .int 1), (0, .ref h0)]) hx hb dX2_init_118 hl (k := 0) rfl (by decide) (by decide) rfl (fun ls hl => ?_)
  refine lv_goto (tgt := 100) hx hb dX2_init_121 (by decide) ?_
  refine lv_iload_n hx hb dX2_init_100 rfl (lv_at hl 0 rfl) ?_
  refine lv_iconst (v := 3) hx hb dX2_init_101 (by decide) ?_
  refine lv_icmp_ge (tgt := 124) hx hb dX2_init_102 (by decide) (fun c161 => absurd c161 (by decide)) (fun c161 => ?_)
  refine lv_aload_n hx hb dX2_init_105 rfl (lv_at hl 1 rfl) ?_
  refine va_get (D := G) (ci := 2) (v := .ref q145) (C := RX2) (T := TX2) (N := 19) hx hb hT ku_2 hown hK hP 0 rfl rfl 18 (by decide) (hT _ kw_6_6) (fun _ h9 => h9) (fh_at hf 0 rfl) dX2_init_106 ?_
  refine lv_iload_n hx hb dX2_init_109 rfl (lv_at hl 0 rfl) ?_
  refine va_new (ci := 1) (fs := [.null, .int 0, .null]) (C := RX1) (T := TX1) (N := 3) hx hb hT ku_1 tyX1 tyX1_ok hown (hT _ kw_6_5) (hT _ kw_6_7) (hT _ kw_6_8) hK hP hD hS hA rfl tq_dfX1 (Nat.le_of_ble_eq_true rfl) (Nat.le_of_ble_eq_true rfl) dX2_init_110 (fun q162 H hP hD hS => ?_)
  have hP : va_P G vwCl [(h0, .inr (2, fs146)), (q101, .inl (cA 0, 5, .inl f102)), (q105, .inl (cA 0, 5, .inl f106)), (q109, .inl (cA 0, 6, .inl f110)), (q113, .inl (cA 0, 6, .inl f114)), (q117, .inl (cA 0, 6, .inl f118)), (q121, .inl (cA 0, 6, .inl f122)), (q125, .inl (cA 0, 10, .inl f126)), (q129, .inl (cA 0, 10, .inl f130)), (q133, .inl (cA 0, 10, .inl f134)), (q137, .inl (cA 0, 10, .inl f138)), (q141, .inl (cA 0, 21, .inl f142)), (q145, .inl (cA 4, 3, .inr (.inr (.inr (.inr ((va_up ((fun _ => none)) (0 : Int32).toNatClampNeg (some q149)))))))), (q149, .inr (1, g154)), (q155, .inl (cA 0, 64, .inl g156)), (q157, .inl (cA 2, 64, .inr (.inl g158))), (q162, .inr (1, [.null, .int 0, .null]))] H := hP
  have hD : va_D A [(h0, .inr (2, fs146)), (q101, .inl (cA 0, 5, .inl f102)), (q105, .inl (cA 0, 5, .inl f106)), (q109, .inl (cA 0, 6, .inl f110)), (q113, .inl (cA 0, 6, .inl f114)), (q117, .inl (cA 0, 6, .inl f118)), (q121, .inl (cA 0, 6, .inl f122)), (q125, .inl (cA 0, 10, .inl f126)), (q129, .inl (cA 0, 10, .inl f130)), (q133, .inl (cA 0, 10, .inl f134)), (q137, .inl (cA 0, 10, .inl f138)), (q141, .inl (cA 0, 21, .inl f142)), (q145, .inl (cA 4, 3, .inr (.inr (.inr (.inr ((va_up ((fun _ => none)) (0 : Int32).toNatClampNeg (some q149)))))))), (q149, .inr (1, g154)), (q155, .inl (cA 0, 64, .inl g156)), (q157, .inl (cA 2, 64, .inr (.inl g158))), (q162, .inr (1, [.null, .int 0, .null]))] := hD
  have hf164 : fh [.null, .int 0, .null] 3 [(0, .null), (1, .int 0), (2, .null)] := fh_dfX1
  generalize ([.null, .int 0, .null] : List Value) = fs163 at hP hD hf164
  refine W.widen (k := 16) (n := 232) (Nat.le_of_ble_eq_true rfl) (Nat.le_of_ble_eq_true rfl) ?_
  refine lv_dup hx hb dX2_init_113 rfl ?_
  refine tq_cv (wr := [(h0, .inr (2, fs146)), (q101, .inl (cA 0, 5, .inl f102)), (q105, .inl (cA 0, 5, .inl f106)), (q109, .inl (cA 0, 6, .inl f110)), (q113, .inl (cA 0, 6, .inl f114)), (q117, .inl (cA 0, 6, .inl f118)), (q121, .inl (cA 0, 6, .inl f122)), (q125, .inl (cA 0, 10, .inl f126)), (q129, .inl (cA 0, 10, .inl f130)), (q133, .inl (cA 0, 10, .inl f134)), (q137, .inl (cA 0, 10, .inl f138)), (q141, .inl (cA 0, 21, .inl f142)), (q145, .inl (cA 4, 3, .inr (.inr (.inr (.inr ((va_up ((fun _ => none)) (0 : Int32).toNatClampNeg (some q149)))))))), (q149, .inr (1, g154)), (q155, .inl (cA 0, 64, .inl g156)), (q157, .inl (cA 2, 64, .inr (.inl g158)))]) hP hD hS hA [16] [0, 1, 2, 3, 4, 5, 6, 7, 8, 9, 10, 11, 12, 13, 14, 15] rfl rfl (by decide) (by decide) (va_runIN (As := []) (rest := [.ref q162, .int 1, .ref q145]) ⟨hx, hb, hml, hown, hT⟩ (c_X1_init l G cA H.size q162 fs163 (fh_sub hf164 [0, 1, 2] rfl)) ⟨va_cnB (host := "RackTrain") 0 hT (tq_gC kw_6_10) rfl rfl rfl hN.2.1 (hT _ kw_6_8) (by decide +kernel) ⟨Nat.le_of_ble_eq_true rfl, Nat.le_of_ble_eq_true rfl⟩, rfl, hT _ kw_6_9⟩ (tq_pre (isC := [16]) hP hD hK hN rfl (by decide)) rfl rfl hl.1 rfl (lv_room (Nat.le_of_ble_eq_true rfl)) dX2_init_114 ⟨Nat.le_of_ble_eq_true rfl, Nat.le_of_ble_eq_true rfl⟩) (fun u165 H locs hw166 hP hD hS => ?_)
  refine W.widen (k := 18) (n := 360) (Nat.le_of_ble_eq_true rfl) (Nat.le_of_ble_eq_true rfl) ?_
  obtain ⟨g167, q168, g169, q170, g171⟩ := u165
  obtain ⟨ho172, hf173⟩ := hw166
  try dsimp only at hP hD ho172 hf173
  have hf173 := fh_app (fo_fh (l' := [(1, .int 0)]) hf164 ho172 rfl) hf173
  have hf173 : fh g167 3 [(1, .int 0), (2, .ref q170), (0, .ref q168)] := hf173
  have hP : va_P G vwCl [(h0, .inr (2, fs146)), (q101, .inl (cA 0, 5, .inl f102)), (q105, .inl (cA 0, 5, .inl f106)), (q109, .inl (cA 0, 6, .inl f110)), (q113, .inl (cA 0, 6, .inl f114)), (q117, .inl (cA 0, 6, .inl f118)), (q121, .inl (cA 0, 6, .inl f122)), (q125, .inl (cA 0, 10, .inl f126)), (q129, .inl (cA 0, 10, .inl f130)), (q133, .inl (cA 0, 10, .inl f134)), (q137, .inl (cA 0, 10, .inl f138)), (q141, .inl (cA 0, 21, .inl f142)), (q145, .inl (cA 4, 3, .inr (.inr (.inr (.inr ((va_up ((fun _ => none)) (0 : Int32).toNatClampNeg (some q149)))))))), (q149, .inr (1, g154)), (q155, .inl (cA 0, 64, .inl g156)), (q157, .inl (cA 2, 64, .inr (.inl g158))), (q162, .inr (1, g167)), (q168, .inl (cA 0, 64, .inl g169)), (q170, .inl (cA 2, 64, .inr (.inl g171)))] H := hP
  have hD : va_D A [(h0, .inr (2, fs146)), (q101, .inl (cA 0, 5, .inl f102)), (q105, .inl (cA 0, 5, .inl f106)), (q109, .inl (cA 0, 6, .inl f110)), (q113, .inl (cA 0, 6, .inl f114)), (q117, .inl (cA 0, 6, .inl f118)), (q121, .inl (cA 0, 6, .inl f122)), (q125, .inl (cA 0, 10, .inl f126)), (q129, .inl (cA 0, 10, .inl f130)), (q133, .inl (cA 0, 10, .inl f134)), (q137, .inl (cA 0, 10, .inl f138)), (q141, .inl (cA 0, 21, .inl f142)), (q145, .inl (cA 4, 3, .inr (.inr (.inr (.inr ((va_up ((fun _ => none)) (0 : Int32).toNatClampNeg (some q149)))))))), (q149, .inr (1, g154)), (q155, .inl (cA 0, 64, .inl g156)), (q157, .inl (cA 2, 64, .inr (.inl g158))), (q162, .inr (1, g167)), (q168, .inl (cA 0, 64, .inl g169)), (q170, .inl (cA 2, 64, .inr (.inl g171)))] := hD
  refine va_astq (r := (RX1, TX1, 3)) (i := 1) hx hb hK hP hD hS 12 4 16 1 rfl rfl rfl rfl (tq_in (by decide)) dX2_init_117 (fun H locs hP hD hS => ?_)
  have hP : va_P G vwCl [(h0, .inr (2, fs146)), (q101, .inl (cA 0, 5, .inl f102)), (q105, .inl (cA 0, 5, .inl f106)), (q109, .inl (cA 0, 6, .inl f110)), (q113, .inl (cA 0, 6, .inl f114)), (q117, .inl (cA 0, 6, .inl f118)), (q121, .inl (cA 0, 6, .inl f122)), (q125, .inl (cA 0, 10, .inl f126)), (q129, .inl (cA 0, 10, .inl f130)), (q133, .inl (cA 0, 10, .inl f134)), (q137, .inl (cA 0, 10, .inl f138)), (q141, .inl (cA 0, 21, .inl f142)), (q145, .inl (cA 4, 3, .inr (.inr (.inr (.inr ((va_up ((va_up ((fun _ => none)) (0 : Int32).toNatClampNeg (some q149))) (1 : Int32).toNatClampNeg (some q162)))))))), (q149, .inr (1, g154)), (q155, .inl (cA 0, 64, .inl g156)), (q157, .inl (cA 2, 64, .inr (.inl g158))), (q162, .inr (1, g167)), (q168, .inl (cA 0, 64, .inl g169)), (q170, .inl (cA 2, 64, .inr (.inl g171)))] H := hP
  have hD : va_D A [(h0, .inr (2, fs146)), (q101, .inl (cA 0, 5, .inl f102)), (q105, .inl (cA 0, 5, .inl f106)), (q109, .inl (cA 0, 6, .inl f110)), (q113, .inl (cA 0, 6, .inl f114)), (q117, .inl (cA 0, 6, .inl f118)), (q121, .inl (cA 0, 6, .inl f122)), (q125, .inl (cA 0, 10, .inl f126)), (q129, .inl (cA 0, 10, .inl f130)), (q133, .inl (cA 0, 10, .inl f134)), (q137, .inl (cA 0, 10, .inl f138)), (q141, .inl (cA 0, 21, .inl f142)), (q145, .inl (cA 4, 3, .inr (.inr (.inr (.inr ((va_up ((va_up ((fun _ => none)) (0 : Int32).toNatClampNeg (some q149))) (1 : Int32).toNatClampNeg (some q162)))))))), (q149, .inr (1, g154)), (q155, .inl (cA 0, 64, .inl g156)), (q157, .inl (cA 2, 64, .inr (.inl g158))), (q162, .inr (1, g167)), (q168, .inl (cA 0, 64, .inl g169)), (q170, .inl (cA 2, 64, .inr (.inl g171)))] := hD
  refine lv_iinc (v := 2) (lv' := [(1, .int 2), (0, .ref h0)]) hx hb dX2_init_118 hl (k := 0) rfl (by decide) (by decide) rfl (fun ls hl => ?_)
  refine lv_goto (tgt := 100) hx hb dX2_init_121 (by decide) ?_
  refine lv_iload_n hx hb dX2_init_100 rfl (lv_at hl 0 rfl) ?_
  refine lv_iconst (v := 3) hx hb dX2_init_101 (by decide) ?_
  refine lv_icmp_ge (tgt := 124) hx hb dX2_init_102 (by decide) (fun c174 => absurd c174 (by decide)) (fun c174 => ?_)
  refine lv_aload_n hx hb dX2_init_105 rfl (lv_at hl 1 rfl) ?_
  refine va_get (D := G) (ci := 2) (v := .ref q145) (C := RX2) (T := TX2) (N := 19) hx hb hT ku_2 hown hK hP 0 rfl rfl 18 (by decide) (hT _ kw_6_6) (fun _ h9 => h9) (fh_at hf 0 rfl) dX2_init_106 ?_
  refine lv_iload_n hx hb dX2_init_109 rfl (lv_at hl 0 rfl) ?_
  refine va_new (ci := 1) (fs := [.null, .int 0, .null]) (C := RX1) (T := TX1) (N := 3) hx hb hT ku_1 tyX1 tyX1_ok hown (hT _ kw_6_5) (hT _ kw_6_7) (hT _ kw_6_8) hK hP hD hS hA rfl tq_dfX1 (Nat.le_of_ble_eq_true rfl) (Nat.le_of_ble_eq_true rfl) dX2_init_110 (fun q175 H hP hD hS => ?_)
  have hP : va_P G vwCl [(h0, .inr (2, fs146)), (q101, .inl (cA 0, 5, .inl f102)), (q105, .inl (cA 0, 5, .inl f106)), (q109, .inl (cA 0, 6, .inl f110)), (q113, .inl (cA 0, 6, .inl f114)), (q117, .inl (cA 0, 6, .inl f118)), (q121, .inl (cA 0, 6, .inl f122)), (q125, .inl (cA 0, 10, .inl f126)), (q129, .inl (cA 0, 10, .inl f130)), (q133, .inl (cA 0, 10, .inl f134)), (q137, .inl (cA 0, 10, .inl f138)), (q141, .inl (cA 0, 21, .inl f142)), (q145, .inl (cA 4, 3, .inr (.inr (.inr (.inr ((va_up ((va_up ((fun _ => none)) (0 : Int32).toNatClampNeg (some q149))) (1 : Int32).toNatClampNeg (some q162)))))))), (q149, .inr (1, g154)), (q155, .inl (cA 0, 64, .inl g156)), (q157, .inl (cA 2, 64, .inr (.inl g158))), (q162, .inr (1, g167)), (q168, .inl (cA 0, 64, .inl g169)), (q170, .inl (cA 2, 64, .inr (.inl g171))), (q175, .inr (1, [.null, .int 0, .null]))] H := hP
  have hD : va_D A [(h0, .inr (2, fs146)), (q101, .inl (cA 0, 5, .inl f102)), (q105, .inl (cA 0, 5, .inl f106)), (q109, .inl (cA 0, 6, .inl f110)), (q113, .inl (cA 0, 6, .inl f114)), (q117, .inl (cA 0, 6, .inl f118)), (q121, .inl (cA 0, 6, .inl f122)), (q125, .inl (cA 0, 10, .inl f126)), (q129, .inl (cA 0, 10, .inl f130)), (q133, .inl (cA 0, 10, .inl f134)), (q137, .inl (cA 0, 10, .inl f138)), (q141, .inl (cA 0, 21, .inl f142)), (q145, .inl (cA 4, 3, .inr (.inr (.inr (.inr ((va_up ((va_up ((fun _ => none)) (0 : Int32).toNatClampNeg (some q149))) (1 : Int32).toNatClampNeg (some q162)))))))), (q149, .inr (1, g154)), (q155, .inl (cA 0, 64, .inl g156)), (q157, .inl (cA 2, 64, .inr (.inl g158))), (q162, .inr (1, g167)), (q168, .inl (cA 0, 64, .inl g169)), (q170, .inl (cA 2, 64, .inr (.inl g171))), (q175, .inr (1, [.null, .int 0, .null]))] := hD
  have hf177 : fh [.null, .int 0, .null] 3 [(0, .null), (1, .int 0), (2, .null)] := fh_dfX1
  generalize ([.null, .int 0, .null] : List Value) = fs176 at hP hD hf177
  refine W.widen (k := 19) (n := 363) (Nat.le_of_ble_eq_true rfl) (Nat.le_of_ble_eq_true rfl) ?_
  refine lv_dup hx hb dX2_init_113 rfl ?_
  refine tq_cv (wr := [(h0, .inr (2, fs146)), (q101, .inl (cA 0, 5, .inl f102)), (q105, .inl (cA 0, 5, .inl f106)), (q109, .inl (cA 0, 6, .inl f110)), (q113, .inl (cA 0, 6, .inl f114)), (q117, .inl (cA 0, 6, .inl f118)), (q121, .inl (cA 0, 6, .inl f122)), (q125, .inl (cA 0, 10, .inl f126)), (q129, .inl (cA 0, 10, .inl f130)), (q133, .inl (cA 0, 10, .inl f134)), (q137, .inl (cA 0, 10, .inl f138)), (q141, .inl (cA 0, 21, .inl f142)), (q145, .inl (cA 4, 3, .inr (.inr (.inr (.inr ((va_up ((va_up ((fun _ => none)) (0 : Int32).toNatClampNeg (some q149))) (1 : Int32).toNatClampNeg (some q162)))))))), (q149, .inr (1, g154)), (q155, .inl (cA 0, 64, .inl g156)), (q157, .inl (cA 2, 64, .inr (.inl g158))), (q162, .inr (1, g167)), (q168, .inl (cA 0, 64, .inl g169)), (q170, .inl (cA 2, 64, .inr (.inl g171)))]) hP hD hS hA [19] [0, 1, 2, 3, 4, 5, 6, 7, 8, 9, 10, 11, 12, 13, 14, 15, 16, 17, 18] rfl rfl (by decide) (by decide) (va_runIN (As := []) (rest := [.ref q175, .int 2, .ref q145]) ⟨hx, hb, hml, hown, hT⟩ (c_X1_init l G cA H.size q175 fs176 (fh_sub hf177 [0, 1, 2] rfl)) ⟨va_cnB (host := "RackTrain") 0 hT (tq_gC kw_6_10) rfl rfl rfl hN.2.1 (hT _ kw_6_8) (by decide +kernel) ⟨Nat.le_of_ble_eq_true rfl, Nat.le_of_ble_eq_true rfl⟩, rfl, hT _ kw_6_9⟩ (tq_pre (isC := [19]) hP hD hK hN rfl (by decide)) rfl rfl hl.1 rfl (lv_room (Nat.le_of_ble_eq_true rfl)) dX2_init_114 ⟨Nat.le_of_ble_eq_true rfl, Nat.le_of_ble_eq_true rfl⟩) (fun u178 H locs hw179 hP hD hS => ?_)
  refine W.widen (k := 21) (n := 491) (Nat.le_of_ble_eq_true rfl) (Nat.le_of_ble_eq_true rfl) ?_
  obtain ⟨g180, q181, g182, q183, g184⟩ := u178
  obtain ⟨ho185, hf186⟩ := hw179
  try dsimp only at hP hD ho185 hf186
  have hf186 := fh_app (fo_fh (l' := [(1, .int 0)]) hf177 ho185 rfl) hf186
  have hf186 : fh g180 3 [(1, .int 0), (2, .ref q183), (0, .ref q181)] := hf186
  have hP : va_P G vwCl [(h0, .inr (2, fs146)), (q101, .inl (cA 0, 5, .inl f102)), (q105, .inl (cA 0, 5, .inl f106)), (q109, .inl (cA 0, 6, .inl f110)), (q113, .inl (cA 0, 6, .inl f114)), (q117, .inl (cA 0, 6, .inl f118)), (q121, .inl (cA 0, 6, .inl f122)), (q125, .inl (cA 0, 10, .inl f126)), (q129, .inl (cA 0, 10, .inl f130)), (q133, .inl (cA 0, 10, .inl f134)), (q137, .inl (cA 0, 10, .inl f138)), (q141, .inl (cA 0, 21, .inl f142)), (q145, .inl (cA 4, 3, .inr (.inr (.inr (.inr ((va_up ((va_up ((fun _ => none)) (0 : Int32).toNatClampNeg (some q149))) (1 : Int32).toNatClampNeg (some q162)))))))), (q149, .inr (1, g154)), (q155, .inl (cA 0, 64, .inl g156)), (q157, .inl (cA 2, 64, .inr (.inl g158))), (q162, .inr (1, g167)), (q168, .inl (cA 0, 64, .inl g169)), (q170, .inl (cA 2, 64, .inr (.inl g171))), (q175, .inr (1, g180)), (q181, .inl (cA 0, 64, .inl g182)), (q183, .inl (cA 2, 64, .inr (.inl g184)))] H := hP
  have hD : va_D A [(h0, .inr (2, fs146)), (q101, .inl (cA 0, 5, .inl f102)), (q105, .inl (cA 0, 5, .inl f106)), (q109, .inl (cA 0, 6, .inl f110)), (q113, .inl (cA 0, 6, .inl f114)), (q117, .inl (cA 0, 6, .inl f118)), (q121, .inl (cA 0, 6, .inl f122)), (q125, .inl (cA 0, 10, .inl f126)), (q129, .inl (cA 0, 10, .inl f130)), (q133, .inl (cA 0, 10, .inl f134)), (q137, .inl (cA 0, 10, .inl f138)), (q141, .inl (cA 0, 21, .inl f142)), (q145, .inl (cA 4, 3, .inr (.inr (.inr (.inr ((va_up ((va_up ((fun _ => none)) (0 : Int32).toNatClampNeg (some q149))) (1 : Int32).toNatClampNeg (some q162)))))))), (q149, .inr (1, g154)), (q155, .inl (cA 0, 64, .inl g156)), (q157, .inl (cA 2, 64, .inr (.inl g158))), (q162, .inr (1, g167)), (q168, .inl (cA 0, 64, .inl g169)), (q170, .inl (cA 2, 64, .inr (.inl g171))), (q175, .inr (1, g180)), (q181, .inl (cA 0, 64, .inl g182)), (q183, .inl (cA 2, 64, .inr (.inl g184)))] := hD
  refine va_astq (r := (RX1, TX1, 3)) (i := 2) hx hb hK hP hD hS 12 4 19 1 rfl rfl rfl rfl (tq_in (by decide)) dX2_init_117 (fun H locs hP hD hS => ?_)
  have hP : va_P G vwCl [(h0, .inr (2, fs146)), (q101, .inl (cA 0, 5, .inl f102)), (q105, .inl (cA 0, 5, .inl f106)), (q109, .inl (cA 0, 6, .inl f110)), (q113, .inl (cA 0, 6, .inl f114)), (q117, .inl (cA 0, 6, .inl f118)), (q121, .inl (cA 0, 6, .inl f122)), (q125, .inl (cA 0, 10, .inl f126)), (q129, .inl (cA 0, 10, .inl f130)), (q133, .inl (cA 0, 10, .inl f134)), (q137, .inl (cA 0, 10, .inl f138)), (q141, .inl (cA 0, 21, .inl f142)), (q145, .inl (cA 4, 3, .inr (.inr (.inr (.inr ((va_up ((va_up ((va_up ((fun _ => none)) (0 : Int32).toNatClampNeg (some q149))) (1 : Int32).toNatClampNeg (some q162))) (2 : Int32).toNatClampNeg (some q175)))))))), (q149, .inr (1, g154)), (q155, .inl (cA 0, 64, .inl g156)), (q157, .inl (cA 2, 64, .inr (.inl g158))), (q162, .inr (1, g167)), (q168, .inl (cA 0, 64, .inl g169)), (q170, .inl (cA 2, 64, .inr (.inl g171))), (q175, .inr (1, g180)), (q181, .inl (cA 0, 64, .inl g182)), (q183, .inl (cA 2, 64, .inr (.inl g184)))] H := hP
  have hD : va_D A [(h0, .inr (2, fs146)), (q101, .inl (cA 0, 5, .inl f102)), (q105, .inl (cA 0, 5, .inl f106)), (q109, .inl (cA 0, 6, .inl f110)), (q113, .inl (cA 0, 6, .inl f114)), (q117, .inl (cA 0, 6, .inl f118)), (q121, .inl (cA 0, 6, .inl f122)), (q125, .inl (cA 0, 10, .inl f126)), (q129, .inl (cA 0, 10, .inl f130)), (q133, .inl (cA 0, 10, .inl f134)), (q137, .inl (cA 0, 10, .inl f138)), (q141, .inl (cA 0, 21, .inl f142)), (q145, .inl (cA 4, 3, .inr (.inr (.inr (.inr ((va_up ((va_up ((va_up ((fun _ => none)) (0 : Int32).toNatClampNeg (some q149))) (1 : Int32).toNatClampNeg (some q162))) (2 : Int32).toNatClampNeg (some q175)))))))), (q149, .inr (1, g154)), (q155, .inl (cA 0, 64, .inl g156)), (q157, .inl (cA 2, 64, .inr (.inl g158))), (q162, .inr (1, g167)), (q168, .inl (cA 0, 64, .inl g169)), (q170, .inl (cA 2, 64, .inr (.inl g171))), (q175, .inr (1, g180)), (q181, .inl (cA 0, 64, .inl g182)), (q183, .inl (cA 2, 64, .inr (.inl g184)))] := hD
  refine lv_iinc (v := 3) (lv' := [(1, .int 3), (0, .ref h0)]) hx hb dX2_init_118 hl (k := 0) rfl (by decide) (by decide) rfl (fun ls hl => ?_)
  refine lv_goto (tgt := 100) hx hb dX2_init_121 (by decide) ?_
  refine lv_iload_n hx hb dX2_init_100 rfl (lv_at hl 0 rfl) ?_
  refine lv_iconst (v := 3) hx hb dX2_init_101 (by decide) ?_
  refine lv_icmp_ge (tgt := 124) hx hb dX2_init_102 (by decide) (fun c187 => ?_) (fun c187 => absurd (by decide) c187)
  refine lv_aload_n hx hb dX2_init_124 rfl (lv_at hl 1 rfl) ?_
  refine tq_cv (wr := [(q101, .inl (cA 0, 5, .inl f102)), (q105, .inl (cA 0, 5, .inl f106)), (q109, .inl (cA 0, 6, .inl f110)), (q113, .inl (cA 0, 6, .inl f114)), (q117, .inl (cA 0, 6, .inl f118)), (q121, .inl (cA 0, 6, .inl f122)), (q125, .inl (cA 0, 10, .inl f126)), (q129, .inl (cA 0, 10, .inl f130)), (q133, .inl (cA 0, 10, .inl f134)), (q137, .inl (cA 0, 10, .inl f138)), (q155, .inl (cA 0, 64, .inl g156)), (q157, .inl (cA 2, 64, .inr (.inl g158))), (q168, .inl (cA 0, 64, .inl g169)), (q170, .inl (cA 2, 64, .inr (.inl g171))), (q181, .inl (cA 0, 64, .inl g182)), (q183, .inl (cA 2, 64, .inr (.inl g184)))]) hP hD hS hA [0, 11, 12, 13, 16, 19] [1, 2, 3, 4, 5, 6, 7, 8, 9, 10, 14, 15, 17, 18, 20, 21] rfl rfl (by decide) (by decide) (va_runV (As := []) (rest := []) ⟨hx, hb, hml, hown, hT⟩ (c_X2_clear l G cA H.size h0 fs146 q141 q145 f142 ((va_up ((va_up ((va_up ((fun _ => none)) (0 : Int32).toNatClampNeg (some q149))) (1 : Int32).toNatClampNeg (some q162))) (2 : Int32).toNatClampNeg (some q175))) q149 q162 q175 g154 g167 g180 (fh_sub hf [1, 0] rfl) rfl rfl rfl (fh_sub hf160 [] rfl) (fh_sub hf173 [] rfl) (fh_sub hf186 [] rfl)) (cwV 0 hT (tq_gV kw_6_14 kw_6_15 kw_6_16 kw_1_19 kw_6_17) rfl rfl rfl (by decide +kernel) ⟨Nat.le_of_ble_eq_true rfl, Nat.le_of_ble_eq_true rfl⟩) ⟨(tq_pre (isC := [0, 11, 12, 13, 16, 19]) hP hD hK hN rfl (by decide)).1, va_recv hK hP (ci := 2) (q0 := 0) rfl rfl, (tq_pre (isC := [0, 11, 12, 13, 16, 19]) hP hD hK hN rfl (by decide)).2⟩ rfl rfl hl.1 rfl (lv_room (Nat.le_of_ble_eq_true rfl)) dX2_init_125 ⟨Nat.le_of_ble_eq_true rfl, Nat.le_of_ble_eq_true rfl⟩) (fun u188 H locs hw189 hP hD hS => ?_)
  refine W.widen (k := 21) (n := 491) (Nat.le_of_ble_eq_true rfl) (Nat.le_of_ble_eq_true rfl) ?_
  obtain ⟨g190, g191, g192, g193, g194⟩ := u188
  obtain ⟨ho195, hf196, hF197, ho198, hf199, ho200, hf201, ho202, hf203⟩ := hw189
  try dsimp only at hP hD ho195 hf196 hF197 ho198 hf199 ho200 hf201 ho202 hf203
  have hf196 := fh_app (fo_fh (l' := [(18, .ref q145), (17, .ref q141), (16, .ref q137), (15, .ref q133), (14, .ref q129), (13, .ref q125), (12, .ref q121), (11, .ref q117), (10, .ref q113), (9, .ref q109), (8, .ref q105), (7, .ref q101)]) hf ho195 rfl) hf196
  have ho204 := fo_mono (k2 := [6, 5, 4, 3, 2, 1, 0, 18, 17, 16, 15, 14, 13, 12, 11, 10, 9, 8, 7]) (fo_trans ho147 ho195) (by decide)
  have hf196 : fh g190 19 [(18, .ref q145), (17, .ref q141), (16, .ref q137), (15, .ref q133), (14, .ref q129), (13, .ref q125), (12, .ref q121), (11, .ref q117), (10, .ref q113), (9, .ref q109), (8, .ref q105), (7, .ref q101), (6, .int 0), (5, .int 0), (4, .int 0), (3, .int 0), (2, .int 0), (1, .int 0), (0, .int 0)] := hf196
  have hf199 := fh_app (fo_fh (l' := [(2, .ref q157), (0, .ref q155)]) hf160 ho198 rfl) hf199
  have hf199 : fh g192 3 [(2, .ref q157), (0, .ref q155), (1, .int 0)] := hf199
  have hf201 := fh_app (fo_fh (l' := [(2, .ref q170), (0, .ref q168)]) hf173 ho200 rfl) hf201
  have hf201 : fh g193 3 [(2, .ref q170), (0, .ref q168), (1, .int 0)] := hf201
  have hf203 := fh_app (fo_fh (l' := [(2, .ref q183), (0, .ref q181)]) hf186 ho202 rfl) hf203
  have hf203 : fh g194 3 [(2, .ref q183), (0, .ref q181), (1, .int 0)] := hf203
  have hP : va_P G vwCl [(q101, .inl (cA 0, 5, .inl f102)), (q105, .inl (cA 0, 5, .inl f106)), (q109, .inl (cA 0, 6, .inl f110)), (q113, .inl (cA 0, 6, .inl f114)), (q117, .inl (cA 0, 6, .inl f118)), (q121, .inl (cA 0, 6, .inl f122)), (q125, .inl (cA 0, 10, .inl f126)), (q129, .inl (cA 0, 10, .inl f130)), (q133, .inl (cA 0, 10, .inl f134)), (q137, .inl (cA 0, 10, .inl f138)), (q155, .inl (cA 0, 64, .inl g156)), (q157, .inl (cA 2, 64, .inr (.inl g158))), (q168, .inl (cA 0, 64, .inl g169)), (q170, .inl (cA 2, 64, .inr (.inl g171))), (q181, .inl (cA 0, 64, .inl g182)), (q183, .inl (cA 2, 64, .inr (.inl g184))), (h0, .inr (2, g190)), (q141, .inl (cA 0, 21, .inl g191)), (q145, .inl (cA 4, 3, .inr (.inr (.inr (.inr ((va_up ((va_up ((va_up ((fun _ => none)) (0 : Int32).toNatClampNeg (some q149))) (1 : Int32).toNatClampNeg (some q162))) (2 : Int32).toNatClampNeg (some q175)))))))), (q149, .inr (1, g192)), (q162, .inr (1, g193)), (q175, .inr (1, g194))] H := hP
  have hD : va_D A [(q101, .inl (cA 0, 5, .inl f102)), (q105, .inl (cA 0, 5, .inl f106)), (q109, .inl (cA 0, 6, .inl f110)), (q113, .inl (cA 0, 6, .inl f114)), (q117, .inl (cA 0, 6, .inl f118)), (q121, .inl (cA 0, 6, .inl f122)), (q125, .inl (cA 0, 10, .inl f126)), (q129, .inl (cA 0, 10, .inl f130)), (q133, .inl (cA 0, 10, .inl f134)), (q137, .inl (cA 0, 10, .inl f138)), (q155, .inl (cA 0, 64, .inl g156)), (q157, .inl (cA 2, 64, .inr (.inl g158))), (q168, .inl (cA 0, 64, .inl g169)), (q170, .inl (cA 2, 64, .inr (.inl g171))), (q181, .inl (cA 0, 64, .inl g182)), (q183, .inl (cA 2, 64, .inr (.inl g184))), (h0, .inr (2, g190)), (q141, .inl (cA 0, 21, .inl g191)), (q145, .inl (cA 4, 3, .inr (.inr (.inr (.inr ((va_up ((va_up ((va_up ((fun _ => none)) (0 : Int32).toNatClampNeg (some q149))) (1 : Int32).toNatClampNeg (some q162))) (2 : Int32).toNatClampNeg (some q175)))))))), (q149, .inr (1, g192)), (q162, .inr (1, g193)), (q175, .inr (1, g194))] := hD
  have hP : va_P G vwCl [(h0, .inr (2, g190)), (q101, .inl (cA 0, 5, .inl f102)), (q105, .inl (cA 0, 5, .inl f106)), (q109, .inl (cA 0, 6, .inl f110)), (q113, .inl (cA 0, 6, .inl f114)), (q117, .inl (cA 0, 6, .inl f118)), (q121, .inl (cA 0, 6, .inl f122)), (q125, .inl (cA 0, 10, .inl f126)), (q129, .inl (cA 0, 10, .inl f130)), (q133, .inl (cA 0, 10, .inl f134)), (q137, .inl (cA 0, 10, .inl f138)), (q155, .inl (cA 0, 64, .inl g156)), (q157, .inl (cA 2, 64, .inr (.inl g158))), (q168, .inl (cA 0, 64, .inl g169)), (q170, .inl (cA 2, 64, .inr (.inl g171))), (q181, .inl (cA 0, 64, .inl g182)), (q183, .inl (cA 2, 64, .inr (.inl g184))), (q141, .inl (cA 0, 21, .inl g191)), (q145, .inl (cA 4, 3, .inr (.inr (.inr (.inr ((va_up ((va_up ((va_up ((fun _ => none)) (0 : Int32).toNatClampNeg (some q149))) (1 : Int32).toNatClampNeg (some q162))) (2 : Int32).toNatClampNeg (some q175)))))))), (q149, .inr (1, g192)), (q162, .inr (1, g193)), (q175, .inr (1, g194))] H := hP.sub [16, 0, 1, 2, 3, 4, 5, 6, 7, 8, 9, 10, 11, 12, 13, 14, 15, 17, 18, 19, 20, 21] rfl
  have hD : va_D A [(h0, .inr (2, g190)), (q101, .inl (cA 0, 5, .inl f102)), (q105, .inl (cA 0, 5, .inl f106)), (q109, .inl (cA 0, 6, .inl f110)), (q113, .inl (cA 0, 6, .inl f114)), (q117, .inl (cA 0, 6, .inl f118)), (q121, .inl (cA 0, 6, .inl f122)), (q125, .inl (cA 0, 10, .inl f126)), (q129, .inl (cA 0, 10, .inl f130)), (q133, .inl (cA 0, 10, .inl f134)), (q137, .inl (cA 0, 10, .inl f138)), (q155, .inl (cA 0, 64, .inl g156)), (q157, .inl (cA 2, 64, .inr (.inl g158))), (q168, .inl (cA 0, 64, .inl g169)), (q170, .inl (cA 2, 64, .inr (.inl g171))), (q181, .inl (cA 0, 64, .inl g182)), (q183, .inl (cA 2, 64, .inr (.inl g184))), (q141, .inl (cA 0, 21, .inl g191)), (q145, .inl (cA 4, 3, .inr (.inr (.inr (.inr ((va_up ((va_up ((va_up ((fun _ => none)) (0 : Int32).toNatClampNeg (some q149))) (1 : Int32).toNatClampNeg (some q162))) (2 : Int32).toNatClampNeg (some q175)))))))), (q149, .inr (1, g192)), (q162, .inr (1, g193)), (q175, .inr (1, g194))] := hD.sub [16, 0, 1, 2, 3, 4, 5, 6, 7, 8, 9, 10, 11, 12, 13, 14, 15, 17, 18, 19, 20, 21] (by decide) rfl
  have qho204 := fo_mono (k2 := [6, 5, 4, 3, 2, 1, 0, 18, 17, 16, 15, 14, 13, 12, 11, 10, 9, 8, 7]) ho204 (by decide)
  exact W.vret hx hb hr (fun t ht hW => ⟨⟨(g190, q101, f102, q105, f106, q109, f110, q113, f114, q117, f118, q121, f122, q125, f126, q129, f130, q133, f134, q137, f138, q155, g156, q157, g158, q168, g169, q170, g171, q181, g182, q183, g184, q141, g191, q145, (va_up ((va_up ((va_up ((fun _ => none)) (0 : Int32).toNatClampNeg (some q149))) (1 : Int32).toNatClampNeg (some q162))) (2 : Int32).toNatClampNeg (some q175)), q149, g192, q162, g193, q175, g194), rfl, ⟨qho204, fh_sub hf196 [12, 13, 14, 15, 16, 17, 18, 0, 1, 2, 3, 4, 5, 6, 7, 8, 9, 10, 11] rfl, hF197, rfl, rfl, rfl, fh_sub hf199 [1, 2, 0] rfl, fh_sub hf201 [1, 2, 0] rfl, fh_sub hf203 [1, 2, 0] rfl⟩, by rw [ht]; exact hP, hD⟩, hS.F ht⟩) hS.2.2 dX2_init_128

set_option maxHeartbeats 4000000 in
set_option maxRecDepth 100000 in
theorem c_X2_personNamed (l : Launch) (G : va_G) (cA : Nat → ClassId) (sz : Nat) (h0 : Nat) (x : Int32) (fs : List Value) (hf : fh fs 19 [(1, .int 0)]) : Met l yX2_personNamed (.code yX2_personNamed cX2_personNamed 3 (some .int) :: T0) ({ frames := 0, cells := 0, slots := 0, locals := 0 }) (tqP G cA [.ref h0, .int x] [(h0, .inr (2, fs))] sz) (tqQi G cA (fun (r : Int32) (u : Unit) => r = (-1)) (fun (u : Unit) => [(h0, .inr (2, fs))]) (va_A [(h0, .inr (2, fs))] sz)) 0 0 (va_A [(h0, .inr (2, fs))] sz) := by
  refine Met.ofW (cc := cX2_personNamed) (maxL := 3) (ret := (some .int)) (by decide) rfl ?_
  intro p e s m args below meth c s₁ B hml hv
  obtain ⟨rfl, hsz, hP, hK, hD0, hN⟩ := hv
  have hx := B.exec
  have hb := B.bytes
  have hr := B.returns
  have hts := atoms_spec (ws := .code yX2_personNamed cX2_personNamed 3 (some .int) :: T0) B.pre
  have hT : ∀ w ∈ T0, w.before _ s = true := fun w h => hts w (List.mem_cons_of_mem _ h)
  have hown : s.vm.findClass RX2 = some m.cls := findClass_of_methodNamed B.named
  have hlocks := B.notSynchronized
  subst hsz
  have hD := hD0.self (sz := s.heap.size)
  generalize hAe : va_A [(h0, .inr (2, fs))] s.heap.size = A at hD ⊢
  have hA : ∀ q : Nat, s.heap.size ≤ q → A q := fun q h => by rw [← hAe]; exact Or.inr h
  have hS : va_S A s.heap s.heap [] := va_S.rf
  have hl := lv_entry ([.ref h0, .int x]) (n := 3) (Nat.le_of_ble_eq_true rfl)
  rw [lg_entry_eq]
  generalize (lg_sl ([.ref h0, .int x]) ++ List.replicate (3 - (lg_sl ([.ref h0, .int x])).length) Slot.unset).toArray = ls at hl ⊢
  have hl : lv_has ls 3 [(0, .ref h0), (1, .int x)] := hl
  obtain ⟨H, hH⟩ : ∃ z, z = s.heap := ⟨_, rfl⟩
  rw [← hH] at hP
  have hS : va_S A s.heap H [] := by rw [hH]; exact hS
  suffices hgo : W p l e _ s m _ below meth c H [] 0 0 _ _ by rw [hH] at hgo; exact hgo
  have hO := hN.2.2.2.2
  have ho_hf := fo_refl fs
  refine lv_iconst (v := 0) hx hb dX2_personNamed_0 (by decide) ?_
  refine lv_istore_n (lv' := [(2, .int 0), (0, .ref h0), (1, .int x)]) hx hb dX2_personNamed_1 rfl hl (by decide) rfl (fun ls hl => ?_)
  refine lv_iload_n hx hb dX2_personNamed_2 rfl (lv_at hl 0 rfl) ?_
  refine lv_aload_n hx hb dX2_personNamed_3 rfl (lv_at hl 1 rfl) ?_
  refine va_get (D := G) (ci := 2) (v := .int 0) (C := RX2) (T := TX2) (N := 19) hx hb hT ku_2 hown hK hP 0 rfl rfl 1 (by decide) (hT _ kw_6_19) (fun _ h9 => h9) (fh_at hf 0 rfl) dX2_personNamed_4 ?_
  refine lv_icmp_ge (tgt := 28) hx hb dX2_personNamed_7 (by decide) (fun c101 => ?_) (fun c101 => absurd (by decide) c101)
  refine lv_iconst (v := (-1)) hx hb dX2_personNamed_28 (by decide) ?_
  exact W.iret (v := (-1)) hx hb hr (fun t ht hW => ⟨⟨(-1), (), rfl, rfl, by rw [ht]; exact hP, hD⟩, hS.F ht⟩) hS.2.2 dX2_personNamed_29

set_option maxHeartbeats 4000000 in
set_option maxRecDepth 100000 in
theorem c_X6_begin (l : Launch) (G : va_G) (cA : Nat → ClassId) (sz : Nat) (h0 : Nat) (pa : Nat) (fs : List Value) (a8 : Nat) (a9 : Nat) (a10 : Nat) (a11 : Nat) (a12 : Nat) (a13 : Nat) (a14 : Nat) (a16 : Nat) (a17 : Nat) (f8 : Nat → Int32) (f9 : Nat → Int32) (f10 : Nat → Int32) (f11 : Nat → Int32) (f12 : Nat → Int32) (f13 : Nat → Int32) (f14 : Nat → Int32) (f16 : Nat → Int32) (f17 : Nat → Int32) (ps : List Value) (p10 : Nat) (p12 : Nat) (p16 : Nat) (g10 : Nat → Int32) (g12 : Nat → Int32) (g16 : Nat → Int32) (hf : fh fs 20 [(8, .ref a8), (9, .ref a9), (10, .ref a10), (11, .ref a11), (12, .ref a12), (13, .ref a13), (14, .ref a14), (16, .ref a16), (17, .ref a17)]) (hp : fh ps 19 [(4, .int 0), (5, .int 0), (6, .int 0), (10, .ref p10), (12, .ref p12), (16, .ref p16)]) : Met l yX6_begin (.code yX6_begin cX6_begin 3 none :: T0) ({ frames := 0, cells := 0, slots := 0, locals := 0 }) (tqP G cA [.ref h0, .ref pa] [(h0, .inr (6, fs)), (a8, .inl (cA 0, 6, .inl f8)), (a9, .inl (cA 0, 6, .inl f9)), (a10, .inl (cA 0, 6, .inl f10)), (a11, .inl (cA 0, 6, .inl f11)), (a12, .inl (cA 0, 10, .inl f12)), (a13, .inl (cA 0, 10, .inl f13)), (a14, .inl (cA 0, 10, .inl f14)), (a16, .inl (cA 0, 5, .inl f16)), (a17, .inl (cA 0, 5, .inl f17)), (pa, .inr (2, ps)), (p10, .inl (cA 0, 6, .inl g10)), (p12, .inl (cA 0, 6, .inl g12)), (p16, .inl (cA 0, 10, .inl g16))] sz) (tqQv G cA (fun (u : List Value × (Nat → Int32) × (Nat → Int32) × (Nat → Int32) × (Nat → Int32) × (Nat → Int32) × (Nat → Int32) × (Nat → Int32) × (Nat → Int32) × (Nat → Int32)) => fo fs u.1 [4, 3, 2, 1, 0, 19] ∧ fh u.1 20 [(4, .int 0), (3, .int 0), (2, .int 0), (1, .int 0), (0, .int 0), (19, .ref pa)]) (fun (u : List Value × (Nat → Int32) × (Nat → Int32) × (Nat → Int32) × (Nat → Int32) × (Nat → Int32) × (Nat → Int32) × (Nat → Int32) × (Nat → Int32) × (Nat → Int32)) => [(h0, .inr (6, u.1)), (a8, .inl (cA 0, 6, .inl u.2.1)), (a9, .inl (cA 0, 6, .inl u.2.2.1)), (a10, .inl (cA 0, 6, .inl u.2.2.2.1)), (a11, .inl (cA 0, 6, .inl u.2.2.2.2.1)), (a12, .inl (cA 0, 10, .inl u.2.2.2.2.2.1)), (a13, .inl (cA 0, 10, .inl u.2.2.2.2.2.2.1)), (a14, .inl (cA 0, 10, .inl u.2.2.2.2.2.2.2.1)), (a16, .inl (cA 0, 5, .inl u.2.2.2.2.2.2.2.2.1)), (a17, .inl (cA 0, 5, .inl u.2.2.2.2.2.2.2.2.2)), (pa, .inr (2, ps)), (p10, .inl (cA 0, 6, .inl g10)), (p12, .inl (cA 0, 6, .inl g12)), (p16, .inl (cA 0, 10, .inl g16))]) (va_A [(h0, .inr (6, fs)), (a8, .inl (cA 0, 6, .inl f8)), (a9, .inl (cA 0, 6, .inl f9)), (a10, .inl (cA 0, 6, .inl f10)), (a11, .inl (cA 0, 6, .inl f11)), (a12, .inl (cA 0, 10, .inl f12)), (a13, .inl (cA 0, 10, .inl f13)), (a14, .inl (cA 0, 10, .inl f14)), (a16, .inl (cA 0, 5, .inl f16)), (a17, .inl (cA 0, 5, .inl f17)), (pa, .inr (2, ps)), (p10, .inl (cA 0, 6, .inl g10)), (p12, .inl (cA 0, 6, .inl g12)), (p16, .inl (cA 0, 10, .inl g16))] sz)) 0 0 (va_A [(h0, .inr (6, fs)), (a8, .inl (cA 0, 6, .inl f8)), (a9, .inl (cA 0, 6, .inl f9)), (a10, .inl (cA 0, 6, .inl f10)), (a11, .inl (cA 0, 6, .inl f11)), (a12, .inl (cA 0, 10, .inl f12)), (a13, .inl (cA 0, 10, .inl f13)), (a14, .inl (cA 0, 10, .inl f14)), (a16, .inl (cA 0, 5, .inl f16)), (a17, .inl (cA 0, 5, .inl f17)), (pa, .inr (2, ps)), (p10, .inl (cA 0, 6, .inl g10)), (p12, .inl (cA 0, 6, .inl g12)), (p16, .inl (cA 0, 10, .inl g16))] sz) := by
  refine Met.ofW (cc := cX6_begin) (maxL := 3) (ret := none) (by decide) rfl ?_
  intro p e s m args below meth c s₁ B hml hv
  obtain ⟨rfl, hsz, hP, hK, hD0, hN⟩ := hv
  have hx := B.exec
  have hb := B.bytes
  have hr := B.returns
  have hts := atoms_spec (ws := .code yX6_begin cX6_begin 3 none :: T0) B.pre
  have hT : ∀ w ∈ T0, w.before _ s = true := fun w h => hts w (List.mem_cons_of_mem _ h)
  have hown : s.vm.findClass RX6 = some m.cls := findClass_of_methodNamed B.named
  have hlocks := B.notSynchronized
  subst hsz
  have hD := hD0.self (sz := s.heap.size)
  generalize hAe : va_A [(h0, .inr (6, fs)), (a8, .inl (cA 0, 6, .inl f8)), (a9, .inl (cA 0, 6, .inl f9)), (a10, .inl (cA 0, 6, .inl f10)), (a11, .inl (cA 0, 6, .inl f11)), (a12, .inl (cA 0, 10, .inl f12)), (a13, .inl (cA 0, 10, .inl f13)), (a14, .inl (cA 0, 10, .inl f14)), (a16, .inl (cA 0, 5, .inl f16)), (a17, .inl (cA 0, 5, .inl f17)), (pa, .inr (2, ps)), (p10, .inl (cA 0, 6, .inl g10)), (p12, .inl (cA 0, 6, .inl g12)), (p16, .inl (cA 0, 10, .inl g16))] s.heap.size = A at hD ⊢
  have hA : ∀ q : Nat, s.heap.size ≤ q → A q := fun q h => by rw [← hAe]; exact Or.inr h
  have hS : va_S A s.heap s.heap [] := va_S.rf
  have hl := lv_entry ([.ref h0, .ref pa]) (n := 3) (Nat.le_of_ble_eq_true rfl)
  rw [lg_entry_eq]
  generalize (lg_sl ([.ref h0, .ref pa]) ++ List.replicate (3 - (lg_sl ([.ref h0, .ref pa])).length) Slot.unset).toArray = ls at hl ⊢
  have hl : lv_has ls 3 [(0, .ref h0), (1, .ref pa)] := hl
  obtain ⟨H, hH⟩ : ∃ z, z = s.heap := ⟨_, rfl⟩
  rw [← hH] at hP
  have hS : va_S A s.heap H [] := by rw [hH]; exact hS
  suffices hgo : W p l e _ s m _ below meth c H [] 0 0 _ _ by rw [hH] at hgo; exact hgo
  have hO := hN.2.2.2.2
  have ho_hf := fo_refl fs
  have ho_hp := fo_refl ps
  refine lv_aload_n hx hb dX6_begin_0 rfl (lv_at hl 0 rfl) ?_
  refine lv_aload_n hx hb dX6_begin_1 rfl (lv_at hl 1 rfl) ?_
  refine va_put (D := G) (ci := 6) (v := .ref pa) (ty := (.object "RackTrain$Plan")) (C := RX6) (T := TX6) (N := 20) hx hb hT ku_6 tyX6 tyX6_ok nmX6 hown hK hP hD hS 0 rfl rfl 19 (by decide) (hT _ kw_8_1) (fun _ h9 => h9) rfl (by decide +kernel) rfl rfl (fh_lt hf (by decide)) dX6_begin_2 (fun H locs hP hD hS => ?_)
  have hP : va_P G vwCl [(h0, .inr (6, (fs.set 19 (.ref pa)))), (a8, .inl (cA 0, 6, .inl f8)), (a9, .inl (cA 0, 6, .inl f9)), (a10, .inl (cA 0, 6, .inl f10)), (a11, .inl (cA 0, 6, .inl f11)), (a12, .inl (cA 0, 10, .inl f12)), (a13, .inl (cA 0, 10, .inl f13)), (a14, .inl (cA 0, 10, .inl f14)), (a16, .inl (cA 0, 5, .inl f16)), (a17, .inl (cA 0, 5, .inl f17)), (pa, .inr (2, ps)), (p10, .inl (cA 0, 6, .inl g10)), (p12, .inl (cA 0, 6, .inl g12)), (p16, .inl (cA 0, 10, .inl g16))] H := hP
  have hD : va_D A [(h0, .inr (6, (fs.set 19 (.ref pa)))), (a8, .inl (cA 0, 6, .inl f8)), (a9, .inl (cA 0, 6, .inl f9)), (a10, .inl (cA 0, 6, .inl f10)), (a11, .inl (cA 0, 6, .inl f11)), (a12, .inl (cA 0, 10, .inl f12)), (a13, .inl (cA 0, 10, .inl f13)), (a14, .inl (cA 0, 10, .inl f14)), (a16, .inl (cA 0, 5, .inl f16)), (a17, .inl (cA 0, 5, .inl f17)), (pa, .inr (2, ps)), (p10, .inl (cA 0, 6, .inl g10)), (p12, .inl (cA 0, 6, .inl g12)), (p16, .inl (cA 0, 10, .inl g16))] := hD
  have hf := fh_set (l' := [(19, .ref pa), (8, .ref a8), (9, .ref a9), (10, .ref a10), (11, .ref a11), (12, .ref a12), (13, .ref a13), (14, .ref a14), (16, .ref a16), (17, .ref a17)]) hf 19 (.ref pa) (by decide) rfl
  have ho102 := fo_set ho_hf 19 (.ref pa)
  generalize (fs.set 19 (.ref pa)) = fs101 at hP hD hf ho102
  refine lv_aload_n hx hb dX6_begin_5 rfl (lv_at hl 0 rfl) ?_
  refine lv_iconst (v := 0) hx hb dX6_begin_6 (by decide) ?_
  refine va_put (D := G) (ci := 6) (v := .int 0) (ty := .int) (C := RX6) (T := TX6) (N := 20) hx hb hT ku_6 tyX6 tyX6_ok nmX6 hown hK hP hD hS 0 rfl rfl 0 (by decide) (hT _ kw_8_2) (fun _ h9 => h9) rfl (by decide +kernel) rfl rfl (fh_lt hf (by decide)) dX6_begin_7 (fun H locs hP hD hS => ?_)
  have hP : va_P G vwCl [(h0, .inr (6, (fs101.set 0 (.int 0)))), (a8, .inl (cA 0, 6, .inl f8)), (a9, .inl (cA 0, 6, .inl f9)), (a10, .inl (cA 0, 6, .inl f10)), (a11, .inl (cA 0, 6, .inl f11)), (a12, .inl (cA 0, 10, .inl f12)), (a13, .inl (cA 0, 10, .inl f13)), (a14, .inl (cA 0, 10, .inl f14)), (a16, .inl (cA 0, 5, .inl f16)), (a17, .inl (cA 0, 5, .inl f17)), (pa, .inr (2, ps)), (p10, .inl (cA 0, 6, .inl g10)), (p12, .inl (cA 0, 6, .inl g12)), (p16, .inl (cA 0, 10, .inl g16))] H := hP
  have hD : va_D A [(h0, .inr (6, (fs101.set 0 (.int 0)))), (a8, .inl (cA 0, 6, .inl f8)), (a9, .inl (cA 0, 6, .inl f9)), (a10, .inl (cA 0, 6, .inl f10)), (a11, .inl (cA 0, 6, .inl f11)), (a12, .inl (cA 0, 10, .inl f12)), (a13, .inl (cA 0, 10, .inl f13)), (a14, .inl (cA 0, 10, .inl f14)), (a16, .inl (cA 0, 5, .inl f16)), (a17, .inl (cA 0, 5, .inl f17)), (pa, .inr (2, ps)), (p10, .inl (cA 0, 6, .inl g10)), (p12, .inl (cA 0, 6, .inl g12)), (p16, .inl (cA 0, 10, .inl g16))] := hD
  have hf := fh_set (l' := [(0, .int 0), (19, .ref pa), (8, .ref a8), (9, .ref a9), (10, .ref a10), (11, .ref a11), (12, .ref a12), (13, .ref a13), (14, .ref a14), (16, .ref a16), (17, .ref a17)]) hf 0 (.int 0) (by decide) rfl
  have ho104 := fo_set ho102 0 (.int 0)
  generalize (fs101.set 0 (.int 0)) = fs103 at hP hD hf ho104
  refine lv_aload_n hx hb dX6_begin_10 rfl (lv_at hl 0 rfl) ?_
  refine lv_iconst (v := 0) hx hb dX6_begin_11 (by decide) ?_
  refine va_put (D := G) (ci := 6) (v := .int 0) (ty := .int) (C := RX6) (T := TX6) (N := 20) hx hb hT ku_6 tyX6 tyX6_ok nmX6 hown hK hP hD hS 0 rfl rfl 1 (by decide) (hT _ kw_8_3) (fun _ h9 => h9) rfl (by decide +kernel) rfl rfl (fh_lt hf (by decide)) dX6_begin_12 (fun H locs hP hD hS => ?_)
  have hP : va_P G vwCl [(h0, .inr (6, (fs103.set 1 (.int 0)))), (a8, .inl (cA 0, 6, .inl f8)), (a9, .inl (cA 0, 6, .inl f9)), (a10, .inl (cA 0, 6, .inl f10)), (a11, .inl (cA 0, 6, .inl f11)), (a12, .inl (cA 0, 10, .inl f12)), (a13, .inl (cA 0, 10, .inl f13)), (a14, .inl (cA 0, 10, .inl f14)), (a16, .inl (cA 0, 5, .inl f16)), (a17, .inl (cA 0, 5, .inl f17)), (pa, .inr (2, ps)), (p10, .inl (cA 0, 6, .inl g10)), (p12, .inl (cA 0, 6, .inl g12)), (p16, .inl (cA 0, 10, .inl g16))] H := hP
  have hD : va_D A [(h0, .inr (6, (fs103.set 1 (.int 0)))), (a8, .inl (cA 0, 6, .inl f8)), (a9, .inl (cA 0, 6, .inl f9)), (a10, .inl (cA 0, 6, .inl f10)), (a11, .inl (cA 0, 6, .inl f11)), (a12, .inl (cA 0, 10, .inl f12)), (a13, .inl (cA 0, 10, .inl f13)), (a14, .inl (cA 0, 10, .inl f14)), (a16, .inl (cA 0, 5, .inl f16)), (a17, .inl (cA 0, 5, .inl f17)), (pa, .inr (2, ps)), (p10, .inl (cA 0, 6, .inl g10)), (p12, .inl (cA 0, 6, .inl g12)), (p16, .inl (cA 0, 10, .inl g16))] := hD
  have hf := fh_set (l' := [(1, .int 0), (0, .int 0), (19, .ref pa), (8, .ref a8), (9, .ref a9), (10, .ref a10), (11, .ref a11), (12, .ref a12), (13, .ref a13), (14, .ref a14), (16, .ref a16), (17, .ref a17)]) hf 1 (.int 0) (by decide) rfl
  have ho106 := fo_set ho104 1 (.int 0)
  generalize (fs103.set 1 (.int 0)) = fs105 at hP hD hf ho106
  refine lv_aload_n hx hb dX6_begin_15 rfl (lv_at hl 0 rfl) ?_
  refine lv_aload_n hx hb dX6_begin_16 rfl (lv_at hl 1 rfl) ?_
  refine va_get (D := G) (ci := 2) (v := .int 0) (C := RX2) (T := TX2) (N := 19) hx hb hT ku_2 hown hK hP 10 rfl rfl 6 (by decide) (hT _ kw_8_4) (fun _ h9 => h9) (fh_at hp 2 rfl) dX6_begin_17 ?_
  refine va_put (D := G) (ci := 6) (v := .int 0) (ty := .int) (C := RX6) (T := TX6) (N := 20) hx hb hT ku_6 tyX6 tyX6_ok nmX6 hown hK hP hD hS 0 rfl rfl 2 (by decide) (hT _ kw_8_5) (fun _ h9 => h9) rfl (by decide +kernel) rfl rfl (fh_lt hf (by decide)) dX6_begin_20 (fun H locs hP hD hS => ?_)
  have hP : va_P G vwCl [(h0, .inr (6, (fs105.set 2 (.int 0)))), (a8, .inl (cA 0, 6, .inl f8)), (a9, .inl (cA 0, 6, .inl f9)), (a10, .inl (cA 0, 6, .inl f10)), (a11, .inl (cA 0, 6, .inl f11)), (a12, .inl (cA 0, 10, .inl f12)), (a13, .inl (cA 0, 10, .inl f13)), (a14, .inl (cA 0, 10, .inl f14)), (a16, .inl (cA 0, 5, .inl f16)), (a17, .inl (cA 0, 5, .inl f17)), (pa, .inr (2, ps)), (p10, .inl (cA 0, 6, .inl g10)), (p12, .inl (cA 0, 6, .inl g12)), (p16, .inl (cA 0, 10, .inl g16))] H := hP
  have hD : va_D A [(h0, .inr (6, (fs105.set 2 (.int 0)))), (a8, .inl (cA 0, 6, .inl f8)), (a9, .inl (cA 0, 6, .inl f9)), (a10, .inl (cA 0, 6, .inl f10)), (a11, .inl (cA 0, 6, .inl f11)), (a12, .inl (cA 0, 10, .inl f12)), (a13, .inl (cA 0, 10, .inl f13)), (a14, .inl (cA 0, 10, .inl f14)), (a16, .inl (cA 0, 5, .inl f16)), (a17, .inl (cA 0, 5, .inl f17)), (pa, .inr (2, ps)), (p10, .inl (cA 0, 6, .inl g10)), (p12, .inl (cA 0, 6, .inl g12)), (p16, .inl (cA 0, 10, .inl g16))] := hD
  have hf := fh_set (l' := [(2, .int 0), (1, .int 0), (0, .int 0), (19, .ref pa), (8, .ref a8), (9, .ref a9), (10, .ref a10), (11, .ref a11), (12, .ref a12), (13, .ref a13), (14, .ref a14), (16, .ref a16), (17, .ref a17)]) hf 2 (.int 0) (by decide) rfl
  have ho108 := fo_set ho106 2 (.int 0)
  generalize (fs105.set 2 (.int 0)) = fs107 at hP hD hf ho108
  refine lv_aload_n hx hb dX6_begin_23 rfl (lv_at hl 0 rfl) ?_
  refine lv_aload_n hx hb dX6_begin_24 rfl (lv_at hl 1 rfl) ?_
  refine va_get (D := G) (ci := 2) (v := .int 0) (C := RX2) (T := TX2) (N := 19) hx hb hT ku_2 hown hK hP 10 rfl rfl 4 (by decide) (hT _ kw_8_6) (fun _ h9 => h9) (fh_at hp 0 rfl) dX6_begin_25 ?_
  refine va_put (D := G) (ci := 6) (v := .int 0) (ty := .int) (C := RX6) (T := TX6) (N := 20) hx hb hT ku_6 tyX6 tyX6_ok nmX6 hown hK hP hD hS 0 rfl rfl 3 (by decide) (hT _ kw_8_7) (fun _ h9 => h9) rfl (by decide +kernel) rfl rfl (fh_lt hf (by decide)) dX6_begin_28 (fun H locs hP hD hS => ?_)
  have hP : va_P G vwCl [(h0, .inr (6, (fs107.set 3 (.int 0)))), (a8, .inl (cA 0, 6, .inl f8)), (a9, .inl (cA 0, 6, .inl f9)), (a10, .inl (cA 0, 6, .inl f10)), (a11, .inl (cA 0, 6, .inl f11)), (a12, .inl (cA 0, 10, .inl f12)), (a13, .inl (cA 0, 10, .inl f13)), (a14, .inl (cA 0, 10, .inl f14)), (a16, .inl (cA 0, 5, .inl f16)), (a17, .inl (cA 0, 5, .inl f17)), (pa, .inr (2, ps)), (p10, .inl (cA 0, 6, .inl g10)), (p12, .inl (cA 0, 6, .inl g12)), (p16, .inl (cA 0, 10, .inl g16))] H := hP
  have hD : va_D A [(h0, .inr (6, (fs107.set 3 (.int 0)))), (a8, .inl (cA 0, 6, .inl f8)), (a9, .inl (cA 0, 6, .inl f9)), (a10, .inl (cA 0, 6, .inl f10)), (a11, .inl (cA 0, 6, .inl f11)), (a12, .inl (cA 0, 10, .inl f12)), (a13, .inl (cA 0, 10, .inl f13)), (a14, .inl (cA 0, 10, .inl f14)), (a16, .inl (cA 0, 5, .inl f16)), (a17, .inl (cA 0, 5, .inl f17)), (pa, .inr (2, ps)), (p10, .inl (cA 0, 6, .inl g10)), (p12, .inl (cA 0, 6, .inl g12)), (p16, .inl (cA 0, 10, .inl g16))] := hD
  have hf := fh_set (l' := [(3, .int 0), (2, .int 0), (1, .int 0), (0, .int 0), (19, .ref pa), (8, .ref a8), (9, .ref a9), (10, .ref a10), (11, .ref a11), (12, .ref a12), (13, .ref a13), (14, .ref a14), (16, .ref a16), (17, .ref a17)]) hf 3 (.int 0) (by decide) rfl
  have ho110 := fo_set ho108 3 (.int 0)
  generalize (fs107.set 3 (.int 0)) = fs109 at hP hD hf ho110
  refine lv_aload_n hx hb dX6_begin_31 rfl (lv_at hl 0 rfl) ?_
  refine lv_aload_n hx hb dX6_begin_32 rfl (lv_at hl 1 rfl) ?_
  refine va_get (D := G) (ci := 2) (v := .int 0) (C := RX2) (T := TX2) (N := 19) hx hb hT ku_2 hown hK hP 10 rfl rfl 5 (by decide) (hT _ kw_8_8) (fun _ h9 => h9) (fh_at hp 1 rfl) dX6_begin_33 ?_
  refine va_put (D := G) (ci := 6) (v := .int 0) (ty := .int) (C := RX6) (T := TX6) (N := 20) hx hb hT ku_6 tyX6 tyX6_ok nmX6 hown hK hP hD hS 0 rfl rfl 4 (by decide) (hT _ kw_8_9) (fun _ h9 => h9) rfl (by decide +kernel) rfl rfl (fh_lt hf (by decide)) dX6_begin_36 (fun H locs hP hD hS => ?_)
  have hP : va_P G vwCl [(h0, .inr (6, (fs109.set 4 (.int 0)))), (a8, .inl (cA 0, 6, .inl f8)), (a9, .inl (cA 0, 6, .inl f9)), (a10, .inl (cA 0, 6, .inl f10)), (a11, .inl (cA 0, 6, .inl f11)), (a12, .inl (cA 0, 10, .inl f12)), (a13, .inl (cA 0, 10, .inl f13)), (a14, .inl (cA 0, 10, .inl f14)), (a16, .inl (cA 0, 5, .inl f16)), (a17, .inl (cA 0, 5, .inl f17)), (pa, .inr (2, ps)), (p10, .inl (cA 0, 6, .inl g10)), (p12, .inl (cA 0, 6, .inl g12)), (p16, .inl (cA 0, 10, .inl g16))] H := hP
  have hD : va_D A [(h0, .inr (6, (fs109.set 4 (.int 0)))), (a8, .inl (cA 0, 6, .inl f8)), (a9, .inl (cA 0, 6, .inl f9)), (a10, .inl (cA 0, 6, .inl f10)), (a11, .inl (cA 0, 6, .inl f11)), (a12, .inl (cA 0, 10, .inl f12)), (a13, .inl (cA 0, 10, .inl f13)), (a14, .inl (cA 0, 10, .inl f14)), (a16, .inl (cA 0, 5, .inl f16)), (a17, .inl (cA 0, 5, .inl f17)), (pa, .inr (2, ps)), (p10, .inl (cA 0, 6, .inl g10)), (p12, .inl (cA 0, 6, .inl g12)), (p16, .inl (cA 0, 10, .inl g16))] := hD
  have hf := fh_set (l' := [(4, .int 0), (3, .int 0), (2, .int 0), (1, .int 0), (0, .int 0), (19, .ref pa), (8, .ref a8), (9, .ref a9), (10, .ref a10), (11, .ref a11), (12, .ref a12), (13, .ref a13), (14, .ref a14), (16, .ref a16), (17, .ref a17)]) hf 4 (.int 0) (by decide) rfl
  have ho112 := fo_set ho110 4 (.int 0)
  generalize (fs109.set 4 (.int 0)) = fs111 at hP hD hf ho112
  refine lv_iconst (v := 0) hx hb dX6_begin_39 (by decide) ?_
  refine lv_istore_n (lv' := [(2, .int 0), (0, .ref h0), (1, .ref pa)]) hx hb dX6_begin_40 rfl hl (by decide) rfl (fun ls hl => ?_)
  refine lv_iload_n hx hb dX6_begin_41 rfl (lv_at hl 0 rfl) ?_
  refine lv_bipush (v := 6) hx hb dX6_begin_42 (by decide) ?_
  refine lv_icmp_ge (tgt := 91) hx hb dX6_begin_44 (by decide) (fun c113 => absurd c113 (by decide)) (fun c113 => ?_)
  refine lv_aload_n hx hb dX6_begin_47 rfl (lv_at hl 1 rfl) ?_
  refine va_get (D := G) (ci := 6) (v := .ref a8) (C := RX6) (T := TX6) (N := 20) hx hb hT ku_6 hown hK hP 0 rfl rfl 8 (by decide) (hT _ kw_7_7) (fun _ h9 => h9) (fh_at hf 6 rfl) dX6_begin_48 ?_
  refine lv_iload_n hx hb dX6_begin_51 rfl (lv_at hl 0 rfl) ?_
  refine lv_aload_n hx hb dX6_begin_52 rfl (lv_at hl 2 rfl) ?_
  refine va_get (D := G) (ci := 2) (v := .ref p10) (C := RX2) (T := TX2) (N := 19) hx hb hT ku_2 hown hK hP 10 rfl rfl 10 (by decide) (hT _ kw_8_10) (fun _ h9 => h9) (fh_at hp 3 rfl) dX6_begin_53 ?_
  refine lv_iload_n hx hb dX6_begin_56 rfl (lv_at hl 0 rfl) ?_
  refine va_iald (i := 0) hx hb hK hP 11 0 rfl rfl (tq_in (by decide)) dX6_begin_57 ?_
  refine lv_topi (fun x114 ex114 => ?_)
  refine va_iast (i := 0) hx hb hK hP hD hS 1 0 rfl rfl (tq_in (by decide)) dX6_begin_58 (fun H locs hP hD hS => ?_)
  have hP : va_P G vwCl [(h0, .inr (6, fs111)), (a8, .inl (cA 0, 6, .inl ((upd f8 (0 : Int32).toNatClampNeg x114)))), (a9, .inl (cA 0, 6, .inl f9)), (a10, .inl (cA 0, 6, .inl f10)), (a11, .inl (cA 0, 6, .inl f11)), (a12, .inl (cA 0, 10, .inl f12)), (a13, .inl (cA 0, 10, .inl f13)), (a14, .inl (cA 0, 10, .inl f14)), (a16, .inl (cA 0, 5, .inl f16)), (a17, .inl (cA 0, 5, .inl f17)), (pa, .inr (2, ps)), (p10, .inl (cA 0, 6, .inl g10)), (p12, .inl (cA 0, 6, .inl g12)), (p16, .inl (cA 0, 10, .inl g16))] H := hP
  have hD : va_D A [(h0, .inr (6, fs111)), (a8, .inl (cA 0, 6, .inl ((upd f8 (0 : Int32).toNatClampNeg x114)))), (a9, .inl (cA 0, 6, .inl f9)), (a10, .inl (cA 0, 6, .inl f10)), (a11, .inl (cA 0, 6, .inl f11)), (a12, .inl (cA 0, 10, .inl f12)), (a13, .inl (cA 0, 10, .inl f13)), (a14, .inl (cA 0, 10, .inl f14)), (a16, .inl (cA 0, 5, .inl f16)), (a17, .inl (cA 0, 5, .inl f17)), (pa, .inr (2, ps)), (p10, .inl (cA 0, 6, .inl g10)), (p12, .inl (cA 0, 6, .inl g12)), (p16, .inl (cA 0, 10, .inl g16))] := hD
  generalize (upd f8 (0 : Int32).toNatClampNeg x114) = f115 at hP hD
  refine lv_aload_n hx hb dX6_begin_59 rfl (lv_at hl 1 rfl) ?_
  refine va_get (D := G) (ci := 6) (v := .ref a9) (C := RX6) (T := TX6) (N := 20) hx hb hT ku_6 hown hK hP 0 rfl rfl 9 (by decide) (hT _ kw_7_8) (fun _ h9 => h9) (fh_at hf 7 rfl) dX6_begin_60 ?_
  refine lv_iload_n hx hb dX6_begin_63 rfl (lv_at hl 0 rfl) ?_
  refine lv_aload_n hx hb dX6_begin_64 rfl (lv_at hl 2 rfl) ?_
  refine va_get (D := G) (ci := 2) (v := .ref p12) (C := RX2) (T := TX2) (N := 19) hx hb hT ku_2 hown hK hP 10 rfl rfl 12 (by decide) (hT _ kw_8_11) (fun _ h9 => h9) (fh_at hp 4 rfl) dX6_begin_65 ?_
  refine lv_iload_n hx hb dX6_begin_68 rfl (lv_at hl 0 rfl) ?_
  refine va_iald (i := 0) hx hb hK hP 12 0 rfl rfl (tq_in (by decide)) dX6_begin_69 ?_
  refine lv_topi (fun x116 ex116 => ?_)
  refine va_iast (i := 0) hx hb hK hP hD hS 2 0 rfl rfl (tq_in (by decide)) dX6_begin_70 (fun H locs hP hD hS => ?_)
  have hP : va_P G vwCl [(h0, .inr (6, fs111)), (a8, .inl (cA 0, 6, .inl f115)), (a9, .inl (cA 0, 6, .inl ((upd f9 (0 : Int32).toNatClampNeg x116)))), (a10, .inl (cA 0, 6, .inl f10)), (a11, .inl (cA 0, 6, .inl f11)), (a12, .inl (cA 0, 10, .inl f12)), (a13, .inl (cA 0, 10, .inl f13)), (a14, .inl (cA 0, 10, .inl f14)), (a16, .inl (cA 0, 5, .inl f16)), (a17, .inl (cA 0, 5, .inl f17)), (pa, .inr (2, ps)), (p10, .inl (cA 0, 6, .inl g10)), (p12, .inl (cA 0, 6, .inl g12)), (p16, .inl (cA 0, 10, .inl g16))] H := hP
  have hD : va_D A [(h0, .inr (6, fs111)), (a8, .inl (cA 0, 6, .inl f115)), (a9, .inl (cA 0, 6, .inl ((upd f9 (0 : Int32).toNatClampNeg x116)))), (a10, .inl (cA 0, 6, .inl f10)), (a11, .inl (cA 0, 6, .inl f11)), (a12, .inl (cA 0, 10, .inl f12)), (a13, .inl (cA 0, 10, .inl f13)), (a14, .inl (cA 0, 10, .inl f14)), (a16, .inl (cA 0, 5, .inl f16)), (a17, .inl (cA 0, 5, .inl f17)), (pa, .inr (2, ps)), (p10, .inl (cA 0, 6, .inl g10)), (p12, .inl (cA 0, 6, .inl g12)), (p16, .inl (cA 0, 10, .inl g16))] := hD
  generalize (upd f9 (0 : Int32).toNatClampNeg x116) = f117 at hP hD
  refine lv_aload_n hx hb dX6_begin_71 rfl (lv_at hl 1 rfl) ?_
  refine va_get (D := G) (ci := 6) (v := .ref a10) (C := RX6) (T := TX6) (N := 20) hx hb hT ku_6 hown hK hP 0 rfl rfl 10 (by decide) (hT _ kw_7_9) (fun _ h9 => h9) (fh_at hf 8 rfl) dX6_begin_72 ?_
  refine lv_iload_n hx hb dX6_begin_75 rfl (lv_at hl 0 rfl) ?_
  refine lv_iconst (v := 0) hx hb dX6_begin_76 (by decide) ?_
  refine va_iast (i := 0) hx hb hK hP hD hS 3 0 rfl rfl (tq_in (by decide)) dX6_begin_77 (fun H locs hP hD hS => ?_)
  have hP : va_P G vwCl [(h0, .inr (6, fs111)), (a8, .inl (cA 0, 6, .inl f115)), (a9, .inl (cA 0, 6, .inl f117)), (a10, .inl (cA 0, 6, .inl ((upd f10 (0 : Int32).toNatClampNeg 0)))), (a11, .inl (cA 0, 6, .inl f11)), (a12, .inl (cA 0, 10, .inl f12)), (a13, .inl (cA 0, 10, .inl f13)), (a14, .inl (cA 0, 10, .inl f14)), (a16, .inl (cA 0, 5, .inl f16)), (a17, .inl (cA 0, 5, .inl f17)), (pa, .inr (2, ps)), (p10, .inl (cA 0, 6, .inl g10)), (p12, .inl (cA 0, 6, .inl g12)), (p16, .inl (cA 0, 10, .inl g16))] H := hP
  have hD : va_D A [(h0, .inr (6, fs111)), (a8, .inl (cA 0, 6, .inl f115)), (a9, .inl (cA 0, 6, .inl f117)), (a10, .inl (cA 0, 6, .inl ((upd f10 (0 : Int32).toNatClampNeg 0)))), (a11, .inl (cA 0, 6, .inl f11)), (a12, .inl (cA 0, 10, .inl f12)), (a13, .inl (cA 0, 10, .inl f13)), (a14, .inl (cA 0, 10, .inl f14)), (a16, .inl (cA 0, 5, .inl f16)), (a17, .inl (cA 0, 5, .inl f17)), (pa, .inr (2, ps)), (p10, .inl (cA 0, 6, .inl g10)), (p12, .inl (cA 0, 6, .inl g12)), (p16, .inl (cA 0, 10, .inl g16))] := hD
  generalize (upd f10 (0 : Int32).toNatClampNeg 0) = f118 at hP hD
  refine lv_aload_n hx hb dX6_begin_78 rfl (lv_at hl 1 rfl) ?_
  refine va_get (D := G) (ci := 6) (v := .ref a11) (C := RX6) (T := TX6) (N := 20) hx hb hT ku_6 hown hK hP 0 rfl rfl 11 (by decide) (hT _ kw_7_10) (fun _ h9 => h9) (fh_at hf 9 rfl) dX6_begin_79 ?_
  refine lv_iload_n hx hb dX6_begin_82 rfl (lv_at hl 0 rfl) ?_
  refine lv_iconst (v := 0) hx hb dX6_begin_83 (by decide) ?_
  refine va_iast (i := 0) hx hb hK hP hD hS 4 0 rfl rfl (tq_in (by decide)) dX6_begin_84 (fun H locs hP hD hS => ?_)
  have hP : va_P G vwCl [(h0, .inr (6, fs111)), (a8, .inl (cA 0, 6, .inl f115)), (a9, .inl (cA 0, 6, .inl f117)), (a10, .inl (cA 0, 6, .inl f118)), (a11, .inl (cA 0, 6, .inl ((upd f11 (0 : Int32).toNatClampNeg 0)))), (a12, .inl (cA 0, 10, .inl f12)), (a13, .inl (cA 0, 10, .inl f13)), (a14, .inl (cA 0, 10, .inl f14)), (a16, .inl (cA 0, 5, .inl f16)), (a17, .inl (cA 0, 5, .inl f17)), (pa, .inr (2, ps)), (p10, .inl (cA 0, 6, .inl g10)), (p12, .inl (cA 0, 6, .inl g12)), (p16, .inl (cA 0, 10, .inl g16))] H := hP
  have hD : va_D A [(h0, .inr (6, fs111)), (a8, .inl (cA 0, 6, .inl f115)), (a9, .inl (cA 0, 6, .inl f117)), (a10, .inl (cA 0, 6, .inl f118)), (a11, .inl (cA 0, 6, .inl ((upd f11 (0 : Int32).toNatClampNeg 0)))), (a12, .inl (cA 0, 10, .inl f12)), (a13, .inl (cA 0, 10, .inl f13)), (a14, .inl (cA 0, 10, .inl f14)), (a16, .inl (cA 0, 5, .inl f16)), (a17, .inl (cA 0, 5, .inl f17)), (pa, .inr (2, ps)), (p10, .inl (cA 0, 6, .inl g10)), (p12, .inl (cA 0, 6, .inl g12)), (p16, .inl (cA 0, 10, .inl g16))] := hD
  generalize (upd f11 (0 : Int32).toNatClampNeg 0) = f119 at hP hD
  refine lv_iinc (v := 1) (lv' := [(2, .int 1), (0, .ref h0), (1, .ref pa)]) hx hb dX6_begin_85 hl (k := 0) rfl (by decide) (by decide) rfl (fun ls hl => ?_)
  refine lv_goto (tgt := 41) hx hb dX6_begin_88 (by decide) ?_
  refine lv_iload_n hx hb dX6_begin_41 rfl (lv_at hl 0 rfl) ?_
  refine lv_bipush (v := 6) hx hb dX6_begin_42 (by decide) ?_
  refine lv_icmp_ge (tgt := 91) hx hb dX6_begin_44 (by decide) (fun c120 => absurd c120 (by decide)) (fun c120 => ?_)
  refine lv_aload_n hx hb dX6_begin_47 rfl (lv_at hl 1 rfl) ?_
  refine va_get (D := G) (ci := 6) (v := .ref a8) (C := RX6) (T := TX6) (N := 20) hx hb hT ku_6 hown hK hP 0 rfl rfl 8 (by decide) (hT _ kw_7_7) (fun _ h9 => h9) (fh_at hf 6 rfl) dX6_begin_48 ?_
  refine lv_iload_n hx hb dX6_begin_51 rfl (lv_at hl 0 rfl) ?_
  refine lv_aload_n hx hb dX6_begin_52 rfl (lv_at hl 2 rfl) ?_
  refine va_get (D := G) (ci := 2) (v := .ref p10) (C := RX2) (T := TX2) (N := 19) hx hb hT ku_2 hown hK hP 10 rfl rfl 10 (by decide) (hT _ kw_8_10) (fun _ h9 => h9) (fh_at hp 3 rfl) dX6_begin_53 ?_
  refine lv_iload_n hx hb dX6_begin_56 rfl (lv_at hl 0 rfl) ?_
  refine va_iald (i := 1) hx hb hK hP 11 0 rfl rfl (tq_in (by decide)) dX6_begin_57 ?_
  refine lv_topi (fun x121 ex121 => ?_)
  refine va_iast (i := 1) hx hb hK hP hD hS 1 0 rfl rfl (tq_in (by decide)) dX6_begin_58 (fun H locs hP hD hS => ?_)
  have hP : va_P G vwCl [(h0, .inr (6, fs111)), (a8, .inl (cA 0, 6, .inl ((upd f115 (1 : Int32).toNatClampNeg x121)))), (a9, .inl (cA 0, 6, .inl f117)), (a10, .inl (cA 0, 6, .inl f118)), (a11, .inl (cA 0, 6, .inl f119)), (a12, .inl (cA 0, 10, .inl f12)), (a13, .inl (cA 0, 10, .inl f13)), (a14, .inl (cA 0, 10, .inl f14)), (a16, .inl (cA 0, 5, .inl f16)), (a17, .inl (cA 0, 5, .inl f17)), (pa, .inr (2, ps)), (p10, .inl (cA 0, 6, .inl g10)), (p12, .inl (cA 0, 6, .inl g12)), (p16, .inl (cA 0, 10, .inl g16))] H := hP
  have hD : va_D A [(h0, .inr (6, fs111)), (a8, .inl (cA 0, 6, .inl ((upd f115 (1 : Int32).toNatClampNeg x121)))), (a9, .inl (cA 0, 6, .inl f117)), (a10, .inl (cA 0, 6, .inl f118)), (a11, .inl (cA 0, 6, .inl f119)), (a12, .inl (cA 0, 10, .inl f12)), (a13, .inl (cA 0, 10, .inl f13)), (a14, .inl (cA 0, 10, .inl f14)), (a16, .inl (cA 0, 5, .inl f16)), (a17, .inl (cA 0, 5, .inl f17)), (pa, .inr (2, ps)), (p10, .inl (cA 0, 6, .inl g10)), (p12, .inl (cA 0, 6, .inl g12)), (p16, .inl (cA 0, 10, .inl g16))] := hD
  generalize (upd f115 (1 : Int32).toNatClampNeg x121) = f122 at hP hD
  refine lv_aload_n hx hb dX6_begin_59 rfl (lv_at hl 1 rfl) ?_
  refine va_get (D := G) (ci := 6) (v := .ref a9) (C := RX6) (T := TX6) (N := 20) hx hb hT ku_6 hown hK hP 0 rfl rfl 9 (by decide) (hT _ kw_7_8) (fun _ h9 => h9) (fh_at hf 7 rfl) dX6_begin_60 ?_
  refine lv_iload_n hx hb dX6_begin_63 rfl (lv_at hl 0 rfl) ?_
  refine lv_aload_n hx hb dX6_begin_64 rfl (lv_at hl 2 rfl) ?_
  refine va_get (D := G) (ci := 2) (v := .ref p12) (C := RX2) (T := TX2) (N := 19) hx hb hT ku_2 hown hK hP 10 rfl rfl 12 (by decide) (hT _ kw_8_11) (fun _ h9 => h9) (fh_at hp 4 rfl) dX6_begin_65 ?_
  refine lv_iload_n hx hb dX6_begin_68 rfl (lv_at hl 0 rfl) ?_
  refine va_iald (i := 1) hx hb hK hP 12 0 rfl rfl (tq_in (by decide)) dX6_begin_69 ?_
  refine lv_topi (fun x123 ex123 => ?_)
  refine va_iast (i := 1) hx hb hK hP hD hS 2 0 rfl rfl (tq_in (by decide)) dX6_begin_70 (fun H locs hP hD hS => ?_)
  have hP : va_P G vwCl [(h0, .inr (6, fs111)), (a8, .inl (cA 0, 6, .inl f122)), (a9, .inl (cA 0, 6, .inl ((upd f117 (1 : Int32).toNatClampNeg x123)))), (a10, .inl (cA 0, 6, .inl f118)), (a11, .inl (cA 0, 6, .inl f119)), (a12, .inl (cA 0, 10, .inl f12)), (a13, .inl (cA 0, 10, .inl f13)), (a14, .inl (cA 0, 10, .inl f14)), (a16, .inl (cA 0, 5, .inl f16)), (a17, .inl (cA 0, 5, .inl f17)), (pa, .inr (2, ps)), (p10, .inl (cA 0, 6, .inl g10)), (p12, .inl (cA 0, 6, .inl g12)), (p16, .inl (cA 0, 10, .inl g16))] H := hP
  have hD : va_D A [(h0, .inr (6, fs111)), (a8, .inl (cA 0, 6, .inl f122)), (a9, .inl (cA 0, 6, .inl ((upd f117 (1 : Int32).toNatClampNeg x123)))), (a10, .inl (cA 0, 6, .inl f118)), (a11, .inl (cA 0, 6, .inl f119)), (a12, .inl (cA 0, 10, .inl f12)), (a13, .inl (cA 0, 10, .inl f13)), (a14, .inl (cA 0, 10, .inl f14)), (a16, .inl (cA 0, 5, .inl f16)), (a17, .inl (cA 0, 5, .inl f17)), (pa, .inr (2, ps)), (p10, .inl (cA 0, 6, .inl g10)), (p12, .inl (cA 0, 6, .inl g12)), (p16, .inl (cA 0, 10, .inl g16))] := hD
  generalize (upd f117 (1 : Int32).toNatClampNeg x123) = f124 at hP hD
  refine lv_aload_n hx hb dX6_begin_71 rfl (lv_at hl 1 rfl) ?_
  refine va_get (D := G) (ci := 6) (v := .ref a10) (C := RX6) (T := TX6) (N := 20) hx hb hT ku_6 hown hK hP 0 rfl rfl 10 (by decide) (hT _ kw_7_9) (fun _ h9 => h9) (fh_at hf 8 rfl) dX6_begin_72 ?_
  refine lv_iload_n hx hb dX6_begin_75 rfl (lv_at hl 0 rfl) ?_
  refine lv_iconst (v := 0) hx hb dX6_begin_76 (by decide) ?_
  refine va_iast (i := 1) hx hb hK hP hD hS 3 0 rfl rfl (tq_in (by decide)) dX6_begin_77 (fun H locs hP hD hS => ?_)
  have hP : va_P G vwCl [(h0, .inr (6, fs111)), (a8, .inl (cA 0, 6, .inl f122)), (a9, .inl (cA 0, 6, .inl f124)), (a10, .inl (cA 0, 6, .inl ((upd f118 (1 : Int32).toNatClampNeg 0)))), (a11, .inl (cA 0, 6, .inl f119)), (a12, .inl (cA 0, 10, .inl f12)), (a13, .inl (cA 0, 10, .inl f13)), (a14, .inl (cA 0, 10, .inl f14)), (a16, .inl (cA 0, 5, .inl f16)), (a17, .inl (cA 0, 5, .inl f17)), (pa, .inr (2, ps)), (p10, .inl (cA 0, 6, .inl g10)), (p12, .inl (cA 0, 6, .inl g12)), (p16, .inl (cA 0, 10, .inl g16))] H := hP
  have hD : va_D A [(h0, .inr (6, fs111)), (a8, .inl (cA 0, 6, .inl f122)), (a9, .inl (cA 0, 6, .inl f124)), (a10, .inl (cA 0, 6, .inl ((upd f118 (1 : Int32).toNatClampNeg 0)))), (a11, .inl (cA 0, 6, .inl f119)), (a12, .inl (cA 0, 10, .inl f12)), (a13, .inl (cA 0, 10, .inl f13)), (a14, .inl (cA 0, 10, .inl f14)), (a16, .inl (cA 0, 5, .inl f16)), (a17, .inl (cA 0, 5, .inl f17)), (pa, .inr (2, ps)), (p10, .inl (cA 0, 6, .inl g10)), (p12, .inl (cA 0, 6, .inl g12)), (p16, .inl (cA 0, 10, .inl g16))] := hD
  generalize (upd f118 (1 : Int32).toNatClampNeg 0) = f125 at hP hD
  refine lv_aload_n hx hb dX6_begin_78 rfl (lv_at hl 1 rfl) ?_
  refine va_get (D := G) (ci := 6) (v := .ref a11) (C := RX6) (T := TX6) (N := 20) hx hb hT ku_6 hown hK hP 0 rfl rfl 11 (by decide) (hT _ kw_7_10) (fun _ h9 => h9) (fh_at hf 9 rfl) dX6_begin_79 ?_
  refine lv_iload_n hx hb dX6_begin_82 rfl (lv_at hl 0 rfl) ?_
  refine lv_iconst (v := 0) hx hb dX6_begin_83 (by decide) ?_
  refine va_iast (i := 1) hx hb hK hP hD hS 4 0 rfl rfl (tq_in (by decide)) dX6_begin_84 (fun H locs hP hD hS => ?_)
  have hP : va_P G vwCl [(h0, .inr (6, fs111)), (a8, .inl (cA 0, 6, .inl f122)), (a9, .inl (cA 0, 6, .inl f124)), (a10, .inl (cA 0, 6, .inl f125)), (a11, .inl (cA 0, 6, .inl ((upd f119 (1 : Int32).toNatClampNeg 0)))), (a12, .inl (cA 0, 10, .inl f12)), (a13, .inl (cA 0, 10, .inl f13)), (a14, .inl (cA 0, 10, .inl f14)), (a16, .inl (cA 0, 5, .inl f16)), (a17, .inl (cA 0, 5, .inl f17)), (pa, .inr (2, ps)), (p10, .inl (cA 0, 6, .inl g10)), (p12, .inl (cA 0, 6, .inl g12)), (p16, .inl (cA 0, 10, .inl g16))] H := hP
  have hD : va_D A [(h0, .inr (6, fs111)), (a8, .inl (cA 0, 6, .inl f122)), (a9, .inl (cA 0, 6, .inl f124)), (a10, .inl (cA 0, 6, .inl f125)), (a11, .inl (cA 0, 6, .inl ((upd f119 (1 : Int32).toNatClampNeg 0)))), (a12, .inl (cA 0, 10, .inl f12)), (a13, .inl (cA 0, 10, .inl f13)), (a14, .inl (cA 0, 10, .inl f14)), (a16, .inl (cA 0, 5, .inl f16)), (a17, .inl (cA 0, 5, .inl f17)), (pa, .inr (2, ps)), (p10, .inl (cA 0, 6, .inl g10)), (p12, .inl (cA 0, 6, .inl g12)), (p16, .inl (cA 0, 10, .inl g16))] := hD
  generalize (upd f119 (1 : Int32).toNatClampNeg 0) = f126 at hP hD
  refine lv_iinc (v := 2) (lv' := [(2, .int 2), (0, .ref h0), (1, .ref pa)]) hx hb dX6_begin_85 hl (k := 0) rfl (by decide) (by decide) rfl (fun ls hl => ?_)
  refine lv_goto (tgt := 41) hx hb dX6_begin_88 (by decide) ?_
  refine lv_iload_n hx hb dX6_begin_41 rfl (lv_at hl 0 rfl) ?_
  refine lv_bipush (v := 6) hx hb dX6_begin_42 (by decide) ?_
  refine lv_icmp_ge (tgt := 91) hx hb dX6_begin_44 (by decide) (fun c127 => absurd c127 (by decide)) (fun c127 => ?_)
  refine lv_aload_n hx hb dX6_begin_47 rfl (lv_at hl 1 rfl) ?_
  refine va_get (D := G) (ci := 6) (v := .ref a8) (C := RX6) (T := TX6) (N := 20) hx hb hT ku_6 hown hK hP 0 rfl rfl 8 (by decide) (hT _ kw_7_7) (fun _ h9 => h9) (fh_at hf 6 rfl) dX6_begin_48 ?_
  refine lv_iload_n hx hb dX6_begin_51 rfl (lv_at hl 0 rfl) ?_
  refine lv_aload_n hx hb dX6_begin_52 rfl (lv_at hl 2 rfl) ?_
  refine va_get (D := G) (ci := 2) (v := .ref p10) (C := RX2) (T := TX2) (N := 19) hx hb hT ku_2 hown hK hP 10 rfl rfl 10 (by decide) (hT _ kw_8_10) (fun _ h9 => h9) (fh_at hp 3 rfl) dX6_begin_53 ?_
  refine lv_iload_n hx hb dX6_begin_56 rfl (lv_at hl 0 rfl) ?_
  refine va_iald (i := 2) hx hb hK hP 11 0 rfl rfl (tq_in (by decide)) dX6_begin_57 ?_
  refine lv_topi (fun x128 ex128 => ?_)
  refine va_iast (i := 2) hx hb hK hP hD hS 1 0 rfl rfl (tq_in (by decide)) dX6_begin_58 (fun H locs hP hD hS => ?_)
  have hP : va_P G vwCl [(h0, .inr (6, fs111)), (a8, .inl (cA 0, 6, .inl ((upd f122 (2 : Int32).toNatClampNeg x128)))), (a9, .inl (cA 0, 6, .inl f124)), (a10, .inl (cA 0, 6, .inl f125)), (a11, .inl (cA 0, 6, .inl f126)), (a12, .inl (cA 0, 10, .inl f12)), (a13, .inl (cA 0, 10, .inl f13)), (a14, .inl (cA 0, 10, .inl f14)), (a16, .inl (cA 0, 5, .inl f16)), (a17, .inl (cA 0, 5, .inl f17)), (pa, .inr (2, ps)), (p10, .inl (cA 0, 6, .inl g10)), (p12, .inl (cA 0, 6, .inl g12)), (p16, .inl (cA 0, 10, .inl g16))] H := hP
  have hD : va_D A [(h0, .inr (6, fs111)), (a8, .inl (cA 0, 6, .inl ((upd f122 (2 : Int32).toNatClampNeg x128)))), (a9, .inl (cA 0, 6, .inl f124)), (a10, .inl (cA 0, 6, .inl f125)), (a11, .inl (cA 0, 6, .inl f126)), (a12, .inl (cA 0, 10, .inl f12)), (a13, .inl (cA 0, 10, .inl f13)), (a14, .inl (cA 0, 10, .inl f14)), (a16, .inl (cA 0, 5, .inl f16)), (a17, .inl (cA 0, 5, .inl f17)), (pa, .inr (2, ps)), (p10, .inl (cA 0, 6, .inl g10)), (p12, .inl (cA 0, 6, .inl g12)), (p16, .inl (cA 0, 10, .inl g16))] := hD
  generalize (upd f122 (2 : Int32).toNatClampNeg x128) = f129 at hP hD
  refine lv_aload_n hx hb dX6_begin_59 rfl (lv_at hl 1 rfl) ?_
  refine va_get (D := G) (ci := 6) (v := .ref a9) (C := RX6) (T := TX6) (N := 20) hx hb hT ku_6 hown hK hP 0 rfl rfl 9 (by decide) (hT _ kw_7_8) (fun _ h9 => h9) (fh_at hf 7 rfl) dX6_begin_60 ?_
  refine lv_iload_n hx hb dX6_begin_63 rfl (lv_at hl 0 rfl) ?_
  refine lv_aload_n hx hb dX6_begin_64 rfl (lv_at hl 2 rfl) ?_
  refine va_get (D := G) (ci := 2) (v := .ref p12) (C := RX2) (T := TX2) (N := 19) hx hb hT ku_2 hown hK hP 10 rfl rfl 12 (by decide) (hT _ kw_8_11) (fun _ h9 => h9) (fh_at hp 4 rfl) dX6_begin_65 ?_
  refine lv_iload_n hx hb dX6_begin_68 rfl (lv_at hl 0 rfl) ?_
  refine va_iald (i := 2) hx hb hK hP 12 0 rfl rfl (tq_in (by decide)) dX6_begin_69 ?_
  refine lv_topi (fun x130 ex130 => ?_)
  refine va_iast (i := 2) hx hb hK hP hD hS 2 0 rfl rfl (tq_in (by decide)) dX6_begin_70 (fun H locs hP hD hS => ?_)
  have hP : va_P G vwCl [(h0, .inr (6, fs111)), (a8, .inl (cA 0, 6, .inl f129)), (a9, .inl (cA 0, 6, .inl ((upd f124 (2 : Int32).toNatClampNeg x130)))), (a10, .inl (cA 0, 6, .inl f125)), (a11, .inl (cA 0, 6, .inl f126)), (a12, .inl (cA 0, 10, .inl f12)), (a13, .inl (cA 0, 10, .inl f13)), (a14, .inl (cA 0, 10, .inl f14)), (a16, .inl (cA 0, 5, .inl f16)), (a17, .inl (cA 0, 5, .inl f17)), (pa, .inr (2, ps)), (p10, .inl (cA 0, 6, .inl g10)), (p12, .inl (cA 0, 6, .inl g12)), (p16, .inl (cA 0, 10, .inl g16))] H := hP
  have hD : va_D A [(h0, .inr (6, fs111)), (a8, .inl (cA 0, 6, .inl f129)), (a9, .inl (cA 0, 6, .inl ((upd f124 (2 : Int32).toNatClampNeg x130)))), (a10, .inl (cA 0, 6, .inl f125)), (a11, .inl (cA 0, 6, .inl f126)), (a12, .inl (cA 0, 10, .inl f12)), (a13, .inl (cA 0, 10, .inl f13)), (a14, .inl (cA 0, 10, .inl f14)), (a16, .inl (cA 0, 5, .inl f16)), (a17, .inl (cA 0, 5, .inl f17)), (pa, .inr (2, ps)), (p10, .inl (cA 0, 6, .inl g10)), (p12, .inl (cA 0, 6, .inl g12)), (p16, .inl (cA 0, 10, .inl g16))] := hD
  generalize (upd f124 (2 : Int32).toNatClampNeg x130) = f131 at hP hD
  refine lv_aload_n hx hb dX6_begin_71 rfl (lv_at hl 1 rfl) ?_
  refine va_get (D := G) (ci := 6) (v := .ref a10) (C := RX6) (T := TX6) (N := 20) hx hb hT ku_6 hown hK hP 0 rfl rfl 10 (by decide) (hT _ kw_7_9) (fun _ h9 => h9) (fh_at hf 8 rfl) dX6_begin_72 ?_
  refine lv_iload_n hx hb dX6_begin_75 rfl (lv_at hl 0 rfl) ?_
  refine lv_iconst (v := 0) hx hb dX6_begin_76 (by decide) ?_
  refine va_iast (i := 2) hx hb hK hP hD hS 3 0 rfl rfl (tq_in (by decide)) dX6_begin_77 (fun H locs hP hD hS => ?_)
  have hP : va_P G vwCl [(h0, .inr (6, fs111)), (a8, .inl (cA 0, 6, .inl f129)), (a9, .inl (cA 0, 6, .inl f131)), (a10, .inl (cA 0, 6, .inl ((upd f125 (2 : Int32).toNatClampNeg 0)))), (a11, .inl (cA 0, 6, .inl f126)), (a12, .inl (cA 0, 10, .inl f12)), (a13, .inl (cA 0, 10, .inl f13)), (a14, .inl (cA 0, 10, .inl f14)), (a16, .inl (cA 0, 5, .inl f16)), (a17, .inl (cA 0, 5, .inl f17)), (pa, .inr (2, ps)), (p10, .inl (cA 0, 6, .inl g10)), (p12, .inl (cA 0, 6, .inl g12)), (p16, .inl (cA 0, 10, .inl g16))] H := hP
  have hD : va_D A [(h0, .inr (6, fs111)), (a8, .inl (cA 0, 6, .inl f129)), (a9, .inl (cA 0, 6, .inl f131)), (a10, .inl (cA 0, 6, .inl ((upd f125 (2 : Int32).toNatClampNeg 0)))), (a11, .inl (cA 0, 6, .inl f126)), (a12, .inl (cA 0, 10, .inl f12)), (a13, .inl (cA 0, 10, .inl f13)), (a14, .inl (cA 0, 10, .inl f14)), (a16, .inl (cA 0, 5, .inl f16)), (a17, .inl (cA 0, 5, .inl f17)), (pa, .inr (2, ps)), (p10, .inl (cA 0, 6, .inl g10)), (p12, .inl (cA 0, 6, .inl g12)), (p16, .inl (cA 0, 10, .inl g16))] := hD
  generalize (upd f125 (2 : Int32).toNatClampNeg 0) = f132 at hP hD
  refine lv_aload_n hx hb dX6_begin_78 rfl (lv_at hl 1 rfl) ?_
  refine va_get (D := G) (ci := 6) (v := .ref a11) (C := RX6) (T := TX6) (N := 20) hx hb hT ku_6 hown hK hP 0 rfl rfl 11 (by decide) (hT _ kw_7_10) (fun _ h9 => h9) (fh_at hf 9 rfl) dX6_begin_79 ?_
  refine lv_iload_n hx hb dX6_begin_82 rfl (lv_at hl 0 rfl) ?_
  refine lv_iconst (v := 0) hx hb dX6_begin_83 (by decide) ?_
  refine va_iast (i := 2) hx hb hK hP hD hS 4 0 rfl rfl (tq_in (by decide)) dX6_begin_84 (fun H locs hP hD hS => ?_)
  have hP : va_P G vwCl [(h0, .inr (6, fs111)), (a8, .inl (cA 0, 6, .inl f129)), (a9, .inl (cA 0, 6, .inl f131)), (a10, .inl (cA 0, 6, .inl f132)), (a11, .inl (cA 0, 6, .inl ((upd f126 (2 : Int32).toNatClampNeg 0)))), (a12, .inl (cA 0, 10, .inl f12)), (a13, .inl (cA 0, 10, .inl f13)), (a14, .inl (cA 0, 10, .inl f14)), (a16, .inl (cA 0, 5, .inl f16)), (a17, .inl (cA 0, 5, .inl f17)), (pa, .inr (2, ps)), (p10, .inl (cA 0, 6, .inl g10)), (p12, .inl (cA 0, 6, .inl g12)), (p16, .inl (cA 0, 10, .inl g16))] H := hP
  have hD : va_D A [(h0, .inr (6, fs111)), (a8, .inl (cA 0, 6, .inl f129)), (a9, .inl (cA 0, 6, .inl f131)), (a10, .inl (cA 0, 6, .inl f132)), (a11, .inl (cA 0, 6, .inl ((upd f126 (2 : Int32).toNatClampNeg 0)))), (a12, .inl (cA 0, 10, .inl f12)), (a13, .inl (cA 0, 10, .inl f13)), (a14, .inl (cA 0, 10, .inl f14)), (a16, .inl (cA 0, 5, .inl f16)), (a17, .inl (cA 0, 5, .inl f17)), (pa, .inr (2, ps)), (p10, .inl (cA 0, 6, .inl g10)), (p12, .inl (cA 0, 6, .inl g12)), (p16, .inl (cA 0, 10, .inl g16))] := hD
  generalize (upd f126 (2 : Int32).toNatClampNeg 0) = f133 at hP hD
  refine lv_iinc (v := 3) (lv' := [(2, .int 3), (0, .ref h0), (1, .ref pa)]) hx hb dX6_begin_85 hl (k := 0) rfl (by decide) (by decide) rfl (fun ls hl => ?_)
  refine lv_goto (tgt := 41) hx hb dX6_begin_88 (by decide) ?_
  refine lv_iload_n hx hb dX6_begin_41 rfl (lv_at hl 0 rfl) ?_
  refine lv_bipush (v := 6) hx hb dX6_begin_42 (by decide) ?_
  refine lv_icmp_ge (tgt := 91) hx hb dX6_begin_44 (by decide) (fun c134 => absurd c134 (by decide)) (fun c134 => ?_)
  refine lv_aload_n hx hb dX6_begin_47 rfl (lv_at hl 1 rfl) ?_
  refine va_get (D := G) (ci := 6) (v := .ref a8) (C := RX6) (T := TX6) (N := 20) hx hb hT ku_6 hown hK hP 0 rfl rfl 8 (by decide) (hT _ kw_7_7) (fun _ h9 => h9) (fh_at hf 6 rfl) dX6_begin_48 ?_
  refine lv_iload_n hx hb dX6_begin_51 rfl (lv_at hl 0 rfl) ?_
  refine lv_aload_n hx hb dX6_begin_52 rfl (lv_at hl 2 rfl) ?_
  refine va_get (D := G) (ci := 2) (v := .ref p10) (C := RX2) (T := TX2) (N := 19) hx hb hT ku_2 hown hK hP 10 rfl rfl 10 (by decide) (hT _ kw_8_10) (fun _ h9 => h9) (fh_at hp 3 rfl) dX6_begin_53 ?_
  refine lv_iload_n hx hb dX6_begin_56 rfl (lv_at hl 0 rfl) ?_
  refine va_iald (i := 3) hx hb hK hP 11 0 rfl rfl (tq_in (by decide)) dX6_begin_57 ?_
  refine lv_topi (fun x135 ex135 => ?_)
  refine va_iast (i := 3) hx hb hK hP hD hS 1 0 rfl rfl (tq_in (by decide)) dX6_begin_58 (fun H locs hP hD hS => ?_)
  have hP : va_P G vwCl [(h0, .inr (6, fs111)), (a8, .inl (cA 0, 6, .inl ((upd f129 (3 : Int32).toNatClampNeg x135)))), (a9, .inl (cA 0, 6, .inl f131)), (a10, .inl (cA 0, 6, .inl f132)), (a11, .inl (cA 0, 6, .inl f133)), (a12, .inl (cA 0, 10, .inl f12)), (a13, .inl (cA 0, 10, .inl f13)), (a14, .inl (cA 0, 10, .inl f14)), (a16, .inl (cA 0, 5, .inl f16)), (a17, .inl (cA 0, 5, .inl f17)), (pa, .inr (2, ps)), (p10, .inl (cA 0, 6, .inl g10)), (p12, .inl (cA 0, 6, .inl g12)), (p16, .inl (cA 0, 10, .inl g16))] H := hP
  have hD : va_D A [(h0, .inr (6, fs111)), (a8, .inl (cA 0, 6, .inl ((upd f129 (3 : Int32).toNatClampNeg x135)))), (a9, .inl (cA 0, 6, .inl f131)), (a10, .inl (cA 0, 6, .inl f132)), (a11, .inl (cA 0, 6, .inl f133)), (a12, .inl (cA 0, 10, .inl f12)), (a13, .inl (cA 0, 10, .inl f13)), (a14, .inl (cA 0, 10, .inl f14)), (a16, .inl (cA 0, 5, .inl f16)), (a17, .inl (cA 0, 5, .inl f17)), (pa, .inr (2, ps)), (p10, .inl (cA 0, 6, .inl g10)), (p12, .inl (cA 0, 6, .inl g12)), (p16, .inl (cA 0, 10, .inl g16))] := hD
  generalize (upd f129 (3 : Int32).toNatClampNeg x135) = f136 at hP hD
  refine lv_aload_n hx hb dX6_begin_59 rfl (lv_at hl 1 rfl) ?_
  refine va_get (D := G) (ci := 6) (v := .ref a9) (C := RX6) (T := TX6) (N := 20) hx hb hT ku_6 hown hK hP 0 rfl rfl 9 (by decide) (hT _ kw_7_8) (fun _ h9 => h9) (fh_at hf 7 rfl) dX6_begin_60 ?_
  refine lv_iload_n hx hb dX6_begin_63 rfl (lv_at hl 0 rfl) ?_
  refine lv_aload_n hx hb dX6_begin_64 rfl (lv_at hl 2 rfl) ?_
  refine va_get (D := G) (ci := 2) (v := .ref p12) (C := RX2) (T := TX2) (N := 19) hx hb hT ku_2 hown hK hP 10 rfl rfl 12 (by decide) (hT _ kw_8_11) (fun _ h9 => h9) (fh_at hp 4 rfl) dX6_begin_65 ?_
  refine lv_iload_n hx hb dX6_begin_68 rfl (lv_at hl 0 rfl) ?_
  refine va_iald (i := 3) hx hb hK hP 12 0 rfl rfl (tq_in (by decide)) dX6_begin_69 ?_
  refine lv_topi (fun x137 ex137 => ?_)
  refine va_iast (i := 3) hx hb hK hP hD hS 2 0 rfl rfl (tq_in (by decide)) dX6_begin_70 (fun H locs hP hD hS => ?_)
  have hP : va_P G vwCl [(h0, .inr (6, fs111)), (a8, .inl (cA 0, 6, .inl f136)), (a9, .inl (cA 0, 6, .inl ((upd f131 (3 : Int32).toNatClampNeg x137)))), (a10, .inl (cA 0, 6, .inl f132)), (a11, .inl (cA 0, 6, .inl f133)), (a12, .inl (cA 0, 10, .inl f12)), (a13, .inl (cA 0, 10, .inl f13)), (a14, .inl (cA 0, 10, .inl f14)), (a16, .inl (cA 0, 5, .inl f16)), (a17, .inl (cA 0, 5, .inl f17)), (pa, .inr (2, ps)), (p10, .inl (cA 0, 6, .inl g10)), (p12, .inl (cA 0, 6, .inl g12)), (p16, .inl (cA 0, 10, .inl g16))] H := hP
  have hD : va_D A [(h0, .inr (6, fs111)), (a8, .inl (cA 0, 6, .inl f136)), (a9, .inl (cA 0, 6, .inl ((upd f131 (3 : Int32).toNatClampNeg x137)))), (a10, .inl (cA 0, 6, .inl f132)), (a11, .inl (cA 0, 6, .inl f133)), (a12, .inl (cA 0, 10, .inl f12)), (a13, .inl (cA 0, 10, .inl f13)), (a14, .inl (cA 0, 10, .inl f14)), (a16, .inl (cA 0, 5, .inl f16)), (a17, .inl (cA 0, 5, .inl f17)), (pa, .inr (2, ps)), (p10, .inl (cA 0, 6, .inl g10)), (p12, .inl (cA 0, 6, .inl g12)), (p16, .inl (cA 0, 10, .inl g16))] := hD
  generalize (upd f131 (3 : Int32).toNatClampNeg x137) = f138 at hP hD
  refine lv_aload_n hx hb dX6_begin_71 rfl (lv_at hl 1 rfl) ?_
  refine va_get (D := G) (ci := 6) (v := .ref a10) (C := RX6) (T := TX6) (N := 20) hx hb hT ku_6 hown hK hP 0 rfl rfl 10 (by decide) (hT _ kw_7_9) (fun _ h9 => h9) (fh_at hf 8 rfl) dX6_begin_72 ?_
  refine lv_iload_n hx hb dX6_begin_75 rfl (lv_at hl 0 rfl) ?_
  refine lv_iconst (v := 0) hx hb dX6_begin_76 (by decide) ?_
  refine va_iast (i := 3) hx hb hK hP hD hS 3 0 rfl rfl (tq_in (by decide)) dX6_begin_77 (fun H locs hP hD hS => ?_)
  have hP : va_P G vwCl [(h0, .inr (6, fs111)), (a8, .inl (cA 0, 6, .inl f136)), (a9, .inl (cA 0, 6, .inl f138)), (a10, .inl (cA 0, 6, .inl ((upd f132 (3 : Int32).toNatClampNeg 0)))), (a11, .inl (cA 0, 6, .inl f133)), (a12, .inl (cA 0, 10, .inl f12)), (a13, .inl (cA 0, 10, .inl f13)), (a14, .inl (cA 0, 10, .inl f14)), (a16, .inl (cA 0, 5, .inl f16)), (a17, .inl (cA 0, 5, .inl f17)), (pa, .inr (2, ps)), (p10, .inl (cA 0, 6, .inl g10)), (p12, .inl (cA 0, 6, .inl g12)), (p16, .inl (cA 0, 10, .inl g16))] H := hP
  have hD : va_D A [(h0, .inr (6, fs111)), (a8, .inl (cA 0, 6, .inl f136)), (a9, .inl (cA 0, 6, .inl f138)), (a10, .inl (cA 0, 6, .inl ((upd f132 (3 : Int32).toNatClampNeg 0)))), (a11, .inl (cA 0, 6, .inl f133)), (a12, .inl (cA 0, 10, .inl f12)), (a13, .inl (cA 0, 10, .inl f13)), (a14, .inl (cA 0, 10, .inl f14)), (a16, .inl (cA 0, 5, .inl f16)), (a17, .inl (cA 0, 5, .inl f17)), (pa, .inr (2, ps)), (p10, .inl (cA 0, 6, .inl g10)), (p12, .inl (cA 0, 6, .inl g12)), (p16, .inl (cA 0, 10, .inl g16))] := hD
  generalize (upd f132 (3 : Int32).toNatClampNeg 0) = f139 at hP hD
  refine lv_aload_n hx hb dX6_begin_78 rfl (lv_at hl 1 rfl) ?_
  refine va_get (D := G) (ci := 6) (v := .ref a11) (C := RX6) (T := TX6) (N := 20) hx hb hT ku_6 hown hK hP 0 rfl rfl 11 (by decide) (hT _ kw_7_10) (fun _ h9 => h9) (fh_at hf 9 rfl) dX6_begin_79 ?_
  refine lv_iload_n hx hb dX6_begin_82 rfl (lv_at hl 0 rfl) ?_
  refine lv_iconst (v := 0) hx hb dX6_begin_83 (by decide) ?_
  refine va_iast (i := 3) hx hb hK hP hD hS 4 0 rfl rfl (tq_in (by decide)) dX6_begin_84 (fun H locs hP hD hS => ?_)
  have hP : va_P G vwCl [(h0, .inr (6, fs111)), (a8, .inl (cA 0, 6, .inl f136)), (a9, .inl (cA 0, 6, .inl f138)), (a10, .inl (cA 0, 6, .inl f139)), (a11, .inl (cA 0, 6, .inl ((upd f133 (3 : Int32).toNatClampNeg 0)))), (a12, .inl (cA 0, 10, .inl f12)), (a13, .inl (cA 0, 10, .inl f13)), (a14, .inl (cA 0, 10, .inl f14)), (a16, .inl (cA 0, 5, .inl f16)), (a17, .inl (cA 0, 5, .inl f17)), (pa, .inr (2, ps)), (p10, .inl (cA 0, 6, .inl g10)), (p12, .inl (cA 0, 6, .inl g12)), (p16, .inl (cA 0, 10, .inl g16))] H := hP
  have hD : va_D A [(h0, .inr (6, fs111)), (a8, .inl (cA 0, 6, .inl f136)), (a9, .inl (cA 0, 6, .inl f138)), (a10, .inl (cA 0, 6, .inl f139)), (a11, .inl (cA 0, 6, .inl ((upd f133 (3 : Int32).toNatClampNeg 0)))), (a12, .inl (cA 0, 10, .inl f12)), (a13, .inl (cA 0, 10, .inl f13)), (a14, .inl (cA 0, 10, .inl f14)), (a16, .inl (cA 0, 5, .inl f16)), (a17, .inl (cA 0, 5, .inl f17)), (pa, .inr (2, ps)), (p10, .inl (cA 0, 6, .inl g10)), (p12, .inl (cA 0, 6, .inl g12)), (p16, .inl (cA 0, 10, .inl g16))] := hD
  generalize (upd f133 (3 : Int32).toNatClampNeg 0) = f140 at hP hD
  refine lv_iinc (v := 4) (lv' := [(2, .int 4), (0, .ref h0), (1, .ref pa)]) hx hb dX6_begin_85 hl (k := 0) rfl (by decide) (by decide) rfl (fun ls hl => ?_)
  refine lv_goto (tgt := 41) hx hb dX6_begin_88 (by decide) ?_
  refine lv_iload_n hx hb dX6_begin_41 rfl (lv_at hl 0 rfl) ?_
  refine lv_bipush (v := 6) hx hb dX6_begin_42 (by decide) ?_
  refine lv_icmp_ge (tgt := 91) hx hb dX6_begin_44 (by decide) (fun c141 => absurd c141 (by decide)) (fun c141 => ?_)
  refine lv_aload_n hx hb dX6_begin_47 rfl (lv_at hl 1 rfl) ?_
  refine va_get (D := G) (ci := 6) (v := .ref a8) (C := RX6) (T := TX6) (N := 20) hx hb hT ku_6 hown hK hP 0 rfl rfl 8 (by decide) (hT _ kw_7_7) (fun _ h9 => h9) (fh_at hf 6 rfl) dX6_begin_48 ?_
  refine lv_iload_n hx hb dX6_begin_51 rfl (lv_at hl 0 rfl) ?_
  refine lv_aload_n hx hb dX6_begin_52 rfl (lv_at hl 2 rfl) ?_
  refine va_get (D := G) (ci := 2) (v := .ref p10) (C := RX2) (T := TX2) (N := 19) hx hb hT ku_2 hown hK hP 10 rfl rfl 10 (by decide) (hT _ kw_8_10) (fun _ h9 => h9) (fh_at hp 3 rfl) dX6_begin_53 ?_
  refine lv_iload_n hx hb dX6_begin_56 rfl (lv_at hl 0 rfl) ?_
  refine va_iald (i := 4) hx hb hK hP 11 0 rfl rfl (tq_in (by decide)) dX6_begin_57 ?_
  refine lv_topi (fun x142 ex142 => ?_)
  refine va_iast (i := 4) hx hb hK hP hD hS 1 0 rfl rfl (tq_in (by decide)) dX6_begin_58 (fun H locs hP hD hS => ?_)
  have hP : va_P G vwCl [(h0, .inr (6, fs111)), (a8, .inl (cA 0, 6, .inl ((upd f136 (4 : Int32).toNatClampNeg x142)))), (a9, .inl (cA 0, 6, .inl f138)), (a10, .inl (cA 0, 6, .inl f139)), (a11, .inl (cA 0, 6, .inl f140)), (a12, .inl (cA 0, 10, .inl f12)), (a13, .inl (cA 0, 10, .inl f13)), (a14, .inl (cA 0, 10, .inl f14)), (a16, .inl (cA 0, 5, .inl f16)), (a17, .inl (cA 0, 5, .inl f17)), (pa, .inr (2, ps)), (p10, .inl (cA 0, 6, .inl g10)), (p12, .inl (cA 0, 6, .inl g12)), (p16, .inl (cA 0, 10, .inl g16))] H := hP
  have hD : va_D A [(h0, .inr (6, fs111)), (a8, .inl (cA 0, 6, .inl ((upd f136 (4 : Int32).toNatClampNeg x142)))), (a9, .inl (cA 0, 6, .inl f138)), (a10, .inl (cA 0, 6, .inl f139)), (a11, .inl (cA 0, 6, .inl f140)), (a12, .inl (cA 0, 10, .inl f12)), (a13, .inl (cA 0, 10, .inl f13)), (a14, .inl (cA 0, 10, .inl f14)), (a16, .inl (cA 0, 5, .inl f16)), (a17, .inl (cA 0, 5, .inl f17)), (pa, .inr (2, ps)), (p10, .inl (cA 0, 6, .inl g10)), (p12, .inl (cA 0, 6, .inl g12)), (p16, .inl (cA 0, 10, .inl g16))] := hD
  generalize (upd f136 (4 : Int32).toNatClampNeg x142) = f143 at hP hD
  refine lv_aload_n hx hb dX6_begin_59 rfl (lv_at hl 1 rfl) ?_
  refine va_get (D := G) (ci := 6) (v := .ref a9) (C := RX6) (T := TX6) (N := 20) hx hb hT ku_6 hown hK hP 0 rfl rfl 9 (by decide) (hT _ kw_7_8) (fun _ h9 => h9) (fh_at hf 7 rfl) dX6_begin_60 ?_
  refine lv_iload_n hx hb dX6_begin_63 rfl (lv_at hl 0 rfl) ?_
  refine lv_aload_n hx hb dX6_begin_64 rfl (lv_at hl 2 rfl) ?_
  refine va_get (D := G) (ci := 2) (v := .ref p12) (C := RX2) (T := TX2) (N := 19) hx hb hT ku_2 hown hK hP 10 rfl rfl 12 (by decide) (hT _ kw_8_11) (fun _ h9 => h9) (fh_at hp 4 rfl) dX6_begin_65 ?_
  refine lv_iload_n hx hb dX6_begin_68 rfl (lv_at hl 0 rfl) ?_
  refine va_iald (i := 4) hx hb hK hP 12 0 rfl rfl (tq_in (by decide)) dX6_begin_69 ?_
  refine lv_topi (fun x144 ex144 => ?_)
  refine va_iast (i := 4) hx hb hK hP hD hS 2 0 rfl rfl (tq_in (by decide)) dX6_begin_70 (fun H locs hP hD hS => ?_)
  have hP : va_P G vwCl [(h0, .inr (6, fs111)), (a8, .inl (cA 0, 6, .inl f143)), (a9, .inl (cA 0, 6, .inl ((upd f138 (4 : Int32).toNatClampNeg x144)))), (a10, .inl (cA 0, 6, .inl f139)), (a11, .inl (cA 0, 6, .inl f140)), (a12, .inl (cA 0, 10, .inl f12)), (a13, .inl (cA 0, 10, .inl f13)), (a14, .inl (cA 0, 10, .inl f14)), (a16, .inl (cA 0, 5, .inl f16)), (a17, .inl (cA 0, 5, .inl f17)), (pa, .inr (2, ps)), (p10, .inl (cA 0, 6, .inl g10)), (p12, .inl (cA 0, 6, .inl g12)), (p16, .inl (cA 0, 10, .inl g16))] H := hP
  have hD : va_D A [(h0, .inr (6, fs111)), (a8, .inl (cA 0, 6, .inl f143)), (a9, .inl (cA 0, 6, .inl ((upd f138 (4 : Int32).toNatClampNeg x144)))), (a10, .inl (cA 0, 6, .inl f139)), (a11, .inl (cA 0, 6, .inl f140)), (a12, .inl (cA 0, 10, .inl f12)), (a13, .inl (cA 0, 10, .inl f13)), (a14, .inl (cA 0, 10, .inl f14)), (a16, .inl (cA 0, 5, .inl f16)), (a17, .inl (cA 0, 5, .inl f17)), (pa, .inr (2, ps)), (p10, .inl (cA 0, 6, .inl g10)), (p12, .inl (cA 0, 6, .inl g12)), (p16, .inl (cA 0, 10, .inl g16))] := hD
  generalize (upd f138 (4 : Int32).toNatClampNeg x144) = f145 at hP hD
  refine lv_aload_n hx hb dX6_begin_71 rfl (lv_at hl 1 rfl) ?_
  refine va_get (D := G) (ci := 6) (v := .ref a10) (C := RX6) (T := TX6) (N := 20) hx hb hT ku_6 hown hK hP 0 rfl rfl 10 (by decide) (hT _ kw_7_9) (fun _ h9 => h9) (fh_at hf 8 rfl) dX6_begin_72 ?_
  refine lv_iload_n hx hb dX6_begin_75 rfl (lv_at hl 0 rfl) ?_
  refine lv_iconst (v := 0) hx hb dX6_begin_76 (by decide) ?_
  refine va_iast (i := 4) hx hb hK hP hD hS 3 0 rfl rfl (tq_in (by decide)) dX6_begin_77 (fun H locs hP hD hS => ?_)
  have hP : va_P G vwCl [(h0, .inr (6, fs111)), (a8, .inl (cA 0, 6, .inl f143)), (a9, .inl (cA 0, 6, .inl f145)), (a10, .inl (cA 0, 6, .inl ((upd f139 (4 : Int32).toNatClampNeg 0)))), (a11, .inl (cA 0, 6, .inl f140)), (a12, .inl (cA 0, 10, .inl f12)), (a13, .inl (cA 0, 10, .inl f13)), (a14, .inl (cA 0, 10, .inl f14)), (a16, .inl (cA 0, 5, .inl f16)), (a17, .inl (cA 0, 5, .inl f17)), (pa, .inr (2, ps)), (p10, .inl (cA 0, 6, .inl g10)), (p12, .inl (cA 0, 6, .inl g12)), (p16, .inl (cA 0, 10, .inl g16))] H := hP
  have hD : va_D A [(h0, .inr (6, fs111)), (a8, .inl (cA 0, 6, .inl f143)), (a9, .inl (cA 0, 6, .inl f145)), (a10, .inl (cA 0, 6, .inl ((upd f139 (4 : Int32).toNatClampNeg 0)))), (a11, .inl (cA 0, 6, .inl f140)), (a12, .inl (cA 0, 10, .inl f12)), (a13, .inl (cA 0, 10, .inl f13)), (a14, .inl (cA 0, 10, .inl f14)), (a16, .inl (cA 0, 5, .inl f16)), (a17, .inl (cA 0, 5, .inl f17)), (pa, .inr (2, ps)), (p10, .inl (cA 0, 6, .inl g10)), (p12, .inl (cA 0, 6, .inl g12)), (p16, .inl (cA 0, 10, .inl g16))] := hD
  generalize (upd f139 (4 : Int32).toNatClampNeg 0) = f146 at hP hD
  refine lv_aload_n hx hb dX6_begin_78 rfl (lv_at hl 1 rfl) ?_
  refine va_get (D := G) (ci := 6) (v := .ref a11) (C := RX6) (T := TX6) (N := 20) hx hb hT ku_6 hown hK hP 0 rfl rfl 11 (by decide) (hT _ kw_7_10) (fun _ h9 => h9) (fh_at hf 9 rfl) dX6_begin_79 ?_
  refine lv_iload_n hx hb dX6_begin_82 rfl (lv_at hl 0 rfl) ?_
  refine lv_iconst (v := 0) hx hb dX6_begin_83 (by decide) ?_
  refine va_iast (i := 4) hx hb hK hP hD hS 4 0 rfl rfl (tq_in (by decide)) dX6_begin_84 (fun H locs hP hD hS => ?_)
  have hP : va_P G vwCl [(h0, .inr (6, fs111)), (a8, .inl (cA 0, 6, .inl f143)), (a9, .inl (cA 0, 6, .inl f145)), (a10, .inl (cA 0, 6, .inl f146)), (a11, .inl (cA 0, 6, .inl ((upd f140 (4 : Int32).toNatClampNeg 0)))), (a12, .inl (cA 0, 10, .inl f12)), (a13, .inl (cA 0, 10, .inl f13)), (a14, .inl (cA 0, 10, .inl f14)), (a16, .inl (cA 0, 5, .inl f16)), (a17, .inl (cA 0, 5, .inl f17)), (pa, .inr (2, ps)), (p10, .inl (cA 0, 6, .inl g10)), (p12, .inl (cA 0, 6, .inl g12)), (p16, .inl (cA 0, 10, .inl g16))] H := hP
  have hD : va_D A [(h0, .inr (6, fs111)), (a8, .inl (cA 0, 6, .inl f143)), (a9, .inl (cA 0, 6, .inl f145)), (a10, .inl (cA 0, 6, .inl f146)), (a11, .inl (cA 0, 6, .inl ((upd f140 (4 : Int32).toNatClampNeg 0)))), (a12, .inl (cA 0, 10, .inl f12)), (a13, .inl (cA 0, 10, .inl f13)), (a14, .inl (cA 0, 10, .inl f14)), (a16, .inl (cA 0, 5, .inl f16)), (a17, .inl (cA 0, 5, .inl f17)), (pa, .inr (2, ps)), (p10, .inl (cA 0, 6, .inl g10)), (p12, .inl (cA 0, 6, .inl g12)), (p16, .inl (cA 0, 10, .inl g16))] := hD
  generalize (upd f140 (4 : Int32).toNatClampNeg 0) = f147 at hP hD
  refine lv_iinc (v := 5) (lv' := [(2, .int 5), (0, .ref h0), (1, .ref pa)]) hx hb dX6_begin_85 hl (k := 0) rfl (by decide) (by decide) rfl (fun ls hl => ?_)
  refine lv_goto (tgt := 41) hx hb dX6_begin_88 (by decide) ?_
  refine lv_iload_n hx hb dX6_begin_41 rfl (lv_at hl 0 rfl) ?_
  refine lv_bipush (v := 6) hx hb dX6_begin_42 (by decide) ?_
  refine lv_icmp_ge (tgt := 91) hx hb dX6_begin_44 (by decide) (fun c148 => absurd c148 (by decide)) (fun c148 => ?_)
  refine lv_aload_n hx hb dX6_begin_47 rfl (lv_at hl 1 rfl) ?_
  refine va_get (D := G) (ci := 6) (v := .ref a8) (C := RX6) (T := TX6) (N := 20) hx hb hT ku_6 hown hK hP 0 rfl rfl 8 (by decide) (hT _ kw_7_7) (fun _ h9 => h9) (fh_at hf 6 rfl) dX6_begin_48 ?_
  refine lv_iload_n hx hb dX6_begin_51 rfl (lv_at hl 0 rfl) ?_
  refine lv_aload_n hx hb dX6_begin_52 rfl (lv_at hl 2 rfl) ?_
  refine va_get (D := G) (ci := 2) (v := .ref p10) (C := RX2) (T := TX2) (N := 19) hx hb hT ku_2 hown hK hP 10 rfl rfl 10 (by decide) (hT _ kw_8_10) (fun _ h9 => h9) (fh_at hp 3 rfl) dX6_begin_53 ?_
  refine lv_iload_n hx hb dX6_begin_56 rfl (lv_at hl 0 rfl) ?_
  refine va_iald (i := 5) hx hb hK hP 11 0 rfl rfl (tq_in (by decide)) dX6_begin_57 ?_
  refine lv_topi (fun x149 ex149 => ?_)
  refine va_iast (i := 5) hx hb hK hP hD hS 1 0 rfl rfl (tq_in (by decide)) dX6_begin_58 (fun H locs hP hD hS => ?_)
  have hP : va_P G vwCl [(h0, .inr (6, fs111)), (a8, .inl (cA 0, 6, .inl ((upd f143 (5 : Int32).toNatClampNeg x149)))), (a9, .inl (cA 0, 6, .inl f145)), (a10, .inl (cA 0, 6, .inl f146)), (a11, .inl (cA 0, 6, .inl f147)), (a12, .inl (cA 0, 10, .inl f12)), (a13, .inl (cA 0, 10, .inl f13)), (a14, .inl (cA 0, 10, .inl f14)), (a16, .inl (cA 0, 5, .inl f16)), (a17, .inl (cA 0, 5, .inl f17)), (pa, .inr (2, ps)), (p10, .inl (cA 0, 6, .inl g10)), (p12, .inl (cA 0, 6, .inl g12)), (p16, .inl (cA 0, 10, .inl g16))] H := hP
  have hD : va_D A [(h0, .inr (6, fs111)), (a8, .inl (cA 0, 6, .inl ((upd f143 (5 : Int32).toNatClampNeg x149)))), (a9, .inl (cA 0, 6, .inl f145)), (a10, .inl (cA 0, 6, .inl f146)), (a11, .inl (cA 0, 6, .inl f147)), (a12, .inl (cA 0, 10, .inl f12)), (a13, .inl (cA 0, 10, .inl f13)), (a14, .inl (cA 0, 10, .inl f14)), (a16, .inl (cA 0, 5, .inl f16)), (a17, .inl (cA 0, 5, .inl f17)), (pa, .inr (2, ps)), (p10, .inl (cA 0, 6, .inl g10)), (p12, .inl (cA 0, 6, .inl g12)), (p16, .inl (cA 0, 10, .inl g16))] := hD
  generalize (upd f143 (5 : Int32).toNatClampNeg x149) = f150 at hP hD
  refine lv_aload_n hx hb dX6_begin_59 rfl (lv_at hl 1 rfl) ?_
  refine va_get (D := G) (ci := 6) (v := .ref a9) (C := RX6) (T := TX6) (N := 20) hx hb hT ku_6 hown hK hP 0 rfl rfl 9 (by decide) (hT _ kw_7_8) (fun _ h9 => h9) (fh_at hf 7 rfl) dX6_begin_60 ?_
  refine lv_iload_n hx hb dX6_begin_63 rfl (lv_at hl 0 rfl) ?_
  refine lv_aload_n hx hb dX6_begin_64 rfl (lv_at hl 2 rfl) ?_
  refine va_get (D := G) (ci := 2) (v := .ref p12) (C := RX2) (T := TX2) (N := 19) hx hb hT ku_2 hown hK hP 10 rfl rfl 12 (by decide) (hT _ kw_8_11) (fun _ h9 => h9) (fh_at hp 4 rfl) dX6_begin_65 ?_
  refine lv_iload_n hx hb dX6_begin_68 rfl (lv_at hl 0 rfl) ?_
  refine va_iald (i := 5) hx hb hK hP 12 0 rfl rfl (tq_in (by decide)) dX6_begin_69 ?_
  refine lv_topi (fun x151 ex151 => ?_)
  refine va_iast (i := 5) hx hb hK hP hD hS 2 0 rfl rfl (tq_in (by decide)) dX6_begin_70 (fun H locs hP hD hS => ?_)
  have hP : va_P G vwCl [(h0, .inr (6, fs111)), (a8, .inl (cA 0, 6, .inl f150)), (a9, .inl (cA 0, 6, .inl ((upd f145 (5 : Int32).toNatClampNeg x151)))), (a10, .inl (cA 0, 6, .inl f146)), (a11, .inl (cA 0, 6, .inl f147)), (a12, .inl (cA 0, 10, .inl f12)), (a13, .inl (cA 0, 10, .inl f13)), (a14, .inl (cA 0, 10, .inl f14)), (a16, .inl (cA 0, 5, .inl f16)), (a17, .inl (cA 0, 5, .inl f17)), (pa, .inr (2, ps)), (p10, .inl (cA 0, 6, .inl g10)), (p12, .inl (cA 0, 6, .inl g12)), (p16, .inl (cA 0, 10, .inl g16))] H := hP
  have hD : va_D A [(h0, .inr (6, fs111)), (a8, .inl (cA 0, 6, .inl f150)), (a9, .inl (cA 0, 6, .inl ((upd f145 (5 : Int32).toNatClampNeg x151)))), (a10, .inl (cA 0, 6, .inl f146)), (a11, .inl (cA 0, 6, .inl f147)), (a12, .inl (cA 0, 10, .inl f12)), (a13, .inl (cA 0, 10, .inl f13)), (a14, .inl (cA 0, 10, .inl f14)), (a16, .inl (cA 0, 5, .inl f16)), (a17, .inl (cA 0, 5, .inl f17)), (pa, .inr (2, ps)), (p10, .inl (cA 0, 6, .inl g10)), (p12, .inl (cA 0, 6, .inl g12)), (p16, .inl (cA 0, 10, .inl g16))] := hD
  generalize (upd f145 (5 : Int32).toNatClampNeg x151) = f152 at hP hD
  refine lv_aload_n hx hb dX6_begin_71 rfl (lv_at hl 1 rfl) ?_
  refine va_get (D := G) (ci := 6) (v := .ref a10) (C := RX6) (T := TX6) (N := 20) hx hb hT ku_6 hown hK hP 0 rfl rfl 10 (by decide) (hT _ kw_7_9) (fun _ h9 => h9) (fh_at hf 8 rfl) dX6_begin_72 ?_
  refine lv_iload_n hx hb dX6_begin_75 rfl (lv_at hl 0 rfl) ?_
  refine lv_iconst (v := 0) hx hb dX6_begin_76 (by decide) ?_
  refine va_iast (i := 5) hx hb hK hP hD hS 3 0 rfl rfl (tq_in (by decide)) dX6_begin_77 (fun H locs hP hD hS => ?_)
  have hP : va_P G vwCl [(h0, .inr (6, fs111)), (a8, .inl (cA 0, 6, .inl f150)), (a9, .inl (cA 0, 6, .inl f152)), (a10, .inl (cA 0, 6, .inl ((upd f146 (5 : Int32).toNatClampNeg 0)))), (a11, .inl (cA 0, 6, .inl f147)), (a12, .inl (cA 0, 10, .inl f12)), (a13, .inl (cA 0, 10, .inl f13)), (a14, .inl (cA 0, 10, .inl f14)), (a16, .inl (cA 0, 5, .inl f16)), (a17, .inl (cA 0, 5, .inl f17)), (pa, .inr (2, ps)), (p10, .inl (cA 0, 6, .inl g10)), (p12, .inl (cA 0, 6, .inl g12)), (p16, .inl (cA 0, 10, .inl g16))] H := hP
  have hD : va_D A [(h0, .inr (6, fs111)), (a8, .inl (cA 0, 6, .inl f150)), (a9, .inl (cA 0, 6, .inl f152)), (a10, .inl (cA 0, 6, .inl ((upd f146 (5 : Int32).toNatClampNeg 0)))), (a11, .inl (cA 0, 6, .inl f147)), (a12, .inl (cA 0, 10, .inl f12)), (a13, .inl (cA 0, 10, .inl f13)), (a14, .inl (cA 0, 10, .inl f14)), (a16, .inl (cA 0, 5, .inl f16)), (a17, .inl (cA 0, 5, .inl f17)), (pa, .inr (2, ps)), (p10, .inl (cA 0, 6, .inl g10)), (p12, .inl (cA 0, 6, .inl g12)), (p16, .inl (cA 0, 10, .inl g16))] := hD
  generalize (upd f146 (5 : Int32).toNatClampNeg 0) = f153 at hP hD
  refine lv_aload_n hx hb dX6_begin_78 rfl (lv_at hl 1 rfl) ?_
  refine va_get (D := G) (ci := 6) (v := .ref a11) (C := RX6) (T := TX6) (N := 20) hx hb hT ku_6 hown hK hP 0 rfl rfl 11 (by decide) (hT _ kw_7_10) (fun _ h9 => h9) (fh_at hf 9 rfl) dX6_begin_79 ?_
  refine lv_iload_n hx hb dX6_begin_82 rfl (lv_at hl 0 rfl) ?_
  refine lv_iconst (v := 0) hx hb dX6_begin_83 (by decide) ?_
  refine va_iast (i := 5) hx hb hK hP hD hS 4 0 rfl rfl (tq_in (by decide)) dX6_begin_84 (fun H locs hP hD hS => ?_)
  have hP : va_P G vwCl [(h0, .inr (6, fs111)), (a8, .inl (cA 0, 6, .inl f150)), (a9, .inl (cA 0, 6, .inl f152)), (a10, .inl (cA 0, 6, .inl f153)), (a11, .inl (cA 0, 6, .inl ((upd f147 (5 : Int32).toNatClampNeg 0)))), (a12, .inl (cA 0, 10, .inl f12)), (a13, .inl (cA 0, 10, .inl f13)), (a14, .inl (cA 0, 10, .inl f14)), (a16, .inl (cA 0, 5, .inl f16)), (a17, .inl (cA 0, 5, .inl f17)), (pa, .inr (2, ps)), (p10, .inl (cA 0, 6, .inl g10)), (p12, .inl (cA 0, 6, .inl g12)), (p16, .inl (cA 0, 10, .inl g16))] H := hP
  have hD : va_D A [(h0, .inr (6, fs111)), (a8, .inl (cA 0, 6, .inl f150)), (a9, .inl (cA 0, 6, .inl f152)), (a10, .inl (cA 0, 6, .inl f153)), (a11, .inl (cA 0, 6, .inl ((upd f147 (5 : Int32).toNatClampNeg 0)))), (a12, .inl (cA 0, 10, .inl f12)), (a13, .inl (cA 0, 10, .inl f13)), (a14, .inl (cA 0, 10, .inl f14)), (a16, .inl (cA 0, 5, .inl f16)), (a17, .inl (cA 0, 5, .inl f17)), (pa, .inr (2, ps)), (p10, .inl (cA 0, 6, .inl g10)), (p12, .inl (cA 0, 6, .inl g12)), (p16, .inl (cA 0, 10, .inl g16))] := hD
  generalize (upd f147 (5 : Int32).toNatClampNeg 0) = f154 at hP hD
  refine lv_iinc (v := 6) (lv' := [(2, .int 6), (0, .ref h0), (1, .ref pa)]) hx hb dX6_begin_85 hl (k := 0) rfl (by decide) (by decide) rfl (fun ls hl => ?_)
  refine lv_goto (tgt := 41) hx hb dX6_begin_88 (by decide) ?_
  refine lv_iload_n hx hb dX6_begin_41 rfl (lv_at hl 0 rfl) ?_
  refine lv_bipush (v := 6) hx hb dX6_begin_42 (by decide) ?_
  refine lv_icmp_ge (tgt := 91) hx hb dX6_begin_44 (by decide) (fun c155 => ?_) (fun c155 => absurd (by decide) c155)
  refine lv_iconst (v := 0) hx hb dX6_begin_91 (by decide) ?_
  refine lv_istore_n (lv' := [(2, .int 0), (0, .ref h0), (1, .ref pa)]) hx hb dX6_begin_92 rfl hl (by decide) rfl (fun ls hl => ?_)
  refine lv_iload_n hx hb dX6_begin_93 rfl (lv_at hl 0 rfl) ?_
  refine lv_bipush (v := 10) hx hb dX6_begin_94 (by decide) ?_
  refine lv_icmp_ge (tgt := 131) hx hb dX6_begin_96 (by decide) (fun c156 => absurd c156 (by decide)) (fun c156 => ?_)
  refine lv_aload_n hx hb dX6_begin_99 rfl (lv_at hl 1 rfl) ?_
  refine va_get (D := G) (ci := 6) (v := .ref a12) (C := RX6) (T := TX6) (N := 20) hx hb hT ku_6 hown hK hP 0 rfl rfl 12 (by decide) (hT _ kw_7_11) (fun _ h9 => h9) (fh_at hf 10 rfl) dX6_begin_100 ?_
  refine lv_iload_n hx hb dX6_begin_103 rfl (lv_at hl 0 rfl) ?_
  refine lv_aload_n hx hb dX6_begin_104 rfl (lv_at hl 2 rfl) ?_
  refine va_get (D := G) (ci := 2) (v := .ref p16) (C := RX2) (T := TX2) (N := 19) hx hb hT ku_2 hown hK hP 10 rfl rfl 16 (by decide) (hT _ kw_8_12) (fun _ h9 => h9) (fh_at hp 5 rfl) dX6_begin_105 ?_
  refine lv_iload_n hx hb dX6_begin_108 rfl (lv_at hl 0 rfl) ?_
  refine va_iald (i := 0) hx hb hK hP 13 0 rfl rfl (tq_in (by decide)) dX6_begin_109 ?_
  refine lv_topi (fun x157 ex157 => ?_)
  refine va_iast (i := 0) hx hb hK hP hD hS 5 0 rfl rfl (tq_in (by decide)) dX6_begin_110 (fun H locs hP hD hS => ?_)
  have hP : va_P G vwCl [(h0, .inr (6, fs111)), (a8, .inl (cA 0, 6, .inl f150)), (a9, .inl (cA 0, 6, .inl f152)), (a10, .inl (cA 0, 6, .inl f153)), (a11, .inl (cA 0, 6, .inl f154)), (a12, .inl (cA 0, 10, .inl ((upd f12 (0 : Int32).toNatClampNeg x157)))), (a13, .inl (cA 0, 10, .inl f13)), (a14, .inl (cA 0, 10, .inl f14)), (a16, .inl (cA 0, 5, .inl f16)), (a17, .inl (cA 0, 5, .inl f17)), (pa, .inr (2, ps)), (p10, .inl (cA 0, 6, .inl g10)), (p12, .inl (cA 0, 6, .inl g12)), (p16, .inl (cA 0, 10, .inl g16))] H := hP
  have hD : va_D A [(h0, .inr (6, fs111)), (a8, .inl (cA 0, 6, .inl f150)), (a9, .inl (cA 0, 6, .inl f152)), (a10, .inl (cA 0, 6, .inl f153)), (a11, .inl (cA 0, 6, .inl f154)), (a12, .inl (cA 0, 10, .inl ((upd f12 (0 : Int32).toNatClampNeg x157)))), (a13, .inl (cA 0, 10, .inl f13)), (a14, .inl (cA 0, 10, .inl f14)), (a16, .inl (cA 0, 5, .inl f16)), (a17, .inl (cA 0, 5, .inl f17)), (pa, .inr (2, ps)), (p10, .inl (cA 0, 6, .inl g10)), (p12, .inl (cA 0, 6, .inl g12)), (p16, .inl (cA 0, 10, .inl g16))] := hD
  generalize (upd f12 (0 : Int32).toNatClampNeg x157) = f158 at hP hD
  refine lv_aload_n hx hb dX6_begin_111 rfl (lv_at hl 1 rfl) ?_
  refine va_get (D := G) (ci := 6) (v := .ref a13) (C := RX6) (T := TX6) (N := 20) hx hb hT ku_6 hown hK hP 0 rfl rfl 13 (by decide) (hT _ kw_7_12) (fun _ h9 => h9) (fh_at hf 11 rfl) dX6_begin_112 ?_
  refine lv_iload_n hx hb dX6_begin_115 rfl (lv_at hl 0 rfl) ?_
  refine lv_iconst (v := 0) hx hb dX6_begin_116 (by decide) ?_
  refine va_iast (i := 0) hx hb hK hP hD hS 6 0 rfl rfl (tq_in (by decide)) dX6_begin_117 (fun H locs hP hD hS => ?_)
  have hP : va_P G vwCl [(h0, .inr (6, fs111)), (a8, .inl (cA 0, 6, .inl f150)), (a9, .inl (cA 0, 6, .inl f152)), (a10, .inl (cA 0, 6, .inl f153)), (a11, .inl (cA 0, 6, .inl f154)), (a12, .inl (cA 0, 10, .inl f158)), (a13, .inl (cA 0, 10, .inl ((upd f13 (0 : Int32).toNatClampNeg 0)))), (a14, .inl (cA 0, 10, .inl f14)), (a16, .inl (cA 0, 5, .inl f16)), (a17, .inl (cA 0, 5, .inl f17)), (pa, .inr (2, ps)), (p10, .inl (cA 0, 6, .inl g10)), (p12, .inl (cA 0, 6, .inl g12)), (p16, .inl (cA 0, 10, .inl g16))] H := hP
  have hD : va_D A [(h0, .inr (6, fs111)), (a8, .inl (cA 0, 6, .inl f150)), (a9, .inl (cA 0, 6, .inl f152)), (a10, .inl (cA 0, 6, .inl f153)), (a11, .inl (cA 0, 6, .inl f154)), (a12, .inl (cA 0, 10, .inl f158)), (a13, .inl (cA 0, 10, .inl ((upd f13 (0 : Int32).toNatClampNeg 0)))), (a14, .inl (cA 0, 10, .inl f14)), (a16, .inl (cA 0, 5, .inl f16)), (a17, .inl (cA 0, 5, .inl f17)), (pa, .inr (2, ps)), (p10, .inl (cA 0, 6, .inl g10)), (p12, .inl (cA 0, 6, .inl g12)), (p16, .inl (cA 0, 10, .inl g16))] := hD
  generalize (upd f13 (0 : Int32).toNatClampNeg 0) = f159 at hP hD
  refine lv_aload_n hx hb dX6_begin_118 rfl (lv_at hl 1 rfl) ?_
  refine va_get (D := G) (ci := 6) (v := .ref a14) (C := RX6) (T := TX6) (N := 20) hx hb hT ku_6 hown hK hP 0 rfl rfl 14 (by decide) (hT _ kw_7_13) (fun _ h9 => h9) (fh_at hf 12 rfl) dX6_begin_119 ?_
  refine lv_iload_n hx hb dX6_begin_122 rfl (lv_at hl 0 rfl) ?_
  refine lv_iconst (v := (-1)) hx hb dX6_begin_123 (by decide) ?_
  refine va_iast (i := 0) hx hb hK hP hD hS 7 0 rfl rfl (tq_in (by decide)) dX6_begin_124 (fun H locs hP hD hS => ?_)
  have hP : va_P G vwCl [(h0, .inr (6, fs111)), (a8, .inl (cA 0, 6, .inl f150)), (a9, .inl (cA 0, 6, .inl f152)), (a10, .inl (cA 0, 6, .inl f153)), (a11, .inl (cA 0, 6, .inl f154)), (a12, .inl (cA 0, 10, .inl f158)), (a13, .inl (cA 0, 10, .inl f159)), (a14, .inl (cA 0, 10, .inl ((upd f14 (0 : Int32).toNatClampNeg (-1))))), (a16, .inl (cA 0, 5, .inl f16)), (a17, .inl (cA 0, 5, .inl f17)), (pa, .inr (2, ps)), (p10, .inl (cA 0, 6, .inl g10)), (p12, .inl (cA 0, 6, .inl g12)), (p16, .inl (cA 0, 10, .inl g16))] H := hP
  have hD : va_D A [(h0, .inr (6, fs111)), (a8, .inl (cA 0, 6, .inl f150)), (a9, .inl (cA 0, 6, .inl f152)), (a10, .inl (cA 0, 6, .inl f153)), (a11, .inl (cA 0, 6, .inl f154)), (a12, .inl (cA 0, 10, .inl f158)), (a13, .inl (cA 0, 10, .inl f159)), (a14, .inl (cA 0, 10, .inl ((upd f14 (0 : Int32).toNatClampNeg (-1))))), (a16, .inl (cA 0, 5, .inl f16)), (a17, .inl (cA 0, 5, .inl f17)), (pa, .inr (2, ps)), (p10, .inl (cA 0, 6, .inl g10)), (p12, .inl (cA 0, 6, .inl g12)), (p16, .inl (cA 0, 10, .inl g16))] := hD
  generalize (upd f14 (0 : Int32).toNatClampNeg (-1)) = f160 at hP hD
  refine lv_iinc (v := 1) (lv' := [(2, .int 1), (0, .ref h0), (1, .ref pa)]) hx hb dX6_begin_125 hl (k := 0) rfl (by decide) (by decide) rfl (fun ls hl => ?_)
  refine lv_goto (tgt := 93) hx hb dX6_begin_128 (by decide) ?_
  refine lv_iload_n hx hb dX6_begin_93 rfl (lv_at hl 0 rfl) ?_
  refine lv_bipush (v := 10) hx hb dX6_begin_94 (by decide) ?_
  refine lv_icmp_ge (tgt := 131) hx hb dX6_begin_96 (by decide) (fun c161 => absurd c161 (by decide)) (fun c161 => ?_)
  refine lv_aload_n hx hb dX6_begin_99 rfl (lv_at hl 1 rfl) ?_
  refine va_get (D := G) (ci := 6) (v := .ref a12) (C := RX6) (T := TX6) (N := 20) hx hb hT ku_6 hown hK hP 0 rfl rfl 12 (by decide) (hT _ kw_7_11) (fun _ h9 => h9) (fh_at hf 10 rfl) dX6_begin_100 ?_
  refine lv_iload_n hx hb dX6_begin_103 rfl (lv_at hl 0 rfl) ?_
  refine lv_aload_n hx hb dX6_begin_104 rfl (lv_at hl 2 rfl) ?_
  refine va_get (D := G) (ci := 2) (v := .ref p16) (C := RX2) (T := TX2) (N := 19) hx hb hT ku_2 hown hK hP 10 rfl rfl 16 (by decide) (hT _ kw_8_12) (fun _ h9 => h9) (fh_at hp 5 rfl) dX6_begin_105 ?_
  refine lv_iload_n hx hb dX6_begin_108 rfl (lv_at hl 0 rfl) ?_
  refine va_iald (i := 1) hx hb hK hP 13 0 rfl rfl (tq_in (by decide)) dX6_begin_109 ?_
  refine lv_topi (fun x162 ex162 => ?_)
  refine va_iast (i := 1) hx hb hK hP hD hS 5 0 rfl rfl (tq_in (by decide)) dX6_begin_110 (fun H locs hP hD hS => ?_)
  have hP : va_P G vwCl [(h0, .inr (6, fs111)), (a8, .inl (cA 0, 6, .inl f150)), (a9, .inl (cA 0, 6, .inl f152)), (a10, .inl (cA 0, 6, .inl f153)), (a11, .inl (cA 0, 6, .inl f154)), (a12, .inl (cA 0, 10, .inl ((upd f158 (1 : Int32).toNatClampNeg x162)))), (a13, .inl (cA 0, 10, .inl f159)), (a14, .inl (cA 0, 10, .inl f160)), (a16, .inl (cA 0, 5, .inl f16)), (a17, .inl (cA 0, 5, .inl f17)), (pa, .inr (2, ps)), (p10, .inl (cA 0, 6, .inl g10)), (p12, .inl (cA 0, 6, .inl g12)), (p16, .inl (cA 0, 10, .inl g16))] H := hP
  have hD : va_D A [(h0, .inr (6, fs111)), (a8, .inl (cA 0, 6, .inl f150)), (a9, .inl (cA 0, 6, .inl f152)), (a10, .inl (cA 0, 6, .inl f153)), (a11, .inl (cA 0, 6, .inl f154)), (a12, .inl (cA 0, 10, .inl ((upd f158 (1 : Int32).toNatClampNeg x162)))), (a13, .inl (cA 0, 10, .inl f159)), (a14, .inl (cA 0, 10, .inl f160)), (a16, .inl (cA 0, 5, .inl f16)), (a17, .inl (cA 0, 5, .inl f17)), (pa, .inr (2, ps)), (p10, .inl (cA 0, 6, .inl g10)), (p12, .inl (cA 0, 6, .inl g12)), (p16, .inl (cA 0, 10, .inl g16))] := hD
  generalize (upd f158 (1 : Int32).toNatClampNeg x162) = f163 at hP hD
  refine lv_aload_n hx hb dX6_begin_111 rfl (lv_at hl 1 rfl) ?_
  refine va_get (D := G) (ci := 6) (v := .ref a13) (C := RX6) (T := TX6) (N := 20) hx hb hT ku_6 hown hK hP 0 rfl rfl 13 (by decide) (hT _ kw_7_12) (fun _ h9 => h9) (fh_at hf 11 rfl) dX6_begin_112 ?_
  refine lv_iload_n hx hb dX6_begin_115 rfl (lv_at hl 0 rfl) ?_
  refine lv_iconst (v := 0) hx hb dX6_begin_116 (by decide) ?_
  refine va_iast (i := 1) hx hb hK hP hD hS 6 0 rfl rfl (tq_in (by decide)) dX6_begin_117 (fun H locs hP hD hS => ?_)
  have hP : va_P G vwCl [(h0, .inr (6, fs111)), (a8, .inl (cA 0, 6, .inl f150)), (a9, .inl (cA 0, 6, .inl f152)), (a10, .inl (cA 0, 6, .inl f153)), (a11, .inl (cA 0, 6, .inl f154)), (a12, .inl (cA 0, 10, .inl f163)), (a13, .inl (cA 0, 10, .inl ((upd f159 (1 : Int32).toNatClampNeg 0)))), (a14, .inl (cA 0, 10, .inl f160)), (a16, .inl (cA 0, 5, .inl f16)), (a17, .inl (cA 0, 5, .inl f17)), (pa, .inr (2, ps)), (p10, .inl (cA 0, 6, .inl g10)), (p12, .inl (cA 0, 6, .inl g12)), (p16, .inl (cA 0, 10, .inl g16))] H := hP
  have hD : va_D A [(h0, .inr (6, fs111)), (a8, .inl (cA 0, 6, .inl f150)), (a9, .inl (cA 0, 6, .inl f152)), (a10, .inl (cA 0, 6, .inl f153)), (a11, .inl (cA 0, 6, .inl f154)), (a12, .inl (cA 0, 10, .inl f163)), (a13, .inl (cA 0, 10, .inl ((upd f159 (1 : Int32).toNatClampNeg 0)))), (a14, .inl (cA 0, 10, .inl f160)), (a16, .inl (cA 0, 5, .inl f16)), (a17, .inl (cA 0, 5, .inl f17)), (pa, .inr (2, ps)), (p10, .inl (cA 0, 6, .inl g10)), (p12, .inl (cA 0, 6, .inl g12)), (p16, .inl (cA 0, 10, .inl g16))] := hD
  generalize (upd f159 (1 : Int32).toNatClampNeg 0) = f164 at hP hD
  refine lv_aload_n hx hb dX6_begin_118 rfl (lv_at hl 1 rfl) ?_
  refine va_get (D := G) (ci := 6) (v := .ref a14) (C := RX6) (T := TX6) (N := 20) hx hb hT ku_6 hown hK hP 0 rfl rfl 14 (by decide) (hT _ kw_7_13) (fun _ h9 => h9) (fh_at hf 12 rfl) dX6_begin_119 ?_
  refine lv_iload_n hx hb dX6_begin_122 rfl (lv_at hl 0 rfl) ?_
  refine lv_iconst (v := (-1)) hx hb dX6_begin_123 (by decide) ?_
  refine va_iast (i := 1) hx hb hK hP hD hS 7 0 rfl rfl (tq_in (by decide)) dX6_begin_124 (fun H locs hP hD hS => ?_)
  have hP : va_P G vwCl [(h0, .inr (6, fs111)), (a8, .inl (cA 0, 6, .inl f150)), (a9, .inl (cA 0, 6, .inl f152)), (a10, .inl (cA 0, 6, .inl f153)), (a11, .inl (cA 0, 6, .inl f154)), (a12, .inl (cA 0, 10, .inl f163)), (a13, .inl (cA 0, 10, .inl f164)), (a14, .inl (cA 0, 10, .inl ((upd f160 (1 : Int32).toNatClampNeg (-1))))), (a16, .inl (cA 0, 5, .inl f16)), (a17, .inl (cA 0, 5, .inl f17)), (pa, .inr (2, ps)), (p10, .inl (cA 0, 6, .inl g10)), (p12, .inl (cA 0, 6, .inl g12)), (p16, .inl (cA 0, 10, .inl g16))] H := hP
  have hD : va_D A [(h0, .inr (6, fs111)), (a8, .inl (cA 0, 6, .inl f150)), (a9, .inl (cA 0, 6, .inl f152)), (a10, .inl (cA 0, 6, .inl f153)), (a11, .inl (cA 0, 6, .inl f154)), (a12, .inl (cA 0, 10, .inl f163)), (a13, .inl (cA 0, 10, .inl f164)), (a14, .inl (cA 0, 10, .inl ((upd f160 (1 : Int32).toNatClampNeg (-1))))), (a16, .inl (cA 0, 5, .inl f16)), (a17, .inl (cA 0, 5, .inl f17)), (pa, .inr (2, ps)), (p10, .inl (cA 0, 6, .inl g10)), (p12, .inl (cA 0, 6, .inl g12)), (p16, .inl (cA 0, 10, .inl g16))] := hD
  generalize (upd f160 (1 : Int32).toNatClampNeg (-1)) = f165 at hP hD
  refine lv_iinc (v := 2) (lv' := [(2, .int 2), (0, .ref h0), (1, .ref pa)]) hx hb dX6_begin_125 hl (k := 0) rfl (by decide) (by decide) rfl (fun ls hl => ?_)
  refine lv_goto (tgt := 93) hx hb dX6_begin_128 (by decide) ?_
  refine lv_iload_n hx hb dX6_begin_93 rfl (lv_at hl 0 rfl) ?_
  refine lv_bipush (v := 10) hx hb dX6_begin_94 (by decide) ?_
  refine lv_icmp_ge (tgt := 131) hx hb dX6_begin_96 (by decide) (fun c166 => absurd c166 (by decide)) (fun c166 => ?_)
  refine lv_aload_n hx hb dX6_begin_99 rfl (lv_at hl 1 rfl) ?_
  refine va_get (D := G) (ci := 6) (v := .ref a12) (C := RX6) (T := TX6) (N := 20) hx hb hT ku_6 hown hK hP 0 rfl rfl 12 (by decide) (hT _ kw_7_11) (fun _ h9 => h9) (fh_at hf 10 rfl) dX6_begin_100 ?_
  refine lv_iload_n hx hb dX6_begin_103 rfl (lv_at hl 0 rfl) ?_
  refine lv_aload_n hx hb dX6_begin_104 rfl (lv_at hl 2 rfl) ?_
  refine va_get (D := G) (ci := 2) (v := .ref p16) (C := RX2) (T := TX2) (N := 19) hx hb hT ku_2 hown hK hP 10 rfl rfl 16 (by decide) (hT _ kw_8_12) (fun _ h9 => h9) (fh_at hp 5 rfl) dX6_begin_105 ?_
  refine lv_iload_n hx hb dX6_begin_108 rfl (lv_at hl 0 rfl) ?_
  refine va_iald (i := 2) hx hb hK hP 13 0 rfl rfl (tq_in (by decide)) dX6_begin_109 ?_
  refine lv_topi (fun x167 ex167 => ?_)
  refine va_iast (i := 2) hx hb hK hP hD hS 5 0 rfl rfl (tq_in (by decide)) dX6_begin_110 (fun H locs hP hD hS => ?_)
  have hP : va_P G vwCl [(h0, .inr (6, fs111)), (a8, .inl (cA 0, 6, .inl f150)), (a9, .inl (cA 0, 6, .inl f152)), (a10, .inl (cA 0, 6, .inl f153)), (a11, .inl (cA 0, 6, .inl f154)), (a12, .inl (cA 0, 10, .inl ((upd f163 (2 : Int32).toNatClampNeg x167)))), (a13, .inl (cA 0, 10, .inl f164)), (a14, .inl (cA 0, 10, .inl f165)), (a16, .inl (cA 0, 5, .inl f16)), (a17, .inl (cA 0, 5, .inl f17)), (pa, .inr (2, ps)), (p10, .inl (cA 0, 6, .inl g10)), (p12, .inl (cA 0, 6, .inl g12)), (p16, .inl (cA 0, 10, .inl g16))] H := hP
  have hD : va_D A [(h0, .inr (6, fs111)), (a8, .inl (cA 0, 6, .inl f150)), (a9, .inl (cA 0, 6, .inl f152)), (a10, .inl (cA 0, 6, .inl f153)), (a11, .inl (cA 0, 6, .inl f154)), (a12, .inl (cA 0, 10, .inl ((upd f163 (2 : Int32).toNatClampNeg x167)))), (a13, .inl (cA 0, 10, .inl f164)), (a14, .inl (cA 0, 10, .inl f165)), (a16, .inl (cA 0, 5, .inl f16)), (a17, .inl (cA 0, 5, .inl f17)), (pa, .inr (2, ps)), (p10, .inl (cA 0, 6, .inl g10)), (p12, .inl (cA 0, 6, .inl g12)), (p16, .inl (cA 0, 10, .inl g16))] := hD
  generalize (upd f163 (2 : Int32).toNatClampNeg x167) = f168 at hP hD
  refine lv_aload_n hx hb dX6_begin_111 rfl (lv_at hl 1 rfl) ?_
  refine va_get (D := G) (ci := 6) (v := .ref a13) (C := RX6) (T := TX6) (N := 20) hx hb hT ku_6 hown hK hP 0 rfl rfl 13 (by decide) (hT _ kw_7_12) (fun _ h9 => h9) (fh_at hf 11 rfl) dX6_begin_112 ?_
  refine lv_iload_n hx hb dX6_begin_115 rfl (lv_at hl 0 rfl) ?_
  refine lv_iconst (v := 0) hx hb dX6_begin_116 (by decide) ?_
  refine va_iast (i := 2) hx hb hK hP hD hS 6 0 rfl rfl (tq_in (by decide)) dX6_begin_117 (fun H locs hP hD hS => ?_)
  have hP : va_P G vwCl [(h0, .inr (6, fs111)), (a8, .inl (cA 0, 6, .inl f150)), (a9, .inl (cA 0, 6, .inl f152)), (a10, .inl (cA 0, 6, .inl f153)), (a11, .inl (cA 0, 6, .inl f154)), (a12, .inl (cA 0, 10, .inl f168)), (a13, .inl (cA 0, 10, .inl ((upd f164 (2 : Int32).toNatClampNeg 0)))), (a14, .inl (cA 0, 10, .inl f165)), (a16, .inl (cA 0, 5, .inl f16)), (a17, .inl (cA 0, 5, .inl f17)), (pa, .inr (2, ps)), (p10, .inl (cA 0, 6, .inl g10)), (p12, .inl (cA 0, 6, .inl g12)), (p16, .inl (cA 0, 10, .inl g16))] H := hP
  have hD : va_D A [(h0, .inr (6, fs111)), (a8, .inl (cA 0, 6, .inl f150)), (a9, .inl (cA 0, 6, .inl f152)), (a10, .inl (cA 0, 6, .inl f153)), (a11, .inl (cA 0, 6, .inl f154)), (a12, .inl (cA 0, 10, .inl f168)), (a13, .inl (cA 0, 10, .inl ((upd f164 (2 : Int32).toNatClampNeg 0)))), (a14, .inl (cA 0, 10, .inl f165)), (a16, .inl (cA 0, 5, .inl f16)), (a17, .inl (cA 0, 5, .inl f17)), (pa, .inr (2, ps)), (p10, .inl (cA 0, 6, .inl g10)), (p12, .inl (cA 0, 6, .inl g12)), (p16, .inl (cA 0, 10, .inl g16))] := hD
  generalize (upd f164 (2 : Int32).toNatClampNeg 0) = f169 at hP hD
  refine lv_aload_n hx hb dX6_begin_118 rfl (lv_at hl 1 rfl) ?_
  refine va_get (D := G) (ci := 6) (v := .ref a14) (C := RX6) (T := TX6) (N := 20) hx hb hT ku_6 hown hK hP 0 rfl rfl 14 (by decide) (hT _ kw_7_13) (fun _ h9 => h9) (fh_at hf 12 rfl) dX6_begin_119 ?_
  refine lv_iload_n hx hb dX6_begin_122 rfl (lv_at hl 0 rfl) ?_
  refine lv_iconst (v := (-1)) hx hb dX6_begin_123 (by decide) ?_
  refine va_iast (i := 2) hx hb hK hP hD hS 7 0 rfl rfl (tq_in (by decide)) dX6_begin_124 (fun H locs hP hD hS => ?_)
  have hP : va_P G vwCl [(h0, .inr (6, fs111)), (a8, .inl (cA 0, 6, .inl f150)), (a9, .inl (cA 0, 6, .inl f152)), (a10, .inl (cA 0, 6, .inl f153)), (a11, .inl (cA 0, 6, .inl f154)), (a12, .inl (cA 0, 10, .inl f168)), (a13, .inl (cA 0, 10, .inl f169)), (a14, .inl (cA 0, 10, .inl ((upd f165 (2 : Int32).toNatClampNeg (-1))))), (a16, .inl (cA 0, 5, .inl f16)), (a17, .inl (cA 0, 5, .inl f17)), (pa, .inr (2, ps)), (p10, .inl (cA 0, 6, .inl g10)), (p12, .inl (cA 0, 6, .inl g12)), (p16, .inl (cA 0, 10, .inl g16))] H := hP
  have hD : va_D A [(h0, .inr (6, fs111)), (a8, .inl (cA 0, 6, .inl f150)), (a9, .inl (cA 0, 6, .inl f152)), (a10, .inl (cA 0, 6, .inl f153)), (a11, .inl (cA 0, 6, .inl f154)), (a12, .inl (cA 0, 10, .inl f168)), (a13, .inl (cA 0, 10, .inl f169)), (a14, .inl (cA 0, 10, .inl ((upd f165 (2 : Int32).toNatClampNeg (-1))))), (a16, .inl (cA 0, 5, .inl f16)), (a17, .inl (cA 0, 5, .inl f17)), (pa, .inr (2, ps)), (p10, .inl (cA 0, 6, .inl g10)), (p12, .inl (cA 0, 6, .inl g12)), (p16, .inl (cA 0, 10, .inl g16))] := hD
  generalize (upd f165 (2 : Int32).toNatClampNeg (-1)) = f170 at hP hD
  refine lv_iinc (v := 3) (lv' := [(2, .int 3), (0, .ref h0), (1, .ref pa)]) hx hb dX6_begin_125 hl (k := 0) rfl (by decide) (by decide) rfl (fun ls hl => ?_)
  refine lv_goto (tgt := 93) hx hb dX6_begin_128 (by decide) ?_
  refine lv_iload_n hx hb dX6_begin_93 rfl (lv_at hl 0 rfl) ?_
  refine lv_bipush (v := 10) hx hb dX6_begin_94 (by decide) ?_
  refine lv_icmp_ge (tgt := 131) hx hb dX6_begin_96 (by decide) (fun c171 => absurd c171 (by decide)) (fun c171 => ?_)
  refine lv_aload_n hx hb dX6_begin_99 rfl (lv_at hl 1 rfl) ?_
  refine va_get (D := G) (ci := 6) (v := .ref a12) (C := RX6) (T := TX6) (N := 20) hx hb hT ku_6 hown hK hP 0 rfl rfl 12 (by decide) (hT _ kw_7_11) (fun _ h9 => h9) (fh_at hf 10 rfl) dX6_begin_100 ?_
  refine lv_iload_n hx hb dX6_begin_103 rfl (lv_at hl 0 rfl) ?_
  refine lv_aload_n hx hb dX6_begin_104 rfl (lv_at hl 2 rfl) ?_
  refine va_get (D := G) (ci := 2) (v := .ref p16) (C := RX2) (T := TX2) (N := 19) hx hb hT ku_2 hown hK hP 10 rfl rfl 16 (by decide) (hT _ kw_8_12) (fun _ h9 => h9) (fh_at hp 5 rfl) dX6_begin_105 ?_
  refine lv_iload_n hx hb dX6_begin_108 rfl (lv_at hl 0 rfl) ?_
  refine va_iald (i := 3) hx hb hK hP 13 0 rfl rfl (tq_in (by decide)) dX6_begin_109 ?_
  refine lv_topi (fun x172 ex172 => ?_)
  refine va_iast (i := 3) hx hb hK hP hD hS 5 0 rfl rfl (tq_in (by decide)) dX6_begin_110 (fun H locs hP hD hS => ?_)
  have hP : va_P G vwCl [(h0, .inr (6, fs111)), (a8, .inl (cA 0, 6, .inl f150)), (a9, .inl (cA 0, 6, .inl f152)), (a10, .inl (cA 0, 6, .inl f153)), (a11, .inl (cA 0, 6, .inl f154)), (a12, .inl (cA 0, 10, .inl ((upd f168 (3 : Int32).toNatClampNeg x172)))), (a13, .inl (cA 0, 10, .inl f169)), (a14, .inl (cA 0, 10, .inl f170)), (a16, .inl (cA 0, 5, .inl f16)), (a17, .inl (cA 0, 5, .inl f17)), (pa, .inr (2, ps)), (p10, .inl (cA 0, 6, .inl g10)), (p12, .inl (cA 0, 6, .inl g12)), (p16, .inl (cA 0, 10, .inl g16))] H := hP
  have hD : va_D A [(h0, .inr (6, fs111)), (a8, .inl (cA 0, 6, .inl f150)), (a9, .inl (cA 0, 6, .inl f152)), (a10, .inl (cA 0, 6, .inl f153)), (a11, .inl (cA 0, 6, .inl f154)), (a12, .inl (cA 0, 10, .inl ((upd f168 (3 : Int32).toNatClampNeg x172)))), (a13, .inl (cA 0, 10, .inl f169)), (a14, .inl (cA 0, 10, .inl f170)), (a16, .inl (cA 0, 5, .inl f16)), (a17, .inl (cA 0, 5, .inl f17)), (pa, .inr (2, ps)), (p10, .inl (cA 0, 6, .inl g10)), (p12, .inl (cA 0, 6, .inl g12)), (p16, .inl (cA 0, 10, .inl g16))] := hD
  generalize (upd f168 (3 : Int32).toNatClampNeg x172) = f173 at hP hD
  refine lv_aload_n hx hb dX6_begin_111 rfl (lv_at hl 1 rfl) ?_
  refine va_get (D := G) (ci := 6) (v := .ref a13) (C := RX6) (T := TX6) (N := 20) hx hb hT ku_6 hown hK hP 0 rfl rfl 13 (by decide) (hT _ kw_7_12) (fun _ h9 => h9) (fh_at hf 11 rfl) dX6_begin_112 ?_
  refine lv_iload_n hx hb dX6_begin_115 rfl (lv_at hl 0 rfl) ?_
  refine lv_iconst (v := 0) hx hb dX6_begin_116 (by decide) ?_
  refine va_iast (i := 3) hx hb hK hP hD hS 6 0 rfl rfl (tq_in (by decide)) dX6_begin_117 (fun H locs hP hD hS => ?_)
  have hP : va_P G vwCl [(h0, .inr (6, fs111)), (a8, .inl (cA 0, 6, .inl f150)), (a9, .inl (cA 0, 6, .inl f152)), (a10, .inl (cA 0, 6, .inl f153)), (a11, .inl (cA 0, 6, .inl f154)), (a12, .inl (cA 0, 10, .inl f173)), (a13, .inl (cA 0, 10, .inl ((upd f169 (3 : Int32).toNatClampNeg 0)))), (a14, .inl (cA 0, 10, .inl f170)), (a16, .inl (cA 0, 5, .inl f16)), (a17, .inl (cA 0, 5, .inl f17)), (pa, .inr (2, ps)), (p10, .inl (cA 0, 6, .inl g10)), (p12, .inl (cA 0, 6, .inl g12)), (p16, .inl (cA 0, 10, .inl g16))] H := hP
  have hD : va_D A [(h0, .inr (6, fs111)), (a8, .inl (cA 0, 6, .inl f150)), (a9, .inl (cA 0, 6, .inl f152)), (a10, .inl (cA 0, 6, .inl f153)), (a11, .inl (cA 0, 6, .inl f154)), (a12, .inl (cA 0, 10, .inl f173)), (a13, .inl (cA 0, 10, .inl ((upd f169 (3 : Int32).toNatClampNeg 0)))), (a14, .inl (cA 0, 10, .inl f170)), (a16, .inl (cA 0, 5, .inl f16)), (a17, .inl (cA 0, 5, .inl f17)), (pa, .inr (2, ps)), (p10, .inl (cA 0, 6, .inl g10)), (p12, .inl (cA 0, 6, .inl g12)), (p16, .inl (cA 0, 10, .inl g16))] := hD
  generalize (upd f169 (3 : Int32).toNatClampNeg 0) = f174 at hP hD
  refine lv_aload_n hx hb dX6_begin_118 rfl (lv_at hl 1 rfl) ?_
  refine va_get (D := G) (ci := 6) (v := .ref a14) (C := RX6) (T := TX6) (N := 20) hx hb hT ku_6 hown hK hP 0 rfl rfl 14 (by decide) (hT _ kw_7_13) (fun _ h9 => h9) (fh_at hf 12 rfl) dX6_begin_119 ?_
  refine lv_iload_n hx hb dX6_begin_122 rfl (lv_at hl 0 rfl) ?_
  refine lv_iconst (v := (-1)) hx hb dX6_begin_123 (by decide) ?_
  refine va_iast (i := 3) hx hb hK hP hD hS 7 0 rfl rfl (tq_in (by decide)) dX6_begin_124 (fun H locs hP hD hS => ?_)
  have hP : va_P G vwCl [(h0, .inr (6, fs111)), (a8, .inl (cA 0, 6, .inl f150)), (a9, .inl (cA 0, 6, .inl f152)), (a10, .inl (cA 0, 6, .inl f153)), (a11, .inl (cA 0, 6, .inl f154)), (a12, .inl (cA 0, 10, .inl f173)), (a13, .inl (cA 0, 10, .inl f174)), (a14, .inl (cA 0, 10, .inl ((upd f170 (3 : Int32).toNatClampNeg (-1))))), (a16, .inl (cA 0, 5, .inl f16)), (a17, .inl (cA 0, 5, .inl f17)), (pa, .inr (2, ps)), (p10, .inl (cA 0, 6, .inl g10)), (p12, .inl (cA 0, 6, .inl g12)), (p16, .inl (cA 0, 10, .inl g16))] H := hP
  have hD : va_D A [(h0, .inr (6, fs111)), (a8, .inl (cA 0, 6, .inl f150)), (a9, .inl (cA 0, 6, .inl f152)), (a10, .inl (cA 0, 6, .inl f153)), (a11, .inl (cA 0, 6, .inl f154)), (a12, .inl (cA 0, 10, .inl f173)), (a13, .inl (cA 0, 10, .inl f174)), (a14, .inl (cA 0, 10, .inl ((upd f170 (3 : Int32).toNatClampNeg (-1))))), (a16, .inl (cA 0, 5, .inl f16)), (a17, .inl (cA 0, 5, .inl f17)), (pa, .inr (2, ps)), (p10, .inl (cA 0, 6, .inl g10)), (p12, .inl (cA 0, 6, .inl g12)), (p16, .inl (cA 0, 10, .inl g16))] := hD
  generalize (upd f170 (3 : Int32).toNatClampNeg (-1)) = f175 at hP hD
  refine lv_iinc (v := 4) (lv' := [(2, .int 4), (0, .ref h0), (1, .ref pa)]) hx hb dX6_begin_125 hl (k := 0) rfl (by decide) (by decide) rfl (fun ls hl => ?_)
  refine lv_goto (tgt := 93) hx hb dX6_begin_128 (by decide) ?_
  refine lv_iload_n hx hb dX6_begin_93 rfl (lv_at hl 0 rfl) ?_
  refine lv_bipush (v := 10) hx hb dX6_begin_94 (by decide) ?_
  refine lv_icmp_ge (tgt := 131) hx hb dX6_begin_96 (by decide) (fun c176 => absurd c176 (by decide)) (fun c176 => ?_)
  refine lv_aload_n hx hb dX6_begin_99 rfl (lv_at hl 1 rfl) ?_
  refine va_get (D := G) (ci := 6) (v := .ref a12) (C := RX6) (T := TX6) (N := 20) hx hb hT ku_6 hown hK hP 0 rfl rfl 12 (by decide) (hT _ kw_7_11) (fun _ h9 => h9) (fh_at hf 10 rfl) dX6_begin_100 ?_
  refine lv_iload_n hx hb dX6_begin_103 rfl (lv_at hl 0 rfl) ?_
  refine lv_aload_n hx hb dX6_begin_104 rfl (lv_at hl 2 rfl) ?_
  refine va_get (D := G) (ci := 2) (v := .ref p16) (C := RX2) (T := TX2) (N := 19) hx hb hT ku_2 hown hK hP 10 rfl rfl 16 (by decide) (hT _ kw_8_12) (fun _ h9 => h9) (fh_at hp 5 rfl) dX6_begin_105 ?_
  refine lv_iload_n hx hb dX6_begin_108 rfl (lv_at hl 0 rfl) ?_
  refine va_iald (i := 4) hx hb hK hP 13 0 rfl rfl (tq_in (by decide)) dX6_begin_109 ?_
  refine lv_topi (fun x177 ex177 => ?_)
  refine va_iast (i := 4) hx hb hK hP hD hS 5 0 rfl rfl (tq_in (by decide)) dX6_begin_110 (fun H locs hP hD hS => ?_)
  have hP : va_P G vwCl [(h0, .inr (6, fs111)), (a8, .inl (cA 0, 6, .inl f150)), (a9, .inl (cA 0, 6, .inl f152)), (a10, .inl (cA 0, 6, .inl f153)), (a11, .inl (cA 0, 6, .inl f154)), (a12, .inl (cA 0, 10, .inl ((upd f173 (4 : Int32).toNatClampNeg x177)))), (a13, .inl (cA 0, 10, .inl f174)), (a14, .inl (cA 0, 10, .inl f175)), (a16, .inl (cA 0, 5, .inl f16)), (a17, .inl (cA 0, 5, .inl f17)), (pa, .inr (2, ps)), (p10, .inl (cA 0, 6, .inl g10)), (p12, .inl (cA 0, 6, .inl g12)), (p16, .inl (cA 0, 10, .inl g16))] H := hP
  have hD : va_D A [(h0, .inr (6, fs111)), (a8, .inl (cA 0, 6, .inl f150)), (a9, .inl (cA 0, 6, .inl f152)), (a10, .inl (cA 0, 6, .inl f153)), (a11, .inl (cA 0, 6, .inl f154)), (a12, .inl (cA 0, 10, .inl ((upd f173 (4 : Int32).toNatClampNeg x177)))), (a13, .inl (cA 0, 10, .inl f174)), (a14, .inl (cA 0, 10, .inl f175)), (a16, .inl (cA 0, 5, .inl f16)), (a17, .inl (cA 0, 5, .inl f17)), (pa, .inr (2, ps)), (p10, .inl (cA 0, 6, .inl g10)), (p12, .inl (cA 0, 6, .inl g12)), (p16, .inl (cA 0, 10, .inl g16))] := hD
  generalize (upd f173 (4 : Int32).toNatClampNeg x177) = f178 at hP hD
  refine lv_aload_n hx hb dX6_begin_111 rfl (lv_at hl 1 rfl) ?_
  refine va_get (D := G) (ci := 6) (v := .ref a13) (C := RX6) (T := TX6) (N := 20) hx hb hT ku_6 hown hK hP 0 rfl rfl 13 (by decide) (hT _ kw_7_12) (fun _ h9 => h9) (fh_at hf 11 rfl) dX6_begin_112 ?_
  refine lv_iload_n hx hb dX6_begin_115 rfl (lv_at hl 0 rfl) ?_
  refine lv_iconst (v := 0) hx hb dX6_begin_116 (by decide) ?_
  refine va_iast (i := 4) hx hb hK hP hD hS 6 0 rfl rfl (tq_in (by decide)) dX6_begin_117 (fun H locs hP hD hS => ?_)
  have hP : va_P G vwCl [(h0, .inr (6, fs111)), (a8, .inl (cA 0, 6, .inl f150)), (a9, .inl (cA 0, 6, .inl f152)), (a10, .inl (cA 0, 6, .inl f153)), (a11, .inl (cA 0, 6, .inl f154)), (a12, .inl (cA 0, 10, .inl f178)), (a13, .inl (cA 0, 10, .inl ((upd f174 (4 : Int32).toNatClampNeg 0)))), (a14, .inl (cA 0, 10, .inl f175)), (a16, .inl (cA 0, 5, .inl f16)), (a17, .inl (cA 0, 5, .inl f17)), (pa, .inr (2, ps)), (p10, .inl (cA 0, 6, .inl g10)), (p12, .inl (cA 0, 6, .inl g12)), (p16, .inl (cA 0, 10, .inl g16))] H := hP
  have hD : va_D A [(h0, .inr (6, fs111)), (a8, .inl (cA 0, 6, .inl f150)), (a9, .inl (cA 0, 6, .inl f152)), (a10, .inl (cA 0, 6, .inl f153)), (a11, .inl (cA 0, 6, .inl f154)), (a12, .inl (cA 0, 10, .inl f178)), (a13, .inl (cA 0, 10, .inl ((upd f174 (4 : Int32).toNatClampNeg 0)))), (a14, .inl (cA 0, 10, .inl f175)), (a16, .inl (cA 0, 5, .inl f16)), (a17, .inl (cA 0, 5, .inl f17)), (pa, .inr (2, ps)), (p10, .inl (cA 0, 6, .inl g10)), (p12, .inl (cA 0, 6, .inl g12)), (p16, .inl (cA 0, 10, .inl g16))] := hD
  generalize (upd f174 (4 : Int32).toNatClampNeg 0) = f179 at hP hD
  refine lv_aload_n hx hb dX6_begin_118 rfl (lv_at hl 1 rfl) ?_
  refine va_get (D := G) (ci := 6) (v := .ref a14) (C := RX6) (T := TX6) (N := 20) hx hb hT ku_6 hown hK hP 0 rfl rfl 14 (by decide) (hT _ kw_7_13) (fun _ h9 => h9) (fh_at hf 12 rfl) dX6_begin_119 ?_
  refine lv_iload_n hx hb dX6_begin_122 rfl (lv_at hl 0 rfl) ?_
  refine lv_iconst (v := (-1)) hx hb dX6_begin_123 (by decide) ?_
  refine va_iast (i := 4) hx hb hK hP hD hS 7 0 rfl rfl (tq_in (by decide)) dX6_begin_124 (fun H locs hP hD hS => ?_)
  have hP : va_P G vwCl [(h0, .inr (6, fs111)), (a8, .inl (cA 0, 6, .inl f150)), (a9, .inl (cA 0, 6, .inl f152)), (a10, .inl (cA 0, 6, .inl f153)), (a11, .inl (cA 0, 6, .inl f154)), (a12, .inl (cA 0, 10, .inl f178)), (a13, .inl (cA 0, 10, .inl f179)), (a14, .inl (cA 0, 10, .inl ((upd f175 (4 : Int32).toNatClampNeg (-1))))), (a16, .inl (cA 0, 5, .inl f16)), (a17, .inl (cA 0, 5, .inl f17)), (pa, .inr (2, ps)), (p10, .inl (cA 0, 6, .inl g10)), (p12, .inl (cA 0, 6, .inl g12)), (p16, .inl (cA 0, 10, .inl g16))] H := hP
  have hD : va_D A [(h0, .inr (6, fs111)), (a8, .inl (cA 0, 6, .inl f150)), (a9, .inl (cA 0, 6, .inl f152)), (a10, .inl (cA 0, 6, .inl f153)), (a11, .inl (cA 0, 6, .inl f154)), (a12, .inl (cA 0, 10, .inl f178)), (a13, .inl (cA 0, 10, .inl f179)), (a14, .inl (cA 0, 10, .inl ((upd f175 (4 : Int32).toNatClampNeg (-1))))), (a16, .inl (cA 0, 5, .inl f16)), (a17, .inl (cA 0, 5, .inl f17)), (pa, .inr (2, ps)), (p10, .inl (cA 0, 6, .inl g10)), (p12, .inl (cA 0, 6, .inl g12)), (p16, .inl (cA 0, 10, .inl g16))] := hD
  generalize (upd f175 (4 : Int32).toNatClampNeg (-1)) = f180 at hP hD
  refine lv_iinc (v := 5) (lv' := [(2, .int 5), (0, .ref h0), (1, .ref pa)]) hx hb dX6_begin_125 hl (k := 0) rfl (by decide) (by decide) rfl (fun ls hl => ?_)
  refine lv_goto (tgt := 93) hx hb dX6_begin_128 (by decide) ?_
  refine lv_iload_n hx hb dX6_begin_93 rfl (lv_at hl 0 rfl) ?_
  refine lv_bipush (v := 10) hx hb dX6_begin_94 (by decide) ?_
  refine lv_icmp_ge (tgt := 131) hx hb dX6_begin_96 (by decide) (fun c181 => absurd c181 (by decide)) (fun c181 => ?_)
  refine lv_aload_n hx hb dX6_begin_99 rfl (lv_at hl 1 rfl) ?_
  refine va_get (D := G) (ci := 6) (v := .ref a12) (C := RX6) (T := TX6) (N := 20) hx hb hT ku_6 hown hK hP 0 rfl rfl 12 (by decide) (hT _ kw_7_11) (fun _ h9 => h9) (fh_at hf 10 rfl) dX6_begin_100 ?_
  refine lv_iload_n hx hb dX6_begin_103 rfl (lv_at hl 0 rfl) ?_
  refine lv_aload_n hx hb dX6_begin_104 rfl (lv_at hl 2 rfl) ?_
  refine va_get (D := G) (ci := 2) (v := .ref p16) (C := RX2) (T := TX2) (N := 19) hx hb hT ku_2 hown hK hP 10 rfl rfl 16 (by decide) (hT _ kw_8_12) (fun _ h9 => h9) (fh_at hp 5 rfl) dX6_begin_105 ?_
  refine lv_iload_n hx hb dX6_begin_108 rfl (lv_at hl 0 rfl) ?_
  refine va_iald (i := 5) hx hb hK hP 13 0 rfl rfl (tq_in (by decide)) dX6_begin_109 ?_
  refine lv_topi (fun x182 ex182 => ?_)
  refine va_iast (i := 5) hx hb hK hP hD hS 5 0 rfl rfl (tq_in (by decide)) dX6_begin_110 (fun H locs hP hD hS => ?_)
  have hP : va_P G vwCl [(h0, .inr (6, fs111)), (a8, .inl (cA 0, 6, .inl f150)), (a9, .inl (cA 0, 6, .inl f152)), (a10, .inl (cA 0, 6, .inl f153)), (a11, .inl (cA 0, 6, .inl f154)), (a12, .inl (cA 0, 10, .inl ((upd f178 (5 : Int32).toNatClampNeg x182)))), (a13, .inl (cA 0, 10, .inl f179)), (a14, .inl (cA 0, 10, .inl f180)), (a16, .inl (cA 0, 5, .inl f16)), (a17, .inl (cA 0, 5, .inl f17)), (pa, .inr (2, ps)), (p10, .inl (cA 0, 6, .inl g10)), (p12, .inl (cA 0, 6, .inl g12)), (p16, .inl (cA 0, 10, .inl g16))] H := hP
  have hD : va_D A [(h0, .inr (6, fs111)), (a8, .inl (cA 0, 6, .inl f150)), (a9, .inl (cA 0, 6, .inl f152)), (a10, .inl (cA 0, 6, .inl f153)), (a11, .inl (cA 0, 6, .inl f154)), (a12, .inl (cA 0, 10, .inl ((upd f178 (5 : Int32).toNatClampNeg x182)))), (a13, .inl (cA 0, 10, .inl f179)), (a14, .inl (cA 0, 10, .inl f180)), (a16, .inl (cA 0, 5, .inl f16)), (a17, .inl (cA 0, 5, .inl f17)), (pa, .inr (2, ps)), (p10, .inl (cA 0, 6, .inl g10)), (p12, .inl (cA 0, 6, .inl g12)), (p16, .inl (cA 0, 10, .inl g16))] := hD
  generalize (upd f178 (5 : Int32).toNatClampNeg x182) = f183 at hP hD
  refine lv_aload_n hx hb dX6_begin_111 rfl (lv_at hl 1 rfl) ?_
  refine va_get (D := G) (ci := 6) (v := .ref a13) (C := RX6) (T := TX6) (N := 20) hx hb hT ku_6 hown hK hP 0 rfl rfl 13 (by decide) (hT _ kw_7_12) (fun _ h9 => h9) (fh_at hf 11 rfl) dX6_begin_112 ?_
  refine lv_iload_n hx hb dX6_begin_115 rfl (lv_at hl 0 rfl) ?_
  refine lv_iconst (v := 0) hx hb dX6_begin_116 (by decide) ?_
  refine va_iast (i := 5) hx hb hK hP hD hS 6 0 rfl rfl (tq_in (by decide)) dX6_begin_117 (fun H locs hP hD hS => ?_)
  have hP : va_P G vwCl [(h0, .inr (6, fs111)), (a8, .inl (cA 0, 6, .inl f150)), (a9, .inl (cA 0, 6, .inl f152)), (a10, .inl (cA 0, 6, .inl f153)), (a11, .inl (cA 0, 6, .inl f154)), (a12, .inl (cA 0, 10, .inl f183)), (a13, .inl (cA 0, 10, .inl ((upd f179 (5 : Int32).toNatClampNeg 0)))), (a14, .inl (cA 0, 10, .inl f180)), (a16, .inl (cA 0, 5, .inl f16)), (a17, .inl (cA 0, 5, .inl f17)), (pa, .inr (2, ps)), (p10, .inl (cA 0, 6, .inl g10)), (p12, .inl (cA 0, 6, .inl g12)), (p16, .inl (cA 0, 10, .inl g16))] H := hP
  have hD : va_D A [(h0, .inr (6, fs111)), (a8, .inl (cA 0, 6, .inl f150)), (a9, .inl (cA 0, 6, .inl f152)), (a10, .inl (cA 0, 6, .inl f153)), (a11, .inl (cA 0, 6, .inl f154)), (a12, .inl (cA 0, 10, .inl f183)), (a13, .inl (cA 0, 10, .inl ((upd f179 (5 : Int32).toNatClampNeg 0)))), (a14, .inl (cA 0, 10, .inl f180)), (a16, .inl (cA 0, 5, .inl f16)), (a17, .inl (cA 0, 5, .inl f17)), (pa, .inr (2, ps)), (p10, .inl (cA 0, 6, .inl g10)), (p12, .inl (cA 0, 6, .inl g12)), (p16, .inl (cA 0, 10, .inl g16))] := hD
  generalize (upd f179 (5 : Int32).toNatClampNeg 0) = f184 at hP hD
  refine lv_aload_n hx hb dX6_begin_118 rfl (lv_at hl 1 rfl) ?_
  refine va_get (D := G) (ci := 6) (v := .ref a14) (C := RX6) (T := TX6) (N := 20) hx hb hT ku_6 hown hK hP 0 rfl rfl 14 (by decide) (hT _ kw_7_13) (fun _ h9 => h9) (fh_at hf 12 rfl) dX6_begin_119 ?_
  refine lv_iload_n hx hb dX6_begin_122 rfl (lv_at hl 0 rfl) ?_
  refine lv_iconst (v := (-1)) hx hb dX6_begin_123 (by decide) ?_
  refine va_iast (i := 5) hx hb hK hP hD hS 7 0 rfl rfl (tq_in (by decide)) dX6_begin_124 (fun H locs hP hD hS => ?_)
  have hP : va_P G vwCl [(h0, .inr (6, fs111)), (a8, .inl (cA 0, 6, .inl f150)), (a9, .inl (cA 0, 6, .inl f152)), (a10, .inl (cA 0, 6, .inl f153)), (a11, .inl (cA 0, 6, .inl f154)), (a12, .inl (cA 0, 10, .inl f183)), (a13, .inl (cA 0, 10, .inl f184)), (a14, .inl (cA 0, 10, .inl ((upd f180 (5 : Int32).toNatClampNeg (-1))))), (a16, .inl (cA 0, 5, .inl f16)), (a17, .inl (cA 0, 5, .inl f17)), (pa, .inr (2, ps)), (p10, .inl (cA 0, 6, .inl g10)), (p12, .inl (cA 0, 6, .inl g12)), (p16, .inl (cA 0, 10, .inl g16))] H := hP
  have hD : va_D A [(h0, .inr (6, fs111)), (a8, .inl (cA 0, 6, .inl f150)), (a9, .inl (cA 0, 6, .inl f152)), (a10, .inl (cA 0, 6, .inl f153)), (a11, .inl (cA 0, 6, .inl f154)), (a12, .inl (cA 0, 10, .inl f183)), (a13, .inl (cA 0, 10, .inl f184)), (a14, .inl (cA 0, 10, .inl ((upd f180 (5 : Int32).toNatClampNeg (-1))))), (a16, .inl (cA 0, 5, .inl f16)), (a17, .inl (cA 0, 5, .inl f17)), (pa, .inr (2, ps)), (p10, .inl (cA 0, 6, .inl g10)), (p12, .inl (cA 0, 6, .inl g12)), (p16, .inl (cA 0, 10, .inl g16))] := hD
  generalize (upd f180 (5 : Int32).toNatClampNeg (-1)) = f185 at hP hD
  refine lv_iinc (v := 6) (lv' := [(2, .int 6), (0, .ref h0), (1, .ref pa)]) hx hb dX6_begin_125 hl (k := 0) rfl (by decide) (by decide) rfl (fun ls hl => ?_)
  refine lv_goto (tgt := 93) hx hb dX6_begin_128 (by decide) ?_
  refine lv_iload_n hx hb dX6_begin_93 rfl (lv_at hl 0 rfl) ?_
  refine lv_bipush (v := 10) hx hb dX6_begin_94 (by decide) ?_
  refine lv_icmp_ge (tgt := 131) hx hb dX6_begin_96 (by decide) (fun c186 => absurd c186 (by decide)) (fun c186 => ?_)
  refine lv_aload_n hx hb dX6_begin_99 rfl (lv_at hl 1 rfl) ?_
  refine va_get (D := G) (ci := 6) (v := .ref a12) (C := RX6) (T := TX6) (N := 20) hx hb hT ku_6 hown hK hP 0 rfl rfl 12 (by decide) (hT _ kw_7_11) (fun _ h9 => h9) (fh_at hf 10 rfl) dX6_begin_100 ?_
  refine lv_iload_n hx hb dX6_begin_103 rfl (lv_at hl 0 rfl) ?_
  refine lv_aload_n hx hb dX6_begin_104 rfl (lv_at hl 2 rfl) ?_
  refine va_get (D := G) (ci := 2) (v := .ref p16) (C := RX2) (T := TX2) (N := 19) hx hb hT ku_2 hown hK hP 10 rfl rfl 16 (by decide) (hT _ kw_8_12) (fun _ h9 => h9) (fh_at hp 5 rfl) dX6_begin_105 ?_
  refine lv_iload_n hx hb dX6_begin_108 rfl (lv_at hl 0 rfl) ?_
  refine va_iald (i := 6) hx hb hK hP 13 0 rfl rfl (tq_in (by decide)) dX6_begin_109 ?_
  refine lv_topi (fun x187 ex187 => ?_)
  refine va_iast (i := 6) hx hb hK hP hD hS 5 0 rfl rfl (tq_in (by decide)) dX6_begin_110 (fun H locs hP hD hS => ?_)
  have hP : va_P G vwCl [(h0, .inr (6, fs111)), (a8, .inl (cA 0, 6, .inl f150)), (a9, .inl (cA 0, 6, .inl f152)), (a10, .inl (cA 0, 6, .inl f153)), (a11, .inl (cA 0, 6, .inl f154)), (a12, .inl (cA 0, 10, .inl ((upd f183 (6 : Int32).toNatClampNeg x187)))), (a13, .inl (cA 0, 10, .inl f184)), (a14, .inl (cA 0, 10, .inl f185)), (a16, .inl (cA 0, 5, .inl f16)), (a17, .inl (cA 0, 5, .inl f17)), (pa, .inr (2, ps)), (p10, .inl (cA 0, 6, .inl g10)), (p12, .inl (cA 0, 6, .inl g12)), (p16, .inl (cA 0, 10, .inl g16))] H := hP
  have hD : va_D A [(h0, .inr (6, fs111)), (a8, .inl (cA 0, 6, .inl f150)), (a9, .inl (cA 0, 6, .inl f152)), (a10, .inl (cA 0, 6, .inl f153)), (a11, .inl (cA 0, 6, .inl f154)), (a12, .inl (cA 0, 10, .inl ((upd f183 (6 : Int32).toNatClampNeg x187)))), (a13, .inl (cA 0, 10, .inl f184)), (a14, .inl (cA 0, 10, .inl f185)), (a16, .inl (cA 0, 5, .inl f16)), (a17, .inl (cA 0, 5, .inl f17)), (pa, .inr (2, ps)), (p10, .inl (cA 0, 6, .inl g10)), (p12, .inl (cA 0, 6, .inl g12)), (p16, .inl (cA 0, 10, .inl g16))] := hD
  generalize (upd f183 (6 : Int32).toNatClampNeg x187) = f188 at hP hD
  refine lv_aload_n hx hb dX6_begin_111 rfl (lv_at hl 1 rfl) ?_
  refine va_get (D := G) (ci := 6) (v := .ref a13) (C := RX6) (T := TX6) (N := 20) hx hb hT ku_6 hown hK hP 0 rfl rfl 13 (by decide) (hT _ kw_7_12) (fun _ h9 => h9) (fh_at hf 11 rfl) dX6_begin_112 ?_
  refine lv_iload_n hx hb dX6_begin_115 rfl (lv_at hl 0 rfl) ?_
  refine lv_iconst (v := 0) hx hb dX6_begin_116 (by decide) ?_
  refine va_iast (i := 6) hx hb hK hP hD hS 6 0 rfl rfl (tq_in (by decide)) dX6_begin_117 (fun H locs hP hD hS => ?_)
  have hP : va_P G vwCl [(h0, .inr (6, fs111)), (a8, .inl (cA 0, 6, .inl f150)), (a9, .inl (cA 0, 6, .inl f152)), (a10, .inl (cA 0, 6, .inl f153)), (a11, .inl (cA 0, 6, .inl f154)), (a12, .inl (cA 0, 10, .inl f188)), (a13, .inl (cA 0, 10, .inl ((upd f184 (6 : Int32).toNatClampNeg 0)))), (a14, .inl (cA 0, 10, .inl f185)), (a16, .inl (cA 0, 5, .inl f16)), (a17, .inl (cA 0, 5, .inl f17)), (pa, .inr (2, ps)), (p10, .inl (cA 0, 6, .inl g10)), (p12, .inl (cA 0, 6, .inl g12)), (p16, .inl (cA 0, 10, .inl g16))] H := hP
  have hD : va_D A [(h0, .inr (6, fs111)), (a8, .inl (cA 0, 6, .inl f150)), (a9, .inl (cA 0, 6, .inl f152)), (a10, .inl (cA 0, 6, .inl f153)), (a11, .inl (cA 0, 6, .inl f154)), (a12, .inl (cA 0, 10, .inl f188)), (a13, .inl (cA 0, 10, .inl ((upd f184 (6 : Int32).toNatClampNeg 0)))), (a14, .inl (cA 0, 10, .inl f185)), (a16, .inl (cA 0, 5, .inl f16)), (a17, .inl (cA 0, 5, .inl f17)), (pa, .inr (2, ps)), (p10, .inl (cA 0, 6, .inl g10)), (p12, .inl (cA 0, 6, .inl g12)), (p16, .inl (cA 0, 10, .inl g16))] := hD
  generalize (upd f184 (6 : Int32).toNatClampNeg 0) = f189 at hP hD
  refine lv_aload_n hx hb dX6_begin_118 rfl (lv_at hl 1 rfl) ?_
  refine va_get (D := G) (ci := 6) (v := .ref a14) (C := RX6) (T := TX6) (N := 20) hx hb hT ku_6 hown hK hP 0 rfl rfl 14 (by decide) (hT _ kw_7_13) (fun _ h9 => h9) (fh_at hf 12 rfl) dX6_begin_119 ?_
  refine lv_iload_n hx hb dX6_begin_122 rfl (lv_at hl 0 rfl) ?_
  refine lv_iconst (v := (-1)) hx hb dX6_begin_123 (by decide) ?_
  refine va_iast (i := 6) hx hb hK hP hD hS 7 0 rfl rfl (tq_in (by decide)) dX6_begin_124 (fun H locs hP hD hS => ?_)
  have hP : va_P G vwCl [(h0, .inr (6, fs111)), (a8, .inl (cA 0, 6, .inl f150)), (a9, .inl (cA 0, 6, .inl f152)), (a10, .inl (cA 0, 6, .inl f153)), (a11, .inl (cA 0, 6, .inl f154)), (a12, .inl (cA 0, 10, .inl f188)), (a13, .inl (cA 0, 10, .inl f189)), (a14, .inl (cA 0, 10, .inl ((upd f185 (6 : Int32).toNatClampNeg (-1))))), (a16, .inl (cA 0, 5, .inl f16)), (a17, .inl (cA 0, 5, .inl f17)), (pa, .inr (2, ps)), (p10, .inl (cA 0, 6, .inl g10)), (p12, .inl (cA 0, 6, .inl g12)), (p16, .inl (cA 0, 10, .inl g16))] H := hP
  have hD : va_D A [(h0, .inr (6, fs111)), (a8, .inl (cA 0, 6, .inl f150)), (a9, .inl (cA 0, 6, .inl f152)), (a10, .inl (cA 0, 6, .inl f153)), (a11, .inl (cA 0, 6, .inl f154)), (a12, .inl (cA 0, 10, .inl f188)), (a13, .inl (cA 0, 10, .inl f189)), (a14, .inl (cA 0, 10, .inl ((upd f185 (6 : Int32).toNatClampNeg (-1))))), (a16, .inl (cA 0, 5, .inl f16)), (a17, .inl (cA 0, 5, .inl f17)), (pa, .inr (2, ps)), (p10, .inl (cA 0, 6, .inl g10)), (p12, .inl (cA 0, 6, .inl g12)), (p16, .inl (cA 0, 10, .inl g16))] := hD
  generalize (upd f185 (6 : Int32).toNatClampNeg (-1)) = f190 at hP hD
  refine lv_iinc (v := 7) (lv' := [(2, .int 7), (0, .ref h0), (1, .ref pa)]) hx hb dX6_begin_125 hl (k := 0) rfl (by decide) (by decide) rfl (fun ls hl => ?_)
  refine lv_goto (tgt := 93) hx hb dX6_begin_128 (by decide) ?_
  refine lv_iload_n hx hb dX6_begin_93 rfl (lv_at hl 0 rfl) ?_
  refine lv_bipush (v := 10) hx hb dX6_begin_94 (by decide) ?_
  refine lv_icmp_ge (tgt := 131) hx hb dX6_begin_96 (by decide) (fun c191 => absurd c191 (by decide)) (fun c191 => ?_)
  refine lv_aload_n hx hb dX6_begin_99 rfl (lv_at hl 1 rfl) ?_
  refine va_get (D := G) (ci := 6) (v := .ref a12) (C := RX6) (T := TX6) (N := 20) hx hb hT ku_6 hown hK hP 0 rfl rfl 12 (by decide) (hT _ kw_7_11) (fun _ h9 => h9) (fh_at hf 10 rfl) dX6_begin_100 ?_
  refine lv_iload_n hx hb dX6_begin_103 rfl (lv_at hl 0 rfl) ?_
  refine lv_aload_n hx hb dX6_begin_104 rfl (lv_at hl 2 rfl) ?_
  refine va_get (D := G) (ci := 2) (v := .ref p16) (C := RX2) (T := TX2) (N := 19) hx hb hT ku_2 hown hK hP 10 rfl rfl 16 (by decide) (hT _ kw_8_12) (fun _ h9 => h9) (fh_at hp 5 rfl) dX6_begin_105 ?_
  refine lv_iload_n hx hb dX6_begin_108 rfl (lv_at hl 0 rfl) ?_
  refine va_iald (i := 7) hx hb hK hP 13 0 rfl rfl (tq_in (by decide)) dX6_begin_109 ?_
  refine lv_topi (fun x192 ex192 => ?_)
  refine va_iast (i := 7) hx hb hK hP hD hS 5 0 rfl rfl (tq_in (by decide)) dX6_begin_110 (fun H locs hP hD hS => ?_)
  have hP : va_P G vwCl [(h0, .inr (6, fs111)), (a8, .inl (cA 0, 6, .inl f150)), (a9, .inl (cA 0, 6, .inl f152)), (a10, .inl (cA 0, 6, .inl f153)), (a11, .inl (cA 0, 6, .inl f154)), (a12, .inl (cA 0, 10, .inl ((upd f188 (7 : Int32).toNatClampNeg x192)))), (a13, .inl (cA 0, 10, .inl f189)), (a14, .inl (cA 0, 10, .inl f190)), (a16, .inl (cA 0, 5, .inl f16)), (a17, .inl (cA 0, 5, .inl f17)), (pa, .inr (2, ps)), (p10, .inl (cA 0, 6, .inl g10)), (p12, .inl (cA 0, 6, .inl g12)), (p16, .inl (cA 0, 10, .inl g16))] H := hP
  have hD : va_D A [(h0, .inr (6, fs111)), (a8, .inl (cA 0, 6, .inl f150)), (a9, .inl (cA 0, 6, .inl f152)), (a10, .inl (cA 0, 6, .inl f153)), (a11, .inl (cA 0, 6, .inl f154)), (a12, .inl (cA 0, 10, .inl ((upd f188 (7 : Int32).toNatClampNeg x192)))), (a13, .inl (cA 0, 10, .inl f189)), (a14, .inl (cA 0, 10, .inl f190)), (a16, .inl (cA 0, 5, .inl f16)), (a17, .inl (cA 0, 5, .inl f17)), (pa, .inr (2, ps)), (p10, .inl (cA 0, 6, .inl g10)), (p12, .inl (cA 0, 6, .inl g12)), (p16, .inl (cA 0, 10, .inl g16))] := hD
  generalize (upd f188 (7 : Int32).toNatClampNeg x192) = f193 at hP hD
  refine lv_aload_n hx hb dX6_begin_111 rfl (lv_at hl 1 rfl) ?_
  refine va_get (D := G) (ci := 6) (v := .ref a13) (C := RX6) (T := TX6) (N := 20) hx hb hT ku_6 hown hK hP 0 rfl rfl 13 (by decide) (hT _ kw_7_12) (fun _ h9 => h9) (fh_at hf 11 rfl) dX6_begin_112 ?_
  refine lv_iload_n hx hb dX6_begin_115 rfl (lv_at hl 0 rfl) ?_
  refine lv_iconst (v := 0) hx hb dX6_begin_116 (by decide) ?_
  refine va_iast (i := 7) hx hb hK hP hD hS 6 0 rfl rfl (tq_in (by decide)) dX6_begin_117 (fun H locs hP hD hS => ?_)
  have hP : va_P G vwCl [(h0, .inr (6, fs111)), (a8, .inl (cA 0, 6, .inl f150)), (a9, .inl (cA 0, 6, .inl f152)), (a10, .inl (cA 0, 6, .inl f153)), (a11, .inl (cA 0, 6, .inl f154)), (a12, .inl (cA 0, 10, .inl f193)), (a13, .inl (cA 0, 10, .inl ((upd f189 (7 : Int32).toNatClampNeg 0)))), (a14, .inl (cA 0, 10, .inl f190)), (a16, .inl (cA 0, 5, .inl f16)), (a17, .inl (cA 0, 5, .inl f17)), (pa, .inr (2, ps)), (p10, .inl (cA 0, 6, .inl g10)), (p12, .inl (cA 0, 6, .inl g12)), (p16, .inl (cA 0, 10, .inl g16))] H := hP
  have hD : va_D A [(h0, .inr (6, fs111)), (a8, .inl (cA 0, 6, .inl f150)), (a9, .inl (cA 0, 6, .inl f152)), (a10, .inl (cA 0, 6, .inl f153)), (a11, .inl (cA 0, 6, .inl f154)), (a12, .inl (cA 0, 10, .inl f193)), (a13, .inl (cA 0, 10, .inl ((upd f189 (7 : Int32).toNatClampNeg 0)))), (a14, .inl (cA 0, 10, .inl f190)), (a16, .inl (cA 0, 5, .inl f16)), (a17, .inl (cA 0, 5, .inl f17)), (pa, .inr (2, ps)), (p10, .inl (cA 0, 6, .inl g10)), (p12, .inl (cA 0, 6, .inl g12)), (p16, .inl (cA 0, 10, .inl g16))] := hD
  generalize (upd f189 (7 : Int32).toNatClampNeg 0) = f194 at hP hD
  refine lv_aload_n hx hb dX6_begin_118 rfl (lv_at hl 1 rfl) ?_
  refine va_get (D := G) (ci := 6) (v := .ref a14) (C := RX6) (T := TX6) (N := 20) hx hb hT ku_6 hown hK hP 0 rfl rfl 14 (by decide) (hT _ kw_7_13) (fun _ h9 => h9) (fh_at hf 12 rfl) dX6_begin_119 ?_
  refine lv_iload_n hx hb dX6_begin_122 rfl (lv_at hl 0 rfl) ?_
  refine lv_iconst (v := (-1)) hx hb dX6_begin_123 (by decide) ?_
  refine va_iast (i := 7) hx hb hK hP hD hS 7 0 rfl rfl (tq_in (by decide)) dX6_begin_124 (fun H locs hP hD hS => ?_)
  have hP : va_P G vwCl [(h0, .inr (6, fs111)), (a8, .inl (cA 0, 6, .inl f150)), (a9, .inl (cA 0, 6, .inl f152)), (a10, .inl (cA 0, 6, .inl f153)), (a11, .inl (cA 0, 6, .inl f154)), (a12, .inl (cA 0, 10, .inl f193)), (a13, .inl (cA 0, 10, .inl f194)), (a14, .inl (cA 0, 10, .inl ((upd f190 (7 : Int32).toNatClampNeg (-1))))), (a16, .inl (cA 0, 5, .inl f16)), (a17, .inl (cA 0, 5, .inl f17)), (pa, .inr (2, ps)), (p10, .inl (cA 0, 6, .inl g10)), (p12, .inl (cA 0, 6, .inl g12)), (p16, .inl (cA 0, 10, .inl g16))] H := hP
  have hD : va_D A [(h0, .inr (6, fs111)), (a8, .inl (cA 0, 6, .inl f150)), (a9, .inl (cA 0, 6, .inl f152)), (a10, .inl (cA 0, 6, .inl f153)), (a11, .inl (cA 0, 6, .inl f154)), (a12, .inl (cA 0, 10, .inl f193)), (a13, .inl (cA 0, 10, .inl f194)), (a14, .inl (cA 0, 10, .inl ((upd f190 (7 : Int32).toNatClampNeg (-1))))), (a16, .inl (cA 0, 5, .inl f16)), (a17, .inl (cA 0, 5, .inl f17)), (pa, .inr (2, ps)), (p10, .inl (cA 0, 6, .inl g10)), (p12, .inl (cA 0, 6, .inl g12)), (p16, .inl (cA 0, 10, .inl g16))] := hD
  generalize (upd f190 (7 : Int32).toNatClampNeg (-1)) = f195 at hP hD
  refine lv_iinc (v := 8) (lv' := [(2, .int 8), (0, .ref h0), (1, .ref pa)]) hx hb dX6_begin_125 hl (k := 0) rfl (by decide) (by decide) rfl (fun ls hl => ?_)
  refine lv_goto (tgt := 93) hx hb dX6_begin_128 (by decide) ?_
  refine lv_iload_n hx hb dX6_begin_93 rfl (lv_at hl 0 rfl) ?_
  refine lv_bipush (v := 10) hx hb dX6_begin_94 (by decide) ?_
  refine lv_icmp_ge (tgt := 131) hx hb dX6_begin_96 (by decide) (fun c196 => absurd c196 (by decide)) (fun c196 => ?_)
  refine lv_aload_n hx hb dX6_begin_99 rfl (lv_at hl 1 rfl) ?_
  refine va_get (D := G) (ci := 6) (v := .ref a12) (C := RX6) (T := TX6) (N := 20) hx hb hT ku_6 hown hK hP 0 rfl rfl 12 (by decide) (hT _ kw_7_11) (fun _ h9 => h9) (fh_at hf 10 rfl) dX6_begin_100 ?_
  refine lv_iload_n hx hb dX6_begin_103 rfl (lv_at hl 0 rfl) ?_
  refine lv_aload_n hx hb dX6_begin_104 rfl (lv_at hl 2 rfl) ?_
  refine va_get (D := G) (ci := 2) (v := .ref p16) (C := RX2) (T := TX2) (N := 19) hx hb hT ku_2 hown hK hP 10 rfl rfl 16 (by decide) (hT _ kw_8_12) (fun _ h9 => h9) (fh_at hp 5 rfl) dX6_begin_105 ?_
  refine lv_iload_n hx hb dX6_begin_108 rfl (lv_at hl 0 rfl) ?_
  refine va_iald (i := 8) hx hb hK hP 13 0 rfl rfl (tq_in (by decide)) dX6_begin_109 ?_
  refine lv_topi (fun x197 ex197 => ?_)
  refine va_iast (i := 8) hx hb hK hP hD hS 5 0 rfl rfl (tq_in (by decide)) dX6_begin_110 (fun H locs hP hD hS => ?_)
  have hP : va_P G vwCl [(h0, .inr (6, fs111)), (a8, .inl (cA 0, 6, .inl f150)), (a9, .inl (cA 0, 6, .inl f152)), (a10, .inl (cA 0, 6, .inl f153)), (a11, .inl (cA 0, 6, .inl f154)), (a12, .inl (cA 0, 10, .inl ((upd f193 (8 : Int32).toNatClampNeg x197)))), (a13, .inl (cA 0, 10, .inl f194)), (a14, .inl (cA 0, 10, .inl f195)), (a16, .inl (cA 0, 5, .inl f16)), (a17, .inl (cA 0, 5, .inl f17)), (pa, .inr (2, ps)), (p10, .inl (cA 0, 6, .inl g10)), (p12, .inl (cA 0, 6, .inl g12)), (p16, .inl (cA 0, 10, .inl g16))] H := hP
  have hD : va_D A [(h0, .inr (6, fs111)), (a8, .inl (cA 0, 6, .inl f150)), (a9, .inl (cA 0, 6, .inl f152)), (a10, .inl (cA 0, 6, .inl f153)), (a11, .inl (cA 0, 6, .inl f154)), (a12, .inl (cA 0, 10, .inl ((upd f193 (8 : Int32).toNatClampNeg x197)))), (a13, .inl (cA 0, 10, .inl f194)), (a14, .inl (cA 0, 10, .inl f195)), (a16, .inl (cA 0, 5, .inl f16)), (a17, .inl (cA 0, 5, .inl f17)), (pa, .inr (2, ps)), (p10, .inl (cA 0, 6, .inl g10)), (p12, .inl (cA 0, 6, .inl g12)), (p16, .inl (cA 0, 10, .inl g16))] := hD
  generalize (upd f193 (8 : Int32).toNatClampNeg x197) = f198 at hP hD
  refine lv_aload_n hx hb dX6_begin_111 rfl (lv_at hl 1 rfl) ?_
  refine va_get (D := G) (ci := 6) (v := .ref a13) (C := RX6) (T := TX6) (N := 20) hx hb hT ku_6 hown hK hP 0 rfl rfl 13 (by decide) (hT _ kw_7_12) (fun _ h9 => h9) (fh_at hf 11 rfl) dX6_begin_112 ?_
  refine lv_iload_n hx hb dX6_begin_115 rfl (lv_at hl 0 rfl) ?_
  refine lv_iconst (v := 0) hx hb dX6_begin_116 (by decide) ?_
  refine va_iast (i := 8) hx hb hK hP hD hS 6 0 rfl rfl (tq_in (by decide)) dX6_begin_117 (fun H locs hP hD hS => ?_)
  have hP : va_P G vwCl [(h0, .inr (6, fs111)), (a8, .inl (cA 0, 6, .inl f150)), (a9, .inl (cA 0, 6, .inl f152)), (a10, .inl (cA 0, 6, .inl f153)), (a11, .inl (cA 0, 6, .inl f154)), (a12, .inl (cA 0, 10, .inl f198)), (a13, .inl (cA 0, 10, .inl ((upd f194 (8 : Int32).toNatClampNeg 0)))), (a14, .inl (cA 0, 10, .inl f195)), (a16, .inl (cA 0, 5, .inl f16)), (a17, .inl (cA 0, 5, .inl f17)), (pa, .inr (2, ps)), (p10, .inl (cA 0, 6, .inl g10)), (p12, .inl (cA 0, 6, .inl g12)), (p16, .inl (cA 0, 10, .inl g16))] H := hP
  have hD : va_D A [(h0, .inr (6, fs111)), (a8, .inl (cA 0, 6, .inl f150)), (a9, .inl (cA 0, 6, .inl f152)), (a10, .inl (cA 0, 6, .inl f153)), (a11, .inl (cA 0, 6, .inl f154)), (a12, .inl (cA 0, 10, .inl f198)), (a13, .inl (cA 0, 10, .inl ((upd f194 (8 : Int32).toNatClampNeg 0)))), (a14, .inl (cA 0, 10, .inl f195)), (a16, .inl (cA 0, 5, .inl f16)), (a17, .inl (cA 0, 5, .inl f17)), (pa, .inr (2, ps)), (p10, .inl (cA 0, 6, .inl g10)), (p12, .inl (cA 0, 6, .inl g12)), (p16, .inl (cA 0, 10, .inl g16))] := hD
  generalize (upd f194 (8 : Int32).toNatClampNeg 0) = f199 at hP hD
  refine lv_aload_n hx hb dX6_begin_118 rfl (lv_at hl 1 rfl) ?_
  refine va_get (D := G) (ci := 6) (v := .ref a14) (C := RX6) (T := TX6) (N := 20) hx hb hT ku_6 hown hK hP 0 rfl rfl 14 (by decide) (hT _ kw_7_13) (fun _ h9 => h9) (fh_at hf 12 rfl) dX6_begin_119 ?_
  refine lv_iload_n hx hb dX6_begin_122 rfl (lv_at hl 0 rfl) ?_
  refine lv_iconst (v := (-1)) hx hb dX6_begin_123 (by decide) ?_
  refine va_iast (i := 8) hx hb hK hP hD hS 7 0 rfl rfl (tq_in (by decide)) dX6_begin_124 (fun H locs hP hD hS => ?_)
  have hP : va_P G vwCl [(h0, .inr (6, fs111)), (a8, .inl (cA 0, 6, .inl f150)), (a9, .inl (cA 0, 6, .inl f152)), (a10, .inl (cA 0, 6, .inl f153)), (a11, .inl (cA 0, 6, .inl f154)), (a12, .inl (cA 0, 10, .inl f198)), (a13, .inl (cA 0, 10, .inl f199)), (a14, .inl (cA 0, 10, .inl ((upd f195 (8 : Int32).toNatClampNeg (-1))))), (a16, .inl (cA 0, 5, .inl f16)), (a17, .inl (cA 0, 5, .inl f17)), (pa, .inr (2, ps)), (p10, .inl (cA 0, 6, .inl g10)), (p12, .inl (cA 0, 6, .inl g12)), (p16, .inl (cA 0, 10, .inl g16))] H := hP
  have hD : va_D A [(h0, .inr (6, fs111)), (a8, .inl (cA 0, 6, .inl f150)), (a9, .inl (cA 0, 6, .inl f152)), (a10, .inl (cA 0, 6, .inl f153)), (a11, .inl (cA 0, 6, .inl f154)), (a12, .inl (cA 0, 10, .inl f198)), (a13, .inl (cA 0, 10, .inl f199)), (a14, .inl (cA 0, 10, .inl ((upd f195 (8 : Int32).toNatClampNeg (-1))))), (a16, .inl (cA 0, 5, .inl f16)), (a17, .inl (cA 0, 5, .inl f17)), (pa, .inr (2, ps)), (p10, .inl (cA 0, 6, .inl g10)), (p12, .inl (cA 0, 6, .inl g12)), (p16, .inl (cA 0, 10, .inl g16))] := hD
  generalize (upd f195 (8 : Int32).toNatClampNeg (-1)) = f200 at hP hD
  refine lv_iinc (v := 9) (lv' := [(2, .int 9), (0, .ref h0), (1, .ref pa)]) hx hb dX6_begin_125 hl (k := 0) rfl (by decide) (by decide) rfl (fun ls hl => ?_)
  refine lv_goto (tgt := 93) hx hb dX6_begin_128 (by decide) ?_
  refine lv_iload_n hx hb dX6_begin_93 rfl (lv_at hl 0 rfl) ?_
  refine lv_bipush (v := 10) hx hb dX6_begin_94 (by decide) ?_
  refine lv_icmp_ge (tgt := 131) hx hb dX6_begin_96 (by decide) (fun c201 => absurd c201 (by decide)) (fun c201 => ?_)
  refine lv_aload_n hx hb dX6_begin_99 rfl (lv_at hl 1 rfl) ?_
  refine va_get (D := G) (ci := 6) (v := .ref a12) (C := RX6) (T := TX6) (N := 20) hx hb hT ku_6 hown hK hP 0 rfl rfl 12 (by decide) (hT _ kw_7_11) (fun _ h9 => h9) (fh_at hf 10 rfl) dX6_begin_100 ?_
  refine lv_iload_n hx hb dX6_begin_103 rfl (lv_at hl 0 rfl) ?_
  refine lv_aload_n hx hb dX6_begin_104 rfl (lv_at hl 2 rfl) ?_
  refine va_get (D := G) (ci := 2) (v := .ref p16) (C := RX2) (T := TX2) (N := 19) hx hb hT ku_2 hown hK hP 10 rfl rfl 16 (by decide) (hT _ kw_8_12) (fun _ h9 => h9) (fh_at hp 5 rfl) dX6_begin_105 ?_
  refine lv_iload_n hx hb dX6_begin_108 rfl (lv_at hl 0 rfl) ?_
  refine va_iald (i := 9) hx hb hK hP 13 0 rfl rfl (tq_in (by decide)) dX6_begin_109 ?_
  refine lv_topi (fun x202 ex202 => ?_)
  refine va_iast (i := 9) hx hb hK hP hD hS 5 0 rfl rfl (tq_in (by decide)) dX6_begin_110 (fun H locs hP hD hS => ?_)
  have hP : va_P G vwCl [(h0, .inr (6, fs111)), (a8, .inl (cA 0, 6, .inl f150)), (a9, .inl (cA 0, 6, .inl f152)), (a10, .inl (cA 0, 6, .inl f153)), (a11, .inl (cA 0, 6, .inl f154)), (a12, .inl (cA 0, 10, .inl ((upd f198 (9 : Int32).toNatClampNeg x202)))), (a13, .inl (cA 0, 10, .inl f199)), (a14, .inl (cA 0, 10, .inl f200)), (a16, .inl (cA 0, 5, .inl f16)), (a17, .inl (cA 0, 5, .inl f17)), (pa, .inr (2, ps)), (p10, .inl (cA 0, 6, .inl g10)), (p12, .inl (cA 0, 6, .inl g12)), (p16, .inl (cA 0, 10, .inl g16))] H := hP
  have hD : va_D A [(h0, .inr (6, fs111)), (a8, .inl (cA 0, 6, .inl f150)), (a9, .inl (cA 0, 6, .inl f152)), (a10, .inl (cA 0, 6, .inl f153)), (a11, .inl (cA 0, 6, .inl f154)), (a12, .inl (cA 0, 10, .inl ((upd f198 (9 : Int32).toNatClampNeg x202)))), (a13, .inl (cA 0, 10, .inl f199)), (a14, .inl (cA 0, 10, .inl f200)), (a16, .inl (cA 0, 5, .inl f16)), (a17, .inl (cA 0, 5, .inl f17)), (pa, .inr (2, ps)), (p10, .inl (cA 0, 6, .inl g10)), (p12, .inl (cA 0, 6, .inl g12)), (p16, .inl (cA 0, 10, .inl g16))] := hD
  generalize (upd f198 (9 : Int32).toNatClampNeg x202) = f203 at hP hD
  refine lv_aload_n hx hb dX6_begin_111 rfl (lv_at hl 1 rfl) ?_
  refine va_get (D := G) (ci := 6) (v := .ref a13) (C := RX6) (T := TX6) (N := 20) hx hb hT ku_6 hown hK hP 0 rfl rfl 13 (by decide) (hT _ kw_7_12) (fun _ h9 => h9) (fh_at hf 11 rfl) dX6_begin_112 ?_
  refine lv_iload_n hx hb dX6_begin_115 rfl (lv_at hl 0 rfl) ?_
  refine lv_iconst (v := 0) hx hb dX6_begin_116 (by decide) ?_
  refine va_iast (i := 9) hx hb hK hP hD hS 6 0 rfl rfl (tq_in (by decide)) dX6_begin_117 (fun H locs hP hD hS => ?_)
  have hP : va_P G vwCl [(h0, .inr (6, fs111)), (a8, .inl (cA 0, 6, .inl f150)), (a9, .inl (cA 0, 6, .inl f152)), (a10, .inl (cA 0, 6, .inl f153)), (a11, .inl (cA 0, 6, .inl f154)), (a12, .inl (cA 0, 10, .inl f203)), (a13, .inl (cA 0, 10, .inl ((upd f199 (9 : Int32).toNatClampNeg 0)))), (a14, .inl (cA 0, 10, .inl f200)), (a16, .inl (cA 0, 5, .inl f16)), (a17, .inl (cA 0, 5, .inl f17)), (pa, .inr (2, ps)), (p10, .inl (cA 0, 6, .inl g10)), (p12, .inl (cA 0, 6, .inl g12)), (p16, .inl (cA 0, 10, .inl g16))] H := hP
  have hD : va_D A [(h0, .inr (6, fs111)), (a8, .inl (cA 0, 6, .inl f150)), (a9, .inl (cA 0, 6, .inl f152)), (a10, .inl (cA 0, 6, .inl f153)), (a11, .inl (cA 0, 6, .inl f154)), (a12, .inl (cA 0, 10, .inl f203)), (a13, .inl (cA 0, 10, .inl ((upd f199 (9 : Int32).toNatClampNeg 0)))), (a14, .inl (cA 0, 10, .inl f200)), (a16, .inl (cA 0, 5, .inl f16)), (a17, .inl (cA 0, 5, .inl f17)), (pa, .inr (2, ps)), (p10, .inl (cA 0, 6, .inl g10)), (p12, .inl (cA 0, 6, .inl g12)), (p16, .inl (cA 0, 10, .inl g16))] := hD
  generalize (upd f199 (9 : Int32).toNatClampNeg 0) = f204 at hP hD
  refine lv_aload_n hx hb dX6_begin_118 rfl (lv_at hl 1 rfl) ?_
  refine va_get (D := G) (ci := 6) (v := .ref a14) (C := RX6) (T := TX6) (N := 20) hx hb hT ku_6 hown hK hP 0 rfl rfl 14 (by decide) (hT _ kw_7_13) (fun _ h9 => h9) (fh_at hf 12 rfl) dX6_begin_119 ?_
  refine lv_iload_n hx hb dX6_begin_122 rfl (lv_at hl 0 rfl) ?_
  refine lv_iconst (v := (-1)) hx hb dX6_begin_123 (by decide) ?_
  refine va_iast (i := 9) hx hb hK hP hD hS 7 0 rfl rfl (tq_in (by decide)) dX6_begin_124 (fun H locs hP hD hS => ?_)
  have hP : va_P G vwCl [(h0, .inr (6, fs111)), (a8, .inl (cA 0, 6, .inl f150)), (a9, .inl (cA 0, 6, .inl f152)), (a10, .inl (cA 0, 6, .inl f153)), (a11, .inl (cA 0, 6, .inl f154)), (a12, .inl (cA 0, 10, .inl f203)), (a13, .inl (cA 0, 10, .inl f204)), (a14, .inl (cA 0, 10, .inl ((upd f200 (9 : Int32).toNatClampNeg (-1))))), (a16, .inl (cA 0, 5, .inl f16)), (a17, .inl (cA 0, 5, .inl f17)), (pa, .inr (2, ps)), (p10, .inl (cA 0, 6, .inl g10)), (p12, .inl (cA 0, 6, .inl g12)), (p16, .inl (cA 0, 10, .inl g16))] H := hP
  have hD : va_D A [(h0, .inr (6, fs111)), (a8, .inl (cA 0, 6, .inl f150)), (a9, .inl (cA 0, 6, .inl f152)), (a10, .inl (cA 0, 6, .inl f153)), (a11, .inl (cA 0, 6, .inl f154)), (a12, .inl (cA 0, 10, .inl f203)), (a13, .inl (cA 0, 10, .inl f204)), (a14, .inl (cA 0, 10, .inl ((upd f200 (9 : Int32).toNatClampNeg (-1))))), (a16, .inl (cA 0, 5, .inl f16)), (a17, .inl (cA 0, 5, .inl f17)), (pa, .inr (2, ps)), (p10, .inl (cA 0, 6, .inl g10)), (p12, .inl (cA 0, 6, .inl g12)), (p16, .inl (cA 0, 10, .inl g16))] := hD
  generalize (upd f200 (9 : Int32).toNatClampNeg (-1)) = f205 at hP hD
  refine lv_iinc (v := 10) (lv' := [(2, .int 10), (0, .ref h0), (1, .ref pa)]) hx hb dX6_begin_125 hl (k := 0) rfl (by decide) (by decide) rfl (fun ls hl => ?_)
  refine lv_goto (tgt := 93) hx hb dX6_begin_128 (by decide) ?_
  refine lv_iload_n hx hb dX6_begin_93 rfl (lv_at hl 0 rfl) ?_
  refine lv_bipush (v := 10) hx hb dX6_begin_94 (by decide) ?_
  refine lv_icmp_ge (tgt := 131) hx hb dX6_begin_96 (by decide) (fun c206 => ?_) (fun c206 => absurd (by decide) c206)
  refine lv_iconst (v := 0) hx hb dX6_begin_131 (by decide) ?_
  refine lv_istore_n (lv' := [(2, .int 0), (0, .ref h0), (1, .ref pa)]) hx hb dX6_begin_132 rfl hl (by decide) rfl (fun ls hl => ?_)
  refine lv_iload_n hx hb dX6_begin_133 rfl (lv_at hl 0 rfl) ?_
  refine lv_iconst (v := 5) hx hb dX6_begin_134 (by decide) ?_
  refine lv_icmp_ge (tgt := 158) hx hb dX6_begin_135 (by decide) (fun c207 => absurd c207 (by decide)) (fun c207 => ?_)
  refine lv_aload_n hx hb dX6_begin_138 rfl (lv_at hl 1 rfl) ?_
  refine va_get (D := G) (ci := 6) (v := .ref a16) (C := RX6) (T := TX6) (N := 20) hx hb hT ku_6 hown hK hP 0 rfl rfl 16 (by decide) (hT _ kw_7_15) (fun _ h9 => h9) (fh_at hf 13 rfl) dX6_begin_139 ?_
  refine lv_iload_n hx hb dX6_begin_142 rfl (lv_at hl 0 rfl) ?_
  refine lv_iconst (v := 0) hx hb dX6_begin_143 (by decide) ?_
  refine va_iast (i := 0) hx hb hK hP hD hS 8 0 rfl rfl (tq_in (by decide)) dX6_begin_144 (fun H locs hP hD hS => ?_)
  have hP : va_P G vwCl [(h0, .inr (6, fs111)), (a8, .inl (cA 0, 6, .inl f150)), (a9, .inl (cA 0, 6, .inl f152)), (a10, .inl (cA 0, 6, .inl f153)), (a11, .inl (cA 0, 6, .inl f154)), (a12, .inl (cA 0, 10, .inl f203)), (a13, .inl (cA 0, 10, .inl f204)), (a14, .inl (cA 0, 10, .inl f205)), (a16, .inl (cA 0, 5, .inl ((upd f16 (0 : Int32).toNatClampNeg 0)))), (a17, .inl (cA 0, 5, .inl f17)), (pa, .inr (2, ps)), (p10, .inl (cA 0, 6, .inl g10)), (p12, .inl (cA 0, 6, .inl g12)), (p16, .inl (cA 0, 10, .inl g16))] H := hP
  have hD : va_D A [(h0, .inr (6, fs111)), (a8, .inl (cA 0, 6, .inl f150)), (a9, .inl (cA 0, 6, .inl f152)), (a10, .inl (cA 0, 6, .inl f153)), (a11, .inl (cA 0, 6, .inl f154)), (a12, .inl (cA 0, 10, .inl f203)), (a13, .inl (cA 0, 10, .inl f204)), (a14, .inl (cA 0, 10, .inl f205)), (a16, .inl (cA 0, 5, .inl ((upd f16 (0 : Int32).toNatClampNeg 0)))), (a17, .inl (cA 0, 5, .inl f17)), (pa, .inr (2, ps)), (p10, .inl (cA 0, 6, .inl g10)), (p12, .inl (cA 0, 6, .inl g12)), (p16, .inl (cA 0, 10, .inl g16))] := hD
  generalize (upd f16 (0 : Int32).toNatClampNeg 0) = f208 at hP hD
  refine lv_aload_n hx hb dX6_begin_145 rfl (lv_at hl 1 rfl) ?_
  refine va_get (D := G) (ci := 6) (v := .ref a17) (C := RX6) (T := TX6) (N := 20) hx hb hT ku_6 hown hK hP 0 rfl rfl 17 (by decide) (hT _ kw_7_16) (fun _ h9 => h9) (fh_at hf 14 rfl) dX6_begin_146 ?_
  refine lv_iload_n hx hb dX6_begin_149 rfl (lv_at hl 0 rfl) ?_
  refine lv_iconst (v := 0) hx hb dX6_begin_150 (by decide) ?_
  refine va_iast (i := 0) hx hb hK hP hD hS 9 0 rfl rfl (tq_in (by decide)) dX6_begin_151 (fun H locs hP hD hS => ?_)
  have hP : va_P G vwCl [(h0, .inr (6, fs111)), (a8, .inl (cA 0, 6, .inl f150)), (a9, .inl (cA 0, 6, .inl f152)), (a10, .inl (cA 0, 6, .inl f153)), (a11, .inl (cA 0, 6, .inl f154)), (a12, .inl (cA 0, 10, .inl f203)), (a13, .inl (cA 0, 10, .inl f204)), (a14, .inl (cA 0, 10, .inl f205)), (a16, .inl (cA 0, 5, .inl f208)), (a17, .inl (cA 0, 5, .inl ((upd f17 (0 : Int32).toNatClampNeg 0)))), (pa, .inr (2, ps)), (p10, .inl (cA 0, 6, .inl g10)), (p12, .inl (cA 0, 6, .inl g12)), (p16, .inl (cA 0, 10, .inl g16))] H := hP
  have hD : va_D A [(h0, .inr (6, fs111)), (a8, .inl (cA 0, 6, .inl f150)), (a9, .inl (cA 0, 6, .inl f152)), (a10, .inl (cA 0, 6, .inl f153)), (a11, .inl (cA 0, 6, .inl f154)), (a12, .inl (cA 0, 10, .inl f203)), (a13, .inl (cA 0, 10, .inl f204)), (a14, .inl (cA 0, 10, .inl f205)), (a16, .inl (cA 0, 5, .inl f208)), (a17, .inl (cA 0, 5, .inl ((upd f17 (0 : Int32).toNatClampNeg 0)))), (pa, .inr (2, ps)), (p10, .inl (cA 0, 6, .inl g10)), (p12, .inl (cA 0, 6, .inl g12)), (p16, .inl (cA 0, 10, .inl g16))] := hD
  generalize (upd f17 (0 : Int32).toNatClampNeg 0) = f209 at hP hD
  refine lv_iinc (v := 1) (lv' := [(2, .int 1), (0, .ref h0), (1, .ref pa)]) hx hb dX6_begin_152 hl (k := 0) rfl (by decide) (by decide) rfl (fun ls hl => ?_)
  refine lv_goto (tgt := 133) hx hb dX6_begin_155 (by decide) ?_
  refine lv_iload_n hx hb dX6_begin_133 rfl (lv_at hl 0 rfl) ?_
  refine lv_iconst (v := 5) hx hb dX6_begin_134 (by decide) ?_
  refine lv_icmp_ge (tgt := 158) hx hb dX6_begin_135 (by decide) (fun c210 => absurd c210 (by decide)) (fun c210 => ?_)
  refine lv_aload_n hx hb dX6_begin_138 rfl (lv_at hl 1 rfl) ?_
  refine va_get (D := G) (ci := 6) (v := .ref a16) (C := RX6) (T := TX6) (N := 20) hx hb hT ku_6 hown hK hP 0 rfl rfl 16 (by decide) (hT _ kw_7_15) (fun _ h9 => h9) (fh_at hf 13 rfl) dX6_begin_139 ?_
  refine lv_iload_n hx hb dX6_begin_142 rfl (lv_at hl 0 rfl) ?_
  refine lv_iconst (v := 0) hx hb dX6_begin_143 (by decide) ?_
  refine va_iast (i := 1) hx hb hK hP hD hS 8 0 rfl rfl (tq_in (by decide)) dX6_begin_144 (fun H locs hP hD hS => ?_)
  have hP : va_P G vwCl [(h0, .inr (6, fs111)), (a8, .inl (cA 0, 6, .inl f150)), (a9, .inl (cA 0, 6, .inl f152)), (a10, .inl (cA 0, 6, .inl f153)), (a11, .inl (cA 0, 6, .inl f154)), (a12, .inl (cA 0, 10, .inl f203)), (a13, .inl (cA 0, 10, .inl f204)), (a14, .inl (cA 0, 10, .inl f205)), (a16, .inl (cA 0, 5, .inl ((upd f208 (1 : Int32).toNatClampNeg 0)))), (a17, .inl (cA 0, 5, .inl f209)), (pa, .inr (2, ps)), (p10, .inl (cA 0, 6, .inl g10)), (p12, .inl (cA 0, 6, .inl g12)), (p16, .inl (cA 0, 10, .inl g16))] H := hP
  have hD : va_D A [(h0, .inr (6, fs111)), (a8, .inl (cA 0, 6, .inl f150)), (a9, .inl (cA 0, 6, .inl f152)), (a10, .inl (cA 0, 6, .inl f153)), (a11, .inl (cA 0, 6, .inl f154)), (a12, .inl (cA 0, 10, .inl f203)), (a13, .inl (cA 0, 10, .inl f204)), (a14, .inl (cA 0, 10, .inl f205)), (a16, .inl (cA 0, 5, .inl ((upd f208 (1 : Int32).toNatClampNeg 0)))), (a17, .inl (cA 0, 5, .inl f209)), (pa, .inr (2, ps)), (p10, .inl (cA 0, 6, .inl g10)), (p12, .inl (cA 0, 6, .inl g12)), (p16, .inl (cA 0, 10, .inl g16))] := hD
  generalize (upd f208 (1 : Int32).toNatClampNeg 0) = f211 at hP hD
  refine lv_aload_n hx hb dX6_begin_145 rfl (lv_at hl 1 rfl) ?_
  refine va_get (D := G) (ci := 6) (v := .ref a17) (C := RX6) (T := TX6) (N := 20) hx hb hT ku_6 hown hK hP 0 rfl rfl 17 (by decide) (hT _ kw_7_16) (fun _ h9 => h9) (fh_at hf 14 rfl) dX6_begin_146 ?_
  refine lv_iload_n hx hb dX6_begin_149 rfl (lv_at hl 0 rfl) ?_
  refine lv_iconst (v := 0) hx hb dX6_begin_150 (by decide) ?_
  refine va_iast (i := 1) hx hb hK hP hD hS 9 0 rfl rfl (tq_in (by decide)) dX6_begin_151 (fun H locs hP hD hS => ?_)
  have hP : va_P G vwCl [(h0, .inr (6, fs111)), (a8, .inl (cA 0, 6, .inl f150)), (a9, .inl (cA 0, 6, .inl f152)), (a10, .inl (cA 0, 6, .inl f153)), (a11, .inl (cA 0, 6, .inl f154)), (a12, .inl (cA 0, 10, .inl f203)), (a13, .inl (cA 0, 10, .inl f204)), (a14, .inl (cA 0, 10, .inl f205)), (a16, .inl (cA 0, 5, .inl f211)), (a17, .inl (cA 0, 5, .inl ((upd f209 (1 : Int32).toNatClampNeg 0)))), (pa, .inr (2, ps)), (p10, .inl (cA 0, 6, .inl g10)), (p12, .inl (cA 0, 6, .inl g12)), (p16, .inl (cA 0, 10, .inl g16))] H := hP
  have hD : va_D A [(h0, .inr (6, fs111)), (a8, .inl (cA 0, 6, .inl f150)), (a9, .inl (cA 0, 6, .inl f152)), (a10, .inl (cA 0, 6, .inl f153)), (a11, .inl (cA 0, 6, .inl f154)), (a12, .inl (cA 0, 10, .inl f203)), (a13, .inl (cA 0, 10, .inl f204)), (a14, .inl (cA 0, 10, .inl f205)), (a16, .inl (cA 0, 5, .inl f211)), (a17, .inl (cA 0, 5, .inl ((upd f209 (1 : Int32).toNatClampNeg 0)))), (pa, .inr (2, ps)), (p10, .inl (cA 0, 6, .inl g10)), (p12, .inl (cA 0, 6, .inl g12)), (p16, .inl (cA 0, 10, .inl g16))] := hD
  generalize (upd f209 (1 : Int32).toNatClampNeg 0) = f212 at hP hD
  refine lv_iinc (v := 2) (lv' := [(2, .int 2), (0, .ref h0), (1, .ref pa)]) hx hb dX6_begin_152 hl (k := 0) rfl (by decide) (by decide) rfl (fun ls hl => ?_)
  refine lv_goto (tgt := 133) hx hb dX6_begin_155 (by decide) ?_
  refine lv_iload_n hx hb dX6_begin_133 rfl (lv_at hl 0 rfl) ?_
  refine lv_iconst (v := 5) hx hb dX6_begin_134 (by decide) ?_
  refine lv_icmp_ge (tgt := 158) hx hb dX6_begin_135 (by decide) (fun c213 => absurd c213 (by decide)) (fun c213 => ?_)
  refine lv_aload_n hx hb dX6_begin_138 rfl (lv_at hl 1 rfl) ?_
  refine va_get (D := G) (ci := 6) (v := .ref a16) (C := RX6) (T := TX6) (N := 20) hx hb hT ku_6 hown hK hP 0 rfl rfl 16 (by decide) (hT _ kw_7_15) (fun _ h9 => h9) (fh_at hf 13 rfl) dX6_begin_139 ?_
  refine lv_iload_n hx hb dX6_begin_142 rfl (lv_at hl 0 rfl) ?_
  refine lv_iconst (v := 0) hx hb dX6_begin_143 (by decide) ?_
  refine va_iast (i := 2) hx hb hK hP hD hS 8 0 rfl rfl (tq_in (by decide)) dX6_begin_144 (fun H locs hP hD hS => ?_)
  have hP : va_P G vwCl [(h0, .inr (6, fs111)), (a8, .inl (cA 0, 6, .inl f150)), (a9, .inl (cA 0, 6, .inl f152)), (a10, .inl (cA 0, 6, .inl f153)), (a11, .inl (cA 0, 6, .inl f154)), (a12, .inl (cA 0, 10, .inl f203)), (a13, .inl (cA 0, 10, .inl f204)), (a14, .inl (cA 0, 10, .inl f205)), (a16, .inl (cA 0, 5, .inl ((upd f211 (2 : Int32).toNatClampNeg 0)))), (a17, .inl (cA 0, 5, .inl f212)), (pa, .inr (2, ps)), (p10, .inl (cA 0, 6, .inl g10)), (p12, .inl (cA 0, 6, .inl g12)), (p16, .inl (cA 0, 10, .inl g16))] H := hP
  have hD : va_D A [(h0, .inr (6, fs111)), (a8, .inl (cA 0, 6, .inl f150)), (a9, .inl (cA 0, 6, .inl f152)), (a10, .inl (cA 0, 6, .inl f153)), (a11, .inl (cA 0, 6, .inl f154)), (a12, .inl (cA 0, 10, .inl f203)), (a13, .inl (cA 0, 10, .inl f204)), (a14, .inl (cA 0, 10, .inl f205)), (a16, .inl (cA 0, 5, .inl ((upd f211 (2 : Int32).toNatClampNeg 0)))), (a17, .inl (cA 0, 5, .inl f212)), (pa, .inr (2, ps)), (p10, .inl (cA 0, 6, .inl g10)), (p12, .inl (cA 0, 6, .inl g12)), (p16, .inl (cA 0, 10, .inl g16))] := hD
  generalize (upd f211 (2 : Int32).toNatClampNeg 0) = f214 at hP hD
  refine lv_aload_n hx hb dX6_begin_145 rfl (lv_at hl 1 rfl) ?_
  refine va_get (D := G) (ci := 6) (v := .ref a17) (C := RX6) (T := TX6) (N := 20) hx hb hT ku_6 hown hK hP 0 rfl rfl 17 (by decide) (hT _ kw_7_16) (fun _ h9 => h9) (fh_at hf 14 rfl) dX6_begin_146 ?_
  refine lv_iload_n hx hb dX6_begin_149 rfl (lv_at hl 0 rfl) ?_
  refine lv_iconst (v := 0) hx hb dX6_begin_150 (by decide) ?_
  refine va_iast (i := 2) hx hb hK hP hD hS 9 0 rfl rfl (tq_in (by decide)) dX6_begin_151 (fun H locs hP hD hS => ?_)
  have hP : va_P G vwCl [(h0, .inr (6, fs111)), (a8, .inl (cA 0, 6, .inl f150)), (a9, .inl (cA 0, 6, .inl f152)), (a10, .inl (cA 0, 6, .inl f153)), (a11, .inl (cA 0, 6, .inl f154)), (a12, .inl (cA 0, 10, .inl f203)), (a13, .inl (cA 0, 10, .inl f204)), (a14, .inl (cA 0, 10, .inl f205)), (a16, .inl (cA 0, 5, .inl f214)), (a17, .inl (cA 0, 5, .inl ((upd f212 (2 : Int32).toNatClampNeg 0)))), (pa, .inr (2, ps)), (p10, .inl (cA 0, 6, .inl g10)), (p12, .inl (cA 0, 6, .inl g12)), (p16, .inl (cA 0, 10, .inl g16))] H := hP
  have hD : va_D A [(h0, .inr (6, fs111)), (a8, .inl (cA 0, 6, .inl f150)), (a9, .inl (cA 0, 6, .inl f152)), (a10, .inl (cA 0, 6, .inl f153)), (a11, .inl (cA 0, 6, .inl f154)), (a12, .inl (cA 0, 10, .inl f203)), (a13, .inl (cA 0, 10, .inl f204)), (a14, .inl (cA 0, 10, .inl f205)), (a16, .inl (cA 0, 5, .inl f214)), (a17, .inl (cA 0, 5, .inl ((upd f212 (2 : Int32).toNatClampNeg 0)))), (pa, .inr (2, ps)), (p10, .inl (cA 0, 6, .inl g10)), (p12, .inl (cA 0, 6, .inl g12)), (p16, .inl (cA 0, 10, .inl g16))] := hD
  generalize (upd f212 (2 : Int32).toNatClampNeg 0) = f215 at hP hD
  refine lv_iinc (v := 3) (lv' := [(2, .int 3), (0, .ref h0), (1, .ref pa)]) hx hb dX6_begin_152 hl (k := 0) rfl (by decide) (by decide) rfl (fun ls hl => ?_)
  refine lv_goto (tgt := 133) hx hb dX6_begin_155 (by decide) ?_
  refine lv_iload_n hx hb dX6_begin_133 rfl (lv_at hl 0 rfl) ?_
  refine lv_iconst (v := 5) hx hb dX6_begin_134 (by decide) ?_
  refine lv_icmp_ge (tgt := 158) hx hb dX6_begin_135 (by decide) (fun c216 => absurd c216 (by decide)) (fun c216 => ?_)
  refine lv_aload_n hx hb dX6_begin_138 rfl (lv_at hl 1 rfl) ?_
  refine va_get (D := G) (ci := 6) (v := .ref a16) (C := RX6) (T := TX6) (N := 20) hx hb hT ku_6 hown hK hP 0 rfl rfl 16 (by decide) (hT _ kw_7_15) (fun _ h9 => h9) (fh_at hf 13 rfl) dX6_begin_139 ?_
  refine lv_iload_n hx hb dX6_begin_142 rfl (lv_at hl 0 rfl) ?_
  refine lv_iconst (v := 0) hx hb dX6_begin_143 (by decide) ?_
  refine va_iast (i := 3) hx hb hK hP hD hS 8 0 rfl rfl (tq_in (by decide)) dX6_begin_144 (fun H locs hP hD hS => ?_)
  have hP : va_P G vwCl [(h0, .inr (6, fs111)), (a8, .inl (cA 0, 6, .inl f150)), (a9, .inl (cA 0, 6, .inl f152)), (a10, .inl (cA 0, 6, .inl f153)), (a11, .inl (cA 0, 6, .inl f154)), (a12, .inl (cA 0, 10, .inl f203)), (a13, .inl (cA 0, 10, .inl f204)), (a14, .inl (cA 0, 10, .inl f205)), (a16, .inl (cA 0, 5, .inl ((upd f214 (3 : Int32).toNatClampNeg 0)))), (a17, .inl (cA 0, 5, .inl f215)), (pa, .inr (2, ps)), (p10, .inl (cA 0, 6, .inl g10)), (p12, .inl (cA 0, 6, .inl g12)), (p16, .inl (cA 0, 10, .inl g16))] H := hP
  have hD : va_D A [(h0, .inr (6, fs111)), (a8, .inl (cA 0, 6, .inl f150)), (a9, .inl (cA 0, 6, .inl f152)), (a10, .inl (cA 0, 6, .inl f153)), (a11, .inl (cA 0, 6, .inl f154)), (a12, .inl (cA 0, 10, .inl f203)), (a13, .inl (cA 0, 10, .inl f204)), (a14, .inl (cA 0, 10, .inl f205)), (a16, .inl (cA 0, 5, .inl ((upd f214 (3 : Int32).toNatClampNeg 0)))), (a17, .inl (cA 0, 5, .inl f215)), (pa, .inr (2, ps)), (p10, .inl (cA 0, 6, .inl g10)), (p12, .inl (cA 0, 6, .inl g12)), (p16, .inl (cA 0, 10, .inl g16))] := hD
  generalize (upd f214 (3 : Int32).toNatClampNeg 0) = f217 at hP hD
  refine lv_aload_n hx hb dX6_begin_145 rfl (lv_at hl 1 rfl) ?_
  refine va_get (D := G) (ci := 6) (v := .ref a17) (C := RX6) (T := TX6) (N := 20) hx hb hT ku_6 hown hK hP 0 rfl rfl 17 (by decide) (hT _ kw_7_16) (fun _ h9 => h9) (fh_at hf 14 rfl) dX6_begin_146 ?_
  refine lv_iload_n hx hb dX6_begin_149 rfl (lv_at hl 0 rfl) ?_
  refine lv_iconst (v := 0) hx hb dX6_begin_150 (by decide) ?_
  refine va_iast (i := 3) hx hb hK hP hD hS 9 0 rfl rfl (tq_in (by decide)) dX6_begin_151 (fun H locs hP hD hS => ?_)
  have hP : va_P G vwCl [(h0, .inr (6, fs111)), (a8, .inl (cA 0, 6, .inl f150)), (a9, .inl (cA 0, 6, .inl f152)), (a10, .inl (cA 0, 6, .inl f153)), (a11, .inl (cA 0, 6, .inl f154)), (a12, .inl (cA 0, 10, .inl f203)), (a13, .inl (cA 0, 10, .inl f204)), (a14, .inl (cA 0, 10, .inl f205)), (a16, .inl (cA 0, 5, .inl f217)), (a17, .inl (cA 0, 5, .inl ((upd f215 (3 : Int32).toNatClampNeg 0)))), (pa, .inr (2, ps)), (p10, .inl (cA 0, 6, .inl g10)), (p12, .inl (cA 0, 6, .inl g12)), (p16, .inl (cA 0, 10, .inl g16))] H := hP
  have hD : va_D A [(h0, .inr (6, fs111)), (a8, .inl (cA 0, 6, .inl f150)), (a9, .inl (cA 0, 6, .inl f152)), (a10, .inl (cA 0, 6, .inl f153)), (a11, .inl (cA 0, 6, .inl f154)), (a12, .inl (cA 0, 10, .inl f203)), (a13, .inl (cA 0, 10, .inl f204)), (a14, .inl (cA 0, 10, .inl f205)), (a16, .inl (cA 0, 5, .inl f217)), (a17, .inl (cA 0, 5, .inl ((upd f215 (3 : Int32).toNatClampNeg 0)))), (pa, .inr (2, ps)), (p10, .inl (cA 0, 6, .inl g10)), (p12, .inl (cA 0, 6, .inl g12)), (p16, .inl (cA 0, 10, .inl g16))] := hD
  generalize (upd f215 (3 : Int32).toNatClampNeg 0) = f218 at hP hD
  refine lv_iinc (v := 4) (lv' := [(2, .int 4), (0, .ref h0), (1, .ref pa)]) hx hb dX6_begin_152 hl (k := 0) rfl (by decide) (by decide) rfl (fun ls hl => ?_)
  refine lv_goto (tgt := 133) hx hb dX6_begin_155 (by decide) ?_
  refine lv_iload_n hx hb dX6_begin_133 rfl (lv_at hl 0 rfl) ?_
  refine lv_iconst (v := 5) hx hb dX6_begin_134 (by decide) ?_
  refine lv_icmp_ge (tgt := 158) hx hb dX6_begin_135 (by decide) (fun c219 => absurd c219 (by decide)) (fun c219 => ?_)
  refine lv_aload_n hx hb dX6_begin_138 rfl (lv_at hl 1 rfl) ?_
  refine va_get (D := G) (ci := 6) (v := .ref a16) (C := RX6) (T := TX6) (N := 20) hx hb hT ku_6 hown hK hP 0 rfl rfl 16 (by decide) (hT _ kw_7_15) (fun _ h9 => h9) (fh_at hf 13 rfl) dX6_begin_139 ?_
  refine lv_iload_n hx hb dX6_begin_142 rfl (lv_at hl 0 rfl) ?_
  refine lv_iconst (v := 0) hx hb dX6_begin_143 (by decide) ?_
  refine va_iast (i := 4) hx hb hK hP hD hS 8 0 rfl rfl (tq_in (by decide)) dX6_begin_144 (fun H locs hP hD hS => ?_)
  have hP : va_P G vwCl [(h0, .inr (6, fs111)), (a8, .inl (cA 0, 6, .inl f150)), (a9, .inl (cA 0, 6, .inl f152)), (a10, .inl (cA 0, 6, .inl f153)), (a11, .inl (cA 0, 6, .inl f154)), (a12, .inl (cA 0, 10, .inl f203)), (a13, .inl (cA 0, 10, .inl f204)), (a14, .inl (cA 0, 10, .inl f205)), (a16, .inl (cA 0, 5, .inl ((upd f217 (4 : Int32).toNatClampNeg 0)))), (a17, .inl (cA 0, 5, .inl f218)), (pa, .inr (2, ps)), (p10, .inl (cA 0, 6, .inl g10)), (p12, .inl (cA 0, 6, .inl g12)), (p16, .inl (cA 0, 10, .inl g16))] H := hP
  have hD : va_D A [(h0, .inr (6, fs111)), (a8, .inl (cA 0, 6, .inl f150)), (a9, .inl (cA 0, 6, .inl f152)), (a10, .inl (cA 0, 6, .inl f153)), (a11, .inl (cA 0, 6, .inl f154)), (a12, .inl (cA 0, 10, .inl f203)), (a13, .inl (cA 0, 10, .inl f204)), (a14, .inl (cA 0, 10, .inl f205)), (a16, .inl (cA 0, 5, .inl ((upd f217 (4 : Int32).toNatClampNeg 0)))), (a17, .inl (cA 0, 5, .inl f218)), (pa, .inr (2, ps)), (p10, .inl (cA 0, 6, .inl g10)), (p12, .inl (cA 0, 6, .inl g12)), (p16, .inl (cA 0, 10, .inl g16))] := hD
  generalize (upd f217 (4 : Int32).toNatClampNeg 0) = f220 at hP hD
  refine lv_aload_n hx hb dX6_begin_145 rfl (lv_at hl 1 rfl) ?_
  refine va_get (D := G) (ci := 6) (v := .ref a17) (C := RX6) (T := TX6) (N := 20) hx hb hT ku_6 hown hK hP 0 rfl rfl 17 (by decide) (hT _ kw_7_16) (fun _ h9 => h9) (fh_at hf 14 rfl) dX6_begin_146 ?_
  refine lv_iload_n hx hb dX6_begin_149 rfl (lv_at hl 0 rfl) ?_
  refine lv_iconst (v := 0) hx hb dX6_begin_150 (by decide) ?_
  refine va_iast (i := 4) hx hb hK hP hD hS 9 0 rfl rfl (tq_in (by decide)) dX6_begin_151 (fun H locs hP hD hS => ?_)
  have hP : va_P G vwCl [(h0, .inr (6, fs111)), (a8, .inl (cA 0, 6, .inl f150)), (a9, .inl (cA 0, 6, .inl f152)), (a10, .inl (cA 0, 6, .inl f153)), (a11, .inl (cA 0, 6, .inl f154)), (a12, .inl (cA 0, 10, .inl f203)), (a13, .inl (cA 0, 10, .inl f204)), (a14, .inl (cA 0, 10, .inl f205)), (a16, .inl (cA 0, 5, .inl f220)), (a17, .inl (cA 0, 5, .inl ((upd f218 (4 : Int32).toNatClampNeg 0)))), (pa, .inr (2, ps)), (p10, .inl (cA 0, 6, .inl g10)), (p12, .inl (cA 0, 6, .inl g12)), (p16, .inl (cA 0, 10, .inl g16))] H := hP
  have hD : va_D A [(h0, .inr (6, fs111)), (a8, .inl (cA 0, 6, .inl f150)), (a9, .inl (cA 0, 6, .inl f152)), (a10, .inl (cA 0, 6, .inl f153)), (a11, .inl (cA 0, 6, .inl f154)), (a12, .inl (cA 0, 10, .inl f203)), (a13, .inl (cA 0, 10, .inl f204)), (a14, .inl (cA 0, 10, .inl f205)), (a16, .inl (cA 0, 5, .inl f220)), (a17, .inl (cA 0, 5, .inl ((upd f218 (4 : Int32).toNatClampNeg 0)))), (pa, .inr (2, ps)), (p10, .inl (cA 0, 6, .inl g10)), (p12, .inl (cA 0, 6, .inl g12)), (p16, .inl (cA 0, 10, .inl g16))] := hD
  generalize (upd f218 (4 : Int32).toNatClampNeg 0) = f221 at hP hD
  refine lv_iinc (v := 5) (lv' := [(2, .int 5), (0, .ref h0), (1, .ref pa)]) hx hb dX6_begin_152 hl (k := 0) rfl (by decide) (by decide) rfl (fun ls hl => ?_)
  refine lv_goto (tgt := 133) hx hb dX6_begin_155 (by decide) ?_
  refine lv_iload_n hx hb dX6_begin_133 rfl (lv_at hl 0 rfl) ?_
  refine lv_iconst (v := 5) hx hb dX6_begin_134 (by decide) ?_
  refine lv_icmp_ge (tgt := 158) hx hb dX6_begin_135 (by decide) (fun c222 => ?_) (fun c222 => absurd (by decide) c222)
  have qho112 := fo_mono (k2 := [4, 3, 2, 1, 0, 19]) ho112 (by decide)
  exact W.vret hx hb hr (fun t ht hW => ⟨⟨(fs111, f150, f152, f153, f154, f203, f204, f205, f220, f221), rfl, ⟨qho112, fh_sub hf [0, 1, 2, 3, 4, 5] rfl⟩, by rw [ht]; exact hP, hD⟩, hS.F ht⟩) hS.2.2 dX6_begin_158

set_option maxHeartbeats 4000000 in
set_option maxRecDepth 100000 in
theorem c_X6_init (l : Launch) (G : va_G) (cA : Nat → ClassId) (sz : Nat) (h0 : Nat) (pa : Nat) (fs : List Value) (ps : List Value) (p10 : Nat) (p12 : Nat) (p16 : Nat) (g10 : Nat → Int32) (g12 : Nat → Int32) (g16 : Nat → Int32) (hf : fh fs 20 [(0, .int 0), (1, .int 0), (2, .int 0), (3, .int 0), (4, .int 0), (5, .int 0), (6, .int 0), (7, .int 0), (8, .null), (9, .null), (10, .null), (11, .null), (12, .null), (13, .null), (14, .null), (15, .null), (16, .null), (17, .null), (18, .null), (19, .null)]) (hp : fh ps 19 [(4, .int 0), (5, .int 0), (6, .int 0), (10, .ref p10), (12, .ref p12), (16, .ref p16)]) : Met l yX6_init (.code yX6_init cX6_init 2 none :: T0) ({ frames := 1, cells := 11, slots := 121, locals := 22 }) (tqP G cA [.ref h0, .ref pa] [(h0, .inr (6, fs)), (pa, .inr (2, ps)), (p10, .inl (cA 0, 6, .inl g10)), (p12, .inl (cA 0, 6, .inl g12)), (p16, .inl (cA 0, 10, .inl g16))] sz) (tqQv G cA (fun (u : List Value × Nat × (Nat → Int32) × Nat × (Nat → Int32) × Nat × (Nat → Int32) × Nat × (Nat → Int32) × Nat × (Nat → Int32) × Nat × (Nat → Int32) × Nat × (Nat → Int32) × Nat × (Nat → Int32) × Nat × (Nat → Int32) × Nat × (Nat → Int32) × Nat × (Nat → Int32)) => fo fs u.1 [7, 6, 5, 4, 3, 2, 1, 0, 19, 18, 17, 16, 15, 14, 13, 12, 11, 10, 9, 8] ∧ fh u.1 20 [(7, .int 1), (6, .int 1), (5, .int 0), (4, .int 0), (3, .int 0), (2, .int 0), (1, .int 0), (0, .int 0), (19, .ref pa), (18, .ref u.2.2.2.1), (17, .ref u.2.2.2.2.2.2.2.2.2.2.2.2.2.2.2.2.2.2.2.2.2.1), (16, .ref u.2.2.2.2.2.2.2.2.2.2.2.2.2.2.2.2.2.2.2.1), (15, .ref u.2.1), (14, .ref u.2.2.2.2.2.2.2.2.2.2.2.2.2.2.2.2.2.1), (13, .ref u.2.2.2.2.2.2.2.2.2.2.2.2.2.2.2.1), (12, .ref u.2.2.2.2.2.2.2.2.2.2.2.2.2.1), (11, .ref u.2.2.2.2.2.2.2.2.2.2.2.1), (10, .ref u.2.2.2.2.2.2.2.2.2.1), (9, .ref u.2.2.2.2.2.2.2.1), (8, .ref u.2.2.2.2.2.1)]) (fun (u : List Value × Nat × (Nat → Int32) × Nat × (Nat → Int32) × Nat × (Nat → Int32) × Nat × (Nat → Int32) × Nat × (Nat → Int32) × Nat × (Nat → Int32) × Nat × (Nat → Int32) × Nat × (Nat → Int32) × Nat × (Nat → Int32) × Nat × (Nat → Int32) × Nat × (Nat → Int32)) => [(h0, .inr (6, u.1)), (pa, .inr (2, ps)), (p10, .inl (cA 0, 6, .inl g10)), (p12, .inl (cA 0, 6, .inl g12)), (p16, .inl (cA 0, 10, .inl g16)), (u.2.1, .inl (cA 0, 50, .inl u.2.2.1)), (u.2.2.2.1, .inl (cA 0, 7, .inl u.2.2.2.2.1)), (u.2.2.2.2.2.1, .inl (cA 0, 6, .inl u.2.2.2.2.2.2.1)), (u.2.2.2.2.2.2.2.1, .inl (cA 0, 6, .inl u.2.2.2.2.2.2.2.2.1)), (u.2.2.2.2.2.2.2.2.2.1, .inl (cA 0, 6, .inl u.2.2.2.2.2.2.2.2.2.2.1)), (u.2.2.2.2.2.2.2.2.2.2.2.1, .inl (cA 0, 6, .inl u.2.2.2.2.2.2.2.2.2.2.2.2.1)), (u.2.2.2.2.2.2.2.2.2.2.2.2.2.1, .inl (cA 0, 10, .inl u.2.2.2.2.2.2.2.2.2.2.2.2.2.2.1)), (u.2.2.2.2.2.2.2.2.2.2.2.2.2.2.2.1, .inl (cA 0, 10, .inl u.2.2.2.2.2.2.2.2.2.2.2.2.2.2.2.2.1)), (u.2.2.2.2.2.2.2.2.2.2.2.2.2.2.2.2.2.1, .inl (cA 0, 10, .inl u.2.2.2.2.2.2.2.2.2.2.2.2.2.2.2.2.2.2.1)), (u.2.2.2.2.2.2.2.2.2.2.2.2.2.2.2.2.2.2.2.1, .inl (cA 0, 5, .inl u.2.2.2.2.2.2.2.2.2.2.2.2.2.2.2.2.2.2.2.2.1)), (u.2.2.2.2.2.2.2.2.2.2.2.2.2.2.2.2.2.2.2.2.2.1, .inl (cA 0, 5, .inl u.2.2.2.2.2.2.2.2.2.2.2.2.2.2.2.2.2.2.2.2.2.2))]) (va_A [(h0, .inr (6, fs)), (pa, .inr (2, ps)), (p10, .inl (cA 0, 6, .inl g10)), (p12, .inl (cA 0, 6, .inl g12)), (p16, .inl (cA 0, 10, .inl g16))] sz)) 11 121 (va_A [(h0, .inr (6, fs)), (pa, .inr (2, ps)), (p10, .inl (cA 0, 6, .inl g10)), (p12, .inl (cA 0, 6, .inl g12)), (p16, .inl (cA 0, 10, .inl g16))] sz) := by
  refine Met.ofW (cc := cX6_init) (maxL := 2) (ret := none) (by decide) rfl ?_
  intro p e s m args below meth c s₁ B hml hv
  obtain ⟨rfl, hsz, hP, hK, hD0, hN⟩ := hv
  have hx := B.exec
  have hb := B.bytes
  have hr := B.returns
  have hts := atoms_spec (ws := .code yX6_init cX6_init 2 none :: T0) B.pre
  have hT : ∀ w ∈ T0, w.before _ s = true := fun w h => hts w (List.mem_cons_of_mem _ h)
  have hown : s.vm.findClass RX6 = some m.cls := findClass_of_methodNamed B.named
  have hlocks := B.notSynchronized
  have hin : meth.name = "<init>" := (name_of_methodNamed B.named B.method).1
  subst hsz
  have hD := hD0.self (sz := s.heap.size)
  generalize hAe : va_A [(h0, .inr (6, fs)), (pa, .inr (2, ps)), (p10, .inl (cA 0, 6, .inl g10)), (p12, .inl (cA 0, 6, .inl g12)), (p16, .inl (cA 0, 10, .inl g16))] s.heap.size = A at hD ⊢
  have hA : ∀ q : Nat, s.heap.size ≤ q → A q := fun q h => by rw [← hAe]; exact Or.inr h
  have hS : va_S A s.heap s.heap [] := va_S.rf
  have hl := lv_entry ([.ref h0, .ref pa]) (n := 2) (Nat.le_of_ble_eq_true rfl)
  rw [lg_entry_eq]
  generalize (lg_sl ([.ref h0, .ref pa]) ++ List.replicate (2 - (lg_sl ([.ref h0, .ref pa])).length) Slot.unset).toArray = ls at hl ⊢
  have hl : lv_has ls 2 [(0, .ref h0), (1, .ref pa)] := hl
  obtain ⟨H, hH⟩ : ∃ z, z = s.heap := ⟨_, rfl⟩
  rw [← hH] at hP
  have hS : va_S A s.heap H [] := by rw [hH]; exact hS
  suffices hgo : W p l e _ s m _ below meth c H [] 0 0 _ _ by rw [hH] at hgo; exact hgo
  have hO := hN.2.2.2.2
  have ho_hf := fo_refl fs
  have ho_hp := fo_refl ps
  refine lv_aload_n hx hb dX6_init_0 rfl (lv_at hl 0 rfl) ?_
  refine W.objInit hx hb hown (hT _ kw_7_6) (hT _ kw_1_11) (hT _ kw_1_12) rfl (by rw [hml]; exact hl.1) rfl dX6_init_1 (Nat.le_of_ble_eq_true rfl) (Nat.le_of_ble_eq_true rfl) ?_
  refine W.eq (g2 := F0 m 4 ls []) rfl ?_
  refine lv_aload_n hx hb dX6_init_4 rfl (lv_at hl 0 rfl) ?_
  refine lv_bipush (v := 6) hx hb dX6_init_5 (by decide) ?_
  refine tq_newa (atype := .int) (ty := .int) (n := 6) (N' := 6) (a0 := (6, .inl (fun _ => 0))) hx hb (hT _ kw_2_13) rfl hK hP hD hS hA 0 (cA 0) rfl (fun _ => rfl) (by decide) (by decide) (by decide) (Nat.le_of_ble_eq_true rfl) (Nat.le_of_ble_eq_true rfl) dX6_init_7 (fun q101 H hP hD hS => ?_)
  have hP : va_P G vwCl [(h0, .inr (6, fs)), (pa, .inr (2, ps)), (p10, .inl (cA 0, 6, .inl g10)), (p12, .inl (cA 0, 6, .inl g12)), (p16, .inl (cA 0, 10, .inl g16)), (q101, .inl (cA 0, 6, .inl ((fun _ => 0))))] H := hP
  have hD : va_D A [(h0, .inr (6, fs)), (pa, .inr (2, ps)), (p10, .inl (cA 0, 6, .inl g10)), (p12, .inl (cA 0, 6, .inl g12)), (p16, .inl (cA 0, 10, .inl g16)), (q101, .inl (cA 0, 6, .inl ((fun _ => 0))))] := hD
  refine W.widen (k := 1) (n := 6) (Nat.le_of_ble_eq_true rfl) (Nat.le_of_ble_eq_true rfl) ?_
  obtain ⟨f102, ef102⟩ : ∃ z : Nat → Int32, z = (fun _ => 0) := ⟨_, rfl⟩
  rw [← ef102] at hP hD
  refine va_putF (D := G) (ci := 6) (v := .ref q101) (ty := (.array .int)) (C := RX6) (T := TX6) (N := 20) hx hb hT ku_6 tyX6 tyX6_ok nmX6 hown hK hP hD hS 0 rfl rfl 8 (by decide) (hT _ kw_7_7) (fun _ h9 => h9) rfl hin rfl (by decide +kernel) rfl rfl (fh_lt hf (by decide)) dX6_init_9 (fun H locs hP hD hS => ?_)
  have hP : va_P G vwCl [(h0, .inr (6, (fs.set 8 (.ref q101)))), (pa, .inr (2, ps)), (p10, .inl (cA 0, 6, .inl g10)), (p12, .inl (cA 0, 6, .inl g12)), (p16, .inl (cA 0, 10, .inl g16)), (q101, .inl (cA 0, 6, .inl f102))] H := hP
  have hD : va_D A [(h0, .inr (6, (fs.set 8 (.ref q101)))), (pa, .inr (2, ps)), (p10, .inl (cA 0, 6, .inl g10)), (p12, .inl (cA 0, 6, .inl g12)), (p16, .inl (cA 0, 10, .inl g16)), (q101, .inl (cA 0, 6, .inl f102))] := hD
  have hf := fh_set (l' := [(8, .ref q101), (0, .int 0), (1, .int 0), (2, .int 0), (3, .int 0), (4, .int 0), (5, .int 0), (6, .int 0), (7, .int 0), (9, .null), (10, .null), (11, .null), (12, .null), (13, .null), (14, .null), (15, .null), (16, .null), (17, .null), (18, .null), (19, .null)]) hf 8 (.ref q101) (by decide) rfl
  have ho104 := fo_set ho_hf 8 (.ref q101)
  generalize (fs.set 8 (.ref q101)) = fs103 at hP hD hf ho104
  refine lv_aload_n hx hb dX6_init_12 rfl (lv_at hl 0 rfl) ?_
  refine lv_bipush (v := 6) hx hb dX6_init_13 (by decide) ?_
  refine tq_newa (atype := .int) (ty := .int) (n := 6) (N' := 6) (a0 := (6, .inl (fun _ => 0))) hx hb (hT _ kw_2_13) rfl hK hP hD hS hA 0 (cA 0) rfl (fun _ => rfl) (by decide) (by decide) (by decide) (Nat.le_of_ble_eq_true rfl) (Nat.le_of_ble_eq_true rfl) dX6_init_15 (fun q105 H hP hD hS => ?_)
  have hP : va_P G vwCl [(h0, .inr (6, fs103)), (pa, .inr (2, ps)), (p10, .inl (cA 0, 6, .inl g10)), (p12, .inl (cA 0, 6, .inl g12)), (p16, .inl (cA 0, 10, .inl g16)), (q101, .inl (cA 0, 6, .inl f102)), (q105, .inl (cA 0, 6, .inl ((fun _ => 0))))] H := hP
  have hD : va_D A [(h0, .inr (6, fs103)), (pa, .inr (2, ps)), (p10, .inl (cA 0, 6, .inl g10)), (p12, .inl (cA 0, 6, .inl g12)), (p16, .inl (cA 0, 10, .inl g16)), (q101, .inl (cA 0, 6, .inl f102)), (q105, .inl (cA 0, 6, .inl ((fun _ => 0))))] := hD
  refine W.widen (k := 2) (n := 12) (Nat.le_of_ble_eq_true rfl) (Nat.le_of_ble_eq_true rfl) ?_
  obtain ⟨f106, ef106⟩ : ∃ z : Nat → Int32, z = (fun _ => 0) := ⟨_, rfl⟩
  rw [← ef106] at hP hD
  refine va_putF (D := G) (ci := 6) (v := .ref q105) (ty := (.array .int)) (C := RX6) (T := TX6) (N := 20) hx hb hT ku_6 tyX6 tyX6_ok nmX6 hown hK hP hD hS 0 rfl rfl 9 (by decide) (hT _ kw_7_8) (fun _ h9 => h9) rfl hin rfl (by decide +kernel) rfl rfl (fh_lt hf (by decide)) dX6_init_17 (fun H locs hP hD hS => ?_)
  have hP : va_P G vwCl [(h0, .inr (6, (fs103.set 9 (.ref q105)))), (pa, .inr (2, ps)), (p10, .inl (cA 0, 6, .inl g10)), (p12, .inl (cA 0, 6, .inl g12)), (p16, .inl (cA 0, 10, .inl g16)), (q101, .inl (cA 0, 6, .inl f102)), (q105, .inl (cA 0, 6, .inl f106))] H := hP
  have hD : va_D A [(h0, .inr (6, (fs103.set 9 (.ref q105)))), (pa, .inr (2, ps)), (p10, .inl (cA 0, 6, .inl g10)), (p12, .inl (cA 0, 6, .inl g12)), (p16, .inl (cA 0, 10, .inl g16)), (q101, .inl (cA 0, 6, .inl f102)), (q105, .inl (cA 0, 6, .inl f106))] := hD
  have hf := fh_set (l' := [(9, .ref q105), (8, .ref q101), (0, .int 0), (1, .int 0), (2, .int 0), (3, .int 0), (4, .int 0), (5, .int 0), (6, .int 0), (7, .int 0), (10, .null), (11, .null), (12, .null), (13, .null), (14, .null), (15, .null), (16, .null), (17, .null), (18, .null), (19, .null)]) hf 9 (.ref q105) (by decide) rfl
  have ho108 := fo_set ho104 9 (.ref q105)
  generalize (fs103.set 9 (.ref q105)) = fs107 at hP hD hf ho108
  refine lv_aload_n hx hb dX6_init_20 rfl (lv_at hl 0 rfl) ?_
  refine lv_bipush (v := 6) hx hb dX6_init_21 (by decide) ?_
  refine tq_newa (atype := .int) (ty := .int) (n := 6) (N' := 6) (a0 := (6, .inl (fun _ => 0))) hx hb (hT _ kw_2_13) rfl hK hP hD hS hA 0 (cA 0) rfl (fun _ => rfl) (by decide) (by decide) (by decide) (Nat.le_of_ble_eq_true rfl) (Nat.le_of_ble_eq_true rfl) dX6_init_23 (fun q109 H hP hD hS => ?_)
  have hP : va_P G vwCl [(h0, .inr (6, fs107)), (pa, .inr (2, ps)), (p10, .inl (cA 0, 6, .inl g10)), (p12, .inl (cA 0, 6, .inl g12)), (p16, .inl (cA 0, 10, .inl g16)), (q101, .inl (cA 0, 6, .inl f102)), (q105, .inl (cA 0, 6, .inl f106)), (q109, .inl (cA 0, 6, .inl ((fun _ => 0))))] H := hP
  have hD : va_D A [(h0, .inr (6, fs107)), (pa, .inr (2, ps)), (p10, .inl (cA 0, 6, .inl g10)), (p12, .inl (cA 0, 6, .inl g12)), (p16, .inl (cA 0, 10, .inl g16)), (q101, .inl (cA 0, 6, .inl f102)), (q105, .inl (cA 0, 6, .inl f106)), (q109, .inl (cA 0, 6, .inl ((fun _ => 0))))] := hD
  refine W.widen (k := 3) (n := 18) (Nat.le_of_ble_eq_true rfl) (Nat.le_of_ble_eq_true rfl) ?_
  obtain ⟨f110, ef110⟩ : ∃ z : Nat → Int32, z = (fun _ => 0) := ⟨_, rfl⟩
  rw [← ef110] at hP hD
  refine va_putF (D := G) (ci := 6) (v := .ref q109) (ty := (.array .int)) (C := RX6) (T := TX6) (N := 20) hx hb hT ku_6 tyX6 tyX6_ok nmX6 hown hK hP hD hS 0 rfl rfl 10 (by decide) (hT _ kw_7_9) (fun _ h9 => h9) rfl hin rfl (by decide +kernel) rfl rfl (fh_lt hf (by decide)) dX6_init_25 (fun H locs hP hD hS => ?_)
  have hP : va_P G vwCl [(h0, .inr (6, (fs107.set 10 (.ref q109)))), (pa, .inr (2, ps)), (p10, .inl (cA 0, 6, .inl g10)), (p12, .inl (cA 0, 6, .inl g12)), (p16, .inl (cA 0, 10, .inl g16)), (q101, .inl (cA 0, 6, .inl f102)), (q105, .inl (cA 0, 6, .inl f106)), (q109, .inl (cA 0, 6, .inl f110))] H := hP
  have hD : va_D A [(h0, .inr (6, (fs107.set 10 (.ref q109)))), (pa, .inr (2, ps)), (p10, .inl (cA 0, 6, .inl g10)), (p12, .inl (cA 0, 6, .inl g12)), (p16, .inl (cA 0, 10, .inl g16)), (q101, .inl (cA 0, 6, .inl f102)), (q105, .inl (cA 0, 6, .inl f106)), (q109, .inl (cA 0, 6, .inl f110))] := hD
  have hf := fh_set (l' := [(10, .ref q109), (9, .ref q105), (8, .ref q101), (0, .int 0), (1, .int 0), (2, .int 0), (3, .int 0), (4, .int 0), (5, .int 0), (6, .int 0), (7, .int 0), (11, .null), (12, .null), (13, .null), (14, .null), (15, .null), (16, .null), (17, .null), (18, .null), (19, .null)]) hf 10 (.ref q109) (by decide) rfl
  have ho112 := fo_set ho108 10 (.ref q109)
  generalize (fs107.set 10 (.ref q109)) = fs111 at hP hD hf ho112
  refine lv_aload_n hx hb dX6_init_28 rfl (lv_at hl 0 rfl) ?_
  refine lv_bipush (v := 6) hx hb dX6_init_29 (by decide) ?_
  refine tq_newa (atype := .int) (ty := .int) (n := 6) (N' := 6) (a0 := (6, .inl (fun _ => 0))) hx hb (hT _ kw_2_13) rfl hK hP hD hS hA 0 (cA 0) rfl (fun _ => rfl) (by decide) (by decide) (by decide) (Nat.le_of_ble_eq_true rfl) (Nat.le_of_ble_eq_true rfl) dX6_init_31 (fun q113 H hP hD hS => ?_)
  have hP : va_P G vwCl [(h0, .inr (6, fs111)), (pa, .inr (2, ps)), (p10, .inl (cA 0, 6, .inl g10)), (p12, .inl (cA 0, 6, .inl g12)), (p16, .inl (cA 0, 10, .inl g16)), (q101, .inl (cA 0, 6, .inl f102)), (q105, .inl (cA 0, 6, .inl f106)), (q109, .inl (cA 0, 6, .inl f110)), (q113, .inl (cA 0, 6, .inl ((fun _ => 0))))] H := hP
  have hD : va_D A [(h0, .inr (6, fs111)), (pa, .inr (2, ps)), (p10, .inl (cA 0, 6, .inl g10)), (p12, .inl (cA 0, 6, .inl g12)), (p16, .inl (cA 0, 10, .inl g16)), (q101, .inl (cA 0, 6, .inl f102)), (q105, .inl (cA 0, 6, .inl f106)), (q109, .inl (cA 0, 6, .inl f110)), (q113, .inl (cA 0, 6, .inl ((fun _ => 0))))] := hD
  refine W.widen (k := 4) (n := 24) (Nat.le_of_ble_eq_true rfl) (Nat.le_of_ble_eq_true rfl) ?_
  obtain ⟨f114, ef114⟩ : ∃ z : Nat → Int32, z = (fun _ => 0) := ⟨_, rfl⟩
  rw [← ef114] at hP hD
  refine va_putF (D := G) (ci := 6) (v := .ref q113) (ty := (.array .int)) (C := RX6) (T := TX6) (N := 20) hx hb hT ku_6 tyX6 tyX6_ok nmX6 hown hK hP hD hS 0 rfl rfl 11 (by decide) (hT _ kw_7_10) (fun _ h9 => h9) rfl hin rfl (by decide +kernel) rfl rfl (fh_lt hf (by decide)) dX6_init_33 (fun H locs hP hD hS => ?_)
  have hP : va_P G vwCl [(h0, .inr (6, (fs111.set 11 (.ref q113)))), (pa, .inr (2, ps)), (p10, .inl (cA 0, 6, .inl g10)), (p12, .inl (cA 0, 6, .inl g12)), (p16, .inl (cA 0, 10, .inl g16)), (q101, .inl (cA 0, 6, .inl f102)), (q105, .inl (cA 0, 6, .inl f106)), (q109, .inl (cA 0, 6, .inl f110)), (q113, .inl (cA 0, 6, .inl f114))] H := hP
  have hD : va_D A [(h0, .inr (6, (fs111.set 11 (.ref q113)))), (pa, .inr (2, ps)), (p10, .inl (cA 0, 6, .inl g10)), (p12, .inl (cA 0, 6, .inl g12)), (p16, .inl (cA 0, 10, .inl g16)), (q101, .inl (cA 0, 6, .inl f102)), (q105, .inl (cA 0, 6, .inl f106)), (q109, .inl (cA 0, 6, .inl f110)), (q113, .inl (cA 0, 6, .inl f114))] := hD
  have hf := fh_set (l' := [(11, .ref q113), (10, .ref q109), (9, .ref q105), (8, .ref q101), (0, .int 0), (1, .int 0), (2, .int 0), (3, .int 0), (4, .int 0), (5, .int 0), (6, .int 0), (7, .int 0), (12, .null), (13, .null), (14, .null), (15, .null), (16, .null), (17, .null), (18, .null), (19, .null)]) hf 11 (.ref q113) (by decide) rfl
  have ho116 := fo_set ho112 11 (.ref q113)
  generalize (fs111.set 11 (.ref q113)) = fs115 at hP hD hf ho116
  refine lv_aload_n hx hb dX6_init_36 rfl (lv_at hl 0 rfl) ?_
  refine lv_bipush (v := 10) hx hb dX6_init_37 (by decide) ?_
  refine tq_newa (atype := .int) (ty := .int) (n := 10) (N' := 10) (a0 := (10, .inl (fun _ => 0))) hx hb (hT _ kw_2_13) rfl hK hP hD hS hA 0 (cA 0) rfl (fun _ => rfl) (by decide) (by decide) (by decide) (Nat.le_of_ble_eq_true rfl) (Nat.le_of_ble_eq_true rfl) dX6_init_39 (fun q117 H hP hD hS => ?_)
  have hP : va_P G vwCl [(h0, .inr (6, fs115)), (pa, .inr (2, ps)), (p10, .inl (cA 0, 6, .inl g10)), (p12, .inl (cA 0, 6, .inl g12)), (p16, .inl (cA 0, 10, .inl g16)), (q101, .inl (cA 0, 6, .inl f102)), (q105, .inl (cA 0, 6, .inl f106)), (q109, .inl (cA 0, 6, .inl f110)), (q113, .inl (cA 0, 6, .inl f114)), (q117, .inl (cA 0, 10, .inl ((fun _ => 0))))] H := hP
  have hD : va_D A [(h0, .inr (6, fs115)), (pa, .inr (2, ps)), (p10, .inl (cA 0, 6, .inl g10)), (p12, .inl (cA 0, 6, .inl g12)), (p16, .inl (cA 0, 10, .inl g16)), (q101, .inl (cA 0, 6, .inl f102)), (q105, .inl (cA 0, 6, .inl f106)), (q109, .inl (cA 0, 6, .inl f110)), (q113, .inl (cA 0, 6, .inl f114)), (q117, .inl (cA 0, 10, .inl ((fun _ => 0))))] := hD
  refine W.widen (k := 5) (n := 34) (Nat.le_of_ble_eq_true rfl) (Nat.le_of_ble_eq_true rfl) ?_
  obtain ⟨f118, ef118⟩ : ∃ z : Nat → Int32, z = (fun _ => 0) := ⟨_, rfl⟩
  rw [← ef118] at hP hD
  refine va_putF (D := G) (ci := 6) (v := .ref q117) (ty := (.array .int)) (C := RX6) (T := TX6) (N := 20) hx hb hT ku_6 tyX6 tyX6_ok nmX6 hown hK hP hD hS 0 rfl rfl 12 (by decide) (hT _ kw_7_11) (fun _ h9 => h9) rfl hin rfl (by decide +kernel) rfl rfl (fh_lt hf (by decide)) dX6_init_41 (fun H locs hP hD hS => ?_)
  have hP : va_P G vwCl [(h0, .inr (6, (fs115.set 12 (.ref q117)))), (pa, .inr (2, ps)), (p10, .inl (cA 0, 6, .inl g10)), (p12, .inl (cA 0, 6, .inl g12)), (p16, .inl (cA 0, 10, .inl g16)), (q101, .inl (cA 0, 6, .inl f102)), (q105, .inl (cA 0, 6, .inl f106)), (q109, .inl (cA 0, 6, .inl f110)), (q113, .inl (cA 0, 6, .inl f114)), (q117, .inl (cA 0, 10, .inl f118))] H := hP
  have hD : va_D A [(h0, .inr (6, (fs115.set 12 (.ref q117)))), (pa, .inr (2, ps)), (p10, .inl (cA 0, 6, .inl g10)), (p12, .inl (cA 0, 6, .inl g12)), (p16, .inl (cA 0, 10, .inl g16)), (q101, .inl (cA 0, 6, .inl f102)), (q105, .inl (cA 0, 6, .inl f106)), (q109, .inl (cA 0, 6, .inl f110)), (q113, .inl (cA 0, 6, .inl f114)), (q117, .inl (cA 0, 10, .inl f118))] := hD
  have hf := fh_set (l' := [(12, .ref q117), (11, .ref q113), (10, .ref q109), (9, .ref q105), (8, .ref q101), (0, .int 0), (1, .int 0), (2, .int 0), (3, .int 0), (4, .int 0), (5, .int 0), (6, .int 0), (7, .int 0), (13, .null), (14, .null), (15, .null), (16, .null), (17, .null), (18, .null), (19, .null)]) hf 12 (.ref q117) (by decide) rfl
  have ho120 := fo_set ho116 12 (.ref q117)
  generalize (fs115.set 12 (.ref q117)) = fs119 at hP hD hf ho120
  refine lv_aload_n hx hb dX6_init_44 rfl (lv_at hl 0 rfl) ?_
  refine lv_bipush (v := 10) hx hb dX6_init_45 (by decide) ?_
  refine tq_newa (atype := .int) (ty := .int) (n := 10) (N' := 10) (a0 := (10, .inl (fun _ => 0))) hx hb (hT _ kw_2_13) rfl hK hP hD hS hA 0 (cA 0) rfl (fun _ => rfl) (by decide) (by decide) (by decide) (Nat.le_of_ble_eq_true rfl) (Nat.le_of_ble_eq_true rfl) dX6_init_47 (fun q121 H hP hD hS => ?_)
  have hP : va_P G vwCl [(h0, .inr (6, fs119)), (pa, .inr (2, ps)), (p10, .inl (cA 0, 6, .inl g10)), (p12, .inl (cA 0, 6, .inl g12)), (p16, .inl (cA 0, 10, .inl g16)), (q101, .inl (cA 0, 6, .inl f102)), (q105, .inl (cA 0, 6, .inl f106)), (q109, .inl (cA 0, 6, .inl f110)), (q113, .inl (cA 0, 6, .inl f114)), (q117, .inl (cA 0, 10, .inl f118)), (q121, .inl (cA 0, 10, .inl ((fun _ => 0))))] H := hP
  have hD : va_D A [(h0, .inr (6, fs119)), (pa, .inr (2, ps)), (p10, .inl (cA 0, 6, .inl g10)), (p12, .inl (cA 0, 6, .inl g12)), (p16, .inl (cA 0, 10, .inl g16)), (q101, .inl (cA 0, 6, .inl f102)), (q105, .inl (cA 0, 6, .inl f106)), (q109, .inl (cA 0, 6, .inl f110)), (q113, .inl (cA 0, 6, .inl f114)), (q117, .inl (cA 0, 10, .inl f118)), (q121, .inl (cA 0, 10, .inl ((fun _ => 0))))] := hD
  refine W.widen (k := 6) (n := 44) (Nat.le_of_ble_eq_true rfl) (Nat.le_of_ble_eq_true rfl) ?_
  obtain ⟨f122, ef122⟩ : ∃ z : Nat → Int32, z = (fun _ => 0) := ⟨_, rfl⟩
  rw [← ef122] at hP hD
  refine va_putF (D := G) (ci := 6) (v := .ref q121) (ty := (.array .int)) (C := RX6) (T := TX6) (N := 20) hx hb hT ku_6 tyX6 tyX6_ok nmX6 hown hK hP hD hS 0 rfl rfl 13 (by decide) (hT _ kw_7_12) (fun _ h9 => h9) rfl hin rfl (by decide +kernel) rfl rfl (fh_lt hf (by decide)) dX6_init_49 (fun H locs hP hD hS => ?_)
  have hP : va_P G vwCl [(h0, .inr (6, (fs119.set 13 (.ref q121)))), (pa, .inr (2, ps)), (p10, .inl (cA 0, 6, .inl g10)), (p12, .inl (cA 0, 6, .inl g12)), (p16, .inl (cA 0, 10, .inl g16)), (q101, .inl (cA 0, 6, .inl f102)), (q105, .inl (cA 0, 6, .inl f106)), (q109, .inl (cA 0, 6, .inl f110)), (q113, .inl (cA 0, 6, .inl f114)), (q117, .inl (cA 0, 10, .inl f118)), (q121, .inl (cA 0, 10, .inl f122))] H := hP
  have hD : va_D A [(h0, .inr (6, (fs119.set 13 (.ref q121)))), (pa, .inr (2, ps)), (p10, .inl (cA 0, 6, .inl g10)), (p12, .inl (cA 0, 6, .inl g12)), (p16, .inl (cA 0, 10, .inl g16)), (q101, .inl (cA 0, 6, .inl f102)), (q105, .inl (cA 0, 6, .inl f106)), (q109, .inl (cA 0, 6, .inl f110)), (q113, .inl (cA 0, 6, .inl f114)), (q117, .inl (cA 0, 10, .inl f118)), (q121, .inl (cA 0, 10, .inl f122))] := hD
  have hf := fh_set (l' := [(13, .ref q121), (12, .ref q117), (11, .ref q113), (10, .ref q109), (9, .ref q105), (8, .ref q101), (0, .int 0), (1, .int 0), (2, .int 0), (3, .int 0), (4, .int 0), (5, .int 0), (6, .int 0), (7, .int 0), (14, .null), (15, .null), (16, .null), (17, .null), (18, .null), (19, .null)]) hf 13 (.ref q121) (by decide) rfl
  have ho124 := fo_set ho120 13 (.ref q121)
  generalize (fs119.set 13 (.ref q121)) = fs123 at hP hD hf ho124
  refine lv_aload_n hx hb dX6_init_52 rfl (lv_at hl 0 rfl) ?_
  refine lv_bipush (v := 10) hx hb dX6_init_53 (by decide) ?_
  refine tq_newa (atype := .int) (ty := .int) (n := 10) (N' := 10) (a0 := (10, .inl (fun _ => 0))) hx hb (hT _ kw_2_13) rfl hK hP hD hS hA 0 (cA 0) rfl (fun _ => rfl) (by decide) (by decide) (by decide) (Nat.le_of_ble_eq_true rfl) (Nat.le_of_ble_eq_true rfl) dX6_init_55 (fun q125 H hP hD hS => ?_)
  have hP : va_P G vwCl [(h0, .inr (6, fs123)), (pa, .inr (2, ps)), (p10, .inl (cA 0, 6, .inl g10)), (p12, .inl (cA 0, 6, .inl g12)), (p16, .inl (cA 0, 10, .inl g16)), (q101, .inl (cA 0, 6, .inl f102)), (q105, .inl (cA 0, 6, .inl f106)), (q109, .inl (cA 0, 6, .inl f110)), (q113, .inl (cA 0, 6, .inl f114)), (q117, .inl (cA 0, 10, .inl f118)), (q121, .inl (cA 0, 10, .inl f122)), (q125, .inl (cA 0, 10, .inl ((fun _ => 0))))] H := hP
  have hD : va_D A [(h0, .inr (6, fs123)), (pa, .inr (2, ps)), (p10, .inl (cA 0, 6, .inl g10)), (p12, .inl (cA 0, 6, .inl g12)), (p16, .inl (cA 0, 10, .inl g16)), (q101, .inl (cA 0, 6, .inl f102)), (q105, .inl (cA 0, 6, .inl f106)), (q109, .inl (cA 0, 6, .inl f110)), (q113, .inl (cA 0, 6, .inl f114)), (q117, .inl (cA 0, 10, .inl f118)), (q121, .inl (cA 0, 10, .inl f122)), (q125, .inl (cA 0, 10, .inl ((fun _ => 0))))] := hD
  refine W.widen (k := 7) (n := 54) (Nat.le_of_ble_eq_true rfl) (Nat.le_of_ble_eq_true rfl) ?_
  obtain ⟨f126, ef126⟩ : ∃ z : Nat → Int32, z = (fun _ => 0) := ⟨_, rfl⟩
  rw [← ef126] at hP hD
  refine va_putF (D := G) (ci := 6) (v := .ref q125) (ty := (.array .int)) (C := RX6) (T := TX6) (N := 20) hx hb hT ku_6 tyX6 tyX6_ok nmX6 hown hK hP hD hS 0 rfl rfl 14 (by decide) (hT _ kw_7_13) (fun _ h9 => h9) rfl hin rfl (by decide +kernel) rfl rfl (fh_lt hf (by decide)) dX6_init_57 (fun H locs hP hD hS => ?_)
  have hP : va_P G vwCl [(h0, .inr (6, (fs123.set 14 (.ref q125)))), (pa, .inr (2, ps)), (p10, .inl (cA 0, 6, .inl g10)), (p12, .inl (cA 0, 6, .inl g12)), (p16, .inl (cA 0, 10, .inl g16)), (q101, .inl (cA 0, 6, .inl f102)), (q105, .inl (cA 0, 6, .inl f106)), (q109, .inl (cA 0, 6, .inl f110)), (q113, .inl (cA 0, 6, .inl f114)), (q117, .inl (cA 0, 10, .inl f118)), (q121, .inl (cA 0, 10, .inl f122)), (q125, .inl (cA 0, 10, .inl f126))] H := hP
  have hD : va_D A [(h0, .inr (6, (fs123.set 14 (.ref q125)))), (pa, .inr (2, ps)), (p10, .inl (cA 0, 6, .inl g10)), (p12, .inl (cA 0, 6, .inl g12)), (p16, .inl (cA 0, 10, .inl g16)), (q101, .inl (cA 0, 6, .inl f102)), (q105, .inl (cA 0, 6, .inl f106)), (q109, .inl (cA 0, 6, .inl f110)), (q113, .inl (cA 0, 6, .inl f114)), (q117, .inl (cA 0, 10, .inl f118)), (q121, .inl (cA 0, 10, .inl f122)), (q125, .inl (cA 0, 10, .inl f126))] := hD
  have hf := fh_set (l' := [(14, .ref q125), (13, .ref q121), (12, .ref q117), (11, .ref q113), (10, .ref q109), (9, .ref q105), (8, .ref q101), (0, .int 0), (1, .int 0), (2, .int 0), (3, .int 0), (4, .int 0), (5, .int 0), (6, .int 0), (7, .int 0), (15, .null), (16, .null), (17, .null), (18, .null), (19, .null)]) hf 14 (.ref q125) (by decide) rfl
  have ho128 := fo_set ho124 14 (.ref q125)
  generalize (fs123.set 14 (.ref q125)) = fs127 at hP hD hf ho128
  refine lv_aload_n hx hb dX6_init_60 rfl (lv_at hl 0 rfl) ?_
  refine lv_bipush (v := 50) hx hb dX6_init_61 (by decide) ?_
  refine tq_newa (atype := .int) (ty := .int) (n := 50) (N' := 50) (a0 := (50, .inl (fun _ => 0))) hx hb (hT _ kw_2_13) rfl hK hP hD hS hA 0 (cA 0) rfl (fun _ => rfl) (by decide) (by decide) (by decide) (Nat.le_of_ble_eq_true rfl) (Nat.le_of_ble_eq_true rfl) dX6_init_63 (fun q129 H hP hD hS => ?_)
  have hP : va_P G vwCl [(h0, .inr (6, fs127)), (pa, .inr (2, ps)), (p10, .inl (cA 0, 6, .inl g10)), (p12, .inl (cA 0, 6, .inl g12)), (p16, .inl (cA 0, 10, .inl g16)), (q101, .inl (cA 0, 6, .inl f102)), (q105, .inl (cA 0, 6, .inl f106)), (q109, .inl (cA 0, 6, .inl f110)), (q113, .inl (cA 0, 6, .inl f114)), (q117, .inl (cA 0, 10, .inl f118)), (q121, .inl (cA 0, 10, .inl f122)), (q125, .inl (cA 0, 10, .inl f126)), (q129, .inl (cA 0, 50, .inl ((fun _ => 0))))] H := hP
  have hD : va_D A [(h0, .inr (6, fs127)), (pa, .inr (2, ps)), (p10, .inl (cA 0, 6, .inl g10)), (p12, .inl (cA 0, 6, .inl g12)), (p16, .inl (cA 0, 10, .inl g16)), (q101, .inl (cA 0, 6, .inl f102)), (q105, .inl (cA 0, 6, .inl f106)), (q109, .inl (cA 0, 6, .inl f110)), (q113, .inl (cA 0, 6, .inl f114)), (q117, .inl (cA 0, 10, .inl f118)), (q121, .inl (cA 0, 10, .inl f122)), (q125, .inl (cA 0, 10, .inl f126)), (q129, .inl (cA 0, 50, .inl ((fun _ => 0))))] := hD
  refine W.widen (k := 8) (n := 104) (Nat.le_of_ble_eq_true rfl) (Nat.le_of_ble_eq_true rfl) ?_
  obtain ⟨f130, ef130⟩ : ∃ z : Nat → Int32, z = (fun _ => 0) := ⟨_, rfl⟩
  rw [← ef130] at hP hD
  refine va_putF (D := G) (ci := 6) (v := .ref q129) (ty := (.array .int)) (C := RX6) (T := TX6) (N := 20) hx hb hT ku_6 tyX6 tyX6_ok nmX6 hown hK hP hD hS 0 rfl rfl 15 (by decide) (hT _ kw_7_14) (fun _ h9 => h9) rfl hin rfl (by decide +kernel) rfl rfl (fh_lt hf (by decide)) dX6_init_65 (fun H locs hP hD hS => ?_)
  have hP : va_P G vwCl [(h0, .inr (6, (fs127.set 15 (.ref q129)))), (pa, .inr (2, ps)), (p10, .inl (cA 0, 6, .inl g10)), (p12, .inl (cA 0, 6, .inl g12)), (p16, .inl (cA 0, 10, .inl g16)), (q101, .inl (cA 0, 6, .inl f102)), (q105, .inl (cA 0, 6, .inl f106)), (q109, .inl (cA 0, 6, .inl f110)), (q113, .inl (cA 0, 6, .inl f114)), (q117, .inl (cA 0, 10, .inl f118)), (q121, .inl (cA 0, 10, .inl f122)), (q125, .inl (cA 0, 10, .inl f126)), (q129, .inl (cA 0, 50, .inl f130))] H := hP
  have hD : va_D A [(h0, .inr (6, (fs127.set 15 (.ref q129)))), (pa, .inr (2, ps)), (p10, .inl (cA 0, 6, .inl g10)), (p12, .inl (cA 0, 6, .inl g12)), (p16, .inl (cA 0, 10, .inl g16)), (q101, .inl (cA 0, 6, .inl f102)), (q105, .inl (cA 0, 6, .inl f106)), (q109, .inl (cA 0, 6, .inl f110)), (q113, .inl (cA 0, 6, .inl f114)), (q117, .inl (cA 0, 10, .inl f118)), (q121, .inl (cA 0, 10, .inl f122)), (q125, .inl (cA 0, 10, .inl f126)), (q129, .inl (cA 0, 50, .inl f130))] := hD
  have hf := fh_set (l' := [(15, .ref q129), (14, .ref q125), (13, .ref q121), (12, .ref q117), (11, .ref q113), (10, .ref q109), (9, .ref q105), (8, .ref q101), (0, .int 0), (1, .int 0), (2, .int 0), (3, .int 0), (4, .int 0), (5, .int 0), (6, .int 0), (7, .int 0), (16, .null), (17, .null), (18, .null), (19, .null)]) hf 15 (.ref q129) (by decide) rfl
  have ho132 := fo_set ho128 15 (.ref q129)
  generalize (fs127.set 15 (.ref q129)) = fs131 at hP hD hf ho132
  refine lv_aload_n hx hb dX6_init_68 rfl (lv_at hl 0 rfl) ?_
  refine lv_iconst (v := 5) hx hb dX6_init_69 (by decide) ?_
  refine tq_newa (atype := .int) (ty := .int) (n := 5) (N' := 5) (a0 := (5, .inl (fun _ => 0))) hx hb (hT _ kw_2_13) rfl hK hP hD hS hA 0 (cA 0) rfl (fun _ => rfl) (by decide) (by decide) (by decide) (Nat.le_of_ble_eq_true rfl) (Nat.le_of_ble_eq_true rfl) dX6_init_70 (fun q133 H hP hD hS => ?_)
  have hP : va_P G vwCl [(h0, .inr (6, fs131)), (pa, .inr (2, ps)), (p10, .inl (cA 0, 6, .inl g10)), (p12, .inl (cA 0, 6, .inl g12)), (p16, .inl (cA 0, 10, .inl g16)), (q101, .inl (cA 0, 6, .inl f102)), (q105, .inl (cA 0, 6, .inl f106)), (q109, .inl (cA 0, 6, .inl f110)), (q113, .inl (cA 0, 6, .inl f114)), (q117, .inl (cA 0, 10, .inl f118)), (q121, .inl (cA 0, 10, .inl f122)), (q125, .inl (cA 0, 10, .inl f126)), (q129, .inl (cA 0, 50, .inl f130)), (q133, .inl (cA 0, 5, .inl ((fun _ => 0))))] H := hP
  have hD : va_D A [(h0, .inr (6, fs131)), (pa, .inr (2, ps)), (p10, .inl (cA 0, 6, .inl g10)), (p12, .inl (cA 0, 6, .inl g12)), (p16, .inl (cA 0, 10, .inl g16)), (q101, .inl (cA 0, 6, .inl f102)), (q105, .inl (cA 0, 6, .inl f106)), (q109, .inl (cA 0, 6, .inl f110)), (q113, .inl (cA 0, 6, .inl f114)), (q117, .inl (cA 0, 10, .inl f118)), (q121, .inl (cA 0, 10, .inl f122)), (q125, .inl (cA 0, 10, .inl f126)), (q129, .inl (cA 0, 50, .inl f130)), (q133, .inl (cA 0, 5, .inl ((fun _ => 0))))] := hD
  refine W.widen (k := 9) (n := 109) (Nat.le_of_ble_eq_true rfl) (Nat.le_of_ble_eq_true rfl) ?_
  obtain ⟨f134, ef134⟩ : ∃ z : Nat → Int32, z = (fun _ => 0) := ⟨_, rfl⟩
  rw [← ef134] at hP hD
  refine va_putF (D := G) (ci := 6) (v := .ref q133) (ty := (.array .int)) (C := RX6) (T := TX6) (N := 20) hx hb hT ku_6 tyX6 tyX6_ok nmX6 hown hK hP hD hS 0 rfl rfl 16 (by decide) (hT _ kw_7_15) (fun _ h9 => h9) rfl hin rfl (by decide +kernel) rfl rfl (fh_lt hf (by decide)) dX6_init_72 (fun H locs hP hD hS => ?_)
  have hP : va_P G vwCl [(h0, .inr (6, (fs131.set 16 (.ref q133)))), (pa, .inr (2, ps)), (p10, .inl (cA 0, 6, .inl g10)), (p12, .inl (cA 0, 6, .inl g12)), (p16, .inl (cA 0, 10, .inl g16)), (q101, .inl (cA 0, 6, .inl f102)), (q105, .inl (cA 0, 6, .inl f106)), (q109, .inl (cA 0, 6, .inl f110)), (q113, .inl (cA 0, 6, .inl f114)), (q117, .inl (cA 0, 10, .inl f118)), (q121, .inl (cA 0, 10, .inl f122)), (q125, .inl (cA 0, 10, .inl f126)), (q129, .inl (cA 0, 50, .inl f130)), (q133, .inl (cA 0, 5, .inl f134))] H := hP
  have hD : va_D A [(h0, .inr (6, (fs131.set 16 (.ref q133)))), (pa, .inr (2, ps)), (p10, .inl (cA 0, 6, .inl g10)), (p12, .inl (cA 0, 6, .inl g12)), (p16, .inl (cA 0, 10, .inl g16)), (q101, .inl (cA 0, 6, .inl f102)), (q105, .inl (cA 0, 6, .inl f106)), (q109, .inl (cA 0, 6, .inl f110)), (q113, .inl (cA 0, 6, .inl f114)), (q117, .inl (cA 0, 10, .inl f118)), (q121, .inl (cA 0, 10, .inl f122)), (q125, .inl (cA 0, 10, .inl f126)), (q129, .inl (cA 0, 50, .inl f130)), (q133, .inl (cA 0, 5, .inl f134))] := hD
  have hf := fh_set (l' := [(16, .ref q133), (15, .ref q129), (14, .ref q125), (13, .ref q121), (12, .ref q117), (11, .ref q113), (10, .ref q109), (9, .ref q105), (8, .ref q101), (0, .int 0), (1, .int 0), (2, .int 0), (3, .int 0), (4, .int 0), (5, .int 0), (6, .int 0), (7, .int 0), (17, .null), (18, .null), (19, .null)]) hf 16 (.ref q133) (by decide) rfl
  have ho136 := fo_set ho132 16 (.ref q133)
  generalize (fs131.set 16 (.ref q133)) = fs135 at hP hD hf ho136
  refine lv_aload_n hx hb dX6_init_75 rfl (lv_at hl 0 rfl) ?_
  refine lv_iconst (v := 5) hx hb dX6_init_76 (by decide) ?_
  refine tq_newa (atype := .int) (ty := .int) (n := 5) (N' := 5) (a0 := (5, .inl (fun _ => 0))) hx hb (hT _ kw_2_13) rfl hK hP hD hS hA 0 (cA 0) rfl (fun _ => rfl) (by decide) (by decide) (by decide) (Nat.le_of_ble_eq_true rfl) (Nat.le_of_ble_eq_true rfl) dX6_init_77 (fun q137 H hP hD hS => ?_)
  have hP : va_P G vwCl [(h0, .inr (6, fs135)), (pa, .inr (2, ps)), (p10, .inl (cA 0, 6, .inl g10)), (p12, .inl (cA 0, 6, .inl g12)), (p16, .inl (cA 0, 10, .inl g16)), (q101, .inl (cA 0, 6, .inl f102)), (q105, .inl (cA 0, 6, .inl f106)), (q109, .inl (cA 0, 6, .inl f110)), (q113, .inl (cA 0, 6, .inl f114)), (q117, .inl (cA 0, 10, .inl f118)), (q121, .inl (cA 0, 10, .inl f122)), (q125, .inl (cA 0, 10, .inl f126)), (q129, .inl (cA 0, 50, .inl f130)), (q133, .inl (cA 0, 5, .inl f134)), (q137, .inl (cA 0, 5, .inl ((fun _ => 0))))] H := hP
  have hD : va_D A [(h0, .inr (6, fs135)), (pa, .inr (2, ps)), (p10, .inl (cA 0, 6, .inl g10)), (p12, .inl (cA 0, 6, .inl g12)), (p16, .inl (cA 0, 10, .inl g16)), (q101, .inl (cA 0, 6, .inl f102)), (q105, .inl (cA 0, 6, .inl f106)), (q109, .inl (cA 0, 6, .inl f110)), (q113, .inl (cA 0, 6, .inl f114)), (q117, .inl (cA 0, 10, .inl f118)), (q121, .inl (cA 0, 10, .inl f122)), (q125, .inl (cA 0, 10, .inl f126)), (q129, .inl (cA 0, 50, .inl f130)), (q133, .inl (cA 0, 5, .inl f134)), (q137, .inl (cA 0, 5, .inl ((fun _ => 0))))] := hD
  refine W.widen (k := 10) (n := 114) (Nat.le_of_ble_eq_true rfl) (Nat.le_of_ble_eq_true rfl) ?_
  obtain ⟨f138, ef138⟩ : ∃ z : Nat → Int32, z = (fun _ => 0) := ⟨_, rfl⟩
  rw [← ef138] at hP hD
  refine va_putF (D := G) (ci := 6) (v := .ref q137) (ty := (.array .int)) (C := RX6) (T := TX6) (N := 20) hx hb hT ku_6 tyX6 tyX6_ok nmX6 hown hK hP hD hS 0 rfl rfl 17 (by decide) (hT _ kw_7_16) (fun _ h9 => h9) rfl hin rfl (by decide +kernel) rfl rfl (fh_lt hf (by decide)) dX6_init_79 (fun H locs hP hD hS => ?_)
  have hP : va_P G vwCl [(h0, .inr (6, (fs135.set 17 (.ref q137)))), (pa, .inr (2, ps)), (p10, .inl (cA 0, 6, .inl g10)), (p12, .inl (cA 0, 6, .inl g12)), (p16, .inl (cA 0, 10, .inl g16)), (q101, .inl (cA 0, 6, .inl f102)), (q105, .inl (cA 0, 6, .inl f106)), (q109, .inl (cA 0, 6, .inl f110)), (q113, .inl (cA 0, 6, .inl f114)), (q117, .inl (cA 0, 10, .inl f118)), (q121, .inl (cA 0, 10, .inl f122)), (q125, .inl (cA 0, 10, .inl f126)), (q129, .inl (cA 0, 50, .inl f130)), (q133, .inl (cA 0, 5, .inl f134)), (q137, .inl (cA 0, 5, .inl f138))] H := hP
  have hD : va_D A [(h0, .inr (6, (fs135.set 17 (.ref q137)))), (pa, .inr (2, ps)), (p10, .inl (cA 0, 6, .inl g10)), (p12, .inl (cA 0, 6, .inl g12)), (p16, .inl (cA 0, 10, .inl g16)), (q101, .inl (cA 0, 6, .inl f102)), (q105, .inl (cA 0, 6, .inl f106)), (q109, .inl (cA 0, 6, .inl f110)), (q113, .inl (cA 0, 6, .inl f114)), (q117, .inl (cA 0, 10, .inl f118)), (q121, .inl (cA 0, 10, .inl f122)), (q125, .inl (cA 0, 10, .inl f126)), (q129, .inl (cA 0, 50, .inl f130)), (q133, .inl (cA 0, 5, .inl f134)), (q137, .inl (cA 0, 5, .inl f138))] := hD
  have hf := fh_set (l' := [(17, .ref q137), (16, .ref q133), (15, .ref q129), (14, .ref q125), (13, .ref q121), (12, .ref q117), (11, .ref q113), (10, .ref q109), (9, .ref q105), (8, .ref q101), (0, .int 0), (1, .int 0), (2, .int 0), (3, .int 0), (4, .int 0), (5, .int 0), (6, .int 0), (7, .int 0), (18, .null), (19, .null)]) hf 17 (.ref q137) (by decide) rfl
  have ho140 := fo_set ho136 17 (.ref q137)
  generalize (fs135.set 17 (.ref q137)) = fs139 at hP hD hf ho140
  refine lv_aload_n hx hb dX6_init_82 rfl (lv_at hl 0 rfl) ?_
  refine lv_bipush (v := 7) hx hb dX6_init_83 (by decide) ?_
  refine tq_newa (atype := .int) (ty := .int) (n := 7) (N' := 7) (a0 := (7, .inl (fun _ => 0))) hx hb (hT _ kw_2_13) rfl hK hP hD hS hA 0 (cA 0) rfl (fun _ => rfl) (by decide) (by decide) (by decide) (Nat.le_of_ble_eq_true rfl) (Nat.le_of_ble_eq_true rfl) dX6_init_85 (fun q141 H hP hD hS => ?_)
  have hP : va_P G vwCl [(h0, .inr (6, fs139)), (pa, .inr (2, ps)), (p10, .inl (cA 0, 6, .inl g10)), (p12, .inl (cA 0, 6, .inl g12)), (p16, .inl (cA 0, 10, .inl g16)), (q101, .inl (cA 0, 6, .inl f102)), (q105, .inl (cA 0, 6, .inl f106)), (q109, .inl (cA 0, 6, .inl f110)), (q113, .inl (cA 0, 6, .inl f114)), (q117, .inl (cA 0, 10, .inl f118)), (q121, .inl (cA 0, 10, .inl f122)), (q125, .inl (cA 0, 10, .inl f126)), (q129, .inl (cA 0, 50, .inl f130)), (q133, .inl (cA 0, 5, .inl f134)), (q137, .inl (cA 0, 5, .inl f138)), (q141, .inl (cA 0, 7, .inl ((fun _ => 0))))] H := hP
  have hD : va_D A [(h0, .inr (6, fs139)), (pa, .inr (2, ps)), (p10, .inl (cA 0, 6, .inl g10)), (p12, .inl (cA 0, 6, .inl g12)), (p16, .inl (cA 0, 10, .inl g16)), (q101, .inl (cA 0, 6, .inl f102)), (q105, .inl (cA 0, 6, .inl f106)), (q109, .inl (cA 0, 6, .inl f110)), (q113, .inl (cA 0, 6, .inl f114)), (q117, .inl (cA 0, 10, .inl f118)), (q121, .inl (cA 0, 10, .inl f122)), (q125, .inl (cA 0, 10, .inl f126)), (q129, .inl (cA 0, 50, .inl f130)), (q133, .inl (cA 0, 5, .inl f134)), (q137, .inl (cA 0, 5, .inl f138)), (q141, .inl (cA 0, 7, .inl ((fun _ => 0))))] := hD
  refine W.widen (k := 11) (n := 121) (Nat.le_of_ble_eq_true rfl) (Nat.le_of_ble_eq_true rfl) ?_
  obtain ⟨f142, ef142⟩ : ∃ z : Nat → Int32, z = (fun _ => 0) := ⟨_, rfl⟩
  rw [← ef142] at hP hD
  refine va_putF (D := G) (ci := 6) (v := .ref q141) (ty := (.array .int)) (C := RX6) (T := TX6) (N := 20) hx hb hT ku_6 tyX6 tyX6_ok nmX6 hown hK hP hD hS 0 rfl rfl 18 (by decide) (hT _ kw_7_17) (fun _ h9 => h9) rfl hin rfl (by decide +kernel) rfl rfl (fh_lt hf (by decide)) dX6_init_87 (fun H locs hP hD hS => ?_)
  have hP : va_P G vwCl [(h0, .inr (6, (fs139.set 18 (.ref q141)))), (pa, .inr (2, ps)), (p10, .inl (cA 0, 6, .inl g10)), (p12, .inl (cA 0, 6, .inl g12)), (p16, .inl (cA 0, 10, .inl g16)), (q101, .inl (cA 0, 6, .inl f102)), (q105, .inl (cA 0, 6, .inl f106)), (q109, .inl (cA 0, 6, .inl f110)), (q113, .inl (cA 0, 6, .inl f114)), (q117, .inl (cA 0, 10, .inl f118)), (q121, .inl (cA 0, 10, .inl f122)), (q125, .inl (cA 0, 10, .inl f126)), (q129, .inl (cA 0, 50, .inl f130)), (q133, .inl (cA 0, 5, .inl f134)), (q137, .inl (cA 0, 5, .inl f138)), (q141, .inl (cA 0, 7, .inl f142))] H := hP
  have hD : va_D A [(h0, .inr (6, (fs139.set 18 (.ref q141)))), (pa, .inr (2, ps)), (p10, .inl (cA 0, 6, .inl g10)), (p12, .inl (cA 0, 6, .inl g12)), (p16, .inl (cA 0, 10, .inl g16)), (q101, .inl (cA 0, 6, .inl f102)), (q105, .inl (cA 0, 6, .inl f106)), (q109, .inl (cA 0, 6, .inl f110)), (q113, .inl (cA 0, 6, .inl f114)), (q117, .inl (cA 0, 10, .inl f118)), (q121, .inl (cA 0, 10, .inl f122)), (q125, .inl (cA 0, 10, .inl f126)), (q129, .inl (cA 0, 50, .inl f130)), (q133, .inl (cA 0, 5, .inl f134)), (q137, .inl (cA 0, 5, .inl f138)), (q141, .inl (cA 0, 7, .inl f142))] := hD
  have hf := fh_set (l' := [(18, .ref q141), (17, .ref q137), (16, .ref q133), (15, .ref q129), (14, .ref q125), (13, .ref q121), (12, .ref q117), (11, .ref q113), (10, .ref q109), (9, .ref q105), (8, .ref q101), (0, .int 0), (1, .int 0), (2, .int 0), (3, .int 0), (4, .int 0), (5, .int 0), (6, .int 0), (7, .int 0), (19, .null)]) hf 18 (.ref q141) (by decide) rfl
  have ho144 := fo_set ho140 18 (.ref q141)
  generalize (fs139.set 18 (.ref q141)) = fs143 at hP hD hf ho144
  refine lv_aload_n hx hb dX6_init_90 rfl (lv_at hl 0 rfl) ?_
  refine lv_aload_n hx hb dX6_init_91 rfl (lv_at hl 1 rfl) ?_
  refine tq_cv (wr := [(q129, .inl (cA 0, 50, .inl f130)), (q141, .inl (cA 0, 7, .inl f142))]) hP hD hS hA [0, 5, 6, 7, 8, 9, 10, 11, 13, 14, 1, 2, 3, 4] [12, 15] rfl rfl (by decide) (by decide) (va_runV (As := [.ref pa]) (rest := []) ⟨hx, hb, hml, hown, hT⟩ (c_X6_begin l G cA H.size h0 pa fs143 q101 q105 q109 q113 q117 q121 q125 q133 q137 f102 f106 f110 f114 f118 f122 f126 f134 f138 ps p10 p12 p16 g10 g12 g16 (fh_sub hf [10, 9, 8, 7, 6, 5, 4, 2, 1] rfl) (fh_sub hp [0, 1, 2, 3, 4, 5] rfl)) (cwV 1 hT (tq_gV kw_7_21 kw_7_22 kw_7_23 kw_1_23 kw_8_0) rfl rfl rfl (by decide +kernel) ⟨Nat.le_of_ble_eq_true rfl, Nat.le_of_ble_eq_true rfl⟩) ⟨(tq_pre (isC := [0, 5, 6, 7, 8, 9, 10, 11, 13, 14, 1, 2, 3, 4]) hP hD hK hN rfl (by decide)).1, va_recv hK hP (ci := 6) (q0 := 0) rfl rfl, (tq_pre (isC := [0, 5, 6, 7, 8, 9, 10, 11, 13, 14, 1, 2, 3, 4]) hP hD hK hN rfl (by decide)).2⟩ rfl rfl hl.1 rfl (lv_room (Nat.le_of_ble_eq_true rfl)) dX6_init_92 ⟨Nat.le_of_ble_eq_true rfl, Nat.le_of_ble_eq_true rfl⟩) (fun u145 H locs hw146 hP hD hS => ?_)
  refine W.widen (k := 11) (n := 121) (Nat.le_of_ble_eq_true rfl) (Nat.le_of_ble_eq_true rfl) ?_
  obtain ⟨g147, g148, g149, g150, g151, g152, g153, g154, g155, g156⟩ := u145
  obtain ⟨ho157, hf158⟩ := hw146
  try dsimp only at hP hD ho157 hf158
  have hf158 := fh_app (fo_fh (l' := [(18, .ref q141), (17, .ref q137), (16, .ref q133), (15, .ref q129), (14, .ref q125), (13, .ref q121), (12, .ref q117), (11, .ref q113), (10, .ref q109), (9, .ref q105), (8, .ref q101), (5, .int 0), (6, .int 0), (7, .int 0)]) hf ho157 rfl) hf158
  have ho159 := fo_mono (k2 := [4, 3, 2, 1, 0, 19, 18, 17, 16, 15, 14, 13, 12, 11, 10, 9, 8]) (fo_trans ho144 ho157) (by decide)
  have hf158 : fh g147 20 [(18, .ref q141), (17, .ref q137), (16, .ref q133), (15, .ref q129), (14, .ref q125), (13, .ref q121), (12, .ref q117), (11, .ref q113), (10, .ref q109), (9, .ref q105), (8, .ref q101), (5, .int 0), (6, .int 0), (7, .int 0), (4, .int 0), (3, .int 0), (2, .int 0), (1, .int 0), (0, .int 0), (19, .ref pa)] := hf158
  have hP : va_P G vwCl [(q129, .inl (cA 0, 50, .inl f130)), (q141, .inl (cA 0, 7, .inl f142)), (h0, .inr (6, g147)), (q101, .inl (cA 0, 6, .inl g148)), (q105, .inl (cA 0, 6, .inl g149)), (q109, .inl (cA 0, 6, .inl g150)), (q113, .inl (cA 0, 6, .inl g151)), (q117, .inl (cA 0, 10, .inl g152)), (q121, .inl (cA 0, 10, .inl g153)), (q125, .inl (cA 0, 10, .inl g154)), (q133, .inl (cA 0, 5, .inl g155)), (q137, .inl (cA 0, 5, .inl g156)), (pa, .inr (2, ps)), (p10, .inl (cA 0, 6, .inl g10)), (p12, .inl (cA 0, 6, .inl g12)), (p16, .inl (cA 0, 10, .inl g16))] H := hP
  have hD : va_D A [(q129, .inl (cA 0, 50, .inl f130)), (q141, .inl (cA 0, 7, .inl f142)), (h0, .inr (6, g147)), (q101, .inl (cA 0, 6, .inl g148)), (q105, .inl (cA 0, 6, .inl g149)), (q109, .inl (cA 0, 6, .inl g150)), (q113, .inl (cA 0, 6, .inl g151)), (q117, .inl (cA 0, 10, .inl g152)), (q121, .inl (cA 0, 10, .inl g153)), (q125, .inl (cA 0, 10, .inl g154)), (q133, .inl (cA 0, 5, .inl g155)), (q137, .inl (cA 0, 5, .inl g156)), (pa, .inr (2, ps)), (p10, .inl (cA 0, 6, .inl g10)), (p12, .inl (cA 0, 6, .inl g12)), (p16, .inl (cA 0, 10, .inl g16))] := hD
  refine lv_aload_n hx hb dX6_init_95 rfl (lv_at hl 0 rfl) ?_
  refine lv_iconst (v := 0) hx hb dX6_init_96 (by decide) ?_
  refine va_put (D := G) (ci := 6) (v := .int 0) (ty := .boolean) (C := RX6) (T := TX6) (N := 20) hx hb hT ku_6 tyX6 tyX6_ok nmX6 hown hK hP hD hS 2 rfl rfl 5 (by decide) (hT _ kw_7_18) (fun _ h9 => h9) rfl (by decide +kernel) rfl rfl (fh_lt hf158 (by decide)) dX6_init_97 (fun H locs hP hD hS => ?_)
  have hP : va_P G vwCl [(q129, .inl (cA 0, 50, .inl f130)), (q141, .inl (cA 0, 7, .inl f142)), (h0, .inr (6, (g147.set 5 (.int 0)))), (q101, .inl (cA 0, 6, .inl g148)), (q105, .inl (cA 0, 6, .inl g149)), (q109, .inl (cA 0, 6, .inl g150)), (q113, .inl (cA 0, 6, .inl g151)), (q117, .inl (cA 0, 10, .inl g152)), (q121, .inl (cA 0, 10, .inl g153)), (q125, .inl (cA 0, 10, .inl g154)), (q133, .inl (cA 0, 5, .inl g155)), (q137, .inl (cA 0, 5, .inl g156)), (pa, .inr (2, ps)), (p10, .inl (cA 0, 6, .inl g10)), (p12, .inl (cA 0, 6, .inl g12)), (p16, .inl (cA 0, 10, .inl g16))] H := hP
  have hD : va_D A [(q129, .inl (cA 0, 50, .inl f130)), (q141, .inl (cA 0, 7, .inl f142)), (h0, .inr (6, (g147.set 5 (.int 0)))), (q101, .inl (cA 0, 6, .inl g148)), (q105, .inl (cA 0, 6, .inl g149)), (q109, .inl (cA 0, 6, .inl g150)), (q113, .inl (cA 0, 6, .inl g151)), (q117, .inl (cA 0, 10, .inl g152)), (q121, .inl (cA 0, 10, .inl g153)), (q125, .inl (cA 0, 10, .inl g154)), (q133, .inl (cA 0, 5, .inl g155)), (q137, .inl (cA 0, 5, .inl g156)), (pa, .inr (2, ps)), (p10, .inl (cA 0, 6, .inl g10)), (p12, .inl (cA 0, 6, .inl g12)), (p16, .inl (cA 0, 10, .inl g16))] := hD
  have hf158 := fh_set (l' := [(5, .int 0), (18, .ref q141), (17, .ref q137), (16, .ref q133), (15, .ref q129), (14, .ref q125), (13, .ref q121), (12, .ref q117), (11, .ref q113), (10, .ref q109), (9, .ref q105), (8, .ref q101), (6, .int 0), (7, .int 0), (4, .int 0), (3, .int 0), (2, .int 0), (1, .int 0), (0, .int 0), (19, .ref pa)]) hf158 5 (.int 0) (by decide) rfl
  have ho161 := fo_set ho159 5 (.int 0)
  generalize (g147.set 5 (.int 0)) = fs160 at hP hD hf158 ho161
  refine lv_aload_n hx hb dX6_init_100 rfl (lv_at hl 0 rfl) ?_
  refine lv_iconst (v := 1) hx hb dX6_init_101 (by decide) ?_
  refine va_put (D := G) (ci := 6) (v := .int 1) (ty := .boolean) (C := RX6) (T := TX6) (N := 20) hx hb hT ku_6 tyX6 tyX6_ok nmX6 hown hK hP hD hS 2 rfl rfl 6 (by decide) (hT _ kw_7_19) (fun _ h9 => h9) rfl (by decide +kernel) rfl rfl (fh_lt hf158 (by decide)) dX6_init_102 (fun H locs hP hD hS => ?_)
  have hP : va_P G vwCl [(q129, .inl (cA 0, 50, .inl f130)), (q141, .inl (cA 0, 7, .inl f142)), (h0, .inr (6, (fs160.set 6 (.int 1)))), (q101, .inl (cA 0, 6, .inl g148)), (q105, .inl (cA 0, 6, .inl g149)), (q109, .inl (cA 0, 6, .inl g150)), (q113, .inl (cA 0, 6, .inl g151)), (q117, .inl (cA 0, 10, .inl g152)), (q121, .inl (cA 0, 10, .inl g153)), (q125, .inl (cA 0, 10, .inl g154)), (q133, .inl (cA 0, 5, .inl g155)), (q137, .inl (cA 0, 5, .inl g156)), (pa, .inr (2, ps)), (p10, .inl (cA 0, 6, .inl g10)), (p12, .inl (cA 0, 6, .inl g12)), (p16, .inl (cA 0, 10, .inl g16))] H := hP
  have hD : va_D A [(q129, .inl (cA 0, 50, .inl f130)), (q141, .inl (cA 0, 7, .inl f142)), (h0, .inr (6, (fs160.set 6 (.int 1)))), (q101, .inl (cA 0, 6, .inl g148)), (q105, .inl (cA 0, 6, .inl g149)), (q109, .inl (cA 0, 6, .inl g150)), (q113, .inl (cA 0, 6, .inl g151)), (q117, .inl (cA 0, 10, .inl g152)), (q121, .inl (cA 0, 10, .inl g153)), (q125, .inl (cA 0, 10, .inl g154)), (q133, .inl (cA 0, 5, .inl g155)), (q137, .inl (cA 0, 5, .inl g156)), (pa, .inr (2, ps)), (p10, .inl (cA 0, 6, .inl g10)), (p12, .inl (cA 0, 6, .inl g12)), (p16, .inl (cA 0, 10, .inl g16))] := hD
  have hf158 := fh_set (l' := [(6, .int 1), (5, .int 0), (18, .ref q141), (17, .ref q137), (16, .ref q133), (15, .ref q129), (14, .ref q125), (13, .ref q121), (12, .ref q117), (11, .ref q113), (10, .ref q109), (9, .ref q105), (8, .ref q101), (7, .int 0), (4, .int 0), (3, .int 0), (2, .int 0), (1, .int 0), (0, .int 0), (19, .ref pa)]) hf158 6 (.int 1) (by decide) rfl
  have ho163 := fo_set ho161 6 (.int 1)
  generalize (fs160.set 6 (.int 1)) = fs162 at hP hD hf158 ho163
  refine lv_aload_n hx hb dX6_init_105 rfl (lv_at hl 0 rfl) ?_
  refine lv_iconst (v := 1) hx hb dX6_init_106 (by decide) ?_
  refine va_put (D := G) (ci := 6) (v := .int 1) (ty := .boolean) (C := RX6) (T := TX6) (N := 20) hx hb hT ku_6 tyX6 tyX6_ok nmX6 hown hK hP hD hS 2 rfl rfl 7 (by decide) (hT _ kw_7_20) (fun _ h9 => h9) rfl (by decide +kernel) rfl rfl (fh_lt hf158 (by decide)) dX6_init_107 (fun H locs hP hD hS => ?_)
  have hP : va_P G vwCl [(q129, .inl (cA 0, 50, .inl f130)), (q141, .inl (cA 0, 7, .inl f142)), (h0, .inr (6, (fs162.set 7 (.int 1)))), (q101, .inl (cA 0, 6, .inl g148)), (q105, .inl (cA 0, 6, .inl g149)), (q109, .inl (cA 0, 6, .inl g150)), (q113, .inl (cA 0, 6, .inl g151)), (q117, .inl (cA 0, 10, .inl g152)), (q121, .inl (cA 0, 10, .inl g153)), (q125, .inl (cA 0, 10, .inl g154)), (q133, .inl (cA 0, 5, .inl g155)), (q137, .inl (cA 0, 5, .inl g156)), (pa, .inr (2, ps)), (p10, .inl (cA 0, 6, .inl g10)), (p12, .inl (cA 0, 6, .inl g12)), (p16, .inl (cA 0, 10, .inl g16))] H := hP
  have hD : va_D A [(q129, .inl (cA 0, 50, .inl f130)), (q141, .inl (cA 0, 7, .inl f142)), (h0, .inr (6, (fs162.set 7 (.int 1)))), (q101, .inl (cA 0, 6, .inl g148)), (q105, .inl (cA 0, 6, .inl g149)), (q109, .inl (cA 0, 6, .inl g150)), (q113, .inl (cA 0, 6, .inl g151)), (q117, .inl (cA 0, 10, .inl g152)), (q121, .inl (cA 0, 10, .inl g153)), (q125, .inl (cA 0, 10, .inl g154)), (q133, .inl (cA 0, 5, .inl g155)), (q137, .inl (cA 0, 5, .inl g156)), (pa, .inr (2, ps)), (p10, .inl (cA 0, 6, .inl g10)), (p12, .inl (cA 0, 6, .inl g12)), (p16, .inl (cA 0, 10, .inl g16))] := hD
  have hf158 := fh_set (l' := [(7, .int 1), (6, .int 1), (5, .int 0), (18, .ref q141), (17, .ref q137), (16, .ref q133), (15, .ref q129), (14, .ref q125), (13, .ref q121), (12, .ref q117), (11, .ref q113), (10, .ref q109), (9, .ref q105), (8, .ref q101), (4, .int 0), (3, .int 0), (2, .int 0), (1, .int 0), (0, .int 0), (19, .ref pa)]) hf158 7 (.int 1) (by decide) rfl
  have ho165 := fo_set ho163 7 (.int 1)
  generalize (fs162.set 7 (.int 1)) = fs164 at hP hD hf158 ho165
  have hP : va_P G vwCl [(h0, .inr (6, fs164)), (pa, .inr (2, ps)), (p10, .inl (cA 0, 6, .inl g10)), (p12, .inl (cA 0, 6, .inl g12)), (p16, .inl (cA 0, 10, .inl g16)), (q129, .inl (cA 0, 50, .inl f130)), (q141, .inl (cA 0, 7, .inl f142)), (q101, .inl (cA 0, 6, .inl g148)), (q105, .inl (cA 0, 6, .inl g149)), (q109, .inl (cA 0, 6, .inl g150)), (q113, .inl (cA 0, 6, .inl g151)), (q117, .inl (cA 0, 10, .inl g152)), (q121, .inl (cA 0, 10, .inl g153)), (q125, .inl (cA 0, 10, .inl g154)), (q133, .inl (cA 0, 5, .inl g155)), (q137, .inl (cA 0, 5, .inl g156))] H := hP.sub [2, 12, 13, 14, 15, 0, 1, 3, 4, 5, 6, 7, 8, 9, 10, 11] rfl
  have hD : va_D A [(h0, .inr (6, fs164)), (pa, .inr (2, ps)), (p10, .inl (cA 0, 6, .inl g10)), (p12, .inl (cA 0, 6, .inl g12)), (p16, .inl (cA 0, 10, .inl g16)), (q129, .inl (cA 0, 50, .inl f130)), (q141, .inl (cA 0, 7, .inl f142)), (q101, .inl (cA 0, 6, .inl g148)), (q105, .inl (cA 0, 6, .inl g149)), (q109, .inl (cA 0, 6, .inl g150)), (q113, .inl (cA 0, 6, .inl g151)), (q117, .inl (cA 0, 10, .inl g152)), (q121, .inl (cA 0, 10, .inl g153)), (q125, .inl (cA 0, 10, .inl g154)), (q133, .inl (cA 0, 5, .inl g155)), (q137, .inl (cA 0, 5, .inl g156))] := hD.sub [2, 12, 13, 14, 15, 0, 1, 3, 4, 5, 6, 7, 8, 9, 10, 11] (by decide) rfl
  have qho165 := fo_mono (k2 := [7, 6, 5, 4, 3, 2, 1, 0, 19, 18, 17, 16, 15, 14, 13, 12, 11, 10, 9, 8]) ho165 (by decide)
  exact W.vret hx hb hr (fun t ht hW => ⟨⟨(fs164, q129, f130, q141, f142, q101, g148, q105, g149, q109, g150, q113, g151, q117, g152, q121, g153, q125, g154, q133, g155, q137, g156), rfl, ⟨qho165, fh_sub hf158 [0, 1, 2, 14, 15, 16, 17, 18, 19, 3, 4, 5, 6, 7, 8, 9, 10, 11, 12, 13] rfl⟩, by rw [ht]; exact hP, hD⟩, hS.F ht⟩) hS.2.2 dX6_init_110

set_option maxHeartbeats 4000000 in
set_option maxRecDepth 100000 in
theorem c_X6_copy (l : Launch) (G : va_G) (cA : Nat → ClassId) (sz : Nat) (h0 : Nat) (h1 : Nat) (fs : List Value) (a8 : Nat) (a9 : Nat) (a10 : Nat) (a11 : Nat) (a12 : Nat) (a13 : Nat) (a14 : Nat) (a15 : Nat) (a16 : Nat) (a17 : Nat) (f8 : Nat → Int32) (f9 : Nat → Int32) (f10 : Nat → Int32) (f11 : Nat → Int32) (f12 : Nat → Int32) (f13 : Nat → Int32) (f14 : Nat → Int32) (f15 : Nat → Int32) (f16 : Nat → Int32) (f17 : Nat → Int32) (gs : List Value) (st : Int32) (li : Int32) (la : Int32) (ru : Int32) (cu : Int32) (pa : Nat) (b8 : Nat) (b9 : Nat) (b10 : Nat) (b11 : Nat) (b12 : Nat) (b13 : Nat) (b14 : Nat) (b15 : Nat) (b16 : Nat) (b17 : Nat) (g8 : Nat → Int32) (g9 : Nat → Int32) (g10 : Nat → Int32) (g11 : Nat → Int32) (g12 : Nat → Int32) (g13 : Nat → Int32) (g14 : Nat → Int32) (g15 : Nat → Int32) (g16 : Nat → Int32) (g17 : Nat → Int32) (hf : fh fs 20 [(8, .ref a8), (9, .ref a9), (10, .ref a10), (11, .ref a11), (12, .ref a12), (13, .ref a13), (14, .ref a14), (15, .ref a15), (16, .ref a16), (17, .ref a17)]) (hg : fh gs 20 [(0, .int st), (1, .int li), (2, .int la), (3, .int ru), (4, .int cu), (19, .ref pa), (8, .ref b8), (9, .ref b9), (10, .ref b10), (11, .ref b11), (12, .ref b12), (13, .ref b13), (14, .ref b14), (15, .ref b15), (16, .ref b16), (17, .ref b17)]) : Met l yX6_copy (.code yX6_copy cX6_copy 2 none :: T0) ({ frames := 1, cells := 0, slots := 0, locals := 40 }) (tqP G cA [.ref h0, .ref h1] [(h0, .inr (6, fs)), (a8, .inl (cA 0, 6, .inl f8)), (a9, .inl (cA 0, 6, .inl f9)), (a10, .inl (cA 0, 6, .inl f10)), (a11, .inl (cA 0, 6, .inl f11)), (a12, .inl (cA 0, 10, .inl f12)), (a13, .inl (cA 0, 10, .inl f13)), (a14, .inl (cA 0, 10, .inl f14)), (a15, .inl (cA 0, 50, .inl f15)), (a16, .inl (cA 0, 5, .inl f16)), (a17, .inl (cA 0, 5, .inl f17)), (h1, .inr (6, gs)), (b8, .inl (cA 0, 6, .inl g8)), (b9, .inl (cA 0, 6, .inl g9)), (b10, .inl (cA 0, 6, .inl g10)), (b11, .inl (cA 0, 6, .inl g11)), (b12, .inl (cA 0, 10, .inl g12)), (b13, .inl (cA 0, 10, .inl g13)), (b14, .inl (cA 0, 10, .inl g14)), (b15, .inl (cA 0, 50, .inl g15)), (b16, .inl (cA 0, 5, .inl g16)), (b17, .inl (cA 0, 5, .inl g17))] sz) (tqQv G cA (fun (u : List Value × (Nat → Int32) × (Nat → Int32) × (Nat → Int32) × (Nat → Int32) × (Nat → Int32) × (Nat → Int32) × (Nat → Int32) × (Nat → Int32) × (Nat → Int32) × (Nat → Int32)) => fo fs u.1 [4, 3, 2, 1, 0, 19] ∧ fh u.1 20 [(4, .int cu), (3, .int ru), (2, .int la), (1, .int li), (0, .int st), (19, .ref pa)]) (fun (u : List Value × (Nat → Int32) × (Nat → Int32) × (Nat → Int32) × (Nat → Int32) × (Nat → Int32) × (Nat → Int32) × (Nat → Int32) × (Nat → Int32) × (Nat → Int32) × (Nat → Int32)) => [(h0, .inr (6, u.1)), (a8, .inl (cA 0, 6, .inl u.2.1)), (a9, .inl (cA 0, 6, .inl u.2.2.1)), (a10, .inl (cA 0, 6, .inl u.2.2.2.1)), (a11, .inl (cA 0, 6, .inl u.2.2.2.2.1)), (a12, .inl (cA 0, 10, .inl u.2.2.2.2.2.1)), (a13, .inl (cA 0, 10, .inl u.2.2.2.2.2.2.1)), (a14, .inl (cA 0, 10, .inl u.2.2.2.2.2.2.2.1)), (a15, .inl (cA 0, 50, .inl u.2.2.2.2.2.2.2.2.1)), (a16, .inl (cA 0, 5, .inl u.2.2.2.2.2.2.2.2.2.1)), (a17, .inl (cA 0, 5, .inl u.2.2.2.2.2.2.2.2.2.2)), (h1, .inr (6, gs)), (b8, .inl (cA 0, 6, .inl g8)), (b9, .inl (cA 0, 6, .inl g9)), (b10, .inl (cA 0, 6, .inl g10)), (b11, .inl (cA 0, 6, .inl g11)), (b12, .inl (cA 0, 10, .inl g12)), (b13, .inl (cA 0, 10, .inl g13)), (b14, .inl (cA 0, 10, .inl g14)), (b15, .inl (cA 0, 50, .inl g15)), (b16, .inl (cA 0, 5, .inl g16)), (b17, .inl (cA 0, 5, .inl g17))]) (va_A [(h0, .inr (6, fs)), (a8, .inl (cA 0, 6, .inl f8)), (a9, .inl (cA 0, 6, .inl f9)), (a10, .inl (cA 0, 6, .inl f10)), (a11, .inl (cA 0, 6, .inl f11)), (a12, .inl (cA 0, 10, .inl f12)), (a13, .inl (cA 0, 10, .inl f13)), (a14, .inl (cA 0, 10, .inl f14)), (a15, .inl (cA 0, 50, .inl f15)), (a16, .inl (cA 0, 5, .inl f16)), (a17, .inl (cA 0, 5, .inl f17)), (h1, .inr (6, gs)), (b8, .inl (cA 0, 6, .inl g8)), (b9, .inl (cA 0, 6, .inl g9)), (b10, .inl (cA 0, 6, .inl g10)), (b11, .inl (cA 0, 6, .inl g11)), (b12, .inl (cA 0, 10, .inl g12)), (b13, .inl (cA 0, 10, .inl g13)), (b14, .inl (cA 0, 10, .inl g14)), (b15, .inl (cA 0, 50, .inl g15)), (b16, .inl (cA 0, 5, .inl g16)), (b17, .inl (cA 0, 5, .inl g17))] sz)) 0 0 (va_A [(h0, .inr (6, fs)), (a8, .inl (cA 0, 6, .inl f8)), (a9, .inl (cA 0, 6, .inl f9)), (a10, .inl (cA 0, 6, .inl f10)), (a11, .inl (cA 0, 6, .inl f11)), (a12, .inl (cA 0, 10, .inl f12)), (a13, .inl (cA 0, 10, .inl f13)), (a14, .inl (cA 0, 10, .inl f14)), (a15, .inl (cA 0, 50, .inl f15)), (a16, .inl (cA 0, 5, .inl f16)), (a17, .inl (cA 0, 5, .inl f17)), (h1, .inr (6, gs)), (b8, .inl (cA 0, 6, .inl g8)), (b9, .inl (cA 0, 6, .inl g9)), (b10, .inl (cA 0, 6, .inl g10)), (b11, .inl (cA 0, 6, .inl g11)), (b12, .inl (cA 0, 10, .inl g12)), (b13, .inl (cA 0, 10, .inl g13)), (b14, .inl (cA 0, 10, .inl g14)), (b15, .inl (cA 0, 50, .inl g15)), (b16, .inl (cA 0, 5, .inl g16)), (b17, .inl (cA 0, 5, .inl g17))] sz) := by
  refine Met.ofW (cc := cX6_copy) (maxL := 2) (ret := none) (by decide) rfl ?_
  intro p e s m args below meth c s₁ B hml hv
  obtain ⟨rfl, hsz, hP, hK, hD0, hN⟩ := hv
  have hx := B.exec
  have hb := B.bytes
  have hr := B.returns
  have hts := atoms_spec (ws := .code yX6_copy cX6_copy 2 none :: T0) B.pre
  have hT : ∀ w ∈ T0, w.before _ s = true := fun w h => hts w (List.mem_cons_of_mem _ h)
  have hown : s.vm.findClass RX6 = some m.cls := findClass_of_methodNamed B.named
  have hlocks := B.notSynchronized
  subst hsz
  have hD := hD0.self (sz := s.heap.size)
  generalize hAe : va_A [(h0, .inr (6, fs)), (a8, .inl (cA 0, 6, .inl f8)), (a9, .inl (cA 0, 6, .inl f9)), (a10, .inl (cA 0, 6, .inl f10)), (a11, .inl (cA 0, 6, .inl f11)), (a12, .inl (cA 0, 10, .inl f12)), (a13, .inl (cA 0, 10, .inl f13)), (a14, .inl (cA 0, 10, .inl f14)), (a15, .inl (cA 0, 50, .inl f15)), (a16, .inl (cA 0, 5, .inl f16)), (a17, .inl (cA 0, 5, .inl f17)), (h1, .inr (6, gs)), (b8, .inl (cA 0, 6, .inl g8)), (b9, .inl (cA 0, 6, .inl g9)), (b10, .inl (cA 0, 6, .inl g10)), (b11, .inl (cA 0, 6, .inl g11)), (b12, .inl (cA 0, 10, .inl g12)), (b13, .inl (cA 0, 10, .inl g13)), (b14, .inl (cA 0, 10, .inl g14)), (b15, .inl (cA 0, 50, .inl g15)), (b16, .inl (cA 0, 5, .inl g16)), (b17, .inl (cA 0, 5, .inl g17))] s.heap.size = A at hD ⊢
  have hA : ∀ q : Nat, s.heap.size ≤ q → A q := fun q h => by rw [← hAe]; exact Or.inr h
  have hS : va_S A s.heap s.heap [] := va_S.rf
  have hl := lv_entry ([.ref h0, .ref h1]) (n := 2) (Nat.le_of_ble_eq_true rfl)
  rw [lg_entry_eq]
  generalize (lg_sl ([.ref h0, .ref h1]) ++ List.replicate (2 - (lg_sl ([.ref h0, .ref h1])).length) Slot.unset).toArray = ls at hl ⊢
  have hl : lv_has ls 2 [(0, .ref h0), (1, .ref h1)] := hl
  obtain ⟨H, hH⟩ : ∃ z, z = s.heap := ⟨_, rfl⟩
  rw [← hH] at hP
  have hS : va_S A s.heap H [] := by rw [hH]; exact hS
  suffices hgo : W p l e _ s m _ below meth c H [] 0 0 _ _ by rw [hH] at hgo; exact hgo
  have hO := hN.2.2.2.2
  have ho_hf := fo_refl fs
  have ho_hg := fo_refl gs
  refine lv_aload_n hx hb dX6_copy_0 rfl (lv_at hl 0 rfl) ?_
  refine lv_aload_n hx hb dX6_copy_1 rfl (lv_at hl 1 rfl) ?_
  refine va_get (D := G) (ci := 6) (v := .ref pa) (C := RX6) (T := TX6) (N := 20) hx hb hT ku_6 hown hK hP 11 rfl rfl 19 (by decide) (hT _ kw_8_1) (fun _ h9 => h9) (fh_at hg 5 rfl) dX6_copy_2 ?_
  refine va_put (D := G) (ci := 6) (v := .ref pa) (ty := (.object "RackTrain$Plan")) (C := RX6) (T := TX6) (N := 20) hx hb hT ku_6 tyX6 tyX6_ok nmX6 hown hK hP hD hS 0 rfl rfl 19 (by decide) (hT _ kw_8_1) (fun _ h9 => h9) rfl (by decide +kernel) rfl rfl (fh_lt hf (by decide)) dX6_copy_5 (fun H locs hP hD hS => ?_)
  have hP : va_P G vwCl [(h0, .inr (6, (fs.set 19 (.ref pa)))), (a8, .inl (cA 0, 6, .inl f8)), (a9, .inl (cA 0, 6, .inl f9)), (a10, .inl (cA 0, 6, .inl f10)), (a11, .inl (cA 0, 6, .inl f11)), (a12, .inl (cA 0, 10, .inl f12)), (a13, .inl (cA 0, 10, .inl f13)), (a14, .inl (cA 0, 10, .inl f14)), (a15, .inl (cA 0, 50, .inl f15)), (a16, .inl (cA 0, 5, .inl f16)), (a17, .inl (cA 0, 5, .inl f17)), (h1, .inr (6, gs)), (b8, .inl (cA 0, 6, .inl g8)), (b9, .inl (cA 0, 6, .inl g9)), (b10, .inl (cA 0, 6, .inl g10)), (b11, .inl (cA 0, 6, .inl g11)), (b12, .inl (cA 0, 10, .inl g12)), (b13, .inl (cA 0, 10, .inl g13)), (b14, .inl (cA 0, 10, .inl g14)), (b15, .inl (cA 0, 50, .inl g15)), (b16, .inl (cA 0, 5, .inl g16)), (b17, .inl (cA 0, 5, .inl g17))] H := hP
  have hD : va_D A [(h0, .inr (6, (fs.set 19 (.ref pa)))), (a8, .inl (cA 0, 6, .inl f8)), (a9, .inl (cA 0, 6, .inl f9)), (a10, .inl (cA 0, 6, .inl f10)), (a11, .inl (cA 0, 6, .inl f11)), (a12, .inl (cA 0, 10, .inl f12)), (a13, .inl (cA 0, 10, .inl f13)), (a14, .inl (cA 0, 10, .inl f14)), (a15, .inl (cA 0, 50, .inl f15)), (a16, .inl (cA 0, 5, .inl f16)), (a17, .inl (cA 0, 5, .inl f17)), (h1, .inr (6, gs)), (b8, .inl (cA 0, 6, .inl g8)), (b9, .inl (cA 0, 6, .inl g9)), (b10, .inl (cA 0, 6, .inl g10)), (b11, .inl (cA 0, 6, .inl g11)), (b12, .inl (cA 0, 10, .inl g12)), (b13, .inl (cA 0, 10, .inl g13)), (b14, .inl (cA 0, 10, .inl g14)), (b15, .inl (cA 0, 50, .inl g15)), (b16, .inl (cA 0, 5, .inl g16)), (b17, .inl (cA 0, 5, .inl g17))] := hD
  have hf := fh_set (l' := [(19, .ref pa), (8, .ref a8), (9, .ref a9), (10, .ref a10), (11, .ref a11), (12, .ref a12), (13, .ref a13), (14, .ref a14), (15, .ref a15), (16, .ref a16), (17, .ref a17)]) hf 19 (.ref pa) (by decide) rfl
  have ho102 := fo_set ho_hf 19 (.ref pa)
  generalize (fs.set 19 (.ref pa)) = fs101 at hP hD hf ho102
  refine lv_aload_n hx hb dX6_copy_8 rfl (lv_at hl 0 rfl) ?_
  refine lv_aload_n hx hb dX6_copy_9 rfl (lv_at hl 1 rfl) ?_
  refine va_get (D := G) (ci := 6) (v := .int st) (C := RX6) (T := TX6) (N := 20) hx hb hT ku_6 hown hK hP 11 rfl rfl 0 (by decide) (hT _ kw_8_2) (fun _ h9 => h9) (fh_at hg 0 rfl) dX6_copy_10 ?_
  refine va_put (D := G) (ci := 6) (v := .int st) (ty := .int) (C := RX6) (T := TX6) (N := 20) hx hb hT ku_6 tyX6 tyX6_ok nmX6 hown hK hP hD hS 0 rfl rfl 0 (by decide) (hT _ kw_8_2) (fun _ h9 => h9) rfl (by decide +kernel) rfl rfl (fh_lt hf (by decide)) dX6_copy_13 (fun H locs hP hD hS => ?_)
  have hP : va_P G vwCl [(h0, .inr (6, (fs101.set 0 (.int st)))), (a8, .inl (cA 0, 6, .inl f8)), (a9, .inl (cA 0, 6, .inl f9)), (a10, .inl (cA 0, 6, .inl f10)), (a11, .inl (cA 0, 6, .inl f11)), (a12, .inl (cA 0, 10, .inl f12)), (a13, .inl (cA 0, 10, .inl f13)), (a14, .inl (cA 0, 10, .inl f14)), (a15, .inl (cA 0, 50, .inl f15)), (a16, .inl (cA 0, 5, .inl f16)), (a17, .inl (cA 0, 5, .inl f17)), (h1, .inr (6, gs)), (b8, .inl (cA 0, 6, .inl g8)), (b9, .inl (cA 0, 6, .inl g9)), (b10, .inl (cA 0, 6, .inl g10)), (b11, .inl (cA 0, 6, .inl g11)), (b12, .inl (cA 0, 10, .inl g12)), (b13, .inl (cA 0, 10, .inl g13)), (b14, .inl (cA 0, 10, .inl g14)), (b15, .inl (cA 0, 50, .inl g15)), (b16, .inl (cA 0, 5, .inl g16)), (b17, .inl (cA 0, 5, .inl g17))] H := hP
  have hD : va_D A [(h0, .inr (6, (fs101.set 0 (.int st)))), (a8, .inl (cA 0, 6, .inl f8)), (a9, .inl (cA 0, 6, .inl f9)), (a10, .inl (cA 0, 6, .inl f10)), (a11, .inl (cA 0, 6, .inl f11)), (a12, .inl (cA 0, 10, .inl f12)), (a13, .inl (cA 0, 10, .inl f13)), (a14, .inl (cA 0, 10, .inl f14)), (a15, .inl (cA 0, 50, .inl f15)), (a16, .inl (cA 0, 5, .inl f16)), (a17, .inl (cA 0, 5, .inl f17)), (h1, .inr (6, gs)), (b8, .inl (cA 0, 6, .inl g8)), (b9, .inl (cA 0, 6, .inl g9)), (b10, .inl (cA 0, 6, .inl g10)), (b11, .inl (cA 0, 6, .inl g11)), (b12, .inl (cA 0, 10, .inl g12)), (b13, .inl (cA 0, 10, .inl g13)), (b14, .inl (cA 0, 10, .inl g14)), (b15, .inl (cA 0, 50, .inl g15)), (b16, .inl (cA 0, 5, .inl g16)), (b17, .inl (cA 0, 5, .inl g17))] := hD
  have hf := fh_set (l' := [(0, .int st), (19, .ref pa), (8, .ref a8), (9, .ref a9), (10, .ref a10), (11, .ref a11), (12, .ref a12), (13, .ref a13), (14, .ref a14), (15, .ref a15), (16, .ref a16), (17, .ref a17)]) hf 0 (.int st) (by decide) rfl
  have ho104 := fo_set ho102 0 (.int st)
  generalize (fs101.set 0 (.int st)) = fs103 at hP hD hf ho104
  refine lv_aload_n hx hb dX6_copy_16 rfl (lv_at hl 0 rfl) ?_
  refine lv_aload_n hx hb dX6_copy_17 rfl (lv_at hl 1 rfl) ?_
  refine va_get (D := G) (ci := 6) (v := .int li) (C := RX6) (T := TX6) (N := 20) hx hb hT ku_6 hown hK hP 11 rfl rfl 1 (by decide) (hT _ kw_8_3) (fun _ h9 => h9) (fh_at hg 1 rfl) dX6_copy_18 ?_
  refine va_put (D := G) (ci := 6) (v := .int li) (ty := .int) (C := RX6) (T := TX6) (N := 20) hx hb hT ku_6 tyX6 tyX6_ok nmX6 hown hK hP hD hS 0 rfl rfl 1 (by decide) (hT _ kw_8_3) (fun _ h9 => h9) rfl (by decide +kernel) rfl rfl (fh_lt hf (by decide)) dX6_copy_21 (fun H locs hP hD hS => ?_)
  have hP : va_P G vwCl [(h0, .inr (6, (fs103.set 1 (.int li)))), (a8, .inl (cA 0, 6, .inl f8)), (a9, .inl (cA 0, 6, .inl f9)), (a10, .inl (cA 0, 6, .inl f10)), (a11, .inl (cA 0, 6, .inl f11)), (a12, .inl (cA 0, 10, .inl f12)), (a13, .inl (cA 0, 10, .inl f13)), (a14, .inl (cA 0, 10, .inl f14)), (a15, .inl (cA 0, 50, .inl f15)), (a16, .inl (cA 0, 5, .inl f16)), (a17, .inl (cA 0, 5, .inl f17)), (h1, .inr (6, gs)), (b8, .inl (cA 0, 6, .inl g8)), (b9, .inl (cA 0, 6, .inl g9)), (b10, .inl (cA 0, 6, .inl g10)), (b11, .inl (cA 0, 6, .inl g11)), (b12, .inl (cA 0, 10, .inl g12)), (b13, .inl (cA 0, 10, .inl g13)), (b14, .inl (cA 0, 10, .inl g14)), (b15, .inl (cA 0, 50, .inl g15)), (b16, .inl (cA 0, 5, .inl g16)), (b17, .inl (cA 0, 5, .inl g17))] H := hP
  have hD : va_D A [(h0, .inr (6, (fs103.set 1 (.int li)))), (a8, .inl (cA 0, 6, .inl f8)), (a9, .inl (cA 0, 6, .inl f9)), (a10, .inl (cA 0, 6, .inl f10)), (a11, .inl (cA 0, 6, .inl f11)), (a12, .inl (cA 0, 10, .inl f12)), (a13, .inl (cA 0, 10, .inl f13)), (a14, .inl (cA 0, 10, .inl f14)), (a15, .inl (cA 0, 50, .inl f15)), (a16, .inl (cA 0, 5, .inl f16)), (a17, .inl (cA 0, 5, .inl f17)), (h1, .inr (6, gs)), (b8, .inl (cA 0, 6, .inl g8)), (b9, .inl (cA 0, 6, .inl g9)), (b10, .inl (cA 0, 6, .inl g10)), (b11, .inl (cA 0, 6, .inl g11)), (b12, .inl (cA 0, 10, .inl g12)), (b13, .inl (cA 0, 10, .inl g13)), (b14, .inl (cA 0, 10, .inl g14)), (b15, .inl (cA 0, 50, .inl g15)), (b16, .inl (cA 0, 5, .inl g16)), (b17, .inl (cA 0, 5, .inl g17))] := hD
  have hf := fh_set (l' := [(1, .int li), (0, .int st), (19, .ref pa), (8, .ref a8), (9, .ref a9), (10, .ref a10), (11, .ref a11), (12, .ref a12), (13, .ref a13), (14, .ref a14), (15, .ref a15), (16, .ref a16), (17, .ref a17)]) hf 1 (.int li) (by decide) rfl
  have ho106 := fo_set ho104 1 (.int li)
  generalize (fs103.set 1 (.int li)) = fs105 at hP hD hf ho106
  refine lv_aload_n hx hb dX6_copy_24 rfl (lv_at hl 0 rfl) ?_
  refine lv_aload_n hx hb dX6_copy_25 rfl (lv_at hl 1 rfl) ?_
  refine va_get (D := G) (ci := 6) (v := .int la) (C := RX6) (T := TX6) (N := 20) hx hb hT ku_6 hown hK hP 11 rfl rfl 2 (by decide) (hT _ kw_8_5) (fun _ h9 => h9) (fh_at hg 2 rfl) dX6_copy_26 ?_
  refine va_put (D := G) (ci := 6) (v := .int la) (ty := .int) (C := RX6) (T := TX6) (N := 20) hx hb hT ku_6 tyX6 tyX6_ok nmX6 hown hK hP hD hS 0 rfl rfl 2 (by decide) (hT _ kw_8_5) (fun _ h9 => h9) rfl (by decide +kernel) rfl rfl (fh_lt hf (by decide)) dX6_copy_29 (fun H locs hP hD hS => ?_)
  have hP : va_P G vwCl [(h0, .inr (6, (fs105.set 2 (.int la)))), (a8, .inl (cA 0, 6, .inl f8)), (a9, .inl (cA 0, 6, .inl f9)), (a10, .inl (cA 0, 6, .inl f10)), (a11, .inl (cA 0, 6, .inl f11)), (a12, .inl (cA 0, 10, .inl f12)), (a13, .inl (cA 0, 10, .inl f13)), (a14, .inl (cA 0, 10, .inl f14)), (a15, .inl (cA 0, 50, .inl f15)), (a16, .inl (cA 0, 5, .inl f16)), (a17, .inl (cA 0, 5, .inl f17)), (h1, .inr (6, gs)), (b8, .inl (cA 0, 6, .inl g8)), (b9, .inl (cA 0, 6, .inl g9)), (b10, .inl (cA 0, 6, .inl g10)), (b11, .inl (cA 0, 6, .inl g11)), (b12, .inl (cA 0, 10, .inl g12)), (b13, .inl (cA 0, 10, .inl g13)), (b14, .inl (cA 0, 10, .inl g14)), (b15, .inl (cA 0, 50, .inl g15)), (b16, .inl (cA 0, 5, .inl g16)), (b17, .inl (cA 0, 5, .inl g17))] H := hP
  have hD : va_D A [(h0, .inr (6, (fs105.set 2 (.int la)))), (a8, .inl (cA 0, 6, .inl f8)), (a9, .inl (cA 0, 6, .inl f9)), (a10, .inl (cA 0, 6, .inl f10)), (a11, .inl (cA 0, 6, .inl f11)), (a12, .inl (cA 0, 10, .inl f12)), (a13, .inl (cA 0, 10, .inl f13)), (a14, .inl (cA 0, 10, .inl f14)), (a15, .inl (cA 0, 50, .inl f15)), (a16, .inl (cA 0, 5, .inl f16)), (a17, .inl (cA 0, 5, .inl f17)), (h1, .inr (6, gs)), (b8, .inl (cA 0, 6, .inl g8)), (b9, .inl (cA 0, 6, .inl g9)), (b10, .inl (cA 0, 6, .inl g10)), (b11, .inl (cA 0, 6, .inl g11)), (b12, .inl (cA 0, 10, .inl g12)), (b13, .inl (cA 0, 10, .inl g13)), (b14, .inl (cA 0, 10, .inl g14)), (b15, .inl (cA 0, 50, .inl g15)), (b16, .inl (cA 0, 5, .inl g16)), (b17, .inl (cA 0, 5, .inl g17))] := hD
  have hf := fh_set (l' := [(2, .int la), (1, .int li), (0, .int st), (19, .ref pa), (8, .ref a8), (9, .ref a9), (10, .ref a10), (11, .ref a11), (12, .ref a12), (13, .ref a13), (14, .ref a14), (15, .ref a15), (16, .ref a16), (17, .ref a17)]) hf 2 (.int la) (by decide) rfl
  have ho108 := fo_set ho106 2 (.int la)
  generalize (fs105.set 2 (.int la)) = fs107 at hP hD hf ho108
  refine lv_aload_n hx hb dX6_copy_32 rfl (lv_at hl 0 rfl) ?_
  refine lv_aload_n hx hb dX6_copy_33 rfl (lv_at hl 1 rfl) ?_
  refine va_get (D := G) (ci := 6) (v := .int ru) (C := RX6) (T := TX6) (N := 20) hx hb hT ku_6 hown hK hP 11 rfl rfl 3 (by decide) (hT _ kw_8_7) (fun _ h9 => h9) (fh_at hg 3 rfl) dX6_copy_34 ?_
  refine va_put (D := G) (ci := 6) (v := .int ru) (ty := .int) (C := RX6) (T := TX6) (N := 20) hx hb hT ku_6 tyX6 tyX6_ok nmX6 hown hK hP hD hS 0 rfl rfl 3 (by decide) (hT _ kw_8_7) (fun _ h9 => h9) rfl (by decide +kernel) rfl rfl (fh_lt hf (by decide)) dX6_copy_37 (fun H locs hP hD hS => ?_)
  have hP : va_P G vwCl [(h0, .inr (6, (fs107.set 3 (.int ru)))), (a8, .inl (cA 0, 6, .inl f8)), (a9, .inl (cA 0, 6, .inl f9)), (a10, .inl (cA 0, 6, .inl f10)), (a11, .inl (cA 0, 6, .inl f11)), (a12, .inl (cA 0, 10, .inl f12)), (a13, .inl (cA 0, 10, .inl f13)), (a14, .inl (cA 0, 10, .inl f14)), (a15, .inl (cA 0, 50, .inl f15)), (a16, .inl (cA 0, 5, .inl f16)), (a17, .inl (cA 0, 5, .inl f17)), (h1, .inr (6, gs)), (b8, .inl (cA 0, 6, .inl g8)), (b9, .inl (cA 0, 6, .inl g9)), (b10, .inl (cA 0, 6, .inl g10)), (b11, .inl (cA 0, 6, .inl g11)), (b12, .inl (cA 0, 10, .inl g12)), (b13, .inl (cA 0, 10, .inl g13)), (b14, .inl (cA 0, 10, .inl g14)), (b15, .inl (cA 0, 50, .inl g15)), (b16, .inl (cA 0, 5, .inl g16)), (b17, .inl (cA 0, 5, .inl g17))] H := hP
  have hD : va_D A [(h0, .inr (6, (fs107.set 3 (.int ru)))), (a8, .inl (cA 0, 6, .inl f8)), (a9, .inl (cA 0, 6, .inl f9)), (a10, .inl (cA 0, 6, .inl f10)), (a11, .inl (cA 0, 6, .inl f11)), (a12, .inl (cA 0, 10, .inl f12)), (a13, .inl (cA 0, 10, .inl f13)), (a14, .inl (cA 0, 10, .inl f14)), (a15, .inl (cA 0, 50, .inl f15)), (a16, .inl (cA 0, 5, .inl f16)), (a17, .inl (cA 0, 5, .inl f17)), (h1, .inr (6, gs)), (b8, .inl (cA 0, 6, .inl g8)), (b9, .inl (cA 0, 6, .inl g9)), (b10, .inl (cA 0, 6, .inl g10)), (b11, .inl (cA 0, 6, .inl g11)), (b12, .inl (cA 0, 10, .inl g12)), (b13, .inl (cA 0, 10, .inl g13)), (b14, .inl (cA 0, 10, .inl g14)), (b15, .inl (cA 0, 50, .inl g15)), (b16, .inl (cA 0, 5, .inl g16)), (b17, .inl (cA 0, 5, .inl g17))] := hD
  have hf := fh_set (l' := [(3, .int ru), (2, .int la), (1, .int li), (0, .int st), (19, .ref pa), (8, .ref a8), (9, .ref a9), (10, .ref a10), (11, .ref a11), (12, .ref a12), (13, .ref a13), (14, .ref a14), (15, .ref a15), (16, .ref a16), (17, .ref a17)]) hf 3 (.int ru) (by decide) rfl
  have ho110 := fo_set ho108 3 (.int ru)
  generalize (fs107.set 3 (.int ru)) = fs109 at hP hD hf ho110
  refine lv_aload_n hx hb dX6_copy_40 rfl (lv_at hl 0 rfl) ?_
  refine lv_aload_n hx hb dX6_copy_41 rfl (lv_at hl 1 rfl) ?_
  refine va_get (D := G) (ci := 6) (v := .int cu) (C := RX6) (T := TX6) (N := 20) hx hb hT ku_6 hown hK hP 11 rfl rfl 4 (by decide) (hT _ kw_8_9) (fun _ h9 => h9) (fh_at hg 4 rfl) dX6_copy_42 ?_
  refine va_put (D := G) (ci := 6) (v := .int cu) (ty := .int) (C := RX6) (T := TX6) (N := 20) hx hb hT ku_6 tyX6 tyX6_ok nmX6 hown hK hP hD hS 0 rfl rfl 4 (by decide) (hT _ kw_8_9) (fun _ h9 => h9) rfl (by decide +kernel) rfl rfl (fh_lt hf (by decide)) dX6_copy_45 (fun H locs hP hD hS => ?_)
  have hP : va_P G vwCl [(h0, .inr (6, (fs109.set 4 (.int cu)))), (a8, .inl (cA 0, 6, .inl f8)), (a9, .inl (cA 0, 6, .inl f9)), (a10, .inl (cA 0, 6, .inl f10)), (a11, .inl (cA 0, 6, .inl f11)), (a12, .inl (cA 0, 10, .inl f12)), (a13, .inl (cA 0, 10, .inl f13)), (a14, .inl (cA 0, 10, .inl f14)), (a15, .inl (cA 0, 50, .inl f15)), (a16, .inl (cA 0, 5, .inl f16)), (a17, .inl (cA 0, 5, .inl f17)), (h1, .inr (6, gs)), (b8, .inl (cA 0, 6, .inl g8)), (b9, .inl (cA 0, 6, .inl g9)), (b10, .inl (cA 0, 6, .inl g10)), (b11, .inl (cA 0, 6, .inl g11)), (b12, .inl (cA 0, 10, .inl g12)), (b13, .inl (cA 0, 10, .inl g13)), (b14, .inl (cA 0, 10, .inl g14)), (b15, .inl (cA 0, 50, .inl g15)), (b16, .inl (cA 0, 5, .inl g16)), (b17, .inl (cA 0, 5, .inl g17))] H := hP
  have hD : va_D A [(h0, .inr (6, (fs109.set 4 (.int cu)))), (a8, .inl (cA 0, 6, .inl f8)), (a9, .inl (cA 0, 6, .inl f9)), (a10, .inl (cA 0, 6, .inl f10)), (a11, .inl (cA 0, 6, .inl f11)), (a12, .inl (cA 0, 10, .inl f12)), (a13, .inl (cA 0, 10, .inl f13)), (a14, .inl (cA 0, 10, .inl f14)), (a15, .inl (cA 0, 50, .inl f15)), (a16, .inl (cA 0, 5, .inl f16)), (a17, .inl (cA 0, 5, .inl f17)), (h1, .inr (6, gs)), (b8, .inl (cA 0, 6, .inl g8)), (b9, .inl (cA 0, 6, .inl g9)), (b10, .inl (cA 0, 6, .inl g10)), (b11, .inl (cA 0, 6, .inl g11)), (b12, .inl (cA 0, 10, .inl g12)), (b13, .inl (cA 0, 10, .inl g13)), (b14, .inl (cA 0, 10, .inl g14)), (b15, .inl (cA 0, 50, .inl g15)), (b16, .inl (cA 0, 5, .inl g16)), (b17, .inl (cA 0, 5, .inl g17))] := hD
  have hf := fh_set (l' := [(4, .int cu), (3, .int ru), (2, .int la), (1, .int li), (0, .int st), (19, .ref pa), (8, .ref a8), (9, .ref a9), (10, .ref a10), (11, .ref a11), (12, .ref a12), (13, .ref a13), (14, .ref a14), (15, .ref a15), (16, .ref a16), (17, .ref a17)]) hf 4 (.int cu) (by decide) rfl
  have ho112 := fo_set ho110 4 (.int cu)
  generalize (fs109.set 4 (.int cu)) = fs111 at hP hD hf ho112
  refine lv_aload_n hx hb dX6_copy_48 rfl (lv_at hl 1 rfl) ?_
  refine va_get (D := G) (ci := 6) (v := .ref b8) (C := RX6) (T := TX6) (N := 20) hx hb hT ku_6 hown hK hP 11 rfl rfl 8 (by decide) (hT _ kw_7_7) (fun _ h9 => h9) (fh_at hg 6 rfl) dX6_copy_49 ?_
  refine lv_iconst (v := 0) hx hb dX6_copy_52 (by decide) ?_
  refine lv_aload_n hx hb dX6_copy_53 rfl (lv_at hl 0 rfl) ?_
  refine va_get (D := G) (ci := 6) (v := .ref a8) (C := RX6) (T := TX6) (N := 20) hx hb hT ku_6 hown hK hP 0 rfl rfl 8 (by decide) (hT _ kw_7_7) (fun _ h9 => h9) (fh_at hf 6 rfl) dX6_copy_54 ?_
  refine lv_iconst (v := 0) hx hb dX6_copy_57 (by decide) ?_
  refine lv_bipush (v := 6) hx hb dX6_copy_58 (by decide) ?_
  refine va_copyi (ty := .int) (sp := 0) (dp := 0) (n := 6) hx hb (hml.trans hl.1.symm) hown (hT _ kw_38_14) (hT _ kw_36_19) (hT _ kw_36_20) (hT _ kw_36_21) hK hP hD hS 12 1 0 0 rfl rfl rfl rfl rfl (by decide) (by decide) (by decide) (by decide) (by decide) (fun _ _ => rfl) (Nat.le_of_ble_eq_true rfl) (by decide) dX6_copy_60 (fun H locs hP hD hS => ?_)
  have hP : va_P G vwCl [(h0, .inr (6, fs111)), (a8, .inl (cA 0, 6, .inl ((va_cpy g8 f8 (0 : Int32).toNatClampNeg (0 : Int32).toNatClampNeg (6 : Int32).toNatClampNeg)))), (a9, .inl (cA 0, 6, .inl f9)), (a10, .inl (cA 0, 6, .inl f10)), (a11, .inl (cA 0, 6, .inl f11)), (a12, .inl (cA 0, 10, .inl f12)), (a13, .inl (cA 0, 10, .inl f13)), (a14, .inl (cA 0, 10, .inl f14)), (a15, .inl (cA 0, 50, .inl f15)), (a16, .inl (cA 0, 5, .inl f16)), (a17, .inl (cA 0, 5, .inl f17)), (h1, .inr (6, gs)), (b8, .inl (cA 0, 6, .inl g8)), (b9, .inl (cA 0, 6, .inl g9)), (b10, .inl (cA 0, 6, .inl g10)), (b11, .inl (cA 0, 6, .inl g11)), (b12, .inl (cA 0, 10, .inl g12)), (b13, .inl (cA 0, 10, .inl g13)), (b14, .inl (cA 0, 10, .inl g14)), (b15, .inl (cA 0, 50, .inl g15)), (b16, .inl (cA 0, 5, .inl g16)), (b17, .inl (cA 0, 5, .inl g17))] H := hP
  have hD : va_D A [(h0, .inr (6, fs111)), (a8, .inl (cA 0, 6, .inl ((va_cpy g8 f8 (0 : Int32).toNatClampNeg (0 : Int32).toNatClampNeg (6 : Int32).toNatClampNeg)))), (a9, .inl (cA 0, 6, .inl f9)), (a10, .inl (cA 0, 6, .inl f10)), (a11, .inl (cA 0, 6, .inl f11)), (a12, .inl (cA 0, 10, .inl f12)), (a13, .inl (cA 0, 10, .inl f13)), (a14, .inl (cA 0, 10, .inl f14)), (a15, .inl (cA 0, 50, .inl f15)), (a16, .inl (cA 0, 5, .inl f16)), (a17, .inl (cA 0, 5, .inl f17)), (h1, .inr (6, gs)), (b8, .inl (cA 0, 6, .inl g8)), (b9, .inl (cA 0, 6, .inl g9)), (b10, .inl (cA 0, 6, .inl g10)), (b11, .inl (cA 0, 6, .inl g11)), (b12, .inl (cA 0, 10, .inl g12)), (b13, .inl (cA 0, 10, .inl g13)), (b14, .inl (cA 0, 10, .inl g14)), (b15, .inl (cA 0, 50, .inl g15)), (b16, .inl (cA 0, 5, .inl g16)), (b17, .inl (cA 0, 5, .inl g17))] := hD
  generalize (va_cpy g8 f8 (0 : Int32).toNatClampNeg (0 : Int32).toNatClampNeg (6 : Int32).toNatClampNeg) = f113 at hP hD
  refine lv_aload_n hx hb dX6_copy_63 rfl (lv_at hl 1 rfl) ?_
  refine va_get (D := G) (ci := 6) (v := .ref b9) (C := RX6) (T := TX6) (N := 20) hx hb hT ku_6 hown hK hP 11 rfl rfl 9 (by decide) (hT _ kw_7_8) (fun _ h9 => h9) (fh_at hg 7 rfl) dX6_copy_64 ?_
  refine lv_iconst (v := 0) hx hb dX6_copy_67 (by decide) ?_
  refine lv_aload_n hx hb dX6_copy_68 rfl (lv_at hl 0 rfl) ?_
  refine va_get (D := G) (ci := 6) (v := .ref a9) (C := RX6) (T := TX6) (N := 20) hx hb hT ku_6 hown hK hP 0 rfl rfl 9 (by decide) (hT _ kw_7_8) (fun _ h9 => h9) (fh_at hf 7 rfl) dX6_copy_69 ?_
  refine lv_iconst (v := 0) hx hb dX6_copy_72 (by decide) ?_
  refine lv_bipush (v := 6) hx hb dX6_copy_73 (by decide) ?_
  refine va_copyi (ty := .int) (sp := 0) (dp := 0) (n := 6) hx hb (hml.trans hl.1.symm) hown (hT _ kw_38_14) (hT _ kw_36_19) (hT _ kw_36_20) (hT _ kw_36_21) hK hP hD hS 13 2 0 0 rfl rfl rfl rfl rfl (by decide) (by decide) (by decide) (by decide) (by decide) (fun _ _ => rfl) (Nat.le_of_ble_eq_true rfl) (by decide) dX6_copy_75 (fun H locs hP hD hS => ?_)
  have hP : va_P G vwCl [(h0, .inr (6, fs111)), (a8, .inl (cA 0, 6, .inl f113)), (a9, .inl (cA 0, 6, .inl ((va_cpy g9 f9 (0 : Int32).toNatClampNeg (0 : Int32).toNatClampNeg (6 : Int32).toNatClampNeg)))), (a10, .inl (cA 0, 6, .inl f10)), (a11, .inl (cA 0, 6, .inl f11)), (a12, .inl (cA 0, 10, .inl f12)), (a13, .inl (cA 0, 10, .inl f13)), (a14, .inl (cA 0, 10, .inl f14)), (a15, .inl (cA 0, 50, .inl f15)), (a16, .inl (cA 0, 5, .inl f16)), (a17, .inl (cA 0, 5, .inl f17)), (h1, .inr (6, gs)), (b8, .inl (cA 0, 6, .inl g8)), (b9, .inl (cA 0, 6, .inl g9)), (b10, .inl (cA 0, 6, .inl g10)), (b11, .inl (cA 0, 6, .inl g11)), (b12, .inl (cA 0, 10, .inl g12)), (b13, .inl (cA 0, 10, .inl g13)), (b14, .inl (cA 0, 10, .inl g14)), (b15, .inl (cA 0, 50, .inl g15)), (b16, .inl (cA 0, 5, .inl g16)), (b17, .inl (cA 0, 5, .inl g17))] H := hP
  have hD : va_D A [(h0, .inr (6, fs111)), (a8, .inl (cA 0, 6, .inl f113)), (a9, .inl (cA 0, 6, .inl ((va_cpy g9 f9 (0 : Int32).toNatClampNeg (0 : Int32).toNatClampNeg (6 : Int32).toNatClampNeg)))), (a10, .inl (cA 0, 6, .inl f10)), (a11, .inl (cA 0, 6, .inl f11)), (a12, .inl (cA 0, 10, .inl f12)), (a13, .inl (cA 0, 10, .inl f13)), (a14, .inl (cA 0, 10, .inl f14)), (a15, .inl (cA 0, 50, .inl f15)), (a16, .inl (cA 0, 5, .inl f16)), (a17, .inl (cA 0, 5, .inl f17)), (h1, .inr (6, gs)), (b8, .inl (cA 0, 6, .inl g8)), (b9, .inl (cA 0, 6, .inl g9)), (b10, .inl (cA 0, 6, .inl g10)), (b11, .inl (cA 0, 6, .inl g11)), (b12, .inl (cA 0, 10, .inl g12)), (b13, .inl (cA 0, 10, .inl g13)), (b14, .inl (cA 0, 10, .inl g14)), (b15, .inl (cA 0, 50, .inl g15)), (b16, .inl (cA 0, 5, .inl g16)), (b17, .inl (cA 0, 5, .inl g17))] := hD
  generalize (va_cpy g9 f9 (0 : Int32).toNatClampNeg (0 : Int32).toNatClampNeg (6 : Int32).toNatClampNeg) = f114 at hP hD
  refine lv_aload_n hx hb dX6_copy_78 rfl (lv_at hl 1 rfl) ?_
  refine va_get (D := G) (ci := 6) (v := .ref b10) (C := RX6) (T := TX6) (N := 20) hx hb hT ku_6 hown hK hP 11 rfl rfl 10 (by decide) (hT _ kw_7_9) (fun _ h9 => h9) (fh_at hg 8 rfl) dX6_copy_79 ?_
  refine lv_iconst (v := 0) hx hb dX6_copy_82 (by decide) ?_
  refine lv_aload_n hx hb dX6_copy_83 rfl (lv_at hl 0 rfl) ?_
  refine va_get (D := G) (ci := 6) (v := .ref a10) (C := RX6) (T := TX6) (N := 20) hx hb hT ku_6 hown hK hP 0 rfl rfl 10 (by decide) (hT _ kw_7_9) (fun _ h9 => h9) (fh_at hf 8 rfl) dX6_copy_84 ?_
  refine lv_iconst (v := 0) hx hb dX6_copy_87 (by decide) ?_
  refine lv_bipush (v := 6) hx hb dX6_copy_88 (by decide) ?_
  refine va_copyi (ty := .int) (sp := 0) (dp := 0) (n := 6) hx hb (hml.trans hl.1.symm) hown (hT _ kw_38_14) (hT _ kw_36_19) (hT _ kw_36_20) (hT _ kw_36_21) hK hP hD hS 14 3 0 0 rfl rfl rfl rfl rfl (by decide) (by decide) (by decide) (by decide) (by decide) (fun _ _ => rfl) (Nat.le_of_ble_eq_true rfl) (by decide) dX6_copy_90 (fun H locs hP hD hS => ?_)
  have hP : va_P G vwCl [(h0, .inr (6, fs111)), (a8, .inl (cA 0, 6, .inl f113)), (a9, .inl (cA 0, 6, .inl f114)), (a10, .inl (cA 0, 6, .inl ((va_cpy g10 f10 (0 : Int32).toNatClampNeg (0 : Int32).toNatClampNeg (6 : Int32).toNatClampNeg)))), (a11, .inl (cA 0, 6, .inl f11)), (a12, .inl (cA 0, 10, .inl f12)), (a13, .inl (cA 0, 10, .inl f13)), (a14, .inl (cA 0, 10, .inl f14)), (a15, .inl (cA 0, 50, .inl f15)), (a16, .inl (cA 0, 5, .inl f16)), (a17, .inl (cA 0, 5, .inl f17)), (h1, .inr (6, gs)), (b8, .inl (cA 0, 6, .inl g8)), (b9, .inl (cA 0, 6, .inl g9)), (b10, .inl (cA 0, 6, .inl g10)), (b11, .inl (cA 0, 6, .inl g11)), (b12, .inl (cA 0, 10, .inl g12)), (b13, .inl (cA 0, 10, .inl g13)), (b14, .inl (cA 0, 10, .inl g14)), (b15, .inl (cA 0, 50, .inl g15)), (b16, .inl (cA 0, 5, .inl g16)), (b17, .inl (cA 0, 5, .inl g17))] H := hP
  have hD : va_D A [(h0, .inr (6, fs111)), (a8, .inl (cA 0, 6, .inl f113)), (a9, .inl (cA 0, 6, .inl f114)), (a10, .inl (cA 0, 6, .inl ((va_cpy g10 f10 (0 : Int32).toNatClampNeg (0 : Int32).toNatClampNeg (6 : Int32).toNatClampNeg)))), (a11, .inl (cA 0, 6, .inl f11)), (a12, .inl (cA 0, 10, .inl f12)), (a13, .inl (cA 0, 10, .inl f13)), (a14, .inl (cA 0, 10, .inl f14)), (a15, .inl (cA 0, 50, .inl f15)), (a16, .inl (cA 0, 5, .inl f16)), (a17, .inl (cA 0, 5, .inl f17)), (h1, .inr (6, gs)), (b8, .inl (cA 0, 6, .inl g8)), (b9, .inl (cA 0, 6, .inl g9)), (b10, .inl (cA 0, 6, .inl g10)), (b11, .inl (cA 0, 6, .inl g11)), (b12, .inl (cA 0, 10, .inl g12)), (b13, .inl (cA 0, 10, .inl g13)), (b14, .inl (cA 0, 10, .inl g14)), (b15, .inl (cA 0, 50, .inl g15)), (b16, .inl (cA 0, 5, .inl g16)), (b17, .inl (cA 0, 5, .inl g17))] := hD
  generalize (va_cpy g10 f10 (0 : Int32).toNatClampNeg (0 : Int32).toNatClampNeg (6 : Int32).toNatClampNeg) = f115 at hP hD
  refine lv_aload_n hx hb dX6_copy_93 rfl (lv_at hl 1 rfl) ?_
  refine va_get (D := G) (ci := 6) (v := .ref b11) (C := RX6) (T := TX6) (N := 20) hx hb hT ku_6 hown hK hP 11 rfl rfl 11 (by decide) (hT _ kw_7_10) (fun _ h9 => h9) (fh_at hg 9 rfl) dX6_copy_94 ?_
  refine lv_iconst (v := 0) hx hb dX6_copy_97 (by decide) ?_
  refine lv_aload_n hx hb dX6_copy_98 rfl (lv_at hl 0 rfl) ?_
  refine va_get (D := G) (ci := 6) (v := .ref a11) (C := RX6) (T := TX6) (N := 20) hx hb hT ku_6 hown hK hP 0 rfl rfl 11 (by decide) (hT _ kw_7_10) (fun _ h9 => h9) (fh_at hf 9 rfl) dX6_copy_99 ?_
  refine lv_iconst (v := 0) hx hb dX6_copy_102 (by decide) ?_
  refine lv_bipush (v := 6) hx hb dX6_copy_103 (by decide) ?_
  refine va_copyi (ty := .int) (sp := 0) (dp := 0) (n := 6) hx hb (hml.trans hl.1.symm) hown (hT _ kw_38_14) (hT _ kw_36_19) (hT _ kw_36_20) (hT _ kw_36_21) hK hP hD hS 15 4 0 0 rfl rfl rfl rfl rfl (by decide) (by decide) (by decide) (by decide) (by decide) (fun _ _ => rfl) (Nat.le_of_ble_eq_true rfl) (by decide) dX6_copy_105 (fun H locs hP hD hS => ?_)
  have hP : va_P G vwCl [(h0, .inr (6, fs111)), (a8, .inl (cA 0, 6, .inl f113)), (a9, .inl (cA 0, 6, .inl f114)), (a10, .inl (cA 0, 6, .inl f115)), (a11, .inl (cA 0, 6, .inl ((va_cpy g11 f11 (0 : Int32).toNatClampNeg (0 : Int32).toNatClampNeg (6 : Int32).toNatClampNeg)))), (a12, .inl (cA 0, 10, .inl f12)), (a13, .inl (cA 0, 10, .inl f13)), (a14, .inl (cA 0, 10, .inl f14)), (a15, .inl (cA 0, 50, .inl f15)), (a16, .inl (cA 0, 5, .inl f16)), (a17, .inl (cA 0, 5, .inl f17)), (h1, .inr (6, gs)), (b8, .inl (cA 0, 6, .inl g8)), (b9, .inl (cA 0, 6, .inl g9)), (b10, .inl (cA 0, 6, .inl g10)), (b11, .inl (cA 0, 6, .inl g11)), (b12, .inl (cA 0, 10, .inl g12)), (b13, .inl (cA 0, 10, .inl g13)), (b14, .inl (cA 0, 10, .inl g14)), (b15, .inl (cA 0, 50, .inl g15)), (b16, .inl (cA 0, 5, .inl g16)), (b17, .inl (cA 0, 5, .inl g17))] H := hP
  have hD : va_D A [(h0, .inr (6, fs111)), (a8, .inl (cA 0, 6, .inl f113)), (a9, .inl (cA 0, 6, .inl f114)), (a10, .inl (cA 0, 6, .inl f115)), (a11, .inl (cA 0, 6, .inl ((va_cpy g11 f11 (0 : Int32).toNatClampNeg (0 : Int32).toNatClampNeg (6 : Int32).toNatClampNeg)))), (a12, .inl (cA 0, 10, .inl f12)), (a13, .inl (cA 0, 10, .inl f13)), (a14, .inl (cA 0, 10, .inl f14)), (a15, .inl (cA 0, 50, .inl f15)), (a16, .inl (cA 0, 5, .inl f16)), (a17, .inl (cA 0, 5, .inl f17)), (h1, .inr (6, gs)), (b8, .inl (cA 0, 6, .inl g8)), (b9, .inl (cA 0, 6, .inl g9)), (b10, .inl (cA 0, 6, .inl g10)), (b11, .inl (cA 0, 6, .inl g11)), (b12, .inl (cA 0, 10, .inl g12)), (b13, .inl (cA 0, 10, .inl g13)), (b14, .inl (cA 0, 10, .inl g14)), (b15, .inl (cA 0, 50, .inl g15)), (b16, .inl (cA 0, 5, .inl g16)), (b17, .inl (cA 0, 5, .inl g17))] := hD
  generalize (va_cpy g11 f11 (0 : Int32).toNatClampNeg (0 : Int32).toNatClampNeg (6 : Int32).toNatClampNeg) = f116 at hP hD
  refine lv_aload_n hx hb dX6_copy_108 rfl (lv_at hl 1 rfl) ?_
  refine va_get (D := G) (ci := 6) (v := .ref b12) (C := RX6) (T := TX6) (N := 20) hx hb hT ku_6 hown hK hP 11 rfl rfl 12 (by decide) (hT _ kw_7_11) (fun _ h9 => h9) (fh_at hg 10 rfl) dX6_copy_109 ?_
  refine lv_iconst (v := 0) hx hb dX6_copy_112 (by decide) ?_
  refine lv_aload_n hx hb dX6_copy_113 rfl (lv_at hl 0 rfl) ?_
  refine va_get (D := G) (ci := 6) (v := .ref a12) (C := RX6) (T := TX6) (N := 20) hx hb hT ku_6 hown hK hP 0 rfl rfl 12 (by decide) (hT _ kw_7_11) (fun _ h9 => h9) (fh_at hf 10 rfl) dX6_copy_114 ?_
  refine lv_iconst (v := 0) hx hb dX6_copy_117 (by decide) ?_
  refine lv_bipush (v := 10) hx hb dX6_copy_118 (by decide) ?_
  refine va_copyi (ty := .int) (sp := 0) (dp := 0) (n := 10) hx hb (hml.trans hl.1.symm) hown (hT _ kw_38_14) (hT _ kw_36_19) (hT _ kw_36_20) (hT _ kw_36_21) hK hP hD hS 16 5 0 0 rfl rfl rfl rfl rfl (by decide) (by decide) (by decide) (by decide) (by decide) (fun _ _ => rfl) (Nat.le_of_ble_eq_true rfl) (by decide) dX6_copy_120 (fun H locs hP hD hS => ?_)
  have hP : va_P G vwCl [(h0, .inr (6, fs111)), (a8, .inl (cA 0, 6, .inl f113)), (a9, .inl (cA 0, 6, .inl f114)), (a10, .inl (cA 0, 6, .inl f115)), (a11, .inl (cA 0, 6, .inl f116)), (a12, .inl (cA 0, 10, .inl ((va_cpy g12 f12 (0 : Int32).toNatClampNeg (0 : Int32).toNatClampNeg (10 : Int32).toNatClampNeg)))), (a13, .inl (cA 0, 10, .inl f13)), (a14, .inl (cA 0, 10, .inl f14)), (a15, .inl (cA 0, 50, .inl f15)), (a16, .inl (cA 0, 5, .inl f16)), (a17, .inl (cA 0, 5, .inl f17)), (h1, .inr (6, gs)), (b8, .inl (cA 0, 6, .inl g8)), (b9, .inl (cA 0, 6, .inl g9)), (b10, .inl (cA 0, 6, .inl g10)), (b11, .inl (cA 0, 6, .inl g11)), (b12, .inl (cA 0, 10, .inl g12)), (b13, .inl (cA 0, 10, .inl g13)), (b14, .inl (cA 0, 10, .inl g14)), (b15, .inl (cA 0, 50, .inl g15)), (b16, .inl (cA 0, 5, .inl g16)), (b17, .inl (cA 0, 5, .inl g17))] H := hP
  have hD : va_D A [(h0, .inr (6, fs111)), (a8, .inl (cA 0, 6, .inl f113)), (a9, .inl (cA 0, 6, .inl f114)), (a10, .inl (cA 0, 6, .inl f115)), (a11, .inl (cA 0, 6, .inl f116)), (a12, .inl (cA 0, 10, .inl ((va_cpy g12 f12 (0 : Int32).toNatClampNeg (0 : Int32).toNatClampNeg (10 : Int32).toNatClampNeg)))), (a13, .inl (cA 0, 10, .inl f13)), (a14, .inl (cA 0, 10, .inl f14)), (a15, .inl (cA 0, 50, .inl f15)), (a16, .inl (cA 0, 5, .inl f16)), (a17, .inl (cA 0, 5, .inl f17)), (h1, .inr (6, gs)), (b8, .inl (cA 0, 6, .inl g8)), (b9, .inl (cA 0, 6, .inl g9)), (b10, .inl (cA 0, 6, .inl g10)), (b11, .inl (cA 0, 6, .inl g11)), (b12, .inl (cA 0, 10, .inl g12)), (b13, .inl (cA 0, 10, .inl g13)), (b14, .inl (cA 0, 10, .inl g14)), (b15, .inl (cA 0, 50, .inl g15)), (b16, .inl (cA 0, 5, .inl g16)), (b17, .inl (cA 0, 5, .inl g17))] := hD
  generalize (va_cpy g12 f12 (0 : Int32).toNatClampNeg (0 : Int32).toNatClampNeg (10 : Int32).toNatClampNeg) = f117 at hP hD
  refine lv_aload_n hx hb dX6_copy_123 rfl (lv_at hl 1 rfl) ?_
  refine va_get (D := G) (ci := 6) (v := .ref b13) (C := RX6) (T := TX6) (N := 20) hx hb hT ku_6 hown hK hP 11 rfl rfl 13 (by decide) (hT _ kw_7_12) (fun _ h9 => h9) (fh_at hg 11 rfl) dX6_copy_124 ?_
  refine lv_iconst (v := 0) hx hb dX6_copy_127 (by decide) ?_
  refine lv_aload_n hx hb dX6_copy_128 rfl (lv_at hl 0 rfl) ?_
  refine va_get (D := G) (ci := 6) (v := .ref a13) (C := RX6) (T := TX6) (N := 20) hx hb hT ku_6 hown hK hP 0 rfl rfl 13 (by decide) (hT _ kw_7_12) (fun _ h9 => h9) (fh_at hf 11 rfl) dX6_copy_129 ?_
  refine lv_iconst (v := 0) hx hb dX6_copy_132 (by decide) ?_
  refine lv_bipush (v := 10) hx hb dX6_copy_133 (by decide) ?_
  refine va_copyi (ty := .int) (sp := 0) (dp := 0) (n := 10) hx hb (hml.trans hl.1.symm) hown (hT _ kw_38_14) (hT _ kw_36_19) (hT _ kw_36_20) (hT _ kw_36_21) hK hP hD hS 17 6 0 0 rfl rfl rfl rfl rfl (by decide) (by decide) (by decide) (by decide) (by decide) (fun _ _ => rfl) (Nat.le_of_ble_eq_true rfl) (by decide) dX6_copy_135 (fun H locs hP hD hS => ?_)
  have hP : va_P G vwCl [(h0, .inr (6, fs111)), (a8, .inl (cA 0, 6, .inl f113)), (a9, .inl (cA 0, 6, .inl f114)), (a10, .inl (cA 0, 6, .inl f115)), (a11, .inl (cA 0, 6, .inl f116)), (a12, .inl (cA 0, 10, .inl f117)), (a13, .inl (cA 0, 10, .inl ((va_cpy g13 f13 (0 : Int32).toNatClampNeg (0 : Int32).toNatClampNeg (10 : Int32).toNatClampNeg)))), (a14, .inl (cA 0, 10, .inl f14)), (a15, .inl (cA 0, 50, .inl f15)), (a16, .inl (cA 0, 5, .inl f16)), (a17, .inl (cA 0, 5, .inl f17)), (h1, .inr (6, gs)), (b8, .inl (cA 0, 6, .inl g8)), (b9, .inl (cA 0, 6, .inl g9)), (b10, .inl (cA 0, 6, .inl g10)), (b11, .inl (cA 0, 6, .inl g11)), (b12, .inl (cA 0, 10, .inl g12)), (b13, .inl (cA 0, 10, .inl g13)), (b14, .inl (cA 0, 10, .inl g14)), (b15, .inl (cA 0, 50, .inl g15)), (b16, .inl (cA 0, 5, .inl g16)), (b17, .inl (cA 0, 5, .inl g17))] H := hP
  have hD : va_D A [(h0, .inr (6, fs111)), (a8, .inl (cA 0, 6, .inl f113)), (a9, .inl (cA 0, 6, .inl f114)), (a10, .inl (cA 0, 6, .inl f115)), (a11, .inl (cA 0, 6, .inl f116)), (a12, .inl (cA 0, 10, .inl f117)), (a13, .inl (cA 0, 10, .inl ((va_cpy g13 f13 (0 : Int32).toNatClampNeg (0 : Int32).toNatClampNeg (10 : Int32).toNatClampNeg)))), (a14, .inl (cA 0, 10, .inl f14)), (a15, .inl (cA 0, 50, .inl f15)), (a16, .inl (cA 0, 5, .inl f16)), (a17, .inl (cA 0, 5, .inl f17)), (h1, .inr (6, gs)), (b8, .inl (cA 0, 6, .inl g8)), (b9, .inl (cA 0, 6, .inl g9)), (b10, .inl (cA 0, 6, .inl g10)), (b11, .inl (cA 0, 6, .inl g11)), (b12, .inl (cA 0, 10, .inl g12)), (b13, .inl (cA 0, 10, .inl g13)), (b14, .inl (cA 0, 10, .inl g14)), (b15, .inl (cA 0, 50, .inl g15)), (b16, .inl (cA 0, 5, .inl g16)), (b17, .inl (cA 0, 5, .inl g17))] := hD
  generalize (va_cpy g13 f13 (0 : Int32).toNatClampNeg (0 : Int32).toNatClampNeg (10 : Int32).toNatClampNeg) = f118 at hP hD
  refine lv_aload_n hx hb dX6_copy_138 rfl (lv_at hl 1 rfl) ?_
  refine va_get (D := G) (ci := 6) (v := .ref b14) (C := RX6) (T := TX6) (N := 20) hx hb hT ku_6 hown hK hP 11 rfl rfl 14 (by decide) (hT _ kw_7_13) (fun _ h9 => h9) (fh_at hg 12 rfl) dX6_copy_139 ?_
  refine lv_iconst (v := 0) hx hb dX6_copy_142 (by decide) ?_
  refine lv_aload_n hx hb dX6_copy_143 rfl (lv_at hl 0 rfl) ?_
  refine va_get (D := G) (ci := 6) (v := .ref a14) (C := RX6) (T := TX6) (N := 20) hx hb hT ku_6 hown hK hP 0 rfl rfl 14 (by decide) (hT _ kw_7_13) (fun _ h9 => h9) (fh_at hf 12 rfl) dX6_copy_144 ?_
  refine lv_iconst (v := 0) hx hb dX6_copy_147 (by decide) ?_
  refine lv_bipush (v := 10) hx hb dX6_copy_148 (by decide) ?_
  refine va_copyi (ty := .int) (sp := 0) (dp := 0) (n := 10) hx hb (hml.trans hl.1.symm) hown (hT _ kw_38_14) (hT _ kw_36_19) (hT _ kw_36_20) (hT _ kw_36_21) hK hP hD hS 18 7 0 0 rfl rfl rfl rfl rfl (by decide) (by decide) (by decide) (by decide) (by decide) (fun _ _ => rfl) (Nat.le_of_ble_eq_true rfl) (by decide) dX6_copy_150 (fun H locs hP hD hS => ?_)
  have hP : va_P G vwCl [(h0, .inr (6, fs111)), (a8, .inl (cA 0, 6, .inl f113)), (a9, .inl (cA 0, 6, .inl f114)), (a10, .inl (cA 0, 6, .inl f115)), (a11, .inl (cA 0, 6, .inl f116)), (a12, .inl (cA 0, 10, .inl f117)), (a13, .inl (cA 0, 10, .inl f118)), (a14, .inl (cA 0, 10, .inl ((va_cpy g14 f14 (0 : Int32).toNatClampNeg (0 : Int32).toNatClampNeg (10 : Int32).toNatClampNeg)))), (a15, .inl (cA 0, 50, .inl f15)), (a16, .inl (cA 0, 5, .inl f16)), (a17, .inl (cA 0, 5, .inl f17)), (h1, .inr (6, gs)), (b8, .inl (cA 0, 6, .inl g8)), (b9, .inl (cA 0, 6, .inl g9)), (b10, .inl (cA 0, 6, .inl g10)), (b11, .inl (cA 0, 6, .inl g11)), (b12, .inl (cA 0, 10, .inl g12)), (b13, .inl (cA 0, 10, .inl g13)), (b14, .inl (cA 0, 10, .inl g14)), (b15, .inl (cA 0, 50, .inl g15)), (b16, .inl (cA 0, 5, .inl g16)), (b17, .inl (cA 0, 5, .inl g17))] H := hP
  have hD : va_D A [(h0, .inr (6, fs111)), (a8, .inl (cA 0, 6, .inl f113)), (a9, .inl (cA 0, 6, .inl f114)), (a10, .inl (cA 0, 6, .inl f115)), (a11, .inl (cA 0, 6, .inl f116)), (a12, .inl (cA 0, 10, .inl f117)), (a13, .inl (cA 0, 10, .inl f118)), (a14, .inl (cA 0, 10, .inl ((va_cpy g14 f14 (0 : Int32).toNatClampNeg (0 : Int32).toNatClampNeg (10 : Int32).toNatClampNeg)))), (a15, .inl (cA 0, 50, .inl f15)), (a16, .inl (cA 0, 5, .inl f16)), (a17, .inl (cA 0, 5, .inl f17)), (h1, .inr (6, gs)), (b8, .inl (cA 0, 6, .inl g8)), (b9, .inl (cA 0, 6, .inl g9)), (b10, .inl (cA 0, 6, .inl g10)), (b11, .inl (cA 0, 6, .inl g11)), (b12, .inl (cA 0, 10, .inl g12)), (b13, .inl (cA 0, 10, .inl g13)), (b14, .inl (cA 0, 10, .inl g14)), (b15, .inl (cA 0, 50, .inl g15)), (b16, .inl (cA 0, 5, .inl g16)), (b17, .inl (cA 0, 5, .inl g17))] := hD
  generalize (va_cpy g14 f14 (0 : Int32).toNatClampNeg (0 : Int32).toNatClampNeg (10 : Int32).toNatClampNeg) = f119 at hP hD
  refine lv_aload_n hx hb dX6_copy_153 rfl (lv_at hl 1 rfl) ?_
  refine va_get (D := G) (ci := 6) (v := .ref b15) (C := RX6) (T := TX6) (N := 20) hx hb hT ku_6 hown hK hP 11 rfl rfl 15 (by decide) (hT _ kw_7_14) (fun _ h9 => h9) (fh_at hg 13 rfl) dX6_copy_154 ?_
  refine lv_iconst (v := 0) hx hb dX6_copy_157 (by decide) ?_
  refine lv_aload_n hx hb dX6_copy_158 rfl (lv_at hl 0 rfl) ?_
  refine va_get (D := G) (ci := 6) (v := .ref a15) (C := RX6) (T := TX6) (N := 20) hx hb hT ku_6 hown hK hP 0 rfl rfl 15 (by decide) (hT _ kw_7_14) (fun _ h9 => h9) (fh_at hf 13 rfl) dX6_copy_159 ?_
  refine lv_iconst (v := 0) hx hb dX6_copy_162 (by decide) ?_
  refine lv_bipush (v := 50) hx hb dX6_copy_163 (by decide) ?_
  refine va_copyi (ty := .int) (sp := 0) (dp := 0) (n := 50) hx hb (hml.trans hl.1.symm) hown (hT _ kw_38_14) (hT _ kw_36_19) (hT _ kw_36_20) (hT _ kw_36_21) hK hP hD hS 19 8 0 0 rfl rfl rfl rfl rfl (by decide) (by decide) (by decide) (by decide) (by decide) (fun _ _ => rfl) (Nat.le_of_ble_eq_true rfl) (by decide) dX6_copy_165 (fun H locs hP hD hS => ?_)
  have hP : va_P G vwCl [(h0, .inr (6, fs111)), (a8, .inl (cA 0, 6, .inl f113)), (a9, .inl (cA 0, 6, .inl f114)), (a10, .inl (cA 0, 6, .inl f115)), (a11, .inl (cA 0, 6, .inl f116)), (a12, .inl (cA 0, 10, .inl f117)), (a13, .inl (cA 0, 10, .inl f118)), (a14, .inl (cA 0, 10, .inl f119)), (a15, .inl (cA 0, 50, .inl ((va_cpy g15 f15 (0 : Int32).toNatClampNeg (0 : Int32).toNatClampNeg (50 : Int32).toNatClampNeg)))), (a16, .inl (cA 0, 5, .inl f16)), (a17, .inl (cA 0, 5, .inl f17)), (h1, .inr (6, gs)), (b8, .inl (cA 0, 6, .inl g8)), (b9, .inl (cA 0, 6, .inl g9)), (b10, .inl (cA 0, 6, .inl g10)), (b11, .inl (cA 0, 6, .inl g11)), (b12, .inl (cA 0, 10, .inl g12)), (b13, .inl (cA 0, 10, .inl g13)), (b14, .inl (cA 0, 10, .inl g14)), (b15, .inl (cA 0, 50, .inl g15)), (b16, .inl (cA 0, 5, .inl g16)), (b17, .inl (cA 0, 5, .inl g17))] H := hP
  have hD : va_D A [(h0, .inr (6, fs111)), (a8, .inl (cA 0, 6, .inl f113)), (a9, .inl (cA 0, 6, .inl f114)), (a10, .inl (cA 0, 6, .inl f115)), (a11, .inl (cA 0, 6, .inl f116)), (a12, .inl (cA 0, 10, .inl f117)), (a13, .inl (cA 0, 10, .inl f118)), (a14, .inl (cA 0, 10, .inl f119)), (a15, .inl (cA 0, 50, .inl ((va_cpy g15 f15 (0 : Int32).toNatClampNeg (0 : Int32).toNatClampNeg (50 : Int32).toNatClampNeg)))), (a16, .inl (cA 0, 5, .inl f16)), (a17, .inl (cA 0, 5, .inl f17)), (h1, .inr (6, gs)), (b8, .inl (cA 0, 6, .inl g8)), (b9, .inl (cA 0, 6, .inl g9)), (b10, .inl (cA 0, 6, .inl g10)), (b11, .inl (cA 0, 6, .inl g11)), (b12, .inl (cA 0, 10, .inl g12)), (b13, .inl (cA 0, 10, .inl g13)), (b14, .inl (cA 0, 10, .inl g14)), (b15, .inl (cA 0, 50, .inl g15)), (b16, .inl (cA 0, 5, .inl g16)), (b17, .inl (cA 0, 5, .inl g17))] := hD
  generalize (va_cpy g15 f15 (0 : Int32).toNatClampNeg (0 : Int32).toNatClampNeg (50 : Int32).toNatClampNeg) = f120 at hP hD
  refine lv_aload_n hx hb dX6_copy_168 rfl (lv_at hl 1 rfl) ?_
  refine va_get (D := G) (ci := 6) (v := .ref b16) (C := RX6) (T := TX6) (N := 20) hx hb hT ku_6 hown hK hP 11 rfl rfl 16 (by decide) (hT _ kw_7_15) (fun _ h9 => h9) (fh_at hg 14 rfl) dX6_copy_169 ?_
  refine lv_iconst (v := 0) hx hb dX6_copy_172 (by decide) ?_
  refine lv_aload_n hx hb dX6_copy_173 rfl (lv_at hl 0 rfl) ?_
  refine va_get (D := G) (ci := 6) (v := .ref a16) (C := RX6) (T := TX6) (N := 20) hx hb hT ku_6 hown hK hP 0 rfl rfl 16 (by decide) (hT _ kw_7_15) (fun _ h9 => h9) (fh_at hf 14 rfl) dX6_copy_174 ?_
  refine lv_iconst (v := 0) hx hb dX6_copy_177 (by decide) ?_
  refine lv_iconst (v := 5) hx hb dX6_copy_178 (by decide) ?_
  refine va_copyi (ty := .int) (sp := 0) (dp := 0) (n := 5) hx hb (hml.trans hl.1.symm) hown (hT _ kw_38_14) (hT _ kw_36_19) (hT _ kw_36_20) (hT _ kw_36_21) hK hP hD hS 20 9 0 0 rfl rfl rfl rfl rfl (by decide) (by decide) (by decide) (by decide) (by decide) (fun _ _ => rfl) (Nat.le_of_ble_eq_true rfl) (by decide) dX6_copy_179 (fun H locs hP hD hS => ?_)
  have hP : va_P G vwCl [(h0, .inr (6, fs111)), (a8, .inl (cA 0, 6, .inl f113)), (a9, .inl (cA 0, 6, .inl f114)), (a10, .inl (cA 0, 6, .inl f115)), (a11, .inl (cA 0, 6, .inl f116)), (a12, .inl (cA 0, 10, .inl f117)), (a13, .inl (cA 0, 10, .inl f118)), (a14, .inl (cA 0, 10, .inl f119)), (a15, .inl (cA 0, 50, .inl f120)), (a16, .inl (cA 0, 5, .inl ((va_cpy g16 f16 (0 : Int32).toNatClampNeg (0 : Int32).toNatClampNeg (5 : Int32).toNatClampNeg)))), (a17, .inl (cA 0, 5, .inl f17)), (h1, .inr (6, gs)), (b8, .inl (cA 0, 6, .inl g8)), (b9, .inl (cA 0, 6, .inl g9)), (b10, .inl (cA 0, 6, .inl g10)), (b11, .inl (cA 0, 6, .inl g11)), (b12, .inl (cA 0, 10, .inl g12)), (b13, .inl (cA 0, 10, .inl g13)), (b14, .inl (cA 0, 10, .inl g14)), (b15, .inl (cA 0, 50, .inl g15)), (b16, .inl (cA 0, 5, .inl g16)), (b17, .inl (cA 0, 5, .inl g17))] H := hP
  have hD : va_D A [(h0, .inr (6, fs111)), (a8, .inl (cA 0, 6, .inl f113)), (a9, .inl (cA 0, 6, .inl f114)), (a10, .inl (cA 0, 6, .inl f115)), (a11, .inl (cA 0, 6, .inl f116)), (a12, .inl (cA 0, 10, .inl f117)), (a13, .inl (cA 0, 10, .inl f118)), (a14, .inl (cA 0, 10, .inl f119)), (a15, .inl (cA 0, 50, .inl f120)), (a16, .inl (cA 0, 5, .inl ((va_cpy g16 f16 (0 : Int32).toNatClampNeg (0 : Int32).toNatClampNeg (5 : Int32).toNatClampNeg)))), (a17, .inl (cA 0, 5, .inl f17)), (h1, .inr (6, gs)), (b8, .inl (cA 0, 6, .inl g8)), (b9, .inl (cA 0, 6, .inl g9)), (b10, .inl (cA 0, 6, .inl g10)), (b11, .inl (cA 0, 6, .inl g11)), (b12, .inl (cA 0, 10, .inl g12)), (b13, .inl (cA 0, 10, .inl g13)), (b14, .inl (cA 0, 10, .inl g14)), (b15, .inl (cA 0, 50, .inl g15)), (b16, .inl (cA 0, 5, .inl g16)), (b17, .inl (cA 0, 5, .inl g17))] := hD
  generalize (va_cpy g16 f16 (0 : Int32).toNatClampNeg (0 : Int32).toNatClampNeg (5 : Int32).toNatClampNeg) = f121 at hP hD
  refine lv_aload_n hx hb dX6_copy_182 rfl (lv_at hl 1 rfl) ?_
  refine va_get (D := G) (ci := 6) (v := .ref b17) (C := RX6) (T := TX6) (N := 20) hx hb hT ku_6 hown hK hP 11 rfl rfl 17 (by decide) (hT _ kw_7_16) (fun _ h9 => h9) (fh_at hg 15 rfl) dX6_copy_183 ?_
  refine lv_iconst (v := 0) hx hb dX6_copy_186 (by decide) ?_
  refine lv_aload_n hx hb dX6_copy_187 rfl (lv_at hl 0 rfl) ?_
  refine va_get (D := G) (ci := 6) (v := .ref a17) (C := RX6) (T := TX6) (N := 20) hx hb hT ku_6 hown hK hP 0 rfl rfl 17 (by decide) (hT _ kw_7_16) (fun _ h9 => h9) (fh_at hf 15 rfl) dX6_copy_188 ?_
  refine lv_iconst (v := 0) hx hb dX6_copy_191 (by decide) ?_
  refine lv_iconst (v := 5) hx hb dX6_copy_192 (by decide) ?_
  refine va_copyi (ty := .int) (sp := 0) (dp := 0) (n := 5) hx hb (hml.trans hl.1.symm) hown (hT _ kw_38_14) (hT _ kw_36_19) (hT _ kw_36_20) (hT _ kw_36_21) hK hP hD hS 21 10 0 0 rfl rfl rfl rfl rfl (by decide) (by decide) (by decide) (by decide) (by decide) (fun _ _ => rfl) (Nat.le_of_ble_eq_true rfl) (by decide) dX6_copy_193 (fun H locs hP hD hS => ?_)
  have hP : va_P G vwCl [(h0, .inr (6, fs111)), (a8, .inl (cA 0, 6, .inl f113)), (a9, .inl (cA 0, 6, .inl f114)), (a10, .inl (cA 0, 6, .inl f115)), (a11, .inl (cA 0, 6, .inl f116)), (a12, .inl (cA 0, 10, .inl f117)), (a13, .inl (cA 0, 10, .inl f118)), (a14, .inl (cA 0, 10, .inl f119)), (a15, .inl (cA 0, 50, .inl f120)), (a16, .inl (cA 0, 5, .inl f121)), (a17, .inl (cA 0, 5, .inl ((va_cpy g17 f17 (0 : Int32).toNatClampNeg (0 : Int32).toNatClampNeg (5 : Int32).toNatClampNeg)))), (h1, .inr (6, gs)), (b8, .inl (cA 0, 6, .inl g8)), (b9, .inl (cA 0, 6, .inl g9)), (b10, .inl (cA 0, 6, .inl g10)), (b11, .inl (cA 0, 6, .inl g11)), (b12, .inl (cA 0, 10, .inl g12)), (b13, .inl (cA 0, 10, .inl g13)), (b14, .inl (cA 0, 10, .inl g14)), (b15, .inl (cA 0, 50, .inl g15)), (b16, .inl (cA 0, 5, .inl g16)), (b17, .inl (cA 0, 5, .inl g17))] H := hP
  have hD : va_D A [(h0, .inr (6, fs111)), (a8, .inl (cA 0, 6, .inl f113)), (a9, .inl (cA 0, 6, .inl f114)), (a10, .inl (cA 0, 6, .inl f115)), (a11, .inl (cA 0, 6, .inl f116)), (a12, .inl (cA 0, 10, .inl f117)), (a13, .inl (cA 0, 10, .inl f118)), (a14, .inl (cA 0, 10, .inl f119)), (a15, .inl (cA 0, 50, .inl f120)), (a16, .inl (cA 0, 5, .inl f121)), (a17, .inl (cA 0, 5, .inl ((va_cpy g17 f17 (0 : Int32).toNatClampNeg (0 : Int32).toNatClampNeg (5 : Int32).toNatClampNeg)))), (h1, .inr (6, gs)), (b8, .inl (cA 0, 6, .inl g8)), (b9, .inl (cA 0, 6, .inl g9)), (b10, .inl (cA 0, 6, .inl g10)), (b11, .inl (cA 0, 6, .inl g11)), (b12, .inl (cA 0, 10, .inl g12)), (b13, .inl (cA 0, 10, .inl g13)), (b14, .inl (cA 0, 10, .inl g14)), (b15, .inl (cA 0, 50, .inl g15)), (b16, .inl (cA 0, 5, .inl g16)), (b17, .inl (cA 0, 5, .inl g17))] := hD
  generalize (va_cpy g17 f17 (0 : Int32).toNatClampNeg (0 : Int32).toNatClampNeg (5 : Int32).toNatClampNeg) = f122 at hP hD
  have qho112 := fo_mono (k2 := [4, 3, 2, 1, 0, 19]) ho112 (by decide)
  exact W.vret hx hb hr (fun t ht hW => ⟨⟨(fs111, f113, f114, f115, f116, f117, f118, f119, f120, f121, f122), rfl, ⟨qho112, fh_sub hf [0, 1, 2, 3, 4, 5] rfl⟩, by rw [ht]; exact hP, hD⟩, hS.F ht⟩) hS.2.2 dX6_copy_196

set_option maxHeartbeats 4000000 in
set_option maxRecDepth 100000 in
theorem c_X6_piecesThatAre (l : Launch) (G : va_G) (cA : Nat → ClassId) (sz : Nat) (h0 : Nat) (x : Int32) (fs : List Value) (pa : Nat) (ps : List Value) (hf : fh fs 20 [(19, .ref pa)]) (hp : fh ps 19 [(0, .int 0), (1, .int 0), (2, .int 0)]) : Met l yX6_piecesThatAre (.code yX6_piecesThatAre cX6_piecesThatAre 4 (some .int) :: T0) ({ frames := 0, cells := 0, slots := 0, locals := 0 }) (tqP G cA [.ref h0, .int x] [(h0, .inr (6, fs)), (pa, .inr (2, ps))] sz) (tqQi G cA (fun (r : Int32) (u : Unit) => r = 0) (fun (u : Unit) => [(h0, .inr (6, fs)), (pa, .inr (2, ps))]) (va_A [(h0, .inr (6, fs)), (pa, .inr (2, ps))] sz)) 0 0 (va_A [(h0, .inr (6, fs)), (pa, .inr (2, ps))] sz) := by
  refine Met.ofW (cc := cX6_piecesThatAre) (maxL := 4) (ret := (some .int)) (by decide) rfl ?_
  intro p e s m args below meth c s₁ B hml hv
  obtain ⟨rfl, hsz, hP, hK, hD0, hN⟩ := hv
  have hx := B.exec
  have hb := B.bytes
  have hr := B.returns
  have hts := atoms_spec (ws := .code yX6_piecesThatAre cX6_piecesThatAre 4 (some .int) :: T0) B.pre
  have hT : ∀ w ∈ T0, w.before _ s = true := fun w h => hts w (List.mem_cons_of_mem _ h)
  have hown : s.vm.findClass RX6 = some m.cls := findClass_of_methodNamed B.named
  have hlocks := B.notSynchronized
  subst hsz
  have hD := hD0.self (sz := s.heap.size)
  generalize hAe : va_A [(h0, .inr (6, fs)), (pa, .inr (2, ps))] s.heap.size = A at hD ⊢
  have hA : ∀ q : Nat, s.heap.size ≤ q → A q := fun q h => by rw [← hAe]; exact Or.inr h
  have hS : va_S A s.heap s.heap [] := va_S.rf
  have hl := lv_entry ([.ref h0, .int x]) (n := 4) (Nat.le_of_ble_eq_true rfl)
  rw [lg_entry_eq]
  generalize (lg_sl ([.ref h0, .int x]) ++ List.replicate (4 - (lg_sl ([.ref h0, .int x])).length) Slot.unset).toArray = ls at hl ⊢
  have hl : lv_has ls 4 [(0, .ref h0), (1, .int x)] := hl
  obtain ⟨H, hH⟩ : ∃ z, z = s.heap := ⟨_, rfl⟩
  rw [← hH] at hP
  have hS : va_S A s.heap H [] := by rw [hH]; exact hS
  suffices hgo : W p l e _ s m _ below meth c H [] 0 0 _ _ by rw [hH] at hgo; exact hgo
  have hO := hN.2.2.2.2
  have ho_hf := fo_refl fs
  have ho_hp := fo_refl ps
  refine lv_iconst (v := 0) hx hb dX6_piecesThatAre_0 (by decide) ?_
  refine lv_istore_n (lv' := [(2, .int 0), (0, .ref h0), (1, .int x)]) hx hb dX6_piecesThatAre_1 rfl hl (by decide) rfl (fun ls hl => ?_)
  refine lv_iconst (v := 0) hx hb dX6_piecesThatAre_2 (by decide) ?_
  refine lv_istore_n (lv' := [(3, .int 0), (2, .int 0), (0, .ref h0), (1, .int x)]) hx hb dX6_piecesThatAre_3 rfl hl (by decide) rfl (fun ls hl => ?_)
  refine lv_iload_n hx hb dX6_piecesThatAre_4 rfl (lv_at hl 0 rfl) ?_
  refine lv_aload_n hx hb dX6_piecesThatAre_5 rfl (lv_at hl 2 rfl) ?_
  refine va_get (D := G) (ci := 6) (v := .ref pa) (C := RX6) (T := TX6) (N := 20) hx hb hT ku_6 hown hK hP 0 rfl rfl 19 (by decide) (hT _ kw_8_1) (fun _ h9 => h9) (fh_at hf 0 rfl) dX6_piecesThatAre_6 ?_
  refine va_get (D := G) (ci := 2) (v := .int 0) (C := RX2) (T := TX2) (N := 19) hx hb hT ku_2 hown hK hP 1 rfl rfl 2 (by decide) (hT _ kw_40_21) (fun _ h9 => h9) (fh_at hp 2 rfl) dX6_piecesThatAre_9 ?_
  refine lv_icmp_ge (tgt := 34) hx hb dX6_piecesThatAre_12 (by decide) (fun c101 => ?_) (fun c101 => absurd (by decide) c101)
  refine lv_iload_n hx hb dX6_piecesThatAre_34 rfl (lv_at hl 1 rfl) ?_
  exact W.iret (v := 0) hx hb hr (fun t ht hW => ⟨⟨0, (), rfl, rfl, by rw [ht]; exact hP, hD⟩, hS.F ht⟩) hS.2.2 dX6_piecesThatAre_35

set_option maxHeartbeats 4000000 in
set_option maxRecDepth 100000 in
theorem c_X6_takeDown (l : Launch) (G : va_G) (cA : Nat → ClassId) (sz : Nat) (h0 : Nat) (x : Int32) (fs : List Value) (pa : Nat) (ps : List Value) (hf : fh fs 20 [(19, .ref pa)]) (hp : fh ps 19 [(0, .int 0), (1, .int 0), (2, .int 0)]) : Met l yX6_takeDown (.code yX6_takeDown cX6_takeDown 7 (some .int) :: T0) ({ frames := 0, cells := 0, slots := 0, locals := 0 }) (tqP G cA [.ref h0, .int x] [(h0, .inr (6, fs)), (pa, .inr (2, ps))] sz) (tqQi G cA (fun (r : Int32) (u : Unit) => r = 0) (fun (u : Unit) => [(h0, .inr (6, fs)), (pa, .inr (2, ps))]) (va_A [(h0, .inr (6, fs)), (pa, .inr (2, ps))] sz)) 0 0 (va_A [(h0, .inr (6, fs)), (pa, .inr (2, ps))] sz) := by
  refine Met.ofW (cc := cX6_takeDown) (maxL := 7) (ret := (some .int)) (by decide) rfl ?_
  intro p e s m args below meth c s₁ B hml hv
  obtain ⟨rfl, hsz, hP, hK, hD0, hN⟩ := hv
  have hx := B.exec
  have hb := B.bytes
  have hr := B.returns
  have hts := atoms_spec (ws := .code yX6_takeDown cX6_takeDown 7 (some .int) :: T0) B.pre
  have hT : ∀ w ∈ T0, w.before _ s = true := fun w h => hts w (List.mem_cons_of_mem _ h)
  have hown : s.vm.findClass RX6 = some m.cls := findClass_of_methodNamed B.named
  have hlocks := B.notSynchronized
  subst hsz
  have hD := hD0.self (sz := s.heap.size)
  generalize hAe : va_A [(h0, .inr (6, fs)), (pa, .inr (2, ps))] s.heap.size = A at hD ⊢
  have hA : ∀ q : Nat, s.heap.size ≤ q → A q := fun q h => by rw [← hAe]; exact Or.inr h
  have hS : va_S A s.heap s.heap [] := va_S.rf
  have hl := lv_entry ([.ref h0, .int x]) (n := 7) (Nat.le_of_ble_eq_true rfl)
  rw [lg_entry_eq]
  generalize (lg_sl ([.ref h0, .int x]) ++ List.replicate (7 - (lg_sl ([.ref h0, .int x])).length) Slot.unset).toArray = ls at hl ⊢
  have hl : lv_has ls 7 [(0, .ref h0), (1, .int x)] := hl
  obtain ⟨H, hH⟩ : ∃ z, z = s.heap := ⟨_, rfl⟩
  rw [← hH] at hP
  have hS : va_S A s.heap H [] := by rw [hH]; exact hS
  suffices hgo : W p l e _ s m _ below meth c H [] 0 0 _ _ by rw [hH] at hgo; exact hgo
  have hO := hN.2.2.2.2
  have ho_hf := fo_refl fs
  have ho_hp := fo_refl ps
  refine lv_iconst (v := 0) hx hb dX6_takeDown_0 (by decide) ?_
  refine lv_istore_n (lv' := [(2, .int 0), (0, .ref h0), (1, .int x)]) hx hb dX6_takeDown_1 rfl hl (by decide) rfl (fun ls hl => ?_)
  refine lv_iconst (v := 1) hx hb dX6_takeDown_2 (by decide) ?_
  refine lv_istore_n (lv' := [(3, .int 1), (2, .int 0), (0, .ref h0), (1, .int x)]) hx hb dX6_takeDown_3 rfl hl (by decide) rfl (fun ls hl => ?_)
  refine lv_iconst (v := 0) hx hb dX6_takeDown_4 (by decide) ?_
  refine lv_istore (lv' := [(4, .int 0), (3, .int 1), (2, .int 0), (0, .ref h0), (1, .int x)]) hx hb dX6_takeDown_5 hl (by decide) rfl (fun ls hl => ?_)
  refine lv_iload hx hb dX6_takeDown_7 (lv_at hl 0 rfl) ?_
  refine lv_aload_n hx hb dX6_takeDown_9 rfl (lv_at hl 3 rfl) ?_
  refine va_get (D := G) (ci := 6) (v := .ref pa) (C := RX6) (T := TX6) (N := 20) hx hb hT ku_6 hown hK hP 0 rfl rfl 19 (by decide) (hT _ kw_8_1) (fun _ h9 => h9) (fh_at hf 0 rfl) dX6_takeDown_10 ?_
  refine va_get (D := G) (ci := 2) (v := .int 0) (C := RX2) (T := TX2) (N := 19) hx hb hT ku_2 hown hK hP 1 rfl rfl 1 (by decide) (hT _ kw_40_20) (fun _ h9 => h9) (fh_at hp 1 rfl) dX6_takeDown_13 ?_
  refine lv_icmp_ge (tgt := 215) hx hb dX6_takeDown_16 (by decide) (fun c101 => ?_) (fun c101 => absurd (by decide) c101)
  refine lv_iload_n hx hb dX6_takeDown_215 rfl (lv_at hl 2 rfl) ?_
  exact W.iret (v := 0) hx hb hr (fun t ht hW => ⟨⟨0, (), rfl, rfl, by rw [ht]; exact hP, hD⟩, hS.F ht⟩) hS.2.2 dX6_takeDown_216

set_option maxHeartbeats 4000000 in
set_option maxRecDepth 100000 in
theorem c_X6_personsAboard (l : Launch) (G : va_G) (cA : Nat → ClassId) (sz : Nat) (h0 : Nat) (fs : List Value) (pa : Nat) (ps : List Value) (hf : fh fs 20 [(19, .ref pa)]) (hp : fh ps 19 [(0, .int 0), (1, .int 0), (2, .int 0)]) : Met l yX6_personsAboard (.code yX6_personsAboard cX6_personsAboard 3 (some .int) :: T0) ({ frames := 0, cells := 0, slots := 0, locals := 0 }) (tqP G cA [.ref h0] [(h0, .inr (6, fs)), (pa, .inr (2, ps))] sz) (tqQi G cA (fun (r : Int32) (u : Unit) => r = 0) (fun (u : Unit) => [(h0, .inr (6, fs)), (pa, .inr (2, ps))]) (va_A [(h0, .inr (6, fs)), (pa, .inr (2, ps))] sz)) 0 0 (va_A [(h0, .inr (6, fs)), (pa, .inr (2, ps))] sz) := by
  refine Met.ofW (cc := cX6_personsAboard) (maxL := 3) (ret := (some .int)) (by decide) rfl ?_
  intro p e s m args below meth c s₁ B hml hv
  obtain ⟨rfl, hsz, hP, hK, hD0, hN⟩ := hv
  have hx := B.exec
  have hb := B.bytes
  have hr := B.returns
  have hts := atoms_spec (ws := .code yX6_personsAboard cX6_personsAboard 3 (some .int) :: T0) B.pre
  have hT : ∀ w ∈ T0, w.before _ s = true := fun w h => hts w (List.mem_cons_of_mem _ h)
  have hown : s.vm.findClass RX6 = some m.cls := findClass_of_methodNamed B.named
  have hlocks := B.notSynchronized
  subst hsz
  have hD := hD0.self (sz := s.heap.size)
  generalize hAe : va_A [(h0, .inr (6, fs)), (pa, .inr (2, ps))] s.heap.size = A at hD ⊢
  have hA : ∀ q : Nat, s.heap.size ≤ q → A q := fun q h => by rw [← hAe]; exact Or.inr h
  have hS : va_S A s.heap s.heap [] := va_S.rf
  have hl := lv_entry ([.ref h0]) (n := 3) (Nat.le_of_ble_eq_true rfl)
  rw [lg_entry_eq]
  generalize (lg_sl ([.ref h0]) ++ List.replicate (3 - (lg_sl ([.ref h0])).length) Slot.unset).toArray = ls at hl ⊢
  have hl : lv_has ls 3 [(0, .ref h0)] := hl
  obtain ⟨H, hH⟩ : ∃ z, z = s.heap := ⟨_, rfl⟩
  rw [← hH] at hP
  have hS : va_S A s.heap H [] := by rw [hH]; exact hS
  suffices hgo : W p l e _ s m _ below meth c H [] 0 0 _ _ by rw [hH] at hgo; exact hgo
  have hO := hN.2.2.2.2
  have ho_hf := fo_refl fs
  have ho_hp := fo_refl ps
  refine lv_iconst (v := 0) hx hb dX6_personsAboard_0 (by decide) ?_
  refine lv_istore_n (lv' := [(1, .int 0), (0, .ref h0)]) hx hb dX6_personsAboard_1 rfl hl (by decide) rfl (fun ls hl => ?_)
  refine lv_iconst (v := 0) hx hb dX6_personsAboard_2 (by decide) ?_
  refine lv_istore_n (lv' := [(2, .int 0), (1, .int 0), (0, .ref h0)]) hx hb dX6_personsAboard_3 rfl hl (by decide) rfl (fun ls hl => ?_)
  refine lv_iload_n hx hb dX6_personsAboard_4 rfl (lv_at hl 0 rfl) ?_
  refine lv_aload_n hx hb dX6_personsAboard_5 rfl (lv_at hl 2 rfl) ?_
  refine va_get (D := G) (ci := 6) (v := .ref pa) (C := RX6) (T := TX6) (N := 20) hx hb hT ku_6 hown hK hP 0 rfl rfl 19 (by decide) (hT _ kw_8_1) (fun _ h9 => h9) (fh_at hf 0 rfl) dX6_personsAboard_6 ?_
  refine va_get (D := G) (ci := 2) (v := .int 0) (C := RX2) (T := TX2) (N := 19) hx hb hT ku_2 hown hK hP 1 rfl rfl 1 (by decide) (hT _ kw_40_20) (fun _ h9 => h9) (fh_at hp 1 rfl) dX6_personsAboard_9 ?_
  refine lv_icmp_ge (tgt := 34) hx hb dX6_personsAboard_12 (by decide) (fun c101 => ?_) (fun c101 => absurd (by decide) c101)
  refine lv_iload_n hx hb dX6_personsAboard_34 rfl (lv_at hl 1 rfl) ?_
  exact W.iret (v := 0) hx hb hr (fun t ht hW => ⟨⟨0, (), rfl, rfl, by rw [ht]; exact hP, hD⟩, hS.F ht⟩) hS.2.2 dX6_personsAboard_35

set_option maxHeartbeats 4000000 in
set_option maxRecDepth 100000 in
theorem c_X6_firstLate (l : Launch) (G : va_G) (cA : Nat → ClassId) (sz : Nat) (h0 : Nat) (fs : List Value) (pa : Nat) (ps : List Value) (hf : fh fs 20 [(19, .ref pa)]) (hp : fh ps 19 [(0, .int 0), (1, .int 0), (2, .int 0)]) : Met l yX6_firstLate (.code yX6_firstLate cX6_firstLate 2 (some .int) :: T0) ({ frames := 0, cells := 0, slots := 0, locals := 0 }) (tqP G cA [.ref h0] [(h0, .inr (6, fs)), (pa, .inr (2, ps))] sz) (tqQi G cA (fun (r : Int32) (u : Unit) => r = (-1)) (fun (u : Unit) => [(h0, .inr (6, fs)), (pa, .inr (2, ps))]) (va_A [(h0, .inr (6, fs)), (pa, .inr (2, ps))] sz)) 0 0 (va_A [(h0, .inr (6, fs)), (pa, .inr (2, ps))] sz) := by
  refine Met.ofW (cc := cX6_firstLate) (maxL := 2) (ret := (some .int)) (by decide) rfl ?_
  intro p e s m args below meth c s₁ B hml hv
  obtain ⟨rfl, hsz, hP, hK, hD0, hN⟩ := hv
  have hx := B.exec
  have hb := B.bytes
  have hr := B.returns
  have hts := atoms_spec (ws := .code yX6_firstLate cX6_firstLate 2 (some .int) :: T0) B.pre
  have hT : ∀ w ∈ T0, w.before _ s = true := fun w h => hts w (List.mem_cons_of_mem _ h)
  have hown : s.vm.findClass RX6 = some m.cls := findClass_of_methodNamed B.named
  have hlocks := B.notSynchronized
  subst hsz
  have hD := hD0.self (sz := s.heap.size)
  generalize hAe : va_A [(h0, .inr (6, fs)), (pa, .inr (2, ps))] s.heap.size = A at hD ⊢
  have hA : ∀ q : Nat, s.heap.size ≤ q → A q := fun q h => by rw [← hAe]; exact Or.inr h
  have hS : va_S A s.heap s.heap [] := va_S.rf
  have hl := lv_entry ([.ref h0]) (n := 2) (Nat.le_of_ble_eq_true rfl)
  rw [lg_entry_eq]
  generalize (lg_sl ([.ref h0]) ++ List.replicate (2 - (lg_sl ([.ref h0])).length) Slot.unset).toArray = ls at hl ⊢
  have hl : lv_has ls 2 [(0, .ref h0)] := hl
  obtain ⟨H, hH⟩ : ∃ z, z = s.heap := ⟨_, rfl⟩
  rw [← hH] at hP
  have hS : va_S A s.heap H [] := by rw [hH]; exact hS
  suffices hgo : W p l e _ s m _ below meth c H [] 0 0 _ _ by rw [hH] at hgo; exact hgo
  have hO := hN.2.2.2.2
  have ho_hf := fo_refl fs
  have ho_hp := fo_refl ps
  refine lv_iconst (v := 0) hx hb dX6_firstLate_0 (by decide) ?_
  refine lv_istore_n (lv' := [(1, .int 0), (0, .ref h0)]) hx hb dX6_firstLate_1 rfl hl (by decide) rfl (fun ls hl => ?_)
  refine lv_iload_n hx hb dX6_firstLate_2 rfl (lv_at hl 0 rfl) ?_
  refine lv_aload_n hx hb dX6_firstLate_3 rfl (lv_at hl 1 rfl) ?_
  refine va_get (D := G) (ci := 6) (v := .ref pa) (C := RX6) (T := TX6) (N := 20) hx hb hT ku_6 hown hK hP 0 rfl rfl 19 (by decide) (hT _ kw_8_1) (fun _ h9 => h9) (fh_at hf 0 rfl) dX6_firstLate_4 ?_
  refine va_get (D := G) (ci := 2) (v := .int 0) (C := RX2) (T := TX2) (N := 19) hx hb hT ku_2 hown hK hP 1 rfl rfl 1 (by decide) (hT _ kw_40_20) (fun _ h9 => h9) (fh_at hp 1 rfl) dX6_firstLate_7 ?_
  refine lv_icmp_ge (tgt := 47) hx hb dX6_firstLate_10 (by decide) (fun c101 => ?_) (fun c101 => absurd (by decide) c101)
  refine lv_iconst (v := (-1)) hx hb dX6_firstLate_47 (by decide) ?_
  exact W.iret (v := (-1)) hx hb hr (fun t ht hW => ⟨⟨(-1), (), rfl, rfl, by rw [ht]; exact hP, hD⟩, hS.F ht⟩) hS.2.2 dX6_firstLate_48

set_option maxHeartbeats 4000000 in
set_option maxRecDepth 100000 in
theorem c_X6_isBusy (l : Launch) (G : va_G) (cA : Nat → ClassId) (sz : Nat) (h0 : Nat) (fs : List Value) (pa : Nat) (ps : List Value) (hf : fh fs 20 [(19, .ref pa)]) (hp : fh ps 19 [(0, .int 0), (1, .int 0), (2, .int 0)]) : Met l yX6_isBusy (.code yX6_isBusy cX6_isBusy 2 (some .boolean) :: T0) ({ frames := 0, cells := 0, slots := 0, locals := 0 }) (tqP G cA [.ref h0] [(h0, .inr (6, fs)), (pa, .inr (2, ps))] sz) (tqQi G cA (fun (r : Int32) (u : Unit) => r = 0) (fun (u : Unit) => [(h0, .inr (6, fs)), (pa, .inr (2, ps))]) (va_A [(h0, .inr (6, fs)), (pa, .inr (2, ps))] sz)) 0 0 (va_A [(h0, .inr (6, fs)), (pa, .inr (2, ps))] sz) := by
  refine Met.ofW (cc := cX6_isBusy) (maxL := 2) (ret := (some .boolean)) (by decide) rfl ?_
  intro p e s m args below meth c s₁ B hml hv
  obtain ⟨rfl, hsz, hP, hK, hD0, hN⟩ := hv
  have hx := B.exec
  have hb := B.bytes
  have hr := B.returns
  have hts := atoms_spec (ws := .code yX6_isBusy cX6_isBusy 2 (some .boolean) :: T0) B.pre
  have hT : ∀ w ∈ T0, w.before _ s = true := fun w h => hts w (List.mem_cons_of_mem _ h)
  have hown : s.vm.findClass RX6 = some m.cls := findClass_of_methodNamed B.named
  have hlocks := B.notSynchronized
  subst hsz
  have hD := hD0.self (sz := s.heap.size)
  generalize hAe : va_A [(h0, .inr (6, fs)), (pa, .inr (2, ps))] s.heap.size = A at hD ⊢
  have hA : ∀ q : Nat, s.heap.size ≤ q → A q := fun q h => by rw [← hAe]; exact Or.inr h
  have hS : va_S A s.heap s.heap [] := va_S.rf
  have hl := lv_entry ([.ref h0]) (n := 2) (Nat.le_of_ble_eq_true rfl)
  rw [lg_entry_eq]
  generalize (lg_sl ([.ref h0]) ++ List.replicate (2 - (lg_sl ([.ref h0])).length) Slot.unset).toArray = ls at hl ⊢
  have hl : lv_has ls 2 [(0, .ref h0)] := hl
  obtain ⟨H, hH⟩ : ∃ z, z = s.heap := ⟨_, rfl⟩
  rw [← hH] at hP
  have hS : va_S A s.heap H [] := by rw [hH]; exact hS
  suffices hgo : W p l e _ s m _ below meth c H [] 0 0 _ _ by rw [hH] at hgo; exact hgo
  have hO := hN.2.2.2.2
  have ho_hf := fo_refl fs
  have ho_hp := fo_refl ps
  refine lv_iconst (v := 0) hx hb dX6_isBusy_0 (by decide) ?_
  refine lv_istore_n (lv' := [(1, .int 0), (0, .ref h0)]) hx hb dX6_isBusy_1 rfl hl (by decide) rfl (fun ls hl => ?_)
  refine lv_iload_n hx hb dX6_isBusy_2 rfl (lv_at hl 0 rfl) ?_
  refine lv_aload_n hx hb dX6_isBusy_3 rfl (lv_at hl 1 rfl) ?_
  refine va_get (D := G) (ci := 6) (v := .ref pa) (C := RX6) (T := TX6) (N := 20) hx hb hT ku_6 hown hK hP 0 rfl rfl 19 (by decide) (hT _ kw_8_1) (fun _ h9 => h9) (fh_at hf 0 rfl) dX6_isBusy_4 ?_
  refine va_get (D := G) (ci := 2) (v := .int 0) (C := RX2) (T := TX2) (N := 19) hx hb hT ku_2 hown hK hP 1 rfl rfl 1 (by decide) (hT _ kw_40_20) (fun _ h9 => h9) (fh_at hp 1 rfl) dX6_isBusy_7 ?_
  refine lv_icmp_ge (tgt := 31) hx hb dX6_isBusy_10 (by decide) (fun c101 => ?_) (fun c101 => absurd (by decide) c101)
  refine lv_iconst (v := 0) hx hb dX6_isBusy_31 (by decide) ?_
  exact W.zret (v := 0) (ty := .boolean) hx hb hr rfl (fun t ht hW => ⟨⟨0, (), rfl, rfl, by rw [ht]; exact hP, hD⟩, hS.F ht⟩) hS.2.2 dX6_isBusy_32

set_option maxHeartbeats 4000000 in
set_option maxRecDepth 100000 in
theorem c_X6_getIn (l : Launch) (G : va_G) (cA : Nat → ClassId) (sz : Nat) (h0 : Nat) (fs : List Value) (pa : Nat) (ps : List Value) (hf : fh fs 20 [(19, .ref pa)]) (hp : fh ps 19 [(0, .int 0), (1, .int 0), (2, .int 0)]) : Met l yX6_getIn (.code yX6_getIn cX6_getIn 3 none :: T0) ({ frames := 0, cells := 0, slots := 0, locals := 0 }) (tqP G cA [.ref h0] [(h0, .inr (6, fs)), (pa, .inr (2, ps))] sz) (tqQv G cA (fun (u : Unit) => True) (fun (u : Unit) => [(h0, .inr (6, fs)), (pa, .inr (2, ps))]) (va_A [(h0, .inr (6, fs)), (pa, .inr (2, ps))] sz)) 0 0 (va_A [(h0, .inr (6, fs)), (pa, .inr (2, ps))] sz) := by
  refine Met.ofW (cc := cX6_getIn) (maxL := 3) (ret := none) (by decide) rfl ?_
  intro p e s m args below meth c s₁ B hml hv
  obtain ⟨rfl, hsz, hP, hK, hD0, hN⟩ := hv
  have hx := B.exec
  have hb := B.bytes
  have hr := B.returns
  have hts := atoms_spec (ws := .code yX6_getIn cX6_getIn 3 none :: T0) B.pre
  have hT : ∀ w ∈ T0, w.before _ s = true := fun w h => hts w (List.mem_cons_of_mem _ h)
  have hown : s.vm.findClass RX6 = some m.cls := findClass_of_methodNamed B.named
  have hlocks := B.notSynchronized
  subst hsz
  have hD := hD0.self (sz := s.heap.size)
  generalize hAe : va_A [(h0, .inr (6, fs)), (pa, .inr (2, ps))] s.heap.size = A at hD ⊢
  have hA : ∀ q : Nat, s.heap.size ≤ q → A q := fun q h => by rw [← hAe]; exact Or.inr h
  have hS : va_S A s.heap s.heap [] := va_S.rf
  have hl := lv_entry ([.ref h0]) (n := 3) (Nat.le_of_ble_eq_true rfl)
  rw [lg_entry_eq]
  generalize (lg_sl ([.ref h0]) ++ List.replicate (3 - (lg_sl ([.ref h0])).length) Slot.unset).toArray = ls at hl ⊢
  have hl : lv_has ls 3 [(0, .ref h0)] := hl
  obtain ⟨H, hH⟩ : ∃ z, z = s.heap := ⟨_, rfl⟩
  rw [← hH] at hP
  have hS : va_S A s.heap H [] := by rw [hH]; exact hS
  suffices hgo : W p l e _ s m _ below meth c H [] 0 0 _ _ by rw [hH] at hgo; exact hgo
  have hO := hN.2.2.2.2
  have ho_hf := fo_refl fs
  have ho_hp := fo_refl ps
  refine lv_iconst (v := 0) hx hb dX6_getIn_0 (by decide) ?_
  refine lv_istore_n (lv' := [(1, .int 0), (0, .ref h0)]) hx hb dX6_getIn_1 rfl hl (by decide) rfl (fun ls hl => ?_)
  refine lv_iload_n hx hb dX6_getIn_2 rfl (lv_at hl 0 rfl) ?_
  refine lv_aload_n hx hb dX6_getIn_3 rfl (lv_at hl 1 rfl) ?_
  refine va_get (D := G) (ci := 6) (v := .ref pa) (C := RX6) (T := TX6) (N := 20) hx hb hT ku_6 hown hK hP 0 rfl rfl 19 (by decide) (hT _ kw_8_1) (fun _ h9 => h9) (fh_at hf 0 rfl) dX6_getIn_4 ?_
  refine va_get (D := G) (ci := 2) (v := .int 0) (C := RX2) (T := TX2) (N := 19) hx hb hT ku_2 hown hK hP 1 rfl rfl 1 (by decide) (hT _ kw_40_20) (fun _ h9 => h9) (fh_at hp 1 rfl) dX6_getIn_7 ?_
  refine lv_icmp_ge (tgt := 88) hx hb dX6_getIn_10 (by decide) (fun c101 => ?_) (fun c101 => absurd (by decide) c101)
  exact W.vret hx hb hr (fun t ht hW => ⟨⟨(), rfl, trivial, by rw [ht]; exact hP, hD⟩, hS.F ht⟩) hS.2.2 dX6_getIn_88

set_option maxHeartbeats 4000000 in
set_option maxRecDepth 100000 in
theorem c_X6_fallOff (l : Launch) (G : va_G) (cA : Nat → ClassId) (sz : Nat) (h0 : Nat) (fs : List Value) (pa : Nat) (ps : List Value) (hf : fh fs 20 [(19, .ref pa)]) (hp : fh ps 19 [(0, .int 0), (1, .int 0), (2, .int 0)]) : Met l yX6_fallOff (.code yX6_fallOff cX6_fallOff 4 (some .int) :: T0) ({ frames := 0, cells := 0, slots := 0, locals := 0 }) (tqP G cA [.ref h0] [(h0, .inr (6, fs)), (pa, .inr (2, ps))] sz) (tqQi G cA (fun (r : Int32) (u : Unit) => r = 0) (fun (u : Unit) => [(h0, .inr (6, fs)), (pa, .inr (2, ps))]) (va_A [(h0, .inr (6, fs)), (pa, .inr (2, ps))] sz)) 0 0 (va_A [(h0, .inr (6, fs)), (pa, .inr (2, ps))] sz) := by
  refine Met.ofW (cc := cX6_fallOff) (maxL := 4) (ret := (some .int)) (by decide) rfl ?_
  intro p e s m args below meth c s₁ B hml hv
  obtain ⟨rfl, hsz, hP, hK, hD0, hN⟩ := hv
  have hx := B.exec
  have hb := B.bytes
  have hr := B.returns
  have hts := atoms_spec (ws := .code yX6_fallOff cX6_fallOff 4 (some .int) :: T0) B.pre
  have hT : ∀ w ∈ T0, w.before _ s = true := fun w h => hts w (List.mem_cons_of_mem _ h)
  have hown : s.vm.findClass RX6 = some m.cls := findClass_of_methodNamed B.named
  have hlocks := B.notSynchronized
  subst hsz
  have hD := hD0.self (sz := s.heap.size)
  generalize hAe : va_A [(h0, .inr (6, fs)), (pa, .inr (2, ps))] s.heap.size = A at hD ⊢
  have hA : ∀ q : Nat, s.heap.size ≤ q → A q := fun q h => by rw [← hAe]; exact Or.inr h
  have hS : va_S A s.heap s.heap [] := va_S.rf
  have hl := lv_entry ([.ref h0]) (n := 4) (Nat.le_of_ble_eq_true rfl)
  rw [lg_entry_eq]
  generalize (lg_sl ([.ref h0]) ++ List.replicate (4 - (lg_sl ([.ref h0])).length) Slot.unset).toArray = ls at hl ⊢
  have hl : lv_has ls 4 [(0, .ref h0)] := hl
  obtain ⟨H, hH⟩ : ∃ z, z = s.heap := ⟨_, rfl⟩
  rw [← hH] at hP
  have hS : va_S A s.heap H [] := by rw [hH]; exact hS
  suffices hgo : W p l e _ s m _ below meth c H [] 0 0 _ _ by rw [hH] at hgo; exact hgo
  have hO := hN.2.2.2.2
  have ho_hf := fo_refl fs
  have ho_hp := fo_refl ps
  refine lv_iconst (v := 0) hx hb dX6_fallOff_0 (by decide) ?_
  refine lv_istore_n (lv' := [(1, .int 0), (0, .ref h0)]) hx hb dX6_fallOff_1 rfl hl (by decide) rfl (fun ls hl => ?_)
  refine lv_iconst (v := 0) hx hb dX6_fallOff_2 (by decide) ?_
  refine lv_istore_n (lv' := [(2, .int 0), (1, .int 0), (0, .ref h0)]) hx hb dX6_fallOff_3 rfl hl (by decide) rfl (fun ls hl => ?_)
  refine lv_iload_n hx hb dX6_fallOff_4 rfl (lv_at hl 0 rfl) ?_
  refine lv_aload_n hx hb dX6_fallOff_5 rfl (lv_at hl 2 rfl) ?_
  refine va_get (D := G) (ci := 6) (v := .ref pa) (C := RX6) (T := TX6) (N := 20) hx hb hT ku_6 hown hK hP 0 rfl rfl 19 (by decide) (hT _ kw_8_1) (fun _ h9 => h9) (fh_at hf 0 rfl) dX6_fallOff_6 ?_
  refine va_get (D := G) (ci := 2) (v := .int 0) (C := RX2) (T := TX2) (N := 19) hx hb hT ku_2 hown hK hP 1 rfl rfl 0 (by decide) (hT _ kw_42_4) (fun _ h9 => h9) (fh_at hp 0 rfl) dX6_fallOff_9 ?_
  refine lv_icmp_ge (tgt := 70) hx hb dX6_fallOff_12 (by decide) (fun c101 => ?_) (fun c101 => absurd (by decide) c101)
  refine lv_iload_n hx hb dX6_fallOff_70 rfl (lv_at hl 1 rfl) ?_
  exact W.iret (v := 0) hx hb hr (fun t ht hW => ⟨⟨0, (), rfl, rfl, by rw [ht]; exact hP, hD⟩, hS.F ht⟩) hS.2.2 dX6_fallOff_71

set_option maxHeartbeats 4000000 in
set_option maxRecDepth 100000 in
theorem c_X6_stealAway (l : Launch) (G : va_G) (cA : Nat → ClassId) (sz : Nat) (h0 : Nat) (fs : List Value) (pa : Nat) (ps : List Value) (hf : fh fs 20 [(19, .ref pa)]) (hp : fh ps 19 [(0, .int 0), (1, .int 0), (2, .int 0)]) : Met l yX6_stealAway (.code yX6_stealAway cX6_stealAway 3 none :: T0) ({ frames := 0, cells := 0, slots := 0, locals := 0 }) (tqP G cA [.ref h0] [(h0, .inr (6, fs)), (pa, .inr (2, ps))] sz) (tqQv G cA (fun (u : Unit) => True) (fun (u : Unit) => [(h0, .inr (6, fs)), (pa, .inr (2, ps))]) (va_A [(h0, .inr (6, fs)), (pa, .inr (2, ps))] sz)) 0 0 (va_A [(h0, .inr (6, fs)), (pa, .inr (2, ps))] sz) := by
  refine Met.ofW (cc := cX6_stealAway) (maxL := 3) (ret := none) (by decide) rfl ?_
  intro p e s m args below meth c s₁ B hml hv
  obtain ⟨rfl, hsz, hP, hK, hD0, hN⟩ := hv
  have hx := B.exec
  have hb := B.bytes
  have hr := B.returns
  have hts := atoms_spec (ws := .code yX6_stealAway cX6_stealAway 3 none :: T0) B.pre
  have hT : ∀ w ∈ T0, w.before _ s = true := fun w h => hts w (List.mem_cons_of_mem _ h)
  have hown : s.vm.findClass RX6 = some m.cls := findClass_of_methodNamed B.named
  have hlocks := B.notSynchronized
  subst hsz
  have hD := hD0.self (sz := s.heap.size)
  generalize hAe : va_A [(h0, .inr (6, fs)), (pa, .inr (2, ps))] s.heap.size = A at hD ⊢
  have hA : ∀ q : Nat, s.heap.size ≤ q → A q := fun q h => by rw [← hAe]; exact Or.inr h
  have hS : va_S A s.heap s.heap [] := va_S.rf
  have hl := lv_entry ([.ref h0]) (n := 3) (Nat.le_of_ble_eq_true rfl)
  rw [lg_entry_eq]
  generalize (lg_sl ([.ref h0]) ++ List.replicate (3 - (lg_sl ([.ref h0])).length) Slot.unset).toArray = ls at hl ⊢
  have hl : lv_has ls 3 [(0, .ref h0)] := hl
  obtain ⟨H, hH⟩ : ∃ z, z = s.heap := ⟨_, rfl⟩
  rw [← hH] at hP
  have hS : va_S A s.heap H [] := by rw [hH]; exact hS
  suffices hgo : W p l e _ s m _ below meth c H [] 0 0 _ _ by rw [hH] at hgo; exact hgo
  have hO := hN.2.2.2.2
  have ho_hf := fo_refl fs
  have ho_hp := fo_refl ps
  refine lv_iconst (v := 0) hx hb dX6_stealAway_0 (by decide) ?_
  refine lv_istore_n (lv' := [(1, .int 0), (0, .ref h0)]) hx hb dX6_stealAway_1 rfl hl (by decide) rfl (fun ls hl => ?_)
  refine lv_iload_n hx hb dX6_stealAway_2 rfl (lv_at hl 0 rfl) ?_
  refine lv_aload_n hx hb dX6_stealAway_3 rfl (lv_at hl 1 rfl) ?_
  refine va_get (D := G) (ci := 6) (v := .ref pa) (C := RX6) (T := TX6) (N := 20) hx hb hT ku_6 hown hK hP 0 rfl rfl 19 (by decide) (hT _ kw_8_1) (fun _ h9 => h9) (fh_at hf 0 rfl) dX6_stealAway_4 ?_
  refine va_get (D := G) (ci := 2) (v := .int 0) (C := RX2) (T := TX2) (N := 19) hx hb hT ku_2 hown hK hP 1 rfl rfl 2 (by decide) (hT _ kw_40_21) (fun _ h9 => h9) (fh_at hp 2 rfl) dX6_stealAway_7 ?_
  refine lv_icmp_ge (tgt := 68) hx hb dX6_stealAway_10 (by decide) (fun c101 => ?_) (fun c101 => absurd (by decide) c101)
  exact W.vret hx hb hr (fun t ht hW => ⟨⟨(), rfl, trivial, by rw [ht]; exact hP, hD⟩, hS.F ht⟩) hS.2.2 dX6_stealAway_68
