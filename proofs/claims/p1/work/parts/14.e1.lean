set_option maxHeartbeats 4000000 in
set_option maxRecDepth 100000 in
theorem c_X5_at (l : Launch) (G : va_G) (cA : Nat → ClassId) (sz : Nat) (h0 : Nat) (fs : List Value) (hf : fh fs 8 [(6, .int 0)]) : Met l yX5_at (.code yX5_at cX5_at 2 (some .int) :: T0) ({ frames := 0, cells := 0, slots := 0, locals := 0 }) (tqP G cA [.ref h0, .int 0] [(h0, .inr (5, fs))] sz) (tqQi G cA (fun (r : Int32) (u : Unit) => r = (-1)) (fun (u : Unit) => [(h0, .inr (5, fs))]) (va_A [(h0, .inr (5, fs))] sz)) 0 0 (va_A [(h0, .inr (5, fs))] sz) := by
  refine Met.ofW (cc := cX5_at) (maxL := 2) (ret := (some .int)) (by decide) rfl ?_
  intro p e s m args below meth c s₁ B hml hv
  obtain ⟨rfl, hsz, hP, hK, hD0, hN⟩ := hv
  have hx := B.exec
  have hb := B.bytes
  have hr := B.returns
  have hts := atoms_spec (ws := .code yX5_at cX5_at 2 (some .int) :: T0) B.pre
  have hT : ∀ w ∈ T0, w.before _ s = true := fun w h => hts w (List.mem_cons_of_mem _ h)
  have hown : s.vm.findClass RX5 = some m.cls := findClass_of_methodNamed B.named
  have hlocks := B.notSynchronized
  subst hsz
  have hD := hD0.self (sz := s.heap.size)
  generalize hAe : va_A [(h0, .inr (5, fs))] s.heap.size = A at hD ⊢
  have hA : ∀ q : Nat, s.heap.size ≤ q → A q := fun q h => by rw [← hAe]; exact Or.inr h
  have hS : va_S A s.heap s.heap [] := va_S.rf
  have hl := lv_entry ([.ref h0, .int 0]) (n := 2) (Nat.le_of_ble_eq_true rfl)
  rw [lg_entry_eq]
  generalize (lg_sl ([.ref h0, .int 0]) ++ List.replicate (2 - (lg_sl ([.ref h0, .int 0])).length) Slot.unset).toArray = ls at hl ⊢
  have hl : lv_has ls 2 [(0, .ref h0), (1, .int 0)] := hl
  obtain ⟨H, hH⟩ : ∃ z, z = s.heap := ⟨_, rfl⟩
  rw [← hH] at hP
  have hS : va_S A s.heap H [] := by rw [hH]; exact hS
  suffices hgo : W p l e _ s m _ below meth c H [] 0 0 _ _ by rw [hH] at hgo; exact hgo
  have hO := hN.2.2.2.2
  have ho_hf := fo_refl fs
  refine lv_iload_n hx hb dX5_at_0 rfl (lv_at hl 1 rfl) ?_
  refine lv_if_lt (tgt := 32) hx hb dX5_at_1 (by decide) (fun c101 => absurd c101 (by decide)) (fun c101 => ?_)
  refine lv_iload_n hx hb dX5_at_4 rfl (lv_at hl 1 rfl) ?_
  refine lv_aload_n hx hb dX5_at_5 rfl (lv_at hl 0 rfl) ?_
  refine va_get (D := G) (ci := 5) (v := .int 0) (C := RX5) (T := TX5) (N := 8) hx hb hT ku_5 hown hK hP 0 rfl rfl 6 (by decide) (hT _ kw_14_21) (fun _ h9 => h9) (fh_at hf 0 rfl) dX5_at_6 ?_
  refine lv_icmp_ge (tgt := 32) hx hb dX5_at_9 (by decide) (fun c102 => ?_) (fun c102 => absurd (by decide) c102)
  refine lv_iconst (v := (-1)) hx hb dX5_at_32 (by decide) ?_
  exact W.iret (v := (-1)) hx hb hr (fun t ht hW => ⟨⟨(-1), (), rfl, rfl, by rw [ht]; exact hP, hD⟩, hS.F ht⟩) hS.2.2 dX5_at_33

set_option maxHeartbeats 4000000 in
set_option maxRecDepth 100000 in
theorem c_X5_advance (l : Launch) (G : va_G) (cA : Nat → ClassId) (sz : Nat) (h0 : Nat) (fs : List Value) (hf : fh fs 8 [(6, .int 0), (7, .int 0)]) : Met l yX5_advance (.code yX5_advance cX5_advance 2 none :: T0) ({ frames := 1, cells := 0, slots := 0, locals := 21 }) (tqP G cA [.ref h0] [(h0, .inr (5, fs))] sz) (tqQv G cA (fun (u : List Value) => fo fs u [1, 2] ∧ fh u 8 [(1, .int 45), (2, .int 0)]) (fun (u : List Value) => [(h0, .inr (5, u))]) (va_A [(h0, .inr (5, fs))] sz)) 0 0 (va_A [(h0, .inr (5, fs))] sz) := by
  refine Met.ofW (cc := cX5_advance) (maxL := 2) (ret := none) (by decide) rfl ?_
  intro p e s m args below meth c s₁ B hml hv
  obtain ⟨rfl, hsz, hP, hK, hD0, hN⟩ := hv
  have hx := B.exec
  have hb := B.bytes
  have hr := B.returns
  have hts := atoms_spec (ws := .code yX5_advance cX5_advance 2 none :: T0) B.pre
  have hT : ∀ w ∈ T0, w.before _ s = true := fun w h => hts w (List.mem_cons_of_mem _ h)
  have hown : s.vm.findClass RX5 = some m.cls := findClass_of_methodNamed B.named
  have hlocks := B.notSynchronized
  subst hsz
  have hD := hD0.self (sz := s.heap.size)
  generalize hAe : va_A [(h0, .inr (5, fs))] s.heap.size = A at hD ⊢
  have hA : ∀ q : Nat, s.heap.size ≤ q → A q := fun q h => by rw [← hAe]; exact Or.inr h
  have hS : va_S A s.heap s.heap [] := va_S.rf
  have hl := lv_entry ([.ref h0]) (n := 2) (Nat.le_of_ble_eq_true rfl)
  rw [lg_entry_eq]
  generalize (lg_sl ([.ref h0]) ++ List.replicate (2 - (lg_sl ([.ref h0])).length) Slot.unset).toArray = ls at hl ⊢
  have hl : lv_has ls 2 [(0, .ref h0)] := hl
  obtain ⟨H, hH⟩ : ∃ z, z = s.heap := ⟨_, rfl⟩
  rw [← hH] at hP
  have hS : va_S A s.heap H [] := by rw [hH]; exact hS
  suffices hgo : W p l e _ s m _ below meth c H [] 0 0 _ _ by rw [hH] at hgo; exact hgo
  have hO := hN.2.2.2.2
  have ho_hf := fo_refl fs
  refine lv_aload_n hx hb dX5_advance_0 rfl (lv_at hl 0 rfl) ?_
  refine va_get (D := G) (ci := 5) (v := .int 0) (C := RX5) (T := TX5) (N := 8) hx hb hT ku_5 hown hK hP 0 rfl rfl 7 (by decide) (hT _ kw_14_22) (fun _ h9 => h9) (fh_at hf 1 rfl) dX5_advance_1 ?_
  refine lv_aload_n hx hb dX5_advance_4 rfl (lv_at hl 0 rfl) ?_
  refine va_get (D := G) (ci := 5) (v := .int 0) (C := RX5) (T := TX5) (N := 8) hx hb hT ku_5 hown hK hP 0 rfl rfl 6 (by decide) (hT _ kw_14_21) (fun _ h9 => h9) (fh_at hf 0 rfl) dX5_advance_5 ?_
  refine lv_icmp_ge (tgt := 38) hx hb dX5_advance_8 (by decide) (fun c101 => ?_) (fun c101 => absurd (by decide) c101)
  refine lv_aload_n hx hb dX5_advance_38 rfl (lv_at hl 0 rfl) ?_
  refine lv_aload_n hx hb dX5_advance_39 rfl (lv_at hl 0 rfl) ?_
  refine va_get (D := G) (ci := 5) (v := .int 0) (C := RX5) (T := TX5) (N := 8) hx hb hT ku_5 hown hK hP 0 rfl rfl 7 (by decide) (hT _ kw_14_22) (fun _ h9 => h9) (fh_at hf 1 rfl) dX5_advance_40 ?_
  refine va_put (D := G) (ci := 5) (v := .int 0) (ty := .int) (C := RX5) (T := TX5) (N := 8) hx hb hT ku_5 tyX5 tyX5_ok nmX5 hown hK hP hD hS 0 rfl rfl 2 (by decide) (hT _ kw_15_3) (fun _ h9 => h9) rfl (by decide +kernel) rfl rfl (fh_lt hf (by decide)) dX5_advance_43 (fun H locs hP hD hS => ?_)
  have hP : va_P G vwCl [(h0, .inr (5, (fs.set 2 (.int 0))))] H := hP
  have hD : va_D A [(h0, .inr (5, (fs.set 2 (.int 0))))] := hD
  have hf := fh_set (l' := [(2, .int 0), (6, .int 0), (7, .int 0)]) hf 2 (.int 0) (by decide) rfl
  have ho103 := fo_set ho_hf 2 (.int 0)
  generalize (fs.set 2 (.int 0)) = fs102 at hP hD hf ho103
  refine lv_aload_n hx hb dX5_advance_46 rfl (lv_at hl 0 rfl) ?_
  refine lv_aload_n hx hb dX5_advance_47 rfl (lv_at hl 0 rfl) ?_
  refine va_get (D := G) (ci := 5) (v := .int 0) (C := RX5) (T := TX5) (N := 8) hx hb hT ku_5 hown hK hP 0 rfl rfl 7 (by decide) (hT _ kw_14_22) (fun _ h9 => h9) (fh_at hf 2 rfl) dX5_advance_48 ?_
  refine tq_ci (wr := []) hP hD hS hA [0] [] rfl rfl (by decide) (by decide) (va_runV (As := [.int 0]) (rest := []) ⟨hx, hb, hml, hown, hT⟩ (c_X5_at l G cA H.size h0 fs102 (fh_sub hf [1] rfl)) (cwV 1 hT (tq_gV kw_15_5 kw_15_6 kw_15_7 kw_2_22 kw_15_8) rfl rfl rfl (by decide +kernel) ⟨Nat.le_of_ble_eq_true rfl, Nat.le_of_ble_eq_true rfl⟩) ⟨(tq_pre (isC := [0]) hP hD hK hN rfl (by decide)).1, va_recv hK hP (ci := 5) (q0 := 0) rfl rfl, (tq_pre (isC := [0]) hP hD hK hN rfl (by decide)).2⟩ rfl rfl hl.1 rfl (lv_room (Nat.le_of_ble_eq_true rfl)) dX5_advance_51 ⟨Nat.le_of_ble_eq_true rfl, Nat.le_of_ble_eq_true rfl⟩) (fun r104 u105 H locs hw106 hP hD hS => ?_)
  refine W.widen (k := 0) (n := 0) (Nat.le_of_ble_eq_true rfl) (Nat.le_of_ble_eq_true rfl) ?_
  have hr107 := hw106
  subst hr107
  have hP : va_P G vwCl [(h0, .inr (5, fs102))] H := hP
  have hD : va_D A [(h0, .inr (5, fs102))] := hD
  refine lv_istore_n (lv' := [(1, .int (-1)), (0, .ref h0)]) hx hb dX5_advance_54 rfl hl (by decide) rfl (fun ls hl => ?_)
  refine lv_iload_n hx hb dX5_advance_55 rfl (lv_at hl 0 rfl) ?_
  refine lv_if_ge (tgt := 68) hx hb dX5_advance_56 (by decide) (fun c108 => absurd c108 (by decide)) (fun c108 => ?_)
  refine lv_aload_n hx hb dX5_advance_59 rfl (lv_at hl 1 rfl) ?_
  refine lv_bipush (v := 45) hx hb dX5_advance_60 (by decide) ?_
  refine va_put (D := G) (ci := 5) (v := .int 45) (ty := .int) (C := RX5) (T := TX5) (N := 8) hx hb hT ku_5 tyX5 tyX5_ok nmX5 hown hK hP hD hS 0 rfl rfl 1 (by decide) (hT _ kw_15_4) (fun _ h9 => h9) rfl (by decide +kernel) rfl rfl (fh_lt hf (by decide)) dX5_advance_62 (fun H locs hP hD hS => ?_)
  have hP : va_P G vwCl [(h0, .inr (5, (fs102.set 1 (.int 45))))] H := hP
  have hD : va_D A [(h0, .inr (5, (fs102.set 1 (.int 45))))] := hD
  have hf := fh_set (l' := [(1, .int 45), (2, .int 0), (6, .int 0), (7, .int 0)]) hf 1 (.int 45) (by decide) rfl
  have ho110 := fo_set ho103 1 (.int 45)
  generalize (fs102.set 1 (.int 45)) = fs109 at hP hD hf ho110
  refine lv_goto (tgt := 159) hx hb dX5_advance_65 (by decide) ?_
  have qho110 := fo_mono (k2 := [1, 2]) ho110 (by decide)
  exact W.vret hx hb hr (fun t ht hW => ⟨⟨fs109, rfl, ⟨qho110, fh_sub hf [0, 1] rfl⟩, by rw [ht]; exact hP, hD⟩, hS.F ht⟩) hS.2.2 dX5_advance_159

set_option maxHeartbeats 4000000 in
set_option maxRecDepth 100000 in
theorem c_X5_begin (l : Launch) (G : va_G) (cA : Nat → ClassId) (sz : Nat) (h0 : Nat) (fs : List Value) (hf : fh fs 8 []) : Met l yX5_begin (.code yX5_begin cX5_begin 2 none :: T0) ({ frames := 2, cells := 0, slots := 0, locals := 42 }) (tqP G cA [.ref h0, .int 0] [(h0, .inr (5, fs))] sz) (tqQv G cA (fun (u : List Value) => fo fs u [1, 2, 7, 6] ∧ fh u 8 [(1, .int 45), (2, .int 0), (7, .int 0), (6, .int 0)]) (fun (u : List Value) => [(h0, .inr (5, u))]) (va_A [(h0, .inr (5, fs))] sz)) 0 0 (va_A [(h0, .inr (5, fs))] sz) := by
  refine Met.ofW (cc := cX5_begin) (maxL := 2) (ret := none) (by decide) rfl ?_
  intro p e s m args below meth c s₁ B hml hv
  obtain ⟨rfl, hsz, hP, hK, hD0, hN⟩ := hv
  have hx := B.exec
  have hb := B.bytes
  have hr := B.returns
  have hts := atoms_spec (ws := .code yX5_begin cX5_begin 2 none :: T0) B.pre
  have hT : ∀ w ∈ T0, w.before _ s = true := fun w h => hts w (List.mem_cons_of_mem _ h)
  have hown : s.vm.findClass RX5 = some m.cls := findClass_of_methodNamed B.named
  have hlocks := B.notSynchronized
  subst hsz
  have hD := hD0.self (sz := s.heap.size)
  generalize hAe : va_A [(h0, .inr (5, fs))] s.heap.size = A at hD ⊢
  have hA : ∀ q : Nat, s.heap.size ≤ q → A q := fun q h => by rw [← hAe]; exact Or.inr h
  have hS : va_S A s.heap s.heap [] := va_S.rf
  have hl := lv_entry ([.ref h0, .int 0]) (n := 2) (Nat.le_of_ble_eq_true rfl)
  rw [lg_entry_eq]
  generalize (lg_sl ([.ref h0, .int 0]) ++ List.replicate (2 - (lg_sl ([.ref h0, .int 0])).length) Slot.unset).toArray = ls at hl ⊢
  have hl : lv_has ls 2 [(0, .ref h0), (1, .int 0)] := hl
  obtain ⟨H, hH⟩ : ∃ z, z = s.heap := ⟨_, rfl⟩
  rw [← hH] at hP
  have hS : va_S A s.heap H [] := by rw [hH]; exact hS
  suffices hgo : W p l e _ s m _ below meth c H [] 0 0 _ _ by rw [hH] at hgo; exact hgo
  have hO := hN.2.2.2.2
  have ho_hf := fo_refl fs
  refine lv_aload_n hx hb dX5_begin_0 rfl (lv_at hl 0 rfl) ?_
  refine lv_iload_n hx hb dX5_begin_1 rfl (lv_at hl 1 rfl) ?_
  refine va_put (D := G) (ci := 5) (v := .int 0) (ty := .int) (C := RX5) (T := TX5) (N := 8) hx hb hT ku_5 tyX5 tyX5_ok nmX5 hown hK hP hD hS 0 rfl rfl 6 (by decide) (hT _ kw_14_21) (fun _ h9 => h9) rfl (by decide +kernel) rfl rfl (fh_lt hf (by decide)) dX5_begin_2 (fun H locs hP hD hS => ?_)
  have hP : va_P G vwCl [(h0, .inr (5, (fs.set 6 (.int 0))))] H := hP
  have hD : va_D A [(h0, .inr (5, (fs.set 6 (.int 0))))] := hD
  have hf := fh_set (l' := [(6, .int 0)]) hf 6 (.int 0) (by decide) rfl
  have ho102 := fo_set ho_hf 6 (.int 0)
  generalize (fs.set 6 (.int 0)) = fs101 at hP hD hf ho102
  refine lv_aload_n hx hb dX5_begin_5 rfl (lv_at hl 0 rfl) ?_
  refine lv_iconst (v := 0) hx hb dX5_begin_6 (by decide) ?_
  refine va_put (D := G) (ci := 5) (v := .int 0) (ty := .int) (C := RX5) (T := TX5) (N := 8) hx hb hT ku_5 tyX5 tyX5_ok nmX5 hown hK hP hD hS 0 rfl rfl 7 (by decide) (hT _ kw_14_22) (fun _ h9 => h9) rfl (by decide +kernel) rfl rfl (fh_lt hf (by decide)) dX5_begin_7 (fun H locs hP hD hS => ?_)
  have hP : va_P G vwCl [(h0, .inr (5, (fs101.set 7 (.int 0))))] H := hP
  have hD : va_D A [(h0, .inr (5, (fs101.set 7 (.int 0))))] := hD
  have hf := fh_set (l' := [(7, .int 0), (6, .int 0)]) hf 7 (.int 0) (by decide) rfl
  have ho104 := fo_set ho102 7 (.int 0)
  generalize (fs101.set 7 (.int 0)) = fs103 at hP hD hf ho104
  refine lv_aload_n hx hb dX5_begin_10 rfl (lv_at hl 0 rfl) ?_
  refine tq_cv (wr := []) hP hD hS hA [0] [] rfl rfl (by decide) (by decide) (va_runV (As := []) (rest := []) ⟨hx, hb, hml, hown, hT⟩ (c_X5_advance l G cA H.size h0 fs103 (fh_sub hf [1, 0] rfl)) (cwV 0 hT (tq_gV kw_14_23 kw_15_0 kw_15_1 kw_2_22 kw_15_2) rfl rfl rfl (by decide +kernel) ⟨Nat.le_of_ble_eq_true rfl, Nat.le_of_ble_eq_true rfl⟩) ⟨(tq_pre (isC := [0]) hP hD hK hN rfl (by decide)).1, va_recv hK hP (ci := 5) (q0 := 0) rfl rfl, (tq_pre (isC := [0]) hP hD hK hN rfl (by decide)).2⟩ rfl rfl hl.1 rfl (lv_room (Nat.le_of_ble_eq_true rfl)) dX5_begin_11 ⟨Nat.le_of_ble_eq_true rfl, Nat.le_of_ble_eq_true rfl⟩) (fun u105 H locs hw106 hP hD hS => ?_)
  refine W.widen (k := 0) (n := 0) (Nat.le_of_ble_eq_true rfl) (Nat.le_of_ble_eq_true rfl) ?_
  obtain ⟨ho108, hf109⟩ := hw106
  have hf109 := fh_app (fo_fh (l' := [(7, .int 0), (6, .int 0)]) hf ho108 rfl) hf109
  have ho110 := fo_mono (k2 := [1, 2, 7, 6]) (fo_trans ho104 ho108) (by decide)
  have hf109 : fh u105 8 [(7, .int 0), (6, .int 0), (1, .int 45), (2, .int 0)] := hf109
  have hP : va_P G vwCl [(h0, .inr (5, u105))] H := hP
  have hD : va_D A [(h0, .inr (5, u105))] := hD
  have qho110 := fo_mono (k2 := [1, 2, 7, 6]) ho110 (by decide)
  exact W.vret hx hb hr (fun t ht hW => ⟨⟨u105, rfl, ⟨qho110, fh_sub hf109 [2, 3, 0, 1] rfl⟩, by rw [ht]; exact hP, hD⟩, hS.F ht⟩) hS.2.2 dX5_begin_14

set_option maxHeartbeats 4000000 in
set_option maxRecDepth 100000 in
theorem c_X3_readText (l : Launch) (G : va_G) (cA : Nat → ClassId) (sz : Nat) (h0 : Nat) (fs : List Value) (tk : Nat) (rp : Nat) (ks : List Value) (rps : List Value) (rsa : Nat) (la : Nat) (p10 : Nat) (p12 : Nat) (p16 : Nat) (frs : Nat → Int32) (fl : Nat → Option Nat) (l0 : Nat) (l1 : Nat) (l2 : Nat) (fs0 : List Value) (fs1 : List Value) (fs2 : List Value) (hf : fh fs 10 [(0, .ref tk), (4, .ref rp)]) (htk : fh ks 8 []) (hrp : fh rps 19 [(17, .ref rsa), (18, .ref la), (10, .ref p10), (12, .ref p12), (16, .ref p16)]) (hl0 : fl 0 = some l0) (hl1 : fl 1 = some l1) (hl2 : fl 2 = some l2) (hf0 : fh fs0 3 []) (hf1 : fh fs1 3 []) (hf2 : fh fs2 3 []) : Met l yX3_readText (.code yX3_readText cX3_readText 3 (some .boolean) :: T0) ({ frames := 3, cells := 0, slots := 0, locals := 63 }) (tqP G cA [.ref h0, .int 0] [(h0, .inr (3, fs)), (tk, .inr (5, ks)), (rp, .inr (2, rps)), (rsa, .inl (cA 0, 21, .inl frs)), (la, .inl (cA 4, 3, .inr (.inr (.inr (.inr fl))))), (l0, .inr (1, fs0)), (l1, .inr (1, fs1)), (l2, .inr (1, fs2))] sz) (tqQi G cA (fun (r : Int32) (u : List Value × List Value × List Value × (Nat → Int32) × List Value × List Value × List Value) => r = 1 ∧ fo fs u.1 [6, 5, 3, 2, 1] ∧ fh u.1 10 [(6, .int 0), (5, .int 0), (3, .int 0), (2, .int (-1)), (1, .int 0)] ∧ fo ks u.2.1 [1, 2, 7, 6] ∧ fh u.2.1 8 [(1, .int 45), (2, .int 0), (7, .int 0), (6, .int 0)] ∧ fo rps u.2.2.1 [6, 5, 4, 3, 2, 1, 0] ∧ fh u.2.2.1 19 [(6, .int 0), (5, .int 0), (4, .int 0), (3, .int 0), (2, .int 0), (1, .int 0), (0, .int 0)] ∧ (∀ j, j < 21 → u.2.2.2.1 j = 60) ∧ fo fs0 u.2.2.2.2.1 [1] ∧ fh u.2.2.2.2.1 3 [(1, .int 0)] ∧ fo fs1 u.2.2.2.2.2.1 [1] ∧ fh u.2.2.2.2.2.1 3 [(1, .int 0)] ∧ fo fs2 u.2.2.2.2.2.2 [1] ∧ fh u.2.2.2.2.2.2 3 [(1, .int 0)]) (fun (u : List Value × List Value × List Value × (Nat → Int32) × List Value × List Value × List Value) => [(h0, .inr (3, u.1)), (tk, .inr (5, u.2.1)), (rp, .inr (2, u.2.2.1)), (rsa, .inl (cA 0, 21, .inl u.2.2.2.1)), (la, .inl (cA 4, 3, .inr (.inr (.inr (.inr fl))))), (l0, .inr (1, u.2.2.2.2.1)), (l1, .inr (1, u.2.2.2.2.2.1)), (l2, .inr (1, u.2.2.2.2.2.2))]) (va_A [(h0, .inr (3, fs)), (tk, .inr (5, ks)), (rp, .inr (2, rps)), (rsa, .inl (cA 0, 21, .inl frs)), (la, .inl (cA 4, 3, .inr (.inr (.inr (.inr fl))))), (l0, .inr (1, fs0)), (l1, .inr (1, fs1)), (l2, .inr (1, fs2))] sz)) 0 0 (va_A [(h0, .inr (3, fs)), (tk, .inr (5, ks)), (rp, .inr (2, rps)), (rsa, .inl (cA 0, 21, .inl frs)), (la, .inl (cA 4, 3, .inr (.inr (.inr (.inr fl))))), (l0, .inr (1, fs0)), (l1, .inr (1, fs1)), (l2, .inr (1, fs2))] sz) := by
  refine Met.ofW (cc := cX3_readText) (maxL := 3) (ret := (some .boolean)) (by decide) rfl ?_
  intro p e s m args below meth c s₁ B hml hv
  obtain ⟨rfl, hsz, hP, hK, hD0, hN⟩ := hv
  have hx := B.exec
  have hb := B.bytes
  have hr := B.returns
  have hts := atoms_spec (ws := .code yX3_readText cX3_readText 3 (some .boolean) :: T0) B.pre
  have hT : ∀ w ∈ T0, w.before _ s = true := fun w h => hts w (List.mem_cons_of_mem _ h)
  have hown : s.vm.findClass RX3 = some m.cls := findClass_of_methodNamed B.named
  have hlocks := B.notSynchronized
  subst hsz
  have hD := hD0.self (sz := s.heap.size)
  generalize hAe : va_A [(h0, .inr (3, fs)), (tk, .inr (5, ks)), (rp, .inr (2, rps)), (rsa, .inl (cA 0, 21, .inl frs)), (la, .inl (cA 4, 3, .inr (.inr (.inr (.inr fl))))), (l0, .inr (1, fs0)), (l1, .inr (1, fs1)), (l2, .inr (1, fs2))] s.heap.size = A at hD ⊢
  have hA : ∀ q : Nat, s.heap.size ≤ q → A q := fun q h => by rw [← hAe]; exact Or.inr h
  have hS : va_S A s.heap s.heap [] := va_S.rf
  have hl := lv_entry ([.ref h0, .int 0]) (n := 3) (Nat.le_of_ble_eq_true rfl)
  rw [lg_entry_eq]
  generalize (lg_sl ([.ref h0, .int 0]) ++ List.replicate (3 - (lg_sl ([.ref h0, .int 0])).length) Slot.unset).toArray = ls at hl ⊢
  have hl : lv_has ls 3 [(0, .ref h0), (1, .int 0)] := hl
  obtain ⟨H, hH⟩ : ∃ z, z = s.heap := ⟨_, rfl⟩
  rw [← hH] at hP
  have hS : va_S A s.heap H [] := by rw [hH]; exact hS
  suffices hgo : W p l e _ s m _ below meth c H [] 0 0 _ _ by rw [hH] at hgo; exact hgo
  have hO := hN.2.2.2.2
  have ho_hf := fo_refl fs
  have ho_htk := fo_refl ks
  have ho_hrp := fo_refl rps
  have ho_hf0 := fo_refl fs0
  have ho_hf1 := fo_refl fs1
  have ho_hf2 := fo_refl fs2
  refine lv_aload_n hx hb dX3_readText_0 rfl (lv_at hl 0 rfl) ?_
  refine va_get (D := G) (ci := 3) (v := .ref rp) (C := RX3) (T := TX3) (N := 10) hx hb hT ku_3 hown hK hP 0 rfl rfl 4 (by decide) (hT _ kw_3_4) (fun _ h9 => h9) (fh_at hf 1 rfl) dX3_readText_1 ?_
  refine tq_cv (wr := [(h0, .inr (3, fs)), (tk, .inr (5, ks))]) hP hD hS hA [2, 3, 4, 5, 6, 7] [0, 1] rfl rfl (by decide) (by decide) (va_runV (As := []) (rest := []) ⟨hx, hb, hml, hown, hT⟩ (c_X2_clear l G cA H.size rp rps rsa la frs fl l0 l1 l2 fs0 fs1 fs2 (fh_sub hrp [0, 1] rfl) hl0 hl1 hl2 (fh_sub hf0 [] rfl) (fh_sub hf1 [] rfl) (fh_sub hf2 [] rfl)) (cwV 0 hT (tq_gV kw_14_16 kw_6_15 kw_6_16 kw_1_19 kw_6_17) rfl rfl rfl (by decide +kernel) ⟨Nat.le_of_ble_eq_true rfl, Nat.le_of_ble_eq_true rfl⟩) ⟨(tq_pre (isC := [2, 3, 4, 5, 6, 7]) hP hD hK hN rfl (by decide)).1, va_recv hK hP (ci := 2) (q0 := 2) rfl rfl, (tq_pre (isC := [2, 3, 4, 5, 6, 7]) hP hD hK hN rfl (by decide)).2⟩ rfl rfl hl.1 rfl (lv_room (Nat.le_of_ble_eq_true rfl)) dX3_readText_4 ⟨Nat.le_of_ble_eq_true rfl, Nat.le_of_ble_eq_true rfl⟩) (fun u101 H locs hw102 hP hD hS => ?_)
  refine W.widen (k := 0) (n := 0) (Nat.le_of_ble_eq_true rfl) (Nat.le_of_ble_eq_true rfl) ?_
  obtain ⟨g103, g104, g105, g106, g107⟩ := u101
  obtain ⟨ho108, hf109, hF110, ho111, hf112, ho113, hf114, ho115, hf116⟩ := hw102
  try dsimp only at hP hD ho108 hf109 hF110 ho111 hf112 ho113 hf114 ho115 hf116
  have hf109 := fh_app (fo_fh (l' := [(17, .ref rsa), (18, .ref la), (10, .ref p10), (12, .ref p12), (16, .ref p16)]) hrp ho108 rfl) hf109
  have ho117 := fo_mono (k2 := [6, 5, 4, 3, 2, 1, 0]) (fo_trans ho_hrp ho108) (by decide)
  have hf109 : fh g103 19 [(17, .ref rsa), (18, .ref la), (10, .ref p10), (12, .ref p12), (16, .ref p16), (6, .int 0), (5, .int 0), (4, .int 0), (3, .int 0), (2, .int 0), (1, .int 0), (0, .int 0)] := hf109
  have hf112 := fh_app (fo_fh (l' := []) hf0 ho111 rfl) hf112
  have ho118 := fo_mono (k2 := [1]) (fo_trans ho_hf0 ho111) (by decide)
  have hf112 : fh g105 3 [(1, .int 0)] := hf112
  have hf114 := fh_app (fo_fh (l' := []) hf1 ho113 rfl) hf114
  have ho119 := fo_mono (k2 := [1]) (fo_trans ho_hf1 ho113) (by decide)
  have hf114 : fh g106 3 [(1, .int 0)] := hf114
  have hf116 := fh_app (fo_fh (l' := []) hf2 ho115 rfl) hf116
  have ho120 := fo_mono (k2 := [1]) (fo_trans ho_hf2 ho115) (by decide)
  have hf116 : fh g107 3 [(1, .int 0)] := hf116
  have hP : va_P G vwCl [(h0, .inr (3, fs)), (tk, .inr (5, ks)), (rp, .inr (2, g103)), (rsa, .inl (cA 0, 21, .inl g104)), (la, .inl (cA 4, 3, .inr (.inr (.inr (.inr fl))))), (l0, .inr (1, g105)), (l1, .inr (1, g106)), (l2, .inr (1, g107))] H := hP
  have hD : va_D A [(h0, .inr (3, fs)), (tk, .inr (5, ks)), (rp, .inr (2, g103)), (rsa, .inl (cA 0, 21, .inl g104)), (la, .inl (cA 4, 3, .inr (.inr (.inr (.inr fl))))), (l0, .inr (1, g105)), (l1, .inr (1, g106)), (l2, .inr (1, g107))] := hD
  refine lv_aload_n hx hb dX3_readText_7 rfl (lv_at hl 0 rfl) ?_
  refine lv_iconst (v := 0) hx hb dX3_readText_8 (by decide) ?_
  refine va_put (D := G) (ci := 3) (v := .int 0) (ty := .int) (C := RX3) (T := TX3) (N := 10) hx hb hT ku_3 tyX3 tyX3_ok nmX3 hown hK hP hD hS 0 rfl rfl 1 (by decide) (hT _ kw_3_0) (fun _ h9 => h9) rfl (by decide +kernel) rfl rfl (fh_lt hf (by decide)) dX3_readText_9 (fun H locs hP hD hS => ?_)
  have hP : va_P G vwCl [(h0, .inr (3, (fs.set 1 (.int 0)))), (tk, .inr (5, ks)), (rp, .inr (2, g103)), (rsa, .inl (cA 0, 21, .inl g104)), (la, .inl (cA 4, 3, .inr (.inr (.inr (.inr fl))))), (l0, .inr (1, g105)), (l1, .inr (1, g106)), (l2, .inr (1, g107))] H := hP
  have hD : va_D A [(h0, .inr (3, (fs.set 1 (.int 0)))), (tk, .inr (5, ks)), (rp, .inr (2, g103)), (rsa, .inl (cA 0, 21, .inl g104)), (la, .inl (cA 4, 3, .inr (.inr (.inr (.inr fl))))), (l0, .inr (1, g105)), (l1, .inr (1, g106)), (l2, .inr (1, g107))] := hD
  have hf := fh_set (l' := [(1, .int 0), (0, .ref tk), (4, .ref rp)]) hf 1 (.int 0) (by decide) rfl
  have ho122 := fo_set ho_hf 1 (.int 0)
  generalize (fs.set 1 (.int 0)) = fs121 at hP hD hf ho122
  refine lv_aload_n hx hb dX3_readText_12 rfl (lv_at hl 0 rfl) ?_
  refine lv_iconst (v := (-1)) hx hb dX3_readText_13 (by decide) ?_
  refine va_put (D := G) (ci := 3) (v := .int (-1)) (ty := .int) (C := RX3) (T := TX3) (N := 10) hx hb hT ku_3 tyX3 tyX3_ok nmX3 hown hK hP hD hS 0 rfl rfl 2 (by decide) (hT _ kw_3_1) (fun _ h9 => h9) rfl (by decide +kernel) rfl rfl (fh_lt hf (by decide)) dX3_readText_14 (fun H locs hP hD hS => ?_)
  have hP : va_P G vwCl [(h0, .inr (3, (fs121.set 2 (.int (-1))))), (tk, .inr (5, ks)), (rp, .inr (2, g103)), (rsa, .inl (cA 0, 21, .inl g104)), (la, .inl (cA 4, 3, .inr (.inr (.inr (.inr fl))))), (l0, .inr (1, g105)), (l1, .inr (1, g106)), (l2, .inr (1, g107))] H := hP
  have hD : va_D A [(h0, .inr (3, (fs121.set 2 (.int (-1))))), (tk, .inr (5, ks)), (rp, .inr (2, g103)), (rsa, .inl (cA 0, 21, .inl g104)), (la, .inl (cA 4, 3, .inr (.inr (.inr (.inr fl))))), (l0, .inr (1, g105)), (l1, .inr (1, g106)), (l2, .inr (1, g107))] := hD
  have hf := fh_set (l' := [(2, .int (-1)), (1, .int 0), (0, .ref tk), (4, .ref rp)]) hf 2 (.int (-1)) (by decide) rfl
  have ho124 := fo_set ho122 2 (.int (-1))
  generalize (fs121.set 2 (.int (-1))) = fs123 at hP hD hf ho124
  refine lv_aload_n hx hb dX3_readText_17 rfl (lv_at hl 0 rfl) ?_
  refine lv_iconst (v := 0) hx hb dX3_readText_18 (by decide) ?_
  refine va_put (D := G) (ci := 3) (v := .int 0) (ty := .int) (C := RX3) (T := TX3) (N := 10) hx hb hT ku_3 tyX3 tyX3_ok nmX3 hown hK hP hD hS 0 rfl rfl 3 (by decide) (hT _ kw_3_2) (fun _ h9 => h9) rfl (by decide +kernel) rfl rfl (fh_lt hf (by decide)) dX3_readText_19 (fun H locs hP hD hS => ?_)
  have hP : va_P G vwCl [(h0, .inr (3, (fs123.set 3 (.int 0)))), (tk, .inr (5, ks)), (rp, .inr (2, g103)), (rsa, .inl (cA 0, 21, .inl g104)), (la, .inl (cA 4, 3, .inr (.inr (.inr (.inr fl))))), (l0, .inr (1, g105)), (l1, .inr (1, g106)), (l2, .inr (1, g107))] H := hP
  have hD : va_D A [(h0, .inr (3, (fs123.set 3 (.int 0)))), (tk, .inr (5, ks)), (rp, .inr (2, g103)), (rsa, .inl (cA 0, 21, .inl g104)), (la, .inl (cA 4, 3, .inr (.inr (.inr (.inr fl))))), (l0, .inr (1, g105)), (l1, .inr (1, g106)), (l2, .inr (1, g107))] := hD
  have hf := fh_set (l' := [(3, .int 0), (2, .int (-1)), (1, .int 0), (0, .ref tk), (4, .ref rp)]) hf 3 (.int 0) (by decide) rfl
  have ho126 := fo_set ho124 3 (.int 0)
  generalize (fs123.set 3 (.int 0)) = fs125 at hP hD hf ho126
  refine lv_aload_n hx hb dX3_readText_22 rfl (lv_at hl 0 rfl) ?_
  refine lv_iconst (v := 0) hx hb dX3_readText_23 (by decide) ?_
  refine va_put (D := G) (ci := 3) (v := .int 0) (ty := .int) (C := RX3) (T := TX3) (N := 10) hx hb hT ku_3 tyX3 tyX3_ok nmX3 hown hK hP hD hS 0 rfl rfl 5 (by decide) (hT _ kw_14_13) (fun _ h9 => h9) rfl (by decide +kernel) rfl rfl (fh_lt hf (by decide)) dX3_readText_24 (fun H locs hP hD hS => ?_)
  have hP : va_P G vwCl [(h0, .inr (3, (fs125.set 5 (.int 0)))), (tk, .inr (5, ks)), (rp, .inr (2, g103)), (rsa, .inl (cA 0, 21, .inl g104)), (la, .inl (cA 4, 3, .inr (.inr (.inr (.inr fl))))), (l0, .inr (1, g105)), (l1, .inr (1, g106)), (l2, .inr (1, g107))] H := hP
  have hD : va_D A [(h0, .inr (3, (fs125.set 5 (.int 0)))), (tk, .inr (5, ks)), (rp, .inr (2, g103)), (rsa, .inl (cA 0, 21, .inl g104)), (la, .inl (cA 4, 3, .inr (.inr (.inr (.inr fl))))), (l0, .inr (1, g105)), (l1, .inr (1, g106)), (l2, .inr (1, g107))] := hD
  have hf := fh_set (l' := [(5, .int 0), (3, .int 0), (2, .int (-1)), (1, .int 0), (0, .ref tk), (4, .ref rp)]) hf 5 (.int 0) (by decide) rfl
  have ho128 := fo_set ho126 5 (.int 0)
  generalize (fs125.set 5 (.int 0)) = fs127 at hP hD hf ho128
  refine lv_aload_n hx hb dX3_readText_27 rfl (lv_at hl 0 rfl) ?_
  refine lv_iconst (v := 0) hx hb dX3_readText_28 (by decide) ?_
  refine va_put (D := G) (ci := 3) (v := .int 0) (ty := .int) (C := RX3) (T := TX3) (N := 10) hx hb hT ku_3 tyX3 tyX3_ok nmX3 hown hK hP hD hS 0 rfl rfl 6 (by decide) (hT _ kw_14_14) (fun _ h9 => h9) rfl (by decide +kernel) rfl rfl (fh_lt hf (by decide)) dX3_readText_29 (fun H locs hP hD hS => ?_)
  have hP : va_P G vwCl [(h0, .inr (3, (fs127.set 6 (.int 0)))), (tk, .inr (5, ks)), (rp, .inr (2, g103)), (rsa, .inl (cA 0, 21, .inl g104)), (la, .inl (cA 4, 3, .inr (.inr (.inr (.inr fl))))), (l0, .inr (1, g105)), (l1, .inr (1, g106)), (l2, .inr (1, g107))] H := hP
  have hD : va_D A [(h0, .inr (3, (fs127.set 6 (.int 0)))), (tk, .inr (5, ks)), (rp, .inr (2, g103)), (rsa, .inl (cA 0, 21, .inl g104)), (la, .inl (cA 4, 3, .inr (.inr (.inr (.inr fl))))), (l0, .inr (1, g105)), (l1, .inr (1, g106)), (l2, .inr (1, g107))] := hD
  have hf := fh_set (l' := [(6, .int 0), (5, .int 0), (3, .int 0), (2, .int (-1)), (1, .int 0), (0, .ref tk), (4, .ref rp)]) hf 6 (.int 0) (by decide) rfl
  have ho130 := fo_set ho128 6 (.int 0)
  generalize (fs127.set 6 (.int 0)) = fs129 at hP hD hf ho130
  refine lv_aload_n hx hb dX3_readText_32 rfl (lv_at hl 0 rfl) ?_
  refine va_get (D := G) (ci := 3) (v := .ref tk) (C := RX3) (T := TX3) (N := 10) hx hb hT ku_3 hown hK hP 0 rfl rfl 0 (by decide) (hT _ kw_2_23) (fun _ h9 => h9) (fh_at hf 5 rfl) dX3_readText_33 ?_
  refine lv_iload_n hx hb dX3_readText_36 rfl (lv_at hl 1 rfl) ?_
  refine tq_cv (wr := [(h0, .inr (3, fs129)), (rp, .inr (2, g103)), (rsa, .inl (cA 0, 21, .inl g104)), (la, .inl (cA 4, 3, .inr (.inr (.inr (.inr fl))))), (l0, .inr (1, g105)), (l1, .inr (1, g106)), (l2, .inr (1, g107))]) hP hD hS hA [1] [0, 2, 3, 4, 5, 6, 7] rfl rfl (by decide) (by decide) (va_runV (As := [.int 0]) (rest := []) ⟨hx, hb, hml, hown, hT⟩ (c_X5_begin l G cA H.size tk ks (fh_sub htk [] rfl)) (cwV 1 hT (tq_gV kw_14_17 kw_14_18 kw_14_19 kw_2_22 kw_14_20) rfl rfl rfl (by decide +kernel) ⟨Nat.le_of_ble_eq_true rfl, Nat.le_of_ble_eq_true rfl⟩) ⟨(tq_pre (isC := [1]) hP hD hK hN rfl (by decide)).1, va_recv hK hP (ci := 5) (q0 := 1) rfl rfl, (tq_pre (isC := [1]) hP hD hK hN rfl (by decide)).2⟩ rfl rfl hl.1 rfl (lv_room (Nat.le_of_ble_eq_true rfl)) dX3_readText_37 ⟨Nat.le_of_ble_eq_true rfl, Nat.le_of_ble_eq_true rfl⟩) (fun u131 H locs hw132 hP hD hS => ?_)
  refine W.widen (k := 0) (n := 0) (Nat.le_of_ble_eq_true rfl) (Nat.le_of_ble_eq_true rfl) ?_
  obtain ⟨ho134, hf135⟩ := hw132
  have hf135 := fh_app (fo_fh (l' := []) htk ho134 rfl) hf135
  have ho136 := fo_mono (k2 := [1, 2, 7, 6]) (fo_trans ho_htk ho134) (by decide)
  have hf135 : fh u131 8 [(1, .int 45), (2, .int 0), (7, .int 0), (6, .int 0)] := hf135
  have hP : va_P G vwCl [(h0, .inr (3, fs129)), (rp, .inr (2, g103)), (rsa, .inl (cA 0, 21, .inl g104)), (la, .inl (cA 4, 3, .inr (.inr (.inr (.inr fl))))), (l0, .inr (1, g105)), (l1, .inr (1, g106)), (l2, .inr (1, g107)), (tk, .inr (5, u131))] H := hP
  have hD : va_D A [(h0, .inr (3, fs129)), (rp, .inr (2, g103)), (rsa, .inl (cA 0, 21, .inl g104)), (la, .inl (cA 4, 3, .inr (.inr (.inr (.inr fl))))), (l0, .inr (1, g105)), (l1, .inr (1, g106)), (l2, .inr (1, g107)), (tk, .inr (5, u131))] := hD
  refine lv_iconst (v := 0) hx hb dX3_readText_40 (by decide) ?_
  refine lv_istore_n (lv' := [(2, .int 0), (0, .ref h0), (1, .int 0)]) hx hb dX3_readText_41 rfl hl (by decide) rfl (fun ls hl => ?_)
  refine lv_iload_n hx hb dX3_readText_42 rfl (lv_at hl 0 rfl) ?_
  refine lv_sipush (v := 700) hx hb dX3_readText_43 (by decide) ?_
  refine lv_icmp_gt (tgt := 123) hx hb dX3_readText_46 (by decide) (fun c137 => absurd c137 (by decide)) (fun c137 => ?_)
  refine lv_aload_n hx hb dX3_readText_49 rfl (lv_at hl 1 rfl) ?_
  refine va_get (D := G) (ci := 3) (v := .int 0) (C := RX3) (T := TX3) (N := 10) hx hb hT ku_3 hown hK hP 0 rfl rfl 1 (by decide) (hT _ kw_3_0) (fun _ h9 => h9) (fh_at hf 4 rfl) dX3_readText_50 ?_
  refine lv_if_ne (tgt := 123) hx hb dX3_readText_53 (by decide) (fun c138 => absurd (by decide) c138) (fun c138 => ?_)
  refine lv_aload_n hx hb dX3_readText_56 rfl (lv_at hl 1 rfl) ?_
  refine va_get (D := G) (ci := 3) (v := .ref tk) (C := RX3) (T := TX3) (N := 10) hx hb hT ku_3 hown hK hP 0 rfl rfl 0 (by decide) (hT _ kw_2_23) (fun _ h9 => h9) (fh_at hf 5 rfl) dX3_readText_57 ?_
  refine va_get (D := G) (ci := 5) (v := .int 45) (C := RX5) (T := TX5) (N := 8) hx hb hT ku_5 hown hK hP 7 rfl rfl 1 (by decide) (hT _ kw_14_15) (fun _ h9 => h9) (fh_at hf135 0 rfl) dX3_readText_60 ?_
  refine lv_bipush (v := 45) hx hb dX3_readText_63 (by decide) ?_
  refine lv_icmp_eq (tgt := 123) hx hb dX3_readText_65 (by decide) (fun c139 => ?_) (fun c139 => absurd (by decide) c139)
  refine lv_aload_n hx hb dX3_readText_123 rfl (lv_at hl 1 rfl) ?_
  refine va_get (D := G) (ci := 3) (v := .int 0) (C := RX3) (T := TX3) (N := 10) hx hb hT ku_3 hown hK hP 0 rfl rfl 1 (by decide) (hT _ kw_3_0) (fun _ h9 => h9) (fh_at hf 4 rfl) dX3_readText_124 ?_
  refine lv_if_ne (tgt := 134) hx hb dX3_readText_127 (by decide) (fun c140 => absurd (by decide) c140) (fun c140 => ?_)
  refine lv_iconst (v := 1) hx hb dX3_readText_130 (by decide) ?_
  refine lv_goto (tgt := 135) hx hb dX3_readText_131 (by decide) ?_
  have hP : va_P G vwCl [(h0, .inr (3, fs129)), (tk, .inr (5, u131)), (rp, .inr (2, g103)), (rsa, .inl (cA 0, 21, .inl g104)), (la, .inl (cA 4, 3, .inr (.inr (.inr (.inr fl))))), (l0, .inr (1, g105)), (l1, .inr (1, g106)), (l2, .inr (1, g107))] H := hP.sub [0, 7, 1, 2, 3, 4, 5, 6] rfl
  have hD : va_D A [(h0, .inr (3, fs129)), (tk, .inr (5, u131)), (rp, .inr (2, g103)), (rsa, .inl (cA 0, 21, .inl g104)), (la, .inl (cA 4, 3, .inr (.inr (.inr (.inr fl))))), (l0, .inr (1, g105)), (l1, .inr (1, g106)), (l2, .inr (1, g107))] := hD.sub [0, 7, 1, 2, 3, 4, 5, 6] (by decide) rfl
  have qho130 := fo_mono (k2 := [6, 5, 3, 2, 1]) ho130 (by decide)
  have qho136 := fo_mono (k2 := [1, 2, 7, 6]) ho136 (by decide)
  have qho117 := fo_mono (k2 := [6, 5, 4, 3, 2, 1, 0]) ho117 (by decide)
  have qho118 := fo_mono (k2 := [1]) ho118 (by decide)
  have qho119 := fo_mono (k2 := [1]) ho119 (by decide)
  have qho120 := fo_mono (k2 := [1]) ho120 (by decide)
  exact W.zret (v := 1) (ty := .boolean) hx hb hr rfl (fun t ht hW => ⟨⟨1, (fs129, u131, g103, g104, g105, g106, g107), rfl, ⟨rfl, qho130, fh_sub hf [0, 1, 2, 3, 4] rfl, qho136, fh_sub hf135 [0, 1, 2, 3] rfl, qho117, fh_sub hf109 [5, 6, 7, 8, 9, 10, 11] rfl, hF110, qho118, fh_sub hf112 [0] rfl, qho119, fh_sub hf114 [0] rfl, qho120, fh_sub hf116 [0] rfl⟩, by rw [ht]; exact hP, hD⟩, hS.F ht⟩) hS.2.2 dX3_readText_135

set_option maxHeartbeats 4000000 in
set_option maxRecDepth 100000 in
theorem c_X7_text (l : Launch) (G : va_G) (cA : Nat → ClassId) (sz : Nat) (h0 : Nat) (x : Int32) (fs : List Value) (rd : Nat) (pa : Nat) (t0 : Nat) (ch : Nat) (sg : Nat) (rs : List Value) (tk : Nat) (rp : Nat) (ks : List Value) (rps : List Value) (rsa : Nat) (la : Nat) (p10 : Nat) (p12 : Nat) (p16 : Nat) (frs : Nat → Int32) (fl : Nat → Option Nat) (l0 : Nat) (l1 : Nat) (l2 : Nat) (fs0 : List Value) (fs1 : List Value) (fs2 : List Value) (g10 : Nat → Int32) (g12 : Nat → Int32) (g16 : Nat → Int32) (ts0 : List Value) (a8 : Nat) (a9 : Nat) (a10 : Nat) (a11 : Nat) (a12 : Nat) (a13 : Nat) (a14 : Nat) (a16 : Nat) (a17 : Nat) (f8 : Nat → Int32) (f9 : Nat → Int32) (f10 : Nat → Int32) (f11 : Nat → Int32) (f12 : Nat → Int32) (f13 : Nat → Int32) (f14 : Nat → Int32) (f16 : Nat → Int32) (f17 : Nat → Int32) (cs : List Value) (gs : List Value) (hf : fh fs 12 [(0, .ref rd), (1, .ref pa), (2, .ref t0), (7, .ref ch), (8, .ref sg)]) (hrd : fh rs 10 [(0, .ref tk), (4, .ref rp)]) (htk : fh ks 8 [(0, .int 0)]) (hrp : fh rps 19 [(17, .ref rsa), (18, .ref la), (10, .ref p10), (12, .ref p12), (16, .ref p16)]) (hl0 : fl 0 = some l0) (hl1 : fl 1 = some l1) (hl2 : fl 2 = some l2) (hf0 : fh fs0 3 []) (hf1 : fh fs1 3 []) (hf2 : fh fs2 3 []) (ht0 : fh ts0 20 [(8, .ref a8), (9, .ref a9), (10, .ref a10), (11, .ref a11), (12, .ref a12), (13, .ref a13), (14, .ref a14), (16, .ref a16), (17, .ref a17)]) (hch : fh cs 3 []) (hsg : fh gs 7 []) : Met l yX7_text (.code yX7_text cX7_text 4 (some .int) :: T0) ({ frames := 4, cells := 0, slots := 0, locals := 85 }) (tqP G cA [.ref h0, .int x] [(h0, .inr (7, fs)), (rd, .inr (3, rs)), (tk, .inr (5, ks)), (rp, .inr (2, rps)), (rsa, .inl (cA 0, 21, .inl frs)), (la, .inl (cA 4, 3, .inr (.inr (.inr (.inr fl))))), (l0, .inr (1, fs0)), (l1, .inr (1, fs1)), (l2, .inr (1, fs2)), (p10, .inl (cA 0, 6, .inl g10)), (p12, .inl (cA 0, 6, .inl g12)), (p16, .inl (cA 0, 10, .inl g16)), (t0, .inr (6, ts0)), (a8, .inl (cA 0, 6, .inl f8)), (a9, .inl (cA 0, 6, .inl f9)), (a10, .inl (cA 0, 6, .inl f10)), (a11, .inl (cA 0, 6, .inl f11)), (a12, .inl (cA 0, 10, .inl f12)), (a13, .inl (cA 0, 10, .inl f13)), (a14, .inl (cA 0, 10, .inl f14)), (a16, .inl (cA 0, 5, .inl f16)), (a17, .inl (cA 0, 5, .inl f17)), (ch, .inr (0, cs)), (sg, .inr (4, gs))] sz) (tqQi G cA (fun (r : Int32) (u : Unit) => r = ((sp_text x))) (fun (u : Unit) => []) (va_A [(h0, .inr (7, fs)), (rd, .inr (3, rs)), (tk, .inr (5, ks)), (rp, .inr (2, rps)), (rsa, .inl (cA 0, 21, .inl frs)), (la, .inl (cA 4, 3, .inr (.inr (.inr (.inr fl))))), (l0, .inr (1, fs0)), (l1, .inr (1, fs1)), (l2, .inr (1, fs2)), (p10, .inl (cA 0, 6, .inl g10)), (p12, .inl (cA 0, 6, .inl g12)), (p16, .inl (cA 0, 10, .inl g16)), (t0, .inr (6, ts0)), (a8, .inl (cA 0, 6, .inl f8)), (a9, .inl (cA 0, 6, .inl f9)), (a10, .inl (cA 0, 6, .inl f10)), (a11, .inl (cA 0, 6, .inl f11)), (a12, .inl (cA 0, 10, .inl f12)), (a13, .inl (cA 0, 10, .inl f13)), (a14, .inl (cA 0, 10, .inl f14)), (a16, .inl (cA 0, 5, .inl f16)), (a17, .inl (cA 0, 5, .inl f17)), (ch, .inr (0, cs)), (sg, .inr (4, gs))] sz)) 0 0 (va_A [(h0, .inr (7, fs)), (rd, .inr (3, rs)), (tk, .inr (5, ks)), (rp, .inr (2, rps)), (rsa, .inl (cA 0, 21, .inl frs)), (la, .inl (cA 4, 3, .inr (.inr (.inr (.inr fl))))), (l0, .inr (1, fs0)), (l1, .inr (1, fs1)), (l2, .inr (1, fs2)), (p10, .inl (cA 0, 6, .inl g10)), (p12, .inl (cA 0, 6, .inl g12)), (p16, .inl (cA 0, 10, .inl g16)), (t0, .inr (6, ts0)), (a8, .inl (cA 0, 6, .inl f8)), (a9, .inl (cA 0, 6, .inl f9)), (a10, .inl (cA 0, 6, .inl f10)), (a11, .inl (cA 0, 6, .inl f11)), (a12, .inl (cA 0, 10, .inl f12)), (a13, .inl (cA 0, 10, .inl f13)), (a14, .inl (cA 0, 10, .inl f14)), (a16, .inl (cA 0, 5, .inl f16)), (a17, .inl (cA 0, 5, .inl f17)), (ch, .inr (0, cs)), (sg, .inr (4, gs))] sz) := by
  refine Met.ofW (cc := cX7_text) (maxL := 4) (ret := (some .int)) (by decide) rfl ?_
  intro p e s m args below meth c s₁ B hml hv
  obtain ⟨rfl, hsz, hP, hK, hD0, hN⟩ := hv
  have hx := B.exec
  have hb := B.bytes
  have hr := B.returns
  have hts := atoms_spec (ws := .code yX7_text cX7_text 4 (some .int) :: T0) B.pre
  have hT : ∀ w ∈ T0, w.before _ s = true := fun w h => hts w (List.mem_cons_of_mem _ h)
  have hown : s.vm.findClass RX7 = some m.cls := findClass_of_methodNamed B.named
  have hlocks := B.notSynchronized
  subst hsz
  have hD := hD0.self (sz := s.heap.size)
  generalize hAe : va_A [(h0, .inr (7, fs)), (rd, .inr (3, rs)), (tk, .inr (5, ks)), (rp, .inr (2, rps)), (rsa, .inl (cA 0, 21, .inl frs)), (la, .inl (cA 4, 3, .inr (.inr (.inr (.inr fl))))), (l0, .inr (1, fs0)), (l1, .inr (1, fs1)), (l2, .inr (1, fs2)), (p10, .inl (cA 0, 6, .inl g10)), (p12, .inl (cA 0, 6, .inl g12)), (p16, .inl (cA 0, 10, .inl g16)), (t0, .inr (6, ts0)), (a8, .inl (cA 0, 6, .inl f8)), (a9, .inl (cA 0, 6, .inl f9)), (a10, .inl (cA 0, 6, .inl f10)), (a11, .inl (cA 0, 6, .inl f11)), (a12, .inl (cA 0, 10, .inl f12)), (a13, .inl (cA 0, 10, .inl f13)), (a14, .inl (cA 0, 10, .inl f14)), (a16, .inl (cA 0, 5, .inl f16)), (a17, .inl (cA 0, 5, .inl f17)), (ch, .inr (0, cs)), (sg, .inr (4, gs))] s.heap.size = A at hD ⊢
  have hA : ∀ q : Nat, s.heap.size ≤ q → A q := fun q h => by rw [← hAe]; exact Or.inr h
  have hS : va_S A s.heap s.heap [] := va_S.rf
  have hl := lv_entry ([.ref h0, .int x]) (n := 4) (Nat.le_of_ble_eq_true rfl)
  rw [lg_entry_eq]
  generalize (lg_sl ([.ref h0, .int x]) ++ List.replicate (4 - (lg_sl ([.ref h0, .int x])).length) Slot.unset).toArray = ls at hl ⊢
  have hl : lv_has ls 4 [(0, .ref h0), (1, .int x)] := hl
  obtain ⟨H, hH⟩ : ∃ z, z = s.heap := ⟨_, rfl⟩
  rw [← hH] at hP
  have hS : va_S A s.heap H [] := by rw [hH]; exact hS
  suffices hgo : W p l e _ s m _ below meth c H [] 0 0 _ _ by rw [hH] at hgo; exact hgo
  have hO := hN.2.2.2.2
  have ho_hf := fo_refl fs
  have ho_hrd := fo_refl rs
  have ho_htk := fo_refl ks
  have ho_hrp := fo_refl rps
  have ho_hf0 := fo_refl fs0
  have ho_hf1 := fo_refl fs1
  have ho_hf2 := fo_refl fs2
  have ho_ht0 := fo_refl ts0
  have ho_hch := fo_refl cs
  have ho_hsg := fo_refl gs
  refine lv_iload_n hx hb dX7_text_0 rfl (lv_at hl 1 rfl) ?_
  refine lv_if_lt (tgt := 18) hx hb dX7_text_1 (by decide) (fun c101 => ?_) (fun c101 => ?_)
  · have k101 := tq_lt (a := x.toInt) (b := 0) rfl (by decide) c101
    refine lv_bipush (v := (-2)) hx hb dX7_text_18 (by decide) ?_
    have hP9 : va_P G vwCl [] H := fun k q h => by simp at h
    have hD9 : va_D A [] := ⟨fun i j p q h => by simp at h, fun k q h => by simp at h⟩
    exact W.iret (v := (-2)) hx hb hr (fun t ht hW => ⟨⟨(-2), (), rfl, (by unfold sp_text; (repeat' split) <;> first | rfl | (exfalso; omega) | decide), by rw [ht]; exact hP9, hD9⟩, hS.F ht⟩) hS.2.2 dX7_text_20
  · have k101 := tq_ltn (a := x.toInt) (b := 0) rfl (by decide) c101
    refine lv_iload_n hx hb dX7_text_4 rfl (lv_at hl 1 rfl) ?_
    refine lv_aload_n hx hb dX7_text_5 rfl (lv_at hl 0 rfl) ?_
    refine va_get (D := G) (ci := 7) (v := .ref rd) (C := RX7) (T := TX7) (N := 12) hx hb hT ku_7 hown hK hP 0 rfl rfl 0 (by decide) (hT _ kw_1_16) (fun _ h9 => h9) (fh_at hf 0 rfl) dX7_text_6 ?_
    refine va_get (D := G) (ci := 3) (v := .ref tk) (C := RX3) (T := TX3) (N := 10) hx hb hT ku_3 hown hK hP 1 rfl rfl 0 (by decide) (hT _ kw_13_13) (fun _ h9 => h9) (fh_at hrd 0 rfl) dX7_text_9 ?_
    refine va_get (D := G) (ci := 5) (v := .int 0) (C := RX5) (T := TX5) (N := 8) hx hb hT ku_5 hown hK hP 2 rfl rfl 0 (by decide) (hT _ kw_13_14) (fun _ h9 => h9) (fh_at htk 0 rfl) dX7_text_12 ?_
    refine lv_icmp_le (tgt := 21) hx hb dX7_text_15 (by decide) (fun c102 => ?_) (fun c102 => ?_)
    · have k102 := tq_le (a := x.toInt) (b := 0) rfl (by decide) c102
      obtain rfl : x = 0 := tq_is (by rw [show (0 : Int32).toInt = 0 from by decide]; omega)
      refine lv_aload_n hx hb dX7_text_21 rfl (lv_at hl 0 rfl) ?_
      refine va_get (D := G) (ci := 7) (v := .ref rd) (C := RX7) (T := TX7) (N := 12) hx hb hT ku_7 hown hK hP 0 rfl rfl 0 (by decide) (hT _ kw_1_16) (fun _ h9 => h9) (fh_at hf 0 rfl) dX7_text_22 ?_
      refine lv_iload_n hx hb dX7_text_25 rfl (lv_at hl 1 rfl) ?_
      refine tq_ci (wr := [(h0, .inr (7, fs)), (p10, .inl (cA 0, 6, .inl g10)), (p12, .inl (cA 0, 6, .inl g12)), (p16, .inl (cA 0, 10, .inl g16)), (t0, .inr (6, ts0)), (a8, .inl (cA 0, 6, .inl f8)), (a9, .inl (cA 0, 6, .inl f9)), (a10, .inl (cA 0, 6, .inl f10)), (a11, .inl (cA 0, 6, .inl f11)), (a12, .inl (cA 0, 10, .inl f12)), (a13, .inl (cA 0, 10, .inl f13)), (a14, .inl (cA 0, 10, .inl f14)), (a16, .inl (cA 0, 5, .inl f16)), (a17, .inl (cA 0, 5, .inl f17)), (ch, .inr (0, cs)), (sg, .inr (4, gs))]) hP hD hS hA [1, 2, 3, 4, 5, 6, 7, 8] [0, 9, 10, 11, 12, 13, 14, 15, 16, 17, 18, 19, 20, 21, 22, 23] rfl rfl (by decide) (by decide) (va_runV (As := [.int 0]) (rest := []) ⟨hx, hb, hml, hown, hT⟩ (c_X3_readText l G cA H.size rd rs tk rp ks rps rsa la p10 p12 p16 frs fl l0 l1 l2 fs0 fs1 fs2 (fh_sub hrd [0, 1] rfl) (fh_sub htk [] rfl) (fh_sub hrp [0, 1, 2, 3, 4] rfl) hl0 hl1 hl2 (fh_sub hf0 [] rfl) (fh_sub hf1 [] rfl) (fh_sub hf2 [] rfl)) (cwV 1 hT (tq_gV kw_14_9 kw_14_10 kw_14_11 kw_1_15 kw_14_12) rfl rfl rfl (by decide +kernel) ⟨Nat.le_of_ble_eq_true rfl, Nat.le_of_ble_eq_true rfl⟩) ⟨(tq_pre (isC := [1, 2, 3, 4, 5, 6, 7, 8]) hP hD hK hN rfl (by decide)).1, va_recv hK hP (ci := 3) (q0 := 1) rfl rfl, (tq_pre (isC := [1, 2, 3, 4, 5, 6, 7, 8]) hP hD hK hN rfl (by decide)).2⟩ rfl rfl hl.1 rfl (lv_room (Nat.le_of_ble_eq_true rfl)) dX7_text_26 ⟨Nat.le_of_ble_eq_true rfl, Nat.le_of_ble_eq_true rfl⟩) (fun r103 u104 H locs hw105 hP hD hS => ?_)
      refine W.widen (k := 0) (n := 0) (Nat.le_of_ble_eq_true rfl) (Nat.le_of_ble_eq_true rfl) ?_
      obtain ⟨g106, g107, g108, g109, g110, g111, g112⟩ := u104
      obtain ⟨hr113, ho114, hf115, ho116, hf117, ho118, hf119, hF120, ho121, hf122, ho123, hf124, ho125, hf126⟩ := hw105
      try dsimp only at hP hD ho114 hf115 ho116 hf117 ho118 hf119 hF120 ho121 hf122 ho123 hf124 ho125 hf126
      subst hr113
      have hf115 := fh_app (fo_fh (l' := [(0, .ref tk), (4, .ref rp)]) hrd ho114 rfl) hf115
      have ho127 := fo_mono (k2 := [6, 5, 3, 2, 1]) (fo_trans ho_hrd ho114) (by decide)
      have hf115 : fh g106 10 [(0, .ref tk), (4, .ref rp), (6, .int 0), (5, .int 0), (3, .int 0), (2, .int (-1)), (1, .int 0)] := hf115
      have hf117 := fh_app (fo_fh (l' := [(0, .int 0)]) htk ho116 rfl) hf117
      have ho128 := fo_mono (k2 := [1, 2, 7, 6]) (fo_trans ho_htk ho116) (by decide)
      have hf117 : fh g107 8 [(0, .int 0), (1, .int 45), (2, .int 0), (7, .int 0), (6, .int 0)] := hf117
      have hf119 := fh_app (fo_fh (l' := [(17, .ref rsa), (18, .ref la), (10, .ref p10), (12, .ref p12), (16, .ref p16)]) hrp ho118 rfl) hf119
      have ho129 := fo_mono (k2 := [6, 5, 4, 3, 2, 1, 0]) (fo_trans ho_hrp ho118) (by decide)
      have hf119 : fh g108 19 [(17, .ref rsa), (18, .ref la), (10, .ref p10), (12, .ref p12), (16, .ref p16), (6, .int 0), (5, .int 0), (4, .int 0), (3, .int 0), (2, .int 0), (1, .int 0), (0, .int 0)] := hf119
      have hf122 := fh_app (fo_fh (l' := []) hf0 ho121 rfl) hf122
      have ho130 := fo_mono (k2 := [1]) (fo_trans ho_hf0 ho121) (by decide)
      have hf122 : fh g110 3 [(1, .int 0)] := hf122
      have hf124 := fh_app (fo_fh (l' := []) hf1 ho123 rfl) hf124
      have ho131 := fo_mono (k2 := [1]) (fo_trans ho_hf1 ho123) (by decide)
      have hf124 : fh g111 3 [(1, .int 0)] := hf124
      have hf126 := fh_app (fo_fh (l' := []) hf2 ho125 rfl) hf126
      have ho132 := fo_mono (k2 := [1]) (fo_trans ho_hf2 ho125) (by decide)
      have hf126 : fh g112 3 [(1, .int 0)] := hf126
      have hP : va_P G vwCl [(h0, .inr (7, fs)), (p10, .inl (cA 0, 6, .inl g10)), (p12, .inl (cA 0, 6, .inl g12)), (p16, .inl (cA 0, 10, .inl g16)), (t0, .inr (6, ts0)), (a8, .inl (cA 0, 6, .inl f8)), (a9, .inl (cA 0, 6, .inl f9)), (a10, .inl (cA 0, 6, .inl f10)), (a11, .inl (cA 0, 6, .inl f11)), (a12, .inl (cA 0, 10, .inl f12)), (a13, .inl (cA 0, 10, .inl f13)), (a14, .inl (cA 0, 10, .inl f14)), (a16, .inl (cA 0, 5, .inl f16)), (a17, .inl (cA 0, 5, .inl f17)), (ch, .inr (0, cs)), (sg, .inr (4, gs)), (rd, .inr (3, g106)), (tk, .inr (5, g107)), (rp, .inr (2, g108)), (rsa, .inl (cA 0, 21, .inl g109)), (la, .inl (cA 4, 3, .inr (.inr (.inr (.inr fl))))), (l0, .inr (1, g110)), (l1, .inr (1, g111)), (l2, .inr (1, g112))] H := hP
      have hD : va_D A [(h0, .inr (7, fs)), (p10, .inl (cA 0, 6, .inl g10)), (p12, .inl (cA 0, 6, .inl g12)), (p16, .inl (cA 0, 10, .inl g16)), (t0, .inr (6, ts0)), (a8, .inl (cA 0, 6, .inl f8)), (a9, .inl (cA 0, 6, .inl f9)), (a10, .inl (cA 0, 6, .inl f10)), (a11, .inl (cA 0, 6, .inl f11)), (a12, .inl (cA 0, 10, .inl f12)), (a13, .inl (cA 0, 10, .inl f13)), (a14, .inl (cA 0, 10, .inl f14)), (a16, .inl (cA 0, 5, .inl f16)), (a17, .inl (cA 0, 5, .inl f17)), (ch, .inr (0, cs)), (sg, .inr (4, gs)), (rd, .inr (3, g106)), (tk, .inr (5, g107)), (rp, .inr (2, g108)), (rsa, .inl (cA 0, 21, .inl g109)), (la, .inl (cA 4, 3, .inr (.inr (.inr (.inr fl))))), (l0, .inr (1, g110)), (l1, .inr (1, g111)), (l2, .inr (1, g112))] := hD
      refine lv_istore_n (lv' := [(2, .int 1), (0, .ref h0), (1, .int 0)]) hx hb dX7_text_29 rfl hl (by decide) rfl (fun ls hl => ?_)
      refine lv_aload_n hx hb dX7_text_30 rfl (lv_at hl 1 rfl) ?_
      refine va_get (D := G) (ci := 7) (v := .ref rd) (C := RX7) (T := TX7) (N := 12) hx hb hT ku_7 hown hK hP 0 rfl rfl 0 (by decide) (hT _ kw_1_16) (fun _ h9 => h9) (fh_at hf 0 rfl) dX7_text_31 ?_
      refine va_get (D := G) (ci := 3) (v := .ref tk) (C := RX3) (T := TX3) (N := 10) hx hb hT ku_3 hown hK hP 16 rfl rfl 0 (by decide) (hT _ kw_13_13) (fun _ h9 => h9) (fh_at hf115 0 rfl) dX7_text_34 ?_
      refine lv_iconst (v := 0) hx hb dX7_text_37 (by decide) ?_
      refine va_put (D := G) (ci := 5) (v := .int 0) (ty := .int) (C := RX5) (T := TX5) (N := 8) hx hb hT ku_5 tyX5 tyX5_ok nmX5 hown hK hP hD hS 17 rfl rfl 0 (by decide) (hT _ kw_13_14) (fun _ h9 => h9) rfl (by decide +kernel) rfl rfl (fh_lt hf117 (by decide)) dX7_text_38 (fun H locs hP hD hS => ?_)
      have hP : va_P G vwCl [(h0, .inr (7, fs)), (p10, .inl (cA 0, 6, .inl g10)), (p12, .inl (cA 0, 6, .inl g12)), (p16, .inl (cA 0, 10, .inl g16)), (t0, .inr (6, ts0)), (a8, .inl (cA 0, 6, .inl f8)), (a9, .inl (cA 0, 6, .inl f9)), (a10, .inl (cA 0, 6, .inl f10)), (a11, .inl (cA 0, 6, .inl f11)), (a12, .inl (cA 0, 10, .inl f12)), (a13, .inl (cA 0, 10, .inl f13)), (a14, .inl (cA 0, 10, .inl f14)), (a16, .inl (cA 0, 5, .inl f16)), (a17, .inl (cA 0, 5, .inl f17)), (ch, .inr (0, cs)), (sg, .inr (4, gs)), (rd, .inr (3, g106)), (tk, .inr (5, (g107.set 0 (.int 0)))), (rp, .inr (2, g108)), (rsa, .inl (cA 0, 21, .inl g109)), (la, .inl (cA 4, 3, .inr (.inr (.inr (.inr fl))))), (l0, .inr (1, g110)), (l1, .inr (1, g111)), (l2, .inr (1, g112))] H := hP
      have hD : va_D A [(h0, .inr (7, fs)), (p10, .inl (cA 0, 6, .inl g10)), (p12, .inl (cA 0, 6, .inl g12)), (p16, .inl (cA 0, 10, .inl g16)), (t0, .inr (6, ts0)), (a8, .inl (cA 0, 6, .inl f8)), (a9, .inl (cA 0, 6, .inl f9)), (a10, .inl (cA 0, 6, .inl f10)), (a11, .inl (cA 0, 6, .inl f11)), (a12, .inl (cA 0, 10, .inl f12)), (a13, .inl (cA 0, 10, .inl f13)), (a14, .inl (cA 0, 10, .inl f14)), (a16, .inl (cA 0, 5, .inl f16)), (a17, .inl (cA 0, 5, .inl f17)), (ch, .inr (0, cs)), (sg, .inr (4, gs)), (rd, .inr (3, g106)), (tk, .inr (5, (g107.set 0 (.int 0)))), (rp, .inr (2, g108)), (rsa, .inl (cA 0, 21, .inl g109)), (la, .inl (cA 4, 3, .inr (.inr (.inr (.inr fl))))), (l0, .inr (1, g110)), (l1, .inr (1, g111)), (l2, .inr (1, g112))] := hD
      have hf117 := fh_set (l' := [(0, .int 0), (1, .int 45), (2, .int 0), (7, .int 0), (6, .int 0)]) hf117 0 (.int 0) (by decide) rfl
      have ho134 := fo_set ho128 0 (.int 0)
      generalize (g107.set 0 (.int 0)) = fs133 at hP hD hf117 ho134
      refine lv_iload_n hx hb dX7_text_41 rfl (lv_at hl 0 rfl) ?_
      refine lv_if_ne (tgt := 47) hx hb dX7_text_42 (by decide) (fun c135 => ?_) (fun c135 => absurd c135 (by decide))
      refine lv_aload_n hx hb dX7_text_47 rfl (lv_at hl 1 rfl) ?_
      refine va_get (D := G) (ci := 7) (v := .ref pa) (C := RX7) (T := TX7) (N := 12) hx hb hT ku_7 hown hK hP 0 rfl rfl 1 (by decide) (hT _ kw_1_20) (fun _ h9 => h9) (fh_at hf 1 rfl) dX7_text_48 ?_
      refine lv_astore_n (lv' := [(3, .ref pa), (2, .int 1), (0, .ref h0), (1, .int 0)]) hx hb dX7_text_51 rfl hl (by decide) rfl (fun ls hl => ?_)
      refine lv_aload_n hx hb dX7_text_52 rfl (lv_at hl 2 rfl) ?_
      refine lv_aload_n hx hb dX7_text_53 rfl (lv_at hl 2 rfl) ?_
      refine va_get (D := G) (ci := 7) (v := .ref rd) (C := RX7) (T := TX7) (N := 12) hx hb hT ku_7 hown hK hP 0 rfl rfl 0 (by decide) (hT _ kw_1_16) (fun _ h9 => h9) (fh_at hf 0 rfl) dX7_text_54 ?_
      refine va_get (D := G) (ci := 3) (v := .ref rp) (C := RX3) (T := TX3) (N := 10) hx hb hT ku_3 hown hK hP 16 rfl rfl 4 (by decide) (hT _ kw_14_6) (fun _ h9 => h9) (fh_at hf115 1 rfl) dX7_text_57 ?_
      refine va_put (D := G) (ci := 7) (v := .ref rp) (ty := (.object "RackTrain$Plan")) (C := RX7) (T := TX7) (N := 12) hx hb hT ku_7 tyX7 tyX7_ok nmX7 hown hK hP hD hS 0 rfl rfl 1 (by decide) (hT _ kw_1_20) (fun _ h9 => h9) rfl (by decide +kernel) rfl rfl (fh_lt hf (by decide)) dX7_text_60 (fun H locs hP hD hS => ?_)
      have hP : va_P G vwCl [(h0, .inr (7, (fs.set 1 (.ref rp)))), (p10, .inl (cA 0, 6, .inl g10)), (p12, .inl (cA 0, 6, .inl g12)), (p16, .inl (cA 0, 10, .inl g16)), (t0, .inr (6, ts0)), (a8, .inl (cA 0, 6, .inl f8)), (a9, .inl (cA 0, 6, .inl f9)), (a10, .inl (cA 0, 6, .inl f10)), (a11, .inl (cA 0, 6, .inl f11)), (a12, .inl (cA 0, 10, .inl f12)), (a13, .inl (cA 0, 10, .inl f13)), (a14, .inl (cA 0, 10, .inl f14)), (a16, .inl (cA 0, 5, .inl f16)), (a17, .inl (cA 0, 5, .inl f17)), (ch, .inr (0, cs)), (sg, .inr (4, gs)), (rd, .inr (3, g106)), (tk, .inr (5, fs133)), (rp, .inr (2, g108)), (rsa, .inl (cA 0, 21, .inl g109)), (la, .inl (cA 4, 3, .inr (.inr (.inr (.inr fl))))), (l0, .inr (1, g110)), (l1, .inr (1, g111)), (l2, .inr (1, g112))] H := hP
      have hD : va_D A [(h0, .inr (7, (fs.set 1 (.ref rp)))), (p10, .inl (cA 0, 6, .inl g10)), (p12, .inl (cA 0, 6, .inl g12)), (p16, .inl (cA 0, 10, .inl g16)), (t0, .inr (6, ts0)), (a8, .inl (cA 0, 6, .inl f8)), (a9, .inl (cA 0, 6, .inl f9)), (a10, .inl (cA 0, 6, .inl f10)), (a11, .inl (cA 0, 6, .inl f11)), (a12, .inl (cA 0, 10, .inl f12)), (a13, .inl (cA 0, 10, .inl f13)), (a14, .inl (cA 0, 10, .inl f14)), (a16, .inl (cA 0, 5, .inl f16)), (a17, .inl (cA 0, 5, .inl f17)), (ch, .inr (0, cs)), (sg, .inr (4, gs)), (rd, .inr (3, g106)), (tk, .inr (5, fs133)), (rp, .inr (2, g108)), (rsa, .inl (cA 0, 21, .inl g109)), (la, .inl (cA 4, 3, .inr (.inr (.inr (.inr fl))))), (l0, .inr (1, g110)), (l1, .inr (1, g111)), (l2, .inr (1, g112))] := hD
      have hf := fh_set (l' := [(1, .ref rp), (0, .ref rd), (2, .ref t0), (7, .ref ch), (8, .ref sg)]) hf 1 (.ref rp) (by decide) rfl
      have ho137 := fo_set ho_hf 1 (.ref rp)
      generalize (fs.set 1 (.ref rp)) = fs136 at hP hD hf ho137
      refine lv_aload_n hx hb dX7_text_63 rfl (lv_at hl 2 rfl) ?_
      refine va_get (D := G) (ci := 7) (v := .ref rd) (C := RX7) (T := TX7) (N := 12) hx hb hT ku_7 hown hK hP 0 rfl rfl 0 (by decide) (hT _ kw_1_16) (fun _ h9 => h9) (fh_at hf 1 rfl) dX7_text_64 ?_
      refine lv_aload_n hx hb dX7_text_67 rfl (lv_at hl 0 rfl) ?_
      refine va_put (D := G) (ci := 3) (v := .ref pa) (ty := (.object "RackTrain$Plan")) (C := RX3) (T := TX3) (N := 10) hx hb hT ku_3 tyX3 tyX3_ok nmX3 hown hK hP hD hS 16 rfl rfl 4 (by decide) (hT _ kw_14_6) (fun _ h9 => h9) rfl (by decide +kernel) rfl rfl (fh_lt hf115 (by decide)) dX7_text_68 (fun H locs hP hD hS => ?_)
      have hP : va_P G vwCl [(h0, .inr (7, fs136)), (p10, .inl (cA 0, 6, .inl g10)), (p12, .inl (cA 0, 6, .inl g12)), (p16, .inl (cA 0, 10, .inl g16)), (t0, .inr (6, ts0)), (a8, .inl (cA 0, 6, .inl f8)), (a9, .inl (cA 0, 6, .inl f9)), (a10, .inl (cA 0, 6, .inl f10)), (a11, .inl (cA 0, 6, .inl f11)), (a12, .inl (cA 0, 10, .inl f12)), (a13, .inl (cA 0, 10, .inl f13)), (a14, .inl (cA 0, 10, .inl f14)), (a16, .inl (cA 0, 5, .inl f16)), (a17, .inl (cA 0, 5, .inl f17)), (ch, .inr (0, cs)), (sg, .inr (4, gs)), (rd, .inr (3, (g106.set 4 (.ref pa)))), (tk, .inr (5, fs133)), (rp, .inr (2, g108)), (rsa, .inl (cA 0, 21, .inl g109)), (la, .inl (cA 4, 3, .inr (.inr (.inr (.inr fl))))), (l0, .inr (1, g110)), (l1, .inr (1, g111)), (l2, .inr (1, g112))] H := hP
      have hD : va_D A [(h0, .inr (7, fs136)), (p10, .inl (cA 0, 6, .inl g10)), (p12, .inl (cA 0, 6, .inl g12)), (p16, .inl (cA 0, 10, .inl g16)), (t0, .inr (6, ts0)), (a8, .inl (cA 0, 6, .inl f8)), (a9, .inl (cA 0, 6, .inl f9)), (a10, .inl (cA 0, 6, .inl f10)), (a11, .inl (cA 0, 6, .inl f11)), (a12, .inl (cA 0, 10, .inl f12)), (a13, .inl (cA 0, 10, .inl f13)), (a14, .inl (cA 0, 10, .inl f14)), (a16, .inl (cA 0, 5, .inl f16)), (a17, .inl (cA 0, 5, .inl f17)), (ch, .inr (0, cs)), (sg, .inr (4, gs)), (rd, .inr (3, (g106.set 4 (.ref pa)))), (tk, .inr (5, fs133)), (rp, .inr (2, g108)), (rsa, .inl (cA 0, 21, .inl g109)), (la, .inl (cA 4, 3, .inr (.inr (.inr (.inr fl))))), (l0, .inr (1, g110)), (l1, .inr (1, g111)), (l2, .inr (1, g112))] := hD
      have hf115 := fh_set (l' := [(4, .ref pa), (0, .ref tk), (6, .int 0), (5, .int 0), (3, .int 0), (2, .int (-1)), (1, .int 0)]) hf115 4 (.ref pa) (by decide) rfl
      have ho139 := fo_set ho127 4 (.ref pa)
      generalize (g106.set 4 (.ref pa)) = fs138 at hP hD hf115 ho139
      refine lv_aload_n hx hb dX7_text_71 rfl (lv_at hl 2 rfl) ?_
      refine va_get (D := G) (ci := 7) (v := .ref t0) (C := RX7) (T := TX7) (N := 12) hx hb hT ku_7 hown hK hP 0 rfl rfl 2 (by decide) (hT _ kw_2_0) (fun _ h9 => h9) (fh_at hf 2 rfl) dX7_text_72 ?_
      refine lv_aload_n hx hb dX7_text_75 rfl (lv_at hl 2 rfl) ?_
      refine va_get (D := G) (ci := 7) (v := .ref rp) (C := RX7) (T := TX7) (N := 12) hx hb hT ku_7 hown hK hP 0 rfl rfl 1 (by decide) (hT _ kw_1_20) (fun _ h9 => h9) (fh_at hf 0 rfl) dX7_text_76 ?_
      refine tq_cv (wr := [(h0, .inr (7, fs136)), (ch, .inr (0, cs)), (sg, .inr (4, gs)), (rd, .inr (3, fs138)), (tk, .inr (5, fs133)), (rsa, .inl (cA 0, 21, .inl g109)), (la, .inl (cA 4, 3, .inr (.inr (.inr (.inr fl))))), (l0, .inr (1, g110)), (l1, .inr (1, g111)), (l2, .inr (1, g112))]) hP hD hS hA [4, 5, 6, 7, 8, 9, 10, 11, 12, 13, 18, 1, 2, 3] [0, 14, 15, 16, 17, 19, 20, 21, 22, 23] rfl rfl (by decide) (by decide) (va_runV (As := [.ref rp]) (rest := []) ⟨hx, hb, hml, hown, hT⟩ (c_X6_begin l G cA H.size t0 rp ts0 a8 a9 a10 a11 a12 a13 a14 a16 a17 f8 f9 f10 f11 f12 f13 f14 f16 f17 g108 p10 p12 p16 g10 g12 g16 (fh_sub ht0 [0, 1, 2, 3, 4, 5, 6, 7, 8] rfl) (fh_sub hf119 [7, 6, 5, 2, 3, 4] rfl)) (cwV 1 hT (tq_gV kw_22_2 kw_7_22 kw_7_23 kw_1_23 kw_8_0) rfl rfl rfl (by decide +kernel) ⟨Nat.le_of_ble_eq_true rfl, Nat.le_of_ble_eq_true rfl⟩) ⟨(tq_pre (isC := [4, 5, 6, 7, 8, 9, 10, 11, 12, 13, 18, 1, 2, 3]) hP hD hK hN rfl (by decide)).1, va_recv hK hP (ci := 6) (q0 := 4) rfl rfl, (tq_pre (isC := [4, 5, 6, 7, 8, 9, 10, 11, 12, 13, 18, 1, 2, 3]) hP hD hK hN rfl (by decide)).2⟩ rfl rfl hl.1 rfl (lv_room (Nat.le_of_ble_eq_true rfl)) dX7_text_79 ⟨Nat.le_of_ble_eq_true rfl, Nat.le_of_ble_eq_true rfl⟩) (fun u140 H locs hw141 hP hD hS => ?_)
      refine W.widen (k := 0) (n := 0) (Nat.le_of_ble_eq_true rfl) (Nat.le_of_ble_eq_true rfl) ?_
      obtain ⟨g142, g143, g144, g145, g146, g147, g148, g149, g150, g151⟩ := u140
      obtain ⟨ho152, hf153⟩ := hw141
      try dsimp only at hP hD ho152 hf153
      have hf153 := fh_app (fo_fh (l' := [(8, .ref a8), (9, .ref a9), (10, .ref a10), (11, .ref a11), (12, .ref a12), (13, .ref a13), (14, .ref a14), (16, .ref a16), (17, .ref a17)]) ht0 ho152 rfl) hf153
      have ho154 := fo_mono (k2 := [4, 3, 2, 1, 0, 19]) (fo_trans ho_ht0 ho152) (by decide)
      have hf153 : fh g142 20 [(8, .ref a8), (9, .ref a9), (10, .ref a10), (11, .ref a11), (12, .ref a12), (13, .ref a13), (14, .ref a14), (16, .ref a16), (17, .ref a17), (4, .int 0), (3, .int 0), (2, .int 0), (1, .int 0), (0, .int 0), (19, .ref rp)] := hf153
      have hP : va_P G vwCl [(h0, .inr (7, fs136)), (ch, .inr (0, cs)), (sg, .inr (4, gs)), (rd, .inr (3, fs138)), (tk, .inr (5, fs133)), (rsa, .inl (cA 0, 21, .inl g109)), (la, .inl (cA 4, 3, .inr (.inr (.inr (.inr fl))))), (l0, .inr (1, g110)), (l1, .inr (1, g111)), (l2, .inr (1, g112)), (t0, .inr (6, g142)), (a8, .inl (cA 0, 6, .inl g143)), (a9, .inl (cA 0, 6, .inl g144)), (a10, .inl (cA 0, 6, .inl g145)), (a11, .inl (cA 0, 6, .inl g146)), (a12, .inl (cA 0, 10, .inl g147)), (a13, .inl (cA 0, 10, .inl g148)), (a14, .inl (cA 0, 10, .inl g149)), (a16, .inl (cA 0, 5, .inl g150)), (a17, .inl (cA 0, 5, .inl g151)), (rp, .inr (2, g108)), (p10, .inl (cA 0, 6, .inl g10)), (p12, .inl (cA 0, 6, .inl g12)), (p16, .inl (cA 0, 10, .inl g16))] H := hP
      have hD : va_D A [(h0, .inr (7, fs136)), (ch, .inr (0, cs)), (sg, .inr (4, gs)), (rd, .inr (3, fs138)), (tk, .inr (5, fs133)), (rsa, .inl (cA 0, 21, .inl g109)), (la, .inl (cA 4, 3, .inr (.inr (.inr (.inr fl))))), (l0, .inr (1, g110)), (l1, .inr (1, g111)), (l2, .inr (1, g112)), (t0, .inr (6, g142)), (a8, .inl (cA 0, 6, .inl g143)), (a9, .inl (cA 0, 6, .inl g144)), (a10, .inl (cA 0, 6, .inl g145)), (a11, .inl (cA 0, 6, .inl g146)), (a12, .inl (cA 0, 10, .inl g147)), (a13, .inl (cA 0, 10, .inl g148)), (a14, .inl (cA 0, 10, .inl g149)), (a16, .inl (cA 0, 5, .inl g150)), (a17, .inl (cA 0, 5, .inl g151)), (rp, .inr (2, g108)), (p10, .inl (cA 0, 6, .inl g10)), (p12, .inl (cA 0, 6, .inl g12)), (p16, .inl (cA 0, 10, .inl g16))] := hD
      refine lv_aload_n hx hb dX7_text_82 rfl (lv_at hl 2 rfl) ?_
      refine lv_iconst (v := 0) hx hb dX7_text_83 (by decide) ?_
      refine va_put (D := G) (ci := 7) (v := .int 0) (ty := .boolean) (C := RX7) (T := TX7) (N := 12) hx hb hT ku_7 tyX7 tyX7_ok nmX7 hown hK hP hD hS 0 rfl rfl 4 (by decide) (hT _ kw_2_2) (fun _ h9 => h9) rfl (by decide +kernel) rfl rfl (fh_lt hf (by decide)) dX7_text_84 (fun H locs hP hD hS => ?_)
      have hP : va_P G vwCl [(h0, .inr (7, (fs136.set 4 (.int 0)))), (ch, .inr (0, cs)), (sg, .inr (4, gs)), (rd, .inr (3, fs138)), (tk, .inr (5, fs133)), (rsa, .inl (cA 0, 21, .inl g109)), (la, .inl (cA 4, 3, .inr (.inr (.inr (.inr fl))))), (l0, .inr (1, g110)), (l1, .inr (1, g111)), (l2, .inr (1, g112)), (t0, .inr (6, g142)), (a8, .inl (cA 0, 6, .inl g143)), (a9, .inl (cA 0, 6, .inl g144)), (a10, .inl (cA 0, 6, .inl g145)), (a11, .inl (cA 0, 6, .inl g146)), (a12, .inl (cA 0, 10, .inl g147)), (a13, .inl (cA 0, 10, .inl g148)), (a14, .inl (cA 0, 10, .inl g149)), (a16, .inl (cA 0, 5, .inl g150)), (a17, .inl (cA 0, 5, .inl g151)), (rp, .inr (2, g108)), (p10, .inl (cA 0, 6, .inl g10)), (p12, .inl (cA 0, 6, .inl g12)), (p16, .inl (cA 0, 10, .inl g16))] H := hP
      have hD : va_D A [(h0, .inr (7, (fs136.set 4 (.int 0)))), (ch, .inr (0, cs)), (sg, .inr (4, gs)), (rd, .inr (3, fs138)), (tk, .inr (5, fs133)), (rsa, .inl (cA 0, 21, .inl g109)), (la, .inl (cA 4, 3, .inr (.inr (.inr (.inr fl))))), (l0, .inr (1, g110)), (l1, .inr (1, g111)), (l2, .inr (1, g112)), (t0, .inr (6, g142)), (a8, .inl (cA 0, 6, .inl g143)), (a9, .inl (cA 0, 6, .inl g144)), (a10, .inl (cA 0, 6, .inl g145)), (a11, .inl (cA 0, 6, .inl g146)), (a12, .inl (cA 0, 10, .inl g147)), (a13, .inl (cA 0, 10, .inl g148)), (a14, .inl (cA 0, 10, .inl g149)), (a16, .inl (cA 0, 5, .inl g150)), (a17, .inl (cA 0, 5, .inl g151)), (rp, .inr (2, g108)), (p10, .inl (cA 0, 6, .inl g10)), (p12, .inl (cA 0, 6, .inl g12)), (p16, .inl (cA 0, 10, .inl g16))] := hD
      have hf := fh_set (l' := [(4, .int 0), (1, .ref rp), (0, .ref rd), (2, .ref t0), (7, .ref ch), (8, .ref sg)]) hf 4 (.int 0) (by decide) rfl
      have ho156 := fo_set ho137 4 (.int 0)
      generalize (fs136.set 4 (.int 0)) = fs155 at hP hD hf ho156
      refine lv_aload_n hx hb dX7_text_87 rfl (lv_at hl 2 rfl) ?_
      refine va_get (D := G) (ci := 7) (v := .ref ch) (C := RX7) (T := TX7) (N := 12) hx hb hT ku_7 hown hK hP 0 rfl rfl 7 (by decide) (hT _ kw_2_8) (fun _ h9 => h9) (fh_at hf 4 rfl) dX7_text_88 ?_
      refine lv_iconst (v := 0) hx hb dX7_text_91 (by decide) ?_
      refine va_put (D := G) (ci := 0) (v := .int 0) (ty := .int) (C := RX0) (T := TX0) (N := 3) hx hb hT ku_0 tyX0 tyX0_ok nmX0 hown hK hP hD hS 1 rfl rfl 0 (by decide) (hT _ kw_14_7) (fun _ h9 => h9) rfl (by decide +kernel) rfl rfl (fh_lt hch (by decide)) dX7_text_92 (fun H locs hP hD hS => ?_)
      have hP : va_P G vwCl [(h0, .inr (7, fs155)), (ch, .inr (0, (cs.set 0 (.int 0)))), (sg, .inr (4, gs)), (rd, .inr (3, fs138)), (tk, .inr (5, fs133)), (rsa, .inl (cA 0, 21, .inl g109)), (la, .inl (cA 4, 3, .inr (.inr (.inr (.inr fl))))), (l0, .inr (1, g110)), (l1, .inr (1, g111)), (l2, .inr (1, g112)), (t0, .inr (6, g142)), (a8, .inl (cA 0, 6, .inl g143)), (a9, .inl (cA 0, 6, .inl g144)), (a10, .inl (cA 0, 6, .inl g145)), (a11, .inl (cA 0, 6, .inl g146)), (a12, .inl (cA 0, 10, .inl g147)), (a13, .inl (cA 0, 10, .inl g148)), (a14, .inl (cA 0, 10, .inl g149)), (a16, .inl (cA 0, 5, .inl g150)), (a17, .inl (cA 0, 5, .inl g151)), (rp, .inr (2, g108)), (p10, .inl (cA 0, 6, .inl g10)), (p12, .inl (cA 0, 6, .inl g12)), (p16, .inl (cA 0, 10, .inl g16))] H := hP
      have hD : va_D A [(h0, .inr (7, fs155)), (ch, .inr (0, (cs.set 0 (.int 0)))), (sg, .inr (4, gs)), (rd, .inr (3, fs138)), (tk, .inr (5, fs133)), (rsa, .inl (cA 0, 21, .inl g109)), (la, .inl (cA 4, 3, .inr (.inr (.inr (.inr fl))))), (l0, .inr (1, g110)), (l1, .inr (1, g111)), (l2, .inr (1, g112)), (t0, .inr (6, g142)), (a8, .inl (cA 0, 6, .inl g143)), (a9, .inl (cA 0, 6, .inl g144)), (a10, .inl (cA 0, 6, .inl g145)), (a11, .inl (cA 0, 6, .inl g146)), (a12, .inl (cA 0, 10, .inl g147)), (a13, .inl (cA 0, 10, .inl g148)), (a14, .inl (cA 0, 10, .inl g149)), (a16, .inl (cA 0, 5, .inl g150)), (a17, .inl (cA 0, 5, .inl g151)), (rp, .inr (2, g108)), (p10, .inl (cA 0, 6, .inl g10)), (p12, .inl (cA 0, 6, .inl g12)), (p16, .inl (cA 0, 10, .inl g16))] := hD
      have hch := fh_set (l' := [(0, .int 0)]) hch 0 (.int 0) (by decide) rfl
      have ho158 := fo_set ho_hch 0 (.int 0)
      generalize (cs.set 0 (.int 0)) = fs157 at hP hD hch ho158
      refine lv_aload_n hx hb dX7_text_95 rfl (lv_at hl 2 rfl) ?_
      refine va_get (D := G) (ci := 7) (v := .ref sg) (C := RX7) (T := TX7) (N := 12) hx hb hT ku_7 hown hK hP 0 rfl rfl 8 (by decide) (hT _ kw_2_12) (fun _ h9 => h9) (fh_at hf 5 rfl) dX7_text_96 ?_
      refine tq_cv (wr := [(h0, .inr (7, fs155)), (ch, .inr (0, fs157)), (rd, .inr (3, fs138)), (tk, .inr (5, fs133)), (rsa, .inl (cA 0, 21, .inl g109)), (la, .inl (cA 4, 3, .inr (.inr (.inr (.inr fl))))), (l0, .inr (1, g110)), (l1, .inr (1, g111)), (l2, .inr (1, g112)), (t0, .inr (6, g142)), (a8, .inl (cA 0, 6, .inl g143)), (a9, .inl (cA 0, 6, .inl g144)), (a10, .inl (cA 0, 6, .inl g145)), (a11, .inl (cA 0, 6, .inl g146)), (a12, .inl (cA 0, 10, .inl g147)), (a13, .inl (cA 0, 10, .inl g148)), (a14, .inl (cA 0, 10, .inl g149)), (a16, .inl (cA 0, 5, .inl g150)), (a17, .inl (cA 0, 5, .inl g151)), (rp, .inr (2, g108)), (p10, .inl (cA 0, 6, .inl g10)), (p12, .inl (cA 0, 6, .inl g12)), (p16, .inl (cA 0, 10, .inl g16))]) hP hD hS hA [2] [0, 1, 3, 4, 5, 6, 7, 8, 9, 10, 11, 12, 13, 14, 15, 16, 17, 18, 19, 20, 21, 22, 23] rfl rfl (by decide) (by decide) (va_runV (As := []) (rest := []) ⟨hx, hb, hml, hown, hT⟩ (c_X4_forget l G cA H.size sg gs (fh_sub hsg [] rfl)) (cwV 0 hT (tq_gV kw_22_3 kw_22_4 kw_22_5 kw_2_11 kw_22_6) rfl rfl rfl (by decide +kernel) ⟨Nat.le_of_ble_eq_true rfl, Nat.le_of_ble_eq_true rfl⟩) ⟨(tq_pre (isC := [2]) hP hD hK hN rfl (by decide)).1, va_recv hK hP (ci := 4) (q0 := 2) rfl rfl, (tq_pre (isC := [2]) hP hD hK hN rfl (by decide)).2⟩ rfl rfl hl.1 rfl (lv_room (Nat.le_of_ble_eq_true rfl)) dX7_text_99 ⟨Nat.le_of_ble_eq_true rfl, Nat.le_of_ble_eq_true rfl⟩) (fun u159 H locs hw160 hP hD hS => ?_)
      refine W.widen (k := 0) (n := 0) (Nat.le_of_ble_eq_true rfl) (Nat.le_of_ble_eq_true rfl) ?_
      obtain ⟨ho162, hf163⟩ := hw160
      have hf163 := fh_app (fo_fh (l' := []) hsg ho162 rfl) hf163
      have ho164 := fo_mono (k2 := [1, 0]) (fo_trans ho_hsg ho162) (by decide)
      have hf163 : fh u159 7 [(1, .int (-1)), (0, .int 0)] := hf163
      have hP : va_P G vwCl [(h0, .inr (7, fs155)), (ch, .inr (0, fs157)), (rd, .inr (3, fs138)), (tk, .inr (5, fs133)), (rsa, .inl (cA 0, 21, .inl g109)), (la, .inl (cA 4, 3, .inr (.inr (.inr (.inr fl))))), (l0, .inr (1, g110)), (l1, .inr (1, g111)), (l2, .inr (1, g112)), (t0, .inr (6, g142)), (a8, .inl (cA 0, 6, .inl g143)), (a9, .inl (cA 0, 6, .inl g144)), (a10, .inl (cA 0, 6, .inl g145)), (a11, .inl (cA 0, 6, .inl g146)), (a12, .inl (cA 0, 10, .inl g147)), (a13, .inl (cA 0, 10, .inl g148)), (a14, .inl (cA 0, 10, .inl g149)), (a16, .inl (cA 0, 5, .inl g150)), (a17, .inl (cA 0, 5, .inl g151)), (rp, .inr (2, g108)), (p10, .inl (cA 0, 6, .inl g10)), (p12, .inl (cA 0, 6, .inl g12)), (p16, .inl (cA 0, 10, .inl g16)), (sg, .inr (4, u159))] H := hP
      have hD : va_D A [(h0, .inr (7, fs155)), (ch, .inr (0, fs157)), (rd, .inr (3, fs138)), (tk, .inr (5, fs133)), (rsa, .inl (cA 0, 21, .inl g109)), (la, .inl (cA 4, 3, .inr (.inr (.inr (.inr fl))))), (l0, .inr (1, g110)), (l1, .inr (1, g111)), (l2, .inr (1, g112)), (t0, .inr (6, g142)), (a8, .inl (cA 0, 6, .inl g143)), (a9, .inl (cA 0, 6, .inl g144)), (a10, .inl (cA 0, 6, .inl g145)), (a11, .inl (cA 0, 6, .inl g146)), (a12, .inl (cA 0, 10, .inl g147)), (a13, .inl (cA 0, 10, .inl g148)), (a14, .inl (cA 0, 10, .inl g149)), (a16, .inl (cA 0, 5, .inl g150)), (a17, .inl (cA 0, 5, .inl g151)), (rp, .inr (2, g108)), (p10, .inl (cA 0, 6, .inl g10)), (p12, .inl (cA 0, 6, .inl g12)), (p16, .inl (cA 0, 10, .inl g16)), (sg, .inr (4, u159))] := hD
      refine lv_aload_n hx hb dX7_text_102 rfl (lv_at hl 2 rfl) ?_
      refine va_get (D := G) (ci := 7) (v := .ref rd) (C := RX7) (T := TX7) (N := 12) hx hb hT ku_7 hown hK hP 0 rfl rfl 0 (by decide) (hT _ kw_1_16) (fun _ h9 => h9) (fh_at hf 2 rfl) dX7_text_103 ?_
      refine va_get (D := G) (ci := 3) (v := .int 0) (C := RX3) (T := TX3) (N := 10) hx hb hT ku_3 hown hK hP 2 rfl rfl 3 (by decide) (hT _ kw_14_8) (fun _ h9 => h9) (fh_at hf115 4 rfl) dX7_text_106 ?_
      have hP9 : va_P G vwCl [] H := fun k q h => by simp at h
      have hD9 : va_D A [] := ⟨fun i j p q h => by simp at h, fun k q h => by simp at h⟩
      exact W.iret (v := 0) hx hb hr (fun t ht hW => ⟨⟨0, (), rfl, (by unfold sp_text; (repeat' split) <;> first | rfl | (exfalso; omega) | decide), by rw [ht]; exact hP9, hD9⟩, hS.F ht⟩) hS.2.2 dX7_text_109
    · have k102 := tq_len (a := x.toInt) (b := 0) rfl (by decide) c102
      refine lv_bipush (v := (-2)) hx hb dX7_text_18 (by decide) ?_
      have hP9 : va_P G vwCl [] H := fun k q h => by simp at h
      have hD9 : va_D A [] := ⟨fun i j p q h => by simp at h, fun k q h => by simp at h⟩
      exact W.iret (v := (-2)) hx hb hr (fun t ht hW => ⟨⟨(-2), (), rfl, (by unfold sp_text; (repeat' split) <;> first | rfl | (exfalso; omega) | decide), by rw [ht]; exact hP9, hD9⟩, hS.F ht⟩) hS.2.2 dX7_text_20

set_option maxHeartbeats 4000000 in
set_option maxRecDepth 100000 in
theorem c_X7_keep (l : Launch) (G : va_G) (cA : Nat → ClassId) (sz : Nat) (h0 : Nat) (fs : List Value) (t1 : Nat) (t0 : Nat) (ts1 : List Value) (b8 : Nat) (b9 : Nat) (b10 : Nat) (b11 : Nat) (b12 : Nat) (b13 : Nat) (b14 : Nat) (b15 : Nat) (b16 : Nat) (b17 : Nat) (bf8 : Nat → Int32) (bf9 : Nat → Int32) (bf10 : Nat → Int32) (bf11 : Nat → Int32) (bf12 : Nat → Int32) (bf13 : Nat → Int32) (bf14 : Nat → Int32) (bf15 : Nat → Int32) (bf16 : Nat → Int32) (bf17 : Nat → Int32) (ts0 : List Value) (pa : Nat) (a8 : Nat) (a9 : Nat) (a10 : Nat) (a11 : Nat) (a12 : Nat) (a13 : Nat) (a14 : Nat) (a15 : Nat) (a16 : Nat) (a17 : Nat) (af8 : Nat → Int32) (af9 : Nat → Int32) (af10 : Nat → Int32) (af11 : Nat → Int32) (af12 : Nat → Int32) (af13 : Nat → Int32) (af14 : Nat → Int32) (af15 : Nat → Int32) (af16 : Nat → Int32) (af17 : Nat → Int32) (hf : fh fs 12 [(3, .ref t1), (2, .ref t0)]) (ht1 : fh ts1 20 [(8, .ref b8), (9, .ref b9), (10, .ref b10), (11, .ref b11), (12, .ref b12), (13, .ref b13), (14, .ref b14), (15, .ref b15), (16, .ref b16), (17, .ref b17)]) (ht0 : fh ts0 20 [(0, .int 0), (1, .int 0), (2, .int 0), (3, .int 0), (4, .int 0), (19, .ref pa), (8, .ref a8), (9, .ref a9), (10, .ref a10), (11, .ref a11), (12, .ref a12), (13, .ref a13), (14, .ref a14), (15, .ref a15), (16, .ref a16), (17, .ref a17)]) : Met l yX7_keep (.code yX7_keep cX7_keep 1 (some .int) :: T0) ({ frames := 2, cells := 0, slots := 0, locals := 61 }) (tqP G cA [.ref h0] [(h0, .inr (7, fs)), (t1, .inr (6, ts1)), (b8, .inl (cA 0, 6, .inl bf8)), (b9, .inl (cA 0, 6, .inl bf9)), (b10, .inl (cA 0, 6, .inl bf10)), (b11, .inl (cA 0, 6, .inl bf11)), (b12, .inl (cA 0, 10, .inl bf12)), (b13, .inl (cA 0, 10, .inl bf13)), (b14, .inl (cA 0, 10, .inl bf14)), (b15, .inl (cA 0, 50, .inl bf15)), (b16, .inl (cA 0, 5, .inl bf16)), (b17, .inl (cA 0, 5, .inl bf17)), (t0, .inr (6, ts0)), (a8, .inl (cA 0, 6, .inl af8)), (a9, .inl (cA 0, 6, .inl af9)), (a10, .inl (cA 0, 6, .inl af10)), (a11, .inl (cA 0, 6, .inl af11)), (a12, .inl (cA 0, 10, .inl af12)), (a13, .inl (cA 0, 10, .inl af13)), (a14, .inl (cA 0, 10, .inl af14)), (a15, .inl (cA 0, 50, .inl af15)), (a16, .inl (cA 0, 5, .inl af16)), (a17, .inl (cA 0, 5, .inl af17))] sz) (tqQi G cA (fun (r : Int32) (u : Unit) => r = 0) (fun (u : Unit) => []) (va_A [(h0, .inr (7, fs)), (t1, .inr (6, ts1)), (b8, .inl (cA 0, 6, .inl bf8)), (b9, .inl (cA 0, 6, .inl bf9)), (b10, .inl (cA 0, 6, .inl bf10)), (b11, .inl (cA 0, 6, .inl bf11)), (b12, .inl (cA 0, 10, .inl bf12)), (b13, .inl (cA 0, 10, .inl bf13)), (b14, .inl (cA 0, 10, .inl bf14)), (b15, .inl (cA 0, 50, .inl bf15)), (b16, .inl (cA 0, 5, .inl bf16)), (b17, .inl (cA 0, 5, .inl bf17)), (t0, .inr (6, ts0)), (a8, .inl (cA 0, 6, .inl af8)), (a9, .inl (cA 0, 6, .inl af9)), (a10, .inl (cA 0, 6, .inl af10)), (a11, .inl (cA 0, 6, .inl af11)), (a12, .inl (cA 0, 10, .inl af12)), (a13, .inl (cA 0, 10, .inl af13)), (a14, .inl (cA 0, 10, .inl af14)), (a15, .inl (cA 0, 50, .inl af15)), (a16, .inl (cA 0, 5, .inl af16)), (a17, .inl (cA 0, 5, .inl af17))] sz)) 0 0 (va_A [(h0, .inr (7, fs)), (t1, .inr (6, ts1)), (b8, .inl (cA 0, 6, .inl bf8)), (b9, .inl (cA 0, 6, .inl bf9)), (b10, .inl (cA 0, 6, .inl bf10)), (b11, .inl (cA 0, 6, .inl bf11)), (b12, .inl (cA 0, 10, .inl bf12)), (b13, .inl (cA 0, 10, .inl bf13)), (b14, .inl (cA 0, 10, .inl bf14)), (b15, .inl (cA 0, 50, .inl bf15)), (b16, .inl (cA 0, 5, .inl bf16)), (b17, .inl (cA 0, 5, .inl bf17)), (t0, .inr (6, ts0)), (a8, .inl (cA 0, 6, .inl af8)), (a9, .inl (cA 0, 6, .inl af9)), (a10, .inl (cA 0, 6, .inl af10)), (a11, .inl (cA 0, 6, .inl af11)), (a12, .inl (cA 0, 10, .inl af12)), (a13, .inl (cA 0, 10, .inl af13)), (a14, .inl (cA 0, 10, .inl af14)), (a15, .inl (cA 0, 50, .inl af15)), (a16, .inl (cA 0, 5, .inl af16)), (a17, .inl (cA 0, 5, .inl af17))] sz) := by
  refine Met.ofW (cc := cX7_keep) (maxL := 1) (ret := (some .int)) (by decide) rfl ?_
  intro p e s m args below meth c s₁ B hml hv
  obtain ⟨rfl, hsz, hP, hK, hD0, hN⟩ := hv
  have hx := B.exec
  have hb := B.bytes
  have hr := B.returns
  have hts := atoms_spec (ws := .code yX7_keep cX7_keep 1 (some .int) :: T0) B.pre
  have hT : ∀ w ∈ T0, w.before _ s = true := fun w h => hts w (List.mem_cons_of_mem _ h)
  have hown : s.vm.findClass RX7 = some m.cls := findClass_of_methodNamed B.named
  have hlocks := B.notSynchronized
  subst hsz
  have hD := hD0.self (sz := s.heap.size)
  generalize hAe : va_A [(h0, .inr (7, fs)), (t1, .inr (6, ts1)), (b8, .inl (cA 0, 6, .inl bf8)), (b9, .inl (cA 0, 6, .inl bf9)), (b10, .inl (cA 0, 6, .inl bf10)), (b11, .inl (cA 0, 6, .inl bf11)), (b12, .inl (cA 0, 10, .inl bf12)), (b13, .inl (cA 0, 10, .inl bf13)), (b14, .inl (cA 0, 10, .inl bf14)), (b15, .inl (cA 0, 50, .inl bf15)), (b16, .inl (cA 0, 5, .inl bf16)), (b17, .inl (cA 0, 5, .inl bf17)), (t0, .inr (6, ts0)), (a8, .inl (cA 0, 6, .inl af8)), (a9, .inl (cA 0, 6, .inl af9)), (a10, .inl (cA 0, 6, .inl af10)), (a11, .inl (cA 0, 6, .inl af11)), (a12, .inl (cA 0, 10, .inl af12)), (a13, .inl (cA 0, 10, .inl af13)), (a14, .inl (cA 0, 10, .inl af14)), (a15, .inl (cA 0, 50, .inl af15)), (a16, .inl (cA 0, 5, .inl af16)), (a17, .inl (cA 0, 5, .inl af17))] s.heap.size = A at hD ⊢
  have hA : ∀ q : Nat, s.heap.size ≤ q → A q := fun q h => by rw [← hAe]; exact Or.inr h
  have hS : va_S A s.heap s.heap [] := va_S.rf
  have hl := lv_entry ([.ref h0]) (n := 1) (Nat.le_of_ble_eq_true rfl)
  rw [lg_entry_eq]
  generalize (lg_sl ([.ref h0]) ++ List.replicate (1 - (lg_sl ([.ref h0])).length) Slot.unset).toArray = ls at hl ⊢
  have hl : lv_has ls 1 [(0, .ref h0)] := hl
  obtain ⟨H, hH⟩ : ∃ z, z = s.heap := ⟨_, rfl⟩
  rw [← hH] at hP
  have hS : va_S A s.heap H [] := by rw [hH]; exact hS
  suffices hgo : W p l e _ s m _ below meth c H [] 0 0 _ _ by rw [hH] at hgo; exact hgo
  have hO := hN.2.2.2.2
  have ho_hf := fo_refl fs
  have ho_ht1 := fo_refl ts1
  have ho_ht0 := fo_refl ts0
  refine lv_aload_n hx hb dX7_keep_0 rfl (lv_at hl 0 rfl) ?_
  refine va_get (D := G) (ci := 7) (v := .ref t1) (C := RX7) (T := TX7) (N := 12) hx hb hT ku_7 hown hK hP 0 rfl rfl 3 (by decide) (hT _ kw_2_1) (fun _ h9 => h9) (fh_at hf 0 rfl) dX7_keep_1 ?_
  refine lv_aload_n hx hb dX7_keep_4 rfl (lv_at hl 0 rfl) ?_
  refine va_get (D := G) (ci := 7) (v := .ref t0) (C := RX7) (T := TX7) (N := 12) hx hb hT ku_7 hown hK hP 0 rfl rfl 2 (by decide) (hT _ kw_2_0) (fun _ h9 => h9) (fh_at hf 1 rfl) dX7_keep_5 ?_
  refine tq_cv (wr := [(h0, .inr (7, fs))]) hP hD hS hA [1, 2, 3, 4, 5, 6, 7, 8, 9, 10, 11, 12, 13, 14, 15, 16, 17, 18, 19, 20, 21, 22] [0] rfl rfl (by decide) (by decide) (va_runV (As := [.ref t0]) (rest := []) ⟨hx, hb, hml, hown, hT⟩ (c_X6_copy l G cA H.size t1 t0 ts1 b8 b9 b10 b11 b12 b13 b14 b15 b16 b17 bf8 bf9 bf10 bf11 bf12 bf13 bf14 bf15 bf16 bf17 ts0 0 0 0 0 0 pa a8 a9 a10 a11 a12 a13 a14 a15 a16 a17 af8 af9 af10 af11 af12 af13 af14 af15 af16 af17 (fh_sub ht1 [0, 1, 2, 3, 4, 5, 6, 7, 8, 9] rfl) (fh_sub ht0 [0, 1, 2, 3, 4, 5, 6, 7, 8, 9, 10, 11, 12, 13, 14, 15] rfl)) (cwV 1 hT (tq_gV kw_38_10 kw_38_11 kw_38_12 kw_1_23 kw_38_13) rfl rfl rfl (by decide +kernel) ⟨Nat.le_of_ble_eq_true rfl, Nat.le_of_ble_eq_true rfl⟩) ⟨(tq_pre (isC := [1, 2, 3, 4, 5, 6, 7, 8, 9, 10, 11, 12, 13, 14, 15, 16, 17, 18, 19, 20, 21, 22]) hP hD hK hN rfl (by decide)).1, va_recv hK hP (ci := 6) (q0 := 1) rfl rfl, (tq_pre (isC := [1, 2, 3, 4, 5, 6, 7, 8, 9, 10, 11, 12, 13, 14, 15, 16, 17, 18, 19, 20, 21, 22]) hP hD hK hN rfl (by decide)).2⟩ rfl rfl hl.1 rfl (lv_room (Nat.le_of_ble_eq_true rfl)) dX7_keep_8 ⟨Nat.le_of_ble_eq_true rfl, Nat.le_of_ble_eq_true rfl⟩) (fun u101 H locs hw102 hP hD hS => ?_)
  refine W.widen (k := 0) (n := 0) (Nat.le_of_ble_eq_true rfl) (Nat.le_of_ble_eq_true rfl) ?_
  obtain ⟨g103, g104, g105, g106, g107, g108, g109, g110, g111, g112, g113⟩ := u101
  obtain ⟨ho114, hf115⟩ := hw102
  try dsimp only at hP hD ho114 hf115
  have hf115 := fh_app (fo_fh (l' := [(8, .ref b8), (9, .ref b9), (10, .ref b10), (11, .ref b11), (12, .ref b12), (13, .ref b13), (14, .ref b14), (15, .ref b15), (16, .ref b16), (17, .ref b17)]) ht1 ho114 rfl) hf115
  have ho116 := fo_mono (k2 := [4, 3, 2, 1, 0, 19]) (fo_trans ho_ht1 ho114) (by decide)
  have hf115 : fh g103 20 [(8, .ref b8), (9, .ref b9), (10, .ref b10), (11, .ref b11), (12, .ref b12), (13, .ref b13), (14, .ref b14), (15, .ref b15), (16, .ref b16), (17, .ref b17), (4, .int 0), (3, .int 0), (2, .int 0), (1, .int 0), (0, .int 0), (19, .ref pa)] := hf115
  have hP : va_P G vwCl [(h0, .inr (7, fs)), (t1, .inr (6, g103)), (b8, .inl (cA 0, 6, .inl g104)), (b9, .inl (cA 0, 6, .inl g105)), (b10, .inl (cA 0, 6, .inl g106)), (b11, .inl (cA 0, 6, .inl g107)), (b12, .inl (cA 0, 10, .inl g108)), (b13, .inl (cA 0, 10, .inl g109)), (b14, .inl (cA 0, 10, .inl g110)), (b15, .inl (cA 0, 50, .inl g111)), (b16, .inl (cA 0, 5, .inl g112)), (b17, .inl (cA 0, 5, .inl g113)), (t0, .inr (6, ts0)), (a8, .inl (cA 0, 6, .inl af8)), (a9, .inl (cA 0, 6, .inl af9)), (a10, .inl (cA 0, 6, .inl af10)), (a11, .inl (cA 0, 6, .inl af11)), (a12, .inl (cA 0, 10, .inl af12)), (a13, .inl (cA 0, 10, .inl af13)), (a14, .inl (cA 0, 10, .inl af14)), (a15, .inl (cA 0, 50, .inl af15)), (a16, .inl (cA 0, 5, .inl af16)), (a17, .inl (cA 0, 5, .inl af17))] H := hP
  have hD : va_D A [(h0, .inr (7, fs)), (t1, .inr (6, g103)), (b8, .inl (cA 0, 6, .inl g104)), (b9, .inl (cA 0, 6, .inl g105)), (b10, .inl (cA 0, 6, .inl g106)), (b11, .inl (cA 0, 6, .inl g107)), (b12, .inl (cA 0, 10, .inl g108)), (b13, .inl (cA 0, 10, .inl g109)), (b14, .inl (cA 0, 10, .inl g110)), (b15, .inl (cA 0, 50, .inl g111)), (b16, .inl (cA 0, 5, .inl g112)), (b17, .inl (cA 0, 5, .inl g113)), (t0, .inr (6, ts0)), (a8, .inl (cA 0, 6, .inl af8)), (a9, .inl (cA 0, 6, .inl af9)), (a10, .inl (cA 0, 6, .inl af10)), (a11, .inl (cA 0, 6, .inl af11)), (a12, .inl (cA 0, 10, .inl af12)), (a13, .inl (cA 0, 10, .inl af13)), (a14, .inl (cA 0, 10, .inl af14)), (a15, .inl (cA 0, 50, .inl af15)), (a16, .inl (cA 0, 5, .inl af16)), (a17, .inl (cA 0, 5, .inl af17))] := hD
  refine lv_aload_n hx hb dX7_keep_11 rfl (lv_at hl 0 rfl) ?_
  refine lv_iconst (v := 1) hx hb dX7_keep_12 (by decide) ?_
  refine va_put (D := G) (ci := 7) (v := .int 1) (ty := .boolean) (C := RX7) (T := TX7) (N := 12) hx hb hT ku_7 tyX7 tyX7_ok nmX7 hown hK hP hD hS 0 rfl rfl 4 (by decide) (hT _ kw_2_2) (fun _ h9 => h9) rfl (by decide +kernel) rfl rfl (fh_lt hf (by decide)) dX7_keep_13 (fun H locs hP hD hS => ?_)
  have hP : va_P G vwCl [(h0, .inr (7, (fs.set 4 (.int 1)))), (t1, .inr (6, g103)), (b8, .inl (cA 0, 6, .inl g104)), (b9, .inl (cA 0, 6, .inl g105)), (b10, .inl (cA 0, 6, .inl g106)), (b11, .inl (cA 0, 6, .inl g107)), (b12, .inl (cA 0, 10, .inl g108)), (b13, .inl (cA 0, 10, .inl g109)), (b14, .inl (cA 0, 10, .inl g110)), (b15, .inl (cA 0, 50, .inl g111)), (b16, .inl (cA 0, 5, .inl g112)), (b17, .inl (cA 0, 5, .inl g113)), (t0, .inr (6, ts0)), (a8, .inl (cA 0, 6, .inl af8)), (a9, .inl (cA 0, 6, .inl af9)), (a10, .inl (cA 0, 6, .inl af10)), (a11, .inl (cA 0, 6, .inl af11)), (a12, .inl (cA 0, 10, .inl af12)), (a13, .inl (cA 0, 10, .inl af13)), (a14, .inl (cA 0, 10, .inl af14)), (a15, .inl (cA 0, 50, .inl af15)), (a16, .inl (cA 0, 5, .inl af16)), (a17, .inl (cA 0, 5, .inl af17))] H := hP
  have hD : va_D A [(h0, .inr (7, (fs.set 4 (.int 1)))), (t1, .inr (6, g103)), (b8, .inl (cA 0, 6, .inl g104)), (b9, .inl (cA 0, 6, .inl g105)), (b10, .inl (cA 0, 6, .inl g106)), (b11, .inl (cA 0, 6, .inl g107)), (b12, .inl (cA 0, 10, .inl g108)), (b13, .inl (cA 0, 10, .inl g109)), (b14, .inl (cA 0, 10, .inl g110)), (b15, .inl (cA 0, 50, .inl g111)), (b16, .inl (cA 0, 5, .inl g112)), (b17, .inl (cA 0, 5, .inl g113)), (t0, .inr (6, ts0)), (a8, .inl (cA 0, 6, .inl af8)), (a9, .inl (cA 0, 6, .inl af9)), (a10, .inl (cA 0, 6, .inl af10)), (a11, .inl (cA 0, 6, .inl af11)), (a12, .inl (cA 0, 10, .inl af12)), (a13, .inl (cA 0, 10, .inl af13)), (a14, .inl (cA 0, 10, .inl af14)), (a15, .inl (cA 0, 50, .inl af15)), (a16, .inl (cA 0, 5, .inl af16)), (a17, .inl (cA 0, 5, .inl af17))] := hD
  have hf := fh_set (l' := [(4, .int 1), (3, .ref t1), (2, .ref t0)]) hf 4 (.int 1) (by decide) rfl
  have ho118 := fo_set ho_hf 4 (.int 1)
  generalize (fs.set 4 (.int 1)) = fs117 at hP hD hf ho118
  refine lv_aload_n hx hb dX7_keep_16 rfl (lv_at hl 0 rfl) ?_
  refine va_get (D := G) (ci := 7) (v := .ref t0) (C := RX7) (T := TX7) (N := 12) hx hb hT ku_7 hown hK hP 0 rfl rfl 2 (by decide) (hT _ kw_2_0) (fun _ h9 => h9) (fh_at hf 2 rfl) dX7_keep_17 ?_
  refine va_get (D := G) (ci := 6) (v := .int 0) (C := RX6) (T := TX6) (N := 20) hx hb hT ku_6 hown hK hP 12 rfl rfl 0 (by decide) (hT _ kw_40_9) (fun _ h9 => h9) (fh_at ht0 0 rfl) dX7_keep_20 ?_
  have hP9 : va_P G vwCl [] H := fun k q h => by simp at h
  have hD9 : va_D A [] := ⟨fun i j p q h => by simp at h, fun k q h => by simp at h⟩
  exact W.iret (v := 0) hx hb hr (fun t ht hW => ⟨⟨0, (), rfl, rfl, by rw [ht]; exact hP9, hD9⟩, hS.F ht⟩) hS.2.2 dX7_keep_23
