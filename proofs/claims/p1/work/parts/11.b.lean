set_option maxHeartbeats 4000000 in
set_option maxRecDepth 100000 in
theorem c_X6_strengthenAll (l : Launch) (G : va_G) (cA : Nat → ClassId) (sz : Nat) (h0 : Nat) (fs : List Value) (a9 : Nat) (f9 : Nat → Int32) (hf : fh fs 20 [(9, .ref a9)]) : Met l yX6_strengthenAll (.code yX6_strengthenAll cX6_strengthenAll 2 none :: T0) ({ frames := 0, cells := 0, slots := 0, locals := 0 }) (tqP G cA [.ref h0] [(h0, .inr (6, fs)), (a9, .inl (cA 0, 6, .inl f9))] sz) (tqQv G cA (fun (u : (Nat → Int32)) => True) (fun (u : (Nat → Int32)) => [(h0, .inr (6, fs)), (a9, .inl (cA 0, 6, .inl u))]) (va_A [(h0, .inr (6, fs)), (a9, .inl (cA 0, 6, .inl f9))] sz)) 0 0 (va_A [(h0, .inr (6, fs)), (a9, .inl (cA 0, 6, .inl f9))] sz) := by
  refine Met.ofW (cc := cX6_strengthenAll) (maxL := 2) (ret := none) (by decide) rfl ?_
  intro p e s m args below meth c s₁ B hml hv
  obtain ⟨rfl, hsz, hP, hK, hD0, hN⟩ := hv
  have hx := B.exec
  have hb := B.bytes
  have hr := B.returns
  have hts := atoms_spec (ws := .code yX6_strengthenAll cX6_strengthenAll 2 none :: T0) B.pre
  have hT : ∀ w ∈ T0, w.before _ s = true := fun w h => hts w (List.mem_cons_of_mem _ h)
  have hown : s.vm.findClass RX6 = some m.cls := findClass_of_methodNamed B.named
  have hlocks := B.notSynchronized
  subst hsz
  have hD := hD0.self (sz := s.heap.size)
  generalize hAe : va_A [(h0, .inr (6, fs)), (a9, .inl (cA 0, 6, .inl f9))] s.heap.size = A at hD ⊢
  have hA : ∀ q : Nat, s.heap.size ≤ q → A q := fun q h => by rw [← hAe]; exact Or.inr h
  have hS : va_S A s.heap s.heap [] := va_S.rf
  have hl := lv_entry ([.ref h0]) (n := 2) (Nat.le_of_ble_eq_true rfl)
  rw [lg_entry_eq]
  generalize (lg_sl ([.ref h0]) ++ List.replicate (2 - (lg_sl ([.ref h0])).length) Slot.unset).toArray = ls at hl ⊢
  have hl : lv_has ls 2 [(0, .ref h0)] := hl
  obtain ⟨H, hH⟩ : ∃ z, z = s.heap := ⟨_, rfl⟩
  rw [← hH] at hP
  have hS : va_S A s.heap H [] := by rw [hH]; exact hS
  suffices hgo : W p l e _ s m _ below meth c H [] 0 0 _ _ by rw [hH] at hgo; exact hgo
  have hO := hN.2.2.2.2
  have ho_hf := fo_refl fs
  refine lv_iconst (v := 0) hx hb dX6_strengthenAll_0 (by decide) ?_
  refine lv_istore_n (lv' := [(1, .int 0), (0, .ref h0)]) hx hb dX6_strengthenAll_1 rfl hl (by decide) rfl (fun ls hl => ?_)
  refine lv_iload_n hx hb dX6_strengthenAll_2 rfl (lv_at hl 0 rfl) ?_
  refine lv_bipush (v := 6) hx hb dX6_strengthenAll_3 (by decide) ?_
  refine lv_icmp_ge (tgt := 22) hx hb dX6_strengthenAll_5 (by decide) (fun c101 => absurd c101 (by decide)) (fun c101 => ?_)
  refine lv_aload_n hx hb dX6_strengthenAll_8 rfl (lv_at hl 1 rfl) ?_
  refine va_get (D := G) (ci := 6) (v := .ref a9) (C := RX6) (T := TX6) (N := 20) hx hb hT ku_6 hown hK hP 0 rfl rfl 9 (by decide) (hT _ kw_7_8) (fun _ h9 => h9) (fh_at hf 0 rfl) dX6_strengthenAll_9 ?_
  refine lv_iload_n hx hb dX6_strengthenAll_12 rfl (lv_at hl 0 rfl) ?_
  refine lv_bipush (v := 99) hx hb dX6_strengthenAll_13 (by decide) ?_
  refine va_iast (i := 0) hx hb hK hP hD hS 1 0 rfl rfl (tq_in (by decide)) dX6_strengthenAll_15 (fun H locs hP hD hS => ?_)
  have hP : va_P G vwCl [(h0, .inr (6, fs)), (a9, .inl (cA 0, 6, .inl ((upd f9 (0 : Int32).toNatClampNeg 99))))] H := hP
  have hD : va_D A [(h0, .inr (6, fs)), (a9, .inl (cA 0, 6, .inl ((upd f9 (0 : Int32).toNatClampNeg 99))))] := hD
  generalize (upd f9 (0 : Int32).toNatClampNeg 99) = f102 at hP hD
  refine lv_iinc (v := 1) (lv' := [(1, .int 1), (0, .ref h0)]) hx hb dX6_strengthenAll_16 hl (k := 0) rfl (by decide) (by decide) rfl (fun ls hl => ?_)
  refine lv_goto (tgt := 2) hx hb dX6_strengthenAll_19 (by decide) ?_
  refine lv_iload_n hx hb dX6_strengthenAll_2 rfl (lv_at hl 0 rfl) ?_
  refine lv_bipush (v := 6) hx hb dX6_strengthenAll_3 (by decide) ?_
  refine lv_icmp_ge (tgt := 22) hx hb dX6_strengthenAll_5 (by decide) (fun c103 => absurd c103 (by decide)) (fun c103 => ?_)
  refine lv_aload_n hx hb dX6_strengthenAll_8 rfl (lv_at hl 1 rfl) ?_
  refine va_get (D := G) (ci := 6) (v := .ref a9) (C := RX6) (T := TX6) (N := 20) hx hb hT ku_6 hown hK hP 0 rfl rfl 9 (by decide) (hT _ kw_7_8) (fun _ h9 => h9) (fh_at hf 0 rfl) dX6_strengthenAll_9 ?_
  refine lv_iload_n hx hb dX6_strengthenAll_12 rfl (lv_at hl 0 rfl) ?_
  refine lv_bipush (v := 99) hx hb dX6_strengthenAll_13 (by decide) ?_
  refine va_iast (i := 1) hx hb hK hP hD hS 1 0 rfl rfl (tq_in (by decide)) dX6_strengthenAll_15 (fun H locs hP hD hS => ?_)
  have hP : va_P G vwCl [(h0, .inr (6, fs)), (a9, .inl (cA 0, 6, .inl ((upd f102 (1 : Int32).toNatClampNeg 99))))] H := hP
  have hD : va_D A [(h0, .inr (6, fs)), (a9, .inl (cA 0, 6, .inl ((upd f102 (1 : Int32).toNatClampNeg 99))))] := hD
  generalize (upd f102 (1 : Int32).toNatClampNeg 99) = f104 at hP hD
  refine lv_iinc (v := 2) (lv' := [(1, .int 2), (0, .ref h0)]) hx hb dX6_strengthenAll_16 hl (k := 0) rfl (by decide) (by decide) rfl (fun ls hl => ?_)
  refine lv_goto (tgt := 2) hx hb dX6_strengthenAll_19 (by decide) ?_
  refine lv_iload_n hx hb dX6_strengthenAll_2 rfl (lv_at hl 0 rfl) ?_
  refine lv_bipush (v := 6) hx hb dX6_strengthenAll_3 (by decide) ?_
  refine lv_icmp_ge (tgt := 22) hx hb dX6_strengthenAll_5 (by decide) (fun c105 => absurd c105 (by decide)) (fun c105 => ?_)
  refine lv_aload_n hx hb dX6_strengthenAll_8 rfl (lv_at hl 1 rfl) ?_
  refine va_get (D := G) (ci := 6) (v := .ref a9) (C := RX6) (T := TX6) (N := 20) hx hb hT ku_6 hown hK hP 0 rfl rfl 9 (by decide) (hT _ kw_7_8) (fun _ h9 => h9) (fh_at hf 0 rfl) dX6_strengthenAll_9 ?_
  refine lv_iload_n hx hb dX6_strengthenAll_12 rfl (lv_at hl 0 rfl) ?_
  refine lv_bipush (v := 99) hx hb dX6_strengthenAll_13 (by decide) ?_
  refine va_iast (i := 2) hx hb hK hP hD hS 1 0 rfl rfl (tq_in (by decide)) dX6_strengthenAll_15 (fun H locs hP hD hS => ?_)
  have hP : va_P G vwCl [(h0, .inr (6, fs)), (a9, .inl (cA 0, 6, .inl ((upd f104 (2 : Int32).toNatClampNeg 99))))] H := hP
  have hD : va_D A [(h0, .inr (6, fs)), (a9, .inl (cA 0, 6, .inl ((upd f104 (2 : Int32).toNatClampNeg 99))))] := hD
  generalize (upd f104 (2 : Int32).toNatClampNeg 99) = f106 at hP hD
  refine lv_iinc (v := 3) (lv' := [(1, .int 3), (0, .ref h0)]) hx hb dX6_strengthenAll_16 hl (k := 0) rfl (by decide) (by decide) rfl (fun ls hl => ?_)
  refine lv_goto (tgt := 2) hx hb dX6_strengthenAll_19 (by decide) ?_
  refine lv_iload_n hx hb dX6_strengthenAll_2 rfl (lv_at hl 0 rfl) ?_
  refine lv_bipush (v := 6) hx hb dX6_strengthenAll_3 (by decide) ?_
  refine lv_icmp_ge (tgt := 22) hx hb dX6_strengthenAll_5 (by decide) (fun c107 => absurd c107 (by decide)) (fun c107 => ?_)
  refine lv_aload_n hx hb dX6_strengthenAll_8 rfl (lv_at hl 1 rfl) ?_
  refine va_get (D := G) (ci := 6) (v := .ref a9) (C := RX6) (T := TX6) (N := 20) hx hb hT ku_6 hown hK hP 0 rfl rfl 9 (by decide) (hT _ kw_7_8) (fun _ h9 => h9) (fh_at hf 0 rfl) dX6_strengthenAll_9 ?_
  refine lv_iload_n hx hb dX6_strengthenAll_12 rfl (lv_at hl 0 rfl) ?_
  refine lv_bipush (v := 99) hx hb dX6_strengthenAll_13 (by decide) ?_
  refine va_iast (i := 3) hx hb hK hP hD hS 1 0 rfl rfl (tq_in (by decide)) dX6_strengthenAll_15 (fun H locs hP hD hS => ?_)
  have hP : va_P G vwCl [(h0, .inr (6, fs)), (a9, .inl (cA 0, 6, .inl ((upd f106 (3 : Int32).toNatClampNeg 99))))] H := hP
  have hD : va_D A [(h0, .inr (6, fs)), (a9, .inl (cA 0, 6, .inl ((upd f106 (3 : Int32).toNatClampNeg 99))))] := hD
  generalize (upd f106 (3 : Int32).toNatClampNeg 99) = f108 at hP hD
  refine lv_iinc (v := 4) (lv' := [(1, .int 4), (0, .ref h0)]) hx hb dX6_strengthenAll_16 hl (k := 0) rfl (by decide) (by decide) rfl (fun ls hl => ?_)
  refine lv_goto (tgt := 2) hx hb dX6_strengthenAll_19 (by decide) ?_
  refine lv_iload_n hx hb dX6_strengthenAll_2 rfl (lv_at hl 0 rfl) ?_
  refine lv_bipush (v := 6) hx hb dX6_strengthenAll_3 (by decide) ?_
  refine lv_icmp_ge (tgt := 22) hx hb dX6_strengthenAll_5 (by decide) (fun c109 => absurd c109 (by decide)) (fun c109 => ?_)
  refine lv_aload_n hx hb dX6_strengthenAll_8 rfl (lv_at hl 1 rfl) ?_
  refine va_get (D := G) (ci := 6) (v := .ref a9) (C := RX6) (T := TX6) (N := 20) hx hb hT ku_6 hown hK hP 0 rfl rfl 9 (by decide) (hT _ kw_7_8) (fun _ h9 => h9) (fh_at hf 0 rfl) dX6_strengthenAll_9 ?_
  refine lv_iload_n hx hb dX6_strengthenAll_12 rfl (lv_at hl 0 rfl) ?_
  refine lv_bipush (v := 99) hx hb dX6_strengthenAll_13 (by decide) ?_
  refine va_iast (i := 4) hx hb hK hP hD hS 1 0 rfl rfl (tq_in (by decide)) dX6_strengthenAll_15 (fun H locs hP hD hS => ?_)
  have hP : va_P G vwCl [(h0, .inr (6, fs)), (a9, .inl (cA 0, 6, .inl ((upd f108 (4 : Int32).toNatClampNeg 99))))] H := hP
  have hD : va_D A [(h0, .inr (6, fs)), (a9, .inl (cA 0, 6, .inl ((upd f108 (4 : Int32).toNatClampNeg 99))))] := hD
  generalize (upd f108 (4 : Int32).toNatClampNeg 99) = f110 at hP hD
  refine lv_iinc (v := 5) (lv' := [(1, .int 5), (0, .ref h0)]) hx hb dX6_strengthenAll_16 hl (k := 0) rfl (by decide) (by decide) rfl (fun ls hl => ?_)
  refine lv_goto (tgt := 2) hx hb dX6_strengthenAll_19 (by decide) ?_
  refine lv_iload_n hx hb dX6_strengthenAll_2 rfl (lv_at hl 0 rfl) ?_
  refine lv_bipush (v := 6) hx hb dX6_strengthenAll_3 (by decide) ?_
  refine lv_icmp_ge (tgt := 22) hx hb dX6_strengthenAll_5 (by decide) (fun c111 => absurd c111 (by decide)) (fun c111 => ?_)
  refine lv_aload_n hx hb dX6_strengthenAll_8 rfl (lv_at hl 1 rfl) ?_
  refine va_get (D := G) (ci := 6) (v := .ref a9) (C := RX6) (T := TX6) (N := 20) hx hb hT ku_6 hown hK hP 0 rfl rfl 9 (by decide) (hT _ kw_7_8) (fun _ h9 => h9) (fh_at hf 0 rfl) dX6_strengthenAll_9 ?_
  refine lv_iload_n hx hb dX6_strengthenAll_12 rfl (lv_at hl 0 rfl) ?_
  refine lv_bipush (v := 99) hx hb dX6_strengthenAll_13 (by decide) ?_
  refine va_iast (i := 5) hx hb hK hP hD hS 1 0 rfl rfl (tq_in (by decide)) dX6_strengthenAll_15 (fun H locs hP hD hS => ?_)
  have hP : va_P G vwCl [(h0, .inr (6, fs)), (a9, .inl (cA 0, 6, .inl ((upd f110 (5 : Int32).toNatClampNeg 99))))] H := hP
  have hD : va_D A [(h0, .inr (6, fs)), (a9, .inl (cA 0, 6, .inl ((upd f110 (5 : Int32).toNatClampNeg 99))))] := hD
  generalize (upd f110 (5 : Int32).toNatClampNeg 99) = f112 at hP hD
  refine lv_iinc (v := 6) (lv' := [(1, .int 6), (0, .ref h0)]) hx hb dX6_strengthenAll_16 hl (k := 0) rfl (by decide) (by decide) rfl (fun ls hl => ?_)
  refine lv_goto (tgt := 2) hx hb dX6_strengthenAll_19 (by decide) ?_
  refine lv_iload_n hx hb dX6_strengthenAll_2 rfl (lv_at hl 0 rfl) ?_
  refine lv_bipush (v := 6) hx hb dX6_strengthenAll_3 (by decide) ?_
  refine lv_icmp_ge (tgt := 22) hx hb dX6_strengthenAll_5 (by decide) (fun c113 => ?_) (fun c113 => absurd (by decide) c113)
  exact W.vret hx hb hr (fun t ht hW => ⟨⟨f112, rfl, trivial, by rw [ht]; exact hP, hD⟩, hS.F ht⟩) hS.2.2 dX6_strengthenAll_22

set_option maxHeartbeats 4000000 in
set_option maxRecDepth 100000 in
theorem c_X6_wayOn_0 (l : Launch) (G : va_G) (cA : Nat → ClassId) (sz : Nat) (h0 : Nat) (fs : List Value) (pa : Nat) (ps : List Value) (hf : fh fs 20 [(19, .ref pa), (0, .int 0)]) (hp : fh ps 19 [(0, .int 0), (1, .int 0), (2, .int 0)]) : Met l yX6_wayOn (.code yX6_wayOn cX6_wayOn 1 none :: T0) ({ frames := 1, cells := 0, slots := 0, locals := 23 }) (tqP G cA [.ref h0] [(h0, .inr (6, fs)), (pa, .inr (2, ps))] sz) (tqQv G cA (fun (u : List Value) => fo fs u [0] ∧ fh u 20 [(0, .int 1)]) (fun (u : List Value) => [(h0, .inr (6, u)), (pa, .inr (2, ps))]) (va_A [(h0, .inr (6, fs)), (pa, .inr (2, ps))] sz)) 0 0 (va_A [(h0, .inr (6, fs)), (pa, .inr (2, ps))] sz) := by
  refine Met.ofW (cc := cX6_wayOn) (maxL := 1) (ret := none) (by decide) rfl ?_
  intro p e s m args below meth c s₁ B hml hv
  obtain ⟨rfl, hsz, hP, hK, hD0, hN⟩ := hv
  have hx := B.exec
  have hb := B.bytes
  have hr := B.returns
  have hts := atoms_spec (ws := .code yX6_wayOn cX6_wayOn 1 none :: T0) B.pre
  have hT : ∀ w ∈ T0, w.before _ s = true := fun w h => hts w (List.mem_cons_of_mem _ h)
  have hown : s.vm.findClass RX6 = some m.cls := findClass_of_methodNamed B.named
  have hlocks := B.notSynchronized
  subst hsz
  have hD := hD0.self (sz := s.heap.size)
  generalize hAe : va_A [(h0, .inr (6, fs)), (pa, .inr (2, ps))] s.heap.size = A at hD ⊢
  have hA : ∀ q : Nat, s.heap.size ≤ q → A q := fun q h => by rw [← hAe]; exact Or.inr h
  have hS : va_S A s.heap s.heap [] := va_S.rf
  have hl := lv_entry ([.ref h0]) (n := 1) (Nat.le_of_ble_eq_true rfl)
  rw [lg_entry_eq]
  generalize (lg_sl ([.ref h0]) ++ List.replicate (1 - (lg_sl ([.ref h0])).length) Slot.unset).toArray = ls at hl ⊢
  have hl : lv_has ls 1 [(0, .ref h0)] := hl
  obtain ⟨H, hH⟩ : ∃ z, z = s.heap := ⟨_, rfl⟩
  rw [← hH] at hP
  have hS : va_S A s.heap H [] := by rw [hH]; exact hS
  suffices hgo : W p l e _ s m _ below meth c H [] 0 0 _ _ by rw [hH] at hgo; exact hgo
  have hO := hN.2.2.2.2
  have ho_hf := fo_refl fs
  have ho_hp := fo_refl ps
  refine lv_aload_n hx hb dX6_wayOn_0 rfl (lv_at hl 0 rfl) ?_
  refine tq_ci (wr := []) hP hD hS hA [0, 1] [] rfl rfl (by decide) (by decide) (va_runV (As := []) (rest := []) ⟨hx, hb, hml, hown, hT⟩ (c_X6_fallOff l G cA H.size h0 fs pa ps (fh_sub hf [0] rfl) (fh_sub hp [0, 1, 2] rfl)) (cwV 0 hT (tq_gV kw_42_11 kw_42_12 kw_42_13 kw_1_23 kw_42_14) rfl rfl rfl (by decide +kernel) ⟨Nat.le_of_ble_eq_true rfl, Nat.le_of_ble_eq_true rfl⟩) ⟨(tq_pre (isC := [0, 1]) hP hD hK hN rfl (by decide)).1, va_recv hK hP (ci := 6) (q0 := 0) rfl rfl, (tq_pre (isC := [0, 1]) hP hD hK hN rfl (by decide)).2⟩ rfl rfl hl.1 rfl (lv_room (Nat.le_of_ble_eq_true rfl)) dX6_wayOn_1 ⟨Nat.le_of_ble_eq_true rfl, Nat.le_of_ble_eq_true rfl⟩) (fun r101 u102 H locs hw103 hP hD hS => ?_)
  refine W.widen (k := 0) (n := 0) (Nat.le_of_ble_eq_true rfl) (Nat.le_of_ble_eq_true rfl) ?_
  have hr104 := hw103
  subst hr104
  have hP : va_P G vwCl [(h0, .inr (6, fs)), (pa, .inr (2, ps))] H := hP
  have hD : va_D A [(h0, .inr (6, fs)), (pa, .inr (2, ps))] := hD
  refine lv_pop hx hb dX6_wayOn_4 rfl ?_
  refine lv_aload_n hx hb dX6_wayOn_5 rfl (lv_at hl 0 rfl) ?_
  refine tq_cv (wr := []) hP hD hS hA [0, 1] [] rfl rfl (by decide) (by decide) (va_runV (As := []) (rest := []) ⟨hx, hb, hml, hown, hT⟩ (c_X6_stealAway l G cA H.size h0 fs pa ps (fh_sub hf [0] rfl) (fh_sub hp [0, 1, 2] rfl)) (cwV 0 hT (tq_gV kw_43_6 kw_43_7 kw_43_8 kw_1_23 kw_43_9) rfl rfl rfl (by decide +kernel) ⟨Nat.le_of_ble_eq_true rfl, Nat.le_of_ble_eq_true rfl⟩) ⟨(tq_pre (isC := [0, 1]) hP hD hK hN rfl (by decide)).1, va_recv hK hP (ci := 6) (q0 := 0) rfl rfl, (tq_pre (isC := [0, 1]) hP hD hK hN rfl (by decide)).2⟩ rfl rfl hl.1 rfl (lv_room (Nat.le_of_ble_eq_true rfl)) dX6_wayOn_6 ⟨Nat.le_of_ble_eq_true rfl, Nat.le_of_ble_eq_true rfl⟩) (fun u105 H locs hw106 hP hD hS => ?_)
  refine W.widen (k := 0) (n := 0) (Nat.le_of_ble_eq_true rfl) (Nat.le_of_ble_eq_true rfl) ?_
  have hP : va_P G vwCl [(h0, .inr (6, fs)), (pa, .inr (2, ps))] H := hP
  have hD : va_D A [(h0, .inr (6, fs)), (pa, .inr (2, ps))] := hD
  refine lv_aload_n hx hb dX6_wayOn_9 rfl (lv_at hl 0 rfl) ?_
  refine lv_dup hx hb dX6_wayOn_10 rfl ?_
  refine va_get (D := G) (ci := 6) (v := .int 0) (C := RX6) (T := TX6) (N := 20) hx hb hT ku_6 hown hK hP 0 rfl rfl 0 (by decide) (hT _ kw_8_2) (fun _ h9 => h9) (fh_at hf 1 rfl) dX6_wayOn_11 ?_
  refine lv_iconst (v := 1) hx hb dX6_wayOn_14 (by decide) ?_
  refine lv_iadd hx hb dX6_wayOn_15 ?_
  refine tq_i (w := 1) (by decide) ?_
  refine va_put (D := G) (ci := 6) (v := .int 1) (ty := .int) (C := RX6) (T := TX6) (N := 20) hx hb hT ku_6 tyX6 tyX6_ok nmX6 hown hK hP hD hS 0 rfl rfl 0 (by decide) (hT _ kw_8_2) (fun _ h9 => h9) rfl (by decide +kernel) rfl rfl (fh_lt hf (by decide)) dX6_wayOn_16 (fun H locs hP hD hS => ?_)
  have hP : va_P G vwCl [(h0, .inr (6, (fs.set 0 (.int 1)))), (pa, .inr (2, ps))] H := hP
  have hD : va_D A [(h0, .inr (6, (fs.set 0 (.int 1)))), (pa, .inr (2, ps))] := hD
  have hf := fh_set (l' := [(0, .int 1), (19, .ref pa)]) hf 0 (.int 1) (by decide) rfl
  have ho108 := fo_set ho_hf 0 (.int 1)
  generalize (fs.set 0 (.int 1)) = fs107 at hP hD hf ho108
  have qho108 := fo_mono (k2 := [0]) ho108 (by decide)
  exact W.vret hx hb hr (fun t ht hW => ⟨⟨fs107, rfl, ⟨qho108, fh_sub hf [0] rfl⟩, by rw [ht]; exact hP, hD⟩, hS.F ht⟩) hS.2.2 dX6_wayOn_19

set_option maxHeartbeats 4000000 in
set_option maxRecDepth 100000 in
theorem c_X6_wayOn_1 (l : Launch) (G : va_G) (cA : Nat → ClassId) (sz : Nat) (h0 : Nat) (fs : List Value) (pa : Nat) (ps : List Value) (hf : fh fs 20 [(19, .ref pa), (0, .int 1)]) (hp : fh ps 19 [(0, .int 0), (1, .int 0), (2, .int 0)]) : Met l yX6_wayOn (.code yX6_wayOn cX6_wayOn 1 none :: T0) ({ frames := 1, cells := 0, slots := 0, locals := 23 }) (tqP G cA [.ref h0] [(h0, .inr (6, fs)), (pa, .inr (2, ps))] sz) (tqQv G cA (fun (u : List Value) => fo fs u [0] ∧ fh u 20 [(0, .int 2)]) (fun (u : List Value) => [(h0, .inr (6, u)), (pa, .inr (2, ps))]) (va_A [(h0, .inr (6, fs)), (pa, .inr (2, ps))] sz)) 0 0 (va_A [(h0, .inr (6, fs)), (pa, .inr (2, ps))] sz) := by
  refine Met.ofW (cc := cX6_wayOn) (maxL := 1) (ret := none) (by decide) rfl ?_
  intro p e s m args below meth c s₁ B hml hv
  obtain ⟨rfl, hsz, hP, hK, hD0, hN⟩ := hv
  have hx := B.exec
  have hb := B.bytes
  have hr := B.returns
  have hts := atoms_spec (ws := .code yX6_wayOn cX6_wayOn 1 none :: T0) B.pre
  have hT : ∀ w ∈ T0, w.before _ s = true := fun w h => hts w (List.mem_cons_of_mem _ h)
  have hown : s.vm.findClass RX6 = some m.cls := findClass_of_methodNamed B.named
  have hlocks := B.notSynchronized
  subst hsz
  have hD := hD0.self (sz := s.heap.size)
  generalize hAe : va_A [(h0, .inr (6, fs)), (pa, .inr (2, ps))] s.heap.size = A at hD ⊢
  have hA : ∀ q : Nat, s.heap.size ≤ q → A q := fun q h => by rw [← hAe]; exact Or.inr h
  have hS : va_S A s.heap s.heap [] := va_S.rf
  have hl := lv_entry ([.ref h0]) (n := 1) (Nat.le_of_ble_eq_true rfl)
  rw [lg_entry_eq]
  generalize (lg_sl ([.ref h0]) ++ List.replicate (1 - (lg_sl ([.ref h0])).length) Slot.unset).toArray = ls at hl ⊢
  have hl : lv_has ls 1 [(0, .ref h0)] := hl
  obtain ⟨H, hH⟩ : ∃ z, z = s.heap := ⟨_, rfl⟩
  rw [← hH] at hP
  have hS : va_S A s.heap H [] := by rw [hH]; exact hS
  suffices hgo : W p l e _ s m _ below meth c H [] 0 0 _ _ by rw [hH] at hgo; exact hgo
  have hO := hN.2.2.2.2
  have ho_hf := fo_refl fs
  have ho_hp := fo_refl ps
  refine lv_aload_n hx hb dX6_wayOn_0 rfl (lv_at hl 0 rfl) ?_
  refine tq_ci (wr := []) hP hD hS hA [0, 1] [] rfl rfl (by decide) (by decide) (va_runV (As := []) (rest := []) ⟨hx, hb, hml, hown, hT⟩ (c_X6_fallOff l G cA H.size h0 fs pa ps (fh_sub hf [0] rfl) (fh_sub hp [0, 1, 2] rfl)) (cwV 0 hT (tq_gV kw_42_11 kw_42_12 kw_42_13 kw_1_23 kw_42_14) rfl rfl rfl (by decide +kernel) ⟨Nat.le_of_ble_eq_true rfl, Nat.le_of_ble_eq_true rfl⟩) ⟨(tq_pre (isC := [0, 1]) hP hD hK hN rfl (by decide)).1, va_recv hK hP (ci := 6) (q0 := 0) rfl rfl, (tq_pre (isC := [0, 1]) hP hD hK hN rfl (by decide)).2⟩ rfl rfl hl.1 rfl (lv_room (Nat.le_of_ble_eq_true rfl)) dX6_wayOn_1 ⟨Nat.le_of_ble_eq_true rfl, Nat.le_of_ble_eq_true rfl⟩) (fun r101 u102 H locs hw103 hP hD hS => ?_)
  refine W.widen (k := 0) (n := 0) (Nat.le_of_ble_eq_true rfl) (Nat.le_of_ble_eq_true rfl) ?_
  have hr104 := hw103
  subst hr104
  have hP : va_P G vwCl [(h0, .inr (6, fs)), (pa, .inr (2, ps))] H := hP
  have hD : va_D A [(h0, .inr (6, fs)), (pa, .inr (2, ps))] := hD
  refine lv_pop hx hb dX6_wayOn_4 rfl ?_
  refine lv_aload_n hx hb dX6_wayOn_5 rfl (lv_at hl 0 rfl) ?_
  refine tq_cv (wr := []) hP hD hS hA [0, 1] [] rfl rfl (by decide) (by decide) (va_runV (As := []) (rest := []) ⟨hx, hb, hml, hown, hT⟩ (c_X6_stealAway l G cA H.size h0 fs pa ps (fh_sub hf [0] rfl) (fh_sub hp [0, 1, 2] rfl)) (cwV 0 hT (tq_gV kw_43_6 kw_43_7 kw_43_8 kw_1_23 kw_43_9) rfl rfl rfl (by decide +kernel) ⟨Nat.le_of_ble_eq_true rfl, Nat.le_of_ble_eq_true rfl⟩) ⟨(tq_pre (isC := [0, 1]) hP hD hK hN rfl (by decide)).1, va_recv hK hP (ci := 6) (q0 := 0) rfl rfl, (tq_pre (isC := [0, 1]) hP hD hK hN rfl (by decide)).2⟩ rfl rfl hl.1 rfl (lv_room (Nat.le_of_ble_eq_true rfl)) dX6_wayOn_6 ⟨Nat.le_of_ble_eq_true rfl, Nat.le_of_ble_eq_true rfl⟩) (fun u105 H locs hw106 hP hD hS => ?_)
  refine W.widen (k := 0) (n := 0) (Nat.le_of_ble_eq_true rfl) (Nat.le_of_ble_eq_true rfl) ?_
  have hP : va_P G vwCl [(h0, .inr (6, fs)), (pa, .inr (2, ps))] H := hP
  have hD : va_D A [(h0, .inr (6, fs)), (pa, .inr (2, ps))] := hD
  refine lv_aload_n hx hb dX6_wayOn_9 rfl (lv_at hl 0 rfl) ?_
  refine lv_dup hx hb dX6_wayOn_10 rfl ?_
  refine va_get (D := G) (ci := 6) (v := .int 1) (C := RX6) (T := TX6) (N := 20) hx hb hT ku_6 hown hK hP 0 rfl rfl 0 (by decide) (hT _ kw_8_2) (fun _ h9 => h9) (fh_at hf 1 rfl) dX6_wayOn_11 ?_
  refine lv_iconst (v := 1) hx hb dX6_wayOn_14 (by decide) ?_
  refine lv_iadd hx hb dX6_wayOn_15 ?_
  refine tq_i (w := 2) (by decide) ?_
  refine va_put (D := G) (ci := 6) (v := .int 2) (ty := .int) (C := RX6) (T := TX6) (N := 20) hx hb hT ku_6 tyX6 tyX6_ok nmX6 hown hK hP hD hS 0 rfl rfl 0 (by decide) (hT _ kw_8_2) (fun _ h9 => h9) rfl (by decide +kernel) rfl rfl (fh_lt hf (by decide)) dX6_wayOn_16 (fun H locs hP hD hS => ?_)
  have hP : va_P G vwCl [(h0, .inr (6, (fs.set 0 (.int 2)))), (pa, .inr (2, ps))] H := hP
  have hD : va_D A [(h0, .inr (6, (fs.set 0 (.int 2)))), (pa, .inr (2, ps))] := hD
  have hf := fh_set (l' := [(0, .int 2), (19, .ref pa)]) hf 0 (.int 2) (by decide) rfl
  have ho108 := fo_set ho_hf 0 (.int 2)
  generalize (fs.set 0 (.int 2)) = fs107 at hP hD hf ho108
  have qho108 := fo_mono (k2 := [0]) ho108 (by decide)
  exact W.vret hx hb hr (fun t ht hW => ⟨⟨fs107, rfl, ⟨qho108, fh_sub hf [0] rfl⟩, by rw [ht]; exact hP, hD⟩, hS.F ht⟩) hS.2.2 dX6_wayOn_19

set_option maxHeartbeats 4000000 in
set_option maxRecDepth 100000 in
theorem c_X6_wayOn_2 (l : Launch) (G : va_G) (cA : Nat → ClassId) (sz : Nat) (h0 : Nat) (fs : List Value) (pa : Nat) (ps : List Value) (hf : fh fs 20 [(19, .ref pa), (0, .int 2)]) (hp : fh ps 19 [(0, .int 0), (1, .int 0), (2, .int 0)]) : Met l yX6_wayOn (.code yX6_wayOn cX6_wayOn 1 none :: T0) ({ frames := 1, cells := 0, slots := 0, locals := 23 }) (tqP G cA [.ref h0] [(h0, .inr (6, fs)), (pa, .inr (2, ps))] sz) (tqQv G cA (fun (u : List Value) => fo fs u [0] ∧ fh u 20 [(0, .int 3)]) (fun (u : List Value) => [(h0, .inr (6, u)), (pa, .inr (2, ps))]) (va_A [(h0, .inr (6, fs)), (pa, .inr (2, ps))] sz)) 0 0 (va_A [(h0, .inr (6, fs)), (pa, .inr (2, ps))] sz) := by
  refine Met.ofW (cc := cX6_wayOn) (maxL := 1) (ret := none) (by decide) rfl ?_
  intro p e s m args below meth c s₁ B hml hv
  obtain ⟨rfl, hsz, hP, hK, hD0, hN⟩ := hv
  have hx := B.exec
  have hb := B.bytes
  have hr := B.returns
  have hts := atoms_spec (ws := .code yX6_wayOn cX6_wayOn 1 none :: T0) B.pre
  have hT : ∀ w ∈ T0, w.before _ s = true := fun w h => hts w (List.mem_cons_of_mem _ h)
  have hown : s.vm.findClass RX6 = some m.cls := findClass_of_methodNamed B.named
  have hlocks := B.notSynchronized
  subst hsz
  have hD := hD0.self (sz := s.heap.size)
  generalize hAe : va_A [(h0, .inr (6, fs)), (pa, .inr (2, ps))] s.heap.size = A at hD ⊢
  have hA : ∀ q : Nat, s.heap.size ≤ q → A q := fun q h => by rw [← hAe]; exact Or.inr h
  have hS : va_S A s.heap s.heap [] := va_S.rf
  have hl := lv_entry ([.ref h0]) (n := 1) (Nat.le_of_ble_eq_true rfl)
  rw [lg_entry_eq]
  generalize (lg_sl ([.ref h0]) ++ List.replicate (1 - (lg_sl ([.ref h0])).length) Slot.unset).toArray = ls at hl ⊢
  have hl : lv_has ls 1 [(0, .ref h0)] := hl
  obtain ⟨H, hH⟩ : ∃ z, z = s.heap := ⟨_, rfl⟩
  rw [← hH] at hP
  have hS : va_S A s.heap H [] := by rw [hH]; exact hS
  suffices hgo : W p l e _ s m _ below meth c H [] 0 0 _ _ by rw [hH] at hgo; exact hgo
  have hO := hN.2.2.2.2
  have ho_hf := fo_refl fs
  have ho_hp := fo_refl ps
  refine lv_aload_n hx hb dX6_wayOn_0 rfl (lv_at hl 0 rfl) ?_
  refine tq_ci (wr := []) hP hD hS hA [0, 1] [] rfl rfl (by decide) (by decide) (va_runV (As := []) (rest := []) ⟨hx, hb, hml, hown, hT⟩ (c_X6_fallOff l G cA H.size h0 fs pa ps (fh_sub hf [0] rfl) (fh_sub hp [0, 1, 2] rfl)) (cwV 0 hT (tq_gV kw_42_11 kw_42_12 kw_42_13 kw_1_23 kw_42_14) rfl rfl rfl (by decide +kernel) ⟨Nat.le_of_ble_eq_true rfl, Nat.le_of_ble_eq_true rfl⟩) ⟨(tq_pre (isC := [0, 1]) hP hD hK hN rfl (by decide)).1, va_recv hK hP (ci := 6) (q0 := 0) rfl rfl, (tq_pre (isC := [0, 1]) hP hD hK hN rfl (by decide)).2⟩ rfl rfl hl.1 rfl (lv_room (Nat.le_of_ble_eq_true rfl)) dX6_wayOn_1 ⟨Nat.le_of_ble_eq_true rfl, Nat.le_of_ble_eq_true rfl⟩) (fun r101 u102 H locs hw103 hP hD hS => ?_)
  refine W.widen (k := 0) (n := 0) (Nat.le_of_ble_eq_true rfl) (Nat.le_of_ble_eq_true rfl) ?_
  have hr104 := hw103
  subst hr104
  have hP : va_P G vwCl [(h0, .inr (6, fs)), (pa, .inr (2, ps))] H := hP
  have hD : va_D A [(h0, .inr (6, fs)), (pa, .inr (2, ps))] := hD
  refine lv_pop hx hb dX6_wayOn_4 rfl ?_
  refine lv_aload_n hx hb dX6_wayOn_5 rfl (lv_at hl 0 rfl) ?_
  refine tq_cv (wr := []) hP hD hS hA [0, 1] [] rfl rfl (by decide) (by decide) (va_runV (As := []) (rest := []) ⟨hx, hb, hml, hown, hT⟩ (c_X6_stealAway l G cA H.size h0 fs pa ps (fh_sub hf [0] rfl) (fh_sub hp [0, 1, 2] rfl)) (cwV 0 hT (tq_gV kw_43_6 kw_43_7 kw_43_8 kw_1_23 kw_43_9) rfl rfl rfl (by decide +kernel) ⟨Nat.le_of_ble_eq_true rfl, Nat.le_of_ble_eq_true rfl⟩) ⟨(tq_pre (isC := [0, 1]) hP hD hK hN rfl (by decide)).1, va_recv hK hP (ci := 6) (q0 := 0) rfl rfl, (tq_pre (isC := [0, 1]) hP hD hK hN rfl (by decide)).2⟩ rfl rfl hl.1 rfl (lv_room (Nat.le_of_ble_eq_true rfl)) dX6_wayOn_6 ⟨Nat.le_of_ble_eq_true rfl, Nat.le_of_ble_eq_true rfl⟩) (fun u105 H locs hw106 hP hD hS => ?_)
  refine W.widen (k := 0) (n := 0) (Nat.le_of_ble_eq_true rfl) (Nat.le_of_ble_eq_true rfl) ?_
  have hP : va_P G vwCl [(h0, .inr (6, fs)), (pa, .inr (2, ps))] H := hP
  have hD : va_D A [(h0, .inr (6, fs)), (pa, .inr (2, ps))] := hD
  refine lv_aload_n hx hb dX6_wayOn_9 rfl (lv_at hl 0 rfl) ?_
  refine lv_dup hx hb dX6_wayOn_10 rfl ?_
  refine va_get (D := G) (ci := 6) (v := .int 2) (C := RX6) (T := TX6) (N := 20) hx hb hT ku_6 hown hK hP 0 rfl rfl 0 (by decide) (hT _ kw_8_2) (fun _ h9 => h9) (fh_at hf 1 rfl) dX6_wayOn_11 ?_
  refine lv_iconst (v := 1) hx hb dX6_wayOn_14 (by decide) ?_
  refine lv_iadd hx hb dX6_wayOn_15 ?_
  refine tq_i (w := 3) (by decide) ?_
  refine va_put (D := G) (ci := 6) (v := .int 3) (ty := .int) (C := RX6) (T := TX6) (N := 20) hx hb hT ku_6 tyX6 tyX6_ok nmX6 hown hK hP hD hS 0 rfl rfl 0 (by decide) (hT _ kw_8_2) (fun _ h9 => h9) rfl (by decide +kernel) rfl rfl (fh_lt hf (by decide)) dX6_wayOn_16 (fun H locs hP hD hS => ?_)
  have hP : va_P G vwCl [(h0, .inr (6, (fs.set 0 (.int 3)))), (pa, .inr (2, ps))] H := hP
  have hD : va_D A [(h0, .inr (6, (fs.set 0 (.int 3)))), (pa, .inr (2, ps))] := hD
  have hf := fh_set (l' := [(0, .int 3), (19, .ref pa)]) hf 0 (.int 3) (by decide) rfl
  have ho108 := fo_set ho_hf 0 (.int 3)
  generalize (fs.set 0 (.int 3)) = fs107 at hP hD hf ho108
  have qho108 := fo_mono (k2 := [0]) ho108 (by decide)
  exact W.vret hx hb hr (fun t ht hW => ⟨⟨fs107, rfl, ⟨qho108, fh_sub hf [0] rfl⟩, by rw [ht]; exact hP, hD⟩, hS.F ht⟩) hS.2.2 dX6_wayOn_19

set_option maxHeartbeats 4000000 in
set_option maxRecDepth 100000 in
theorem c_X6_wayOn_3 (l : Launch) (G : va_G) (cA : Nat → ClassId) (sz : Nat) (h0 : Nat) (fs : List Value) (pa : Nat) (ps : List Value) (hf : fh fs 20 [(19, .ref pa), (0, .int 3)]) (hp : fh ps 19 [(0, .int 0), (1, .int 0), (2, .int 0)]) : Met l yX6_wayOn (.code yX6_wayOn cX6_wayOn 1 none :: T0) ({ frames := 1, cells := 0, slots := 0, locals := 23 }) (tqP G cA [.ref h0] [(h0, .inr (6, fs)), (pa, .inr (2, ps))] sz) (tqQv G cA (fun (u : List Value) => fo fs u [0] ∧ fh u 20 [(0, .int 4)]) (fun (u : List Value) => [(h0, .inr (6, u)), (pa, .inr (2, ps))]) (va_A [(h0, .inr (6, fs)), (pa, .inr (2, ps))] sz)) 0 0 (va_A [(h0, .inr (6, fs)), (pa, .inr (2, ps))] sz) := by
  refine Met.ofW (cc := cX6_wayOn) (maxL := 1) (ret := none) (by decide) rfl ?_
  intro p e s m args below meth c s₁ B hml hv
  obtain ⟨rfl, hsz, hP, hK, hD0, hN⟩ := hv
  have hx := B.exec
  have hb := B.bytes
  have hr := B.returns
  have hts := atoms_spec (ws := .code yX6_wayOn cX6_wayOn 1 none :: T0) B.pre
  have hT : ∀ w ∈ T0, w.before _ s = true := fun w h => hts w (List.mem_cons_of_mem _ h)
  have hown : s.vm.findClass RX6 = some m.cls := findClass_of_methodNamed B.named
  have hlocks := B.notSynchronized
  subst hsz
  have hD := hD0.self (sz := s.heap.size)
  generalize hAe : va_A [(h0, .inr (6, fs)), (pa, .inr (2, ps))] s.heap.size = A at hD ⊢
  have hA : ∀ q : Nat, s.heap.size ≤ q → A q := fun q h => by rw [← hAe]; exact Or.inr h
  have hS : va_S A s.heap s.heap [] := va_S.rf
  have hl := lv_entry ([.ref h0]) (n := 1) (Nat.le_of_ble_eq_true rfl)
  rw [lg_entry_eq]
  generalize (lg_sl ([.ref h0]) ++ List.replicate (1 - (lg_sl ([.ref h0])).length) Slot.unset).toArray = ls at hl ⊢
  have hl : lv_has ls 1 [(0, .ref h0)] := hl
  obtain ⟨H, hH⟩ : ∃ z, z = s.heap := ⟨_, rfl⟩
  rw [← hH] at hP
  have hS : va_S A s.heap H [] := by rw [hH]; exact hS
  suffices hgo : W p l e _ s m _ below meth c H [] 0 0 _ _ by rw [hH] at hgo; exact hgo
  have hO := hN.2.2.2.2
  have ho_hf := fo_refl fs
  have ho_hp := fo_refl ps
  refine lv_aload_n hx hb dX6_wayOn_0 rfl (lv_at hl 0 rfl) ?_
  refine tq_ci (wr := []) hP hD hS hA [0, 1] [] rfl rfl (by decide) (by decide) (va_runV (As := []) (rest := []) ⟨hx, hb, hml, hown, hT⟩ (c_X6_fallOff l G cA H.size h0 fs pa ps (fh_sub hf [0] rfl) (fh_sub hp [0, 1, 2] rfl)) (cwV 0 hT (tq_gV kw_42_11 kw_42_12 kw_42_13 kw_1_23 kw_42_14) rfl rfl rfl (by decide +kernel) ⟨Nat.le_of_ble_eq_true rfl, Nat.le_of_ble_eq_true rfl⟩) ⟨(tq_pre (isC := [0, 1]) hP hD hK hN rfl (by decide)).1, va_recv hK hP (ci := 6) (q0 := 0) rfl rfl, (tq_pre (isC := [0, 1]) hP hD hK hN rfl (by decide)).2⟩ rfl rfl hl.1 rfl (lv_room (Nat.le_of_ble_eq_true rfl)) dX6_wayOn_1 ⟨Nat.le_of_ble_eq_true rfl, Nat.le_of_ble_eq_true rfl⟩) (fun r101 u102 H locs hw103 hP hD hS => ?_)
  refine W.widen (k := 0) (n := 0) (Nat.le_of_ble_eq_true rfl) (Nat.le_of_ble_eq_true rfl) ?_
  have hr104 := hw103
  subst hr104
  have hP : va_P G vwCl [(h0, .inr (6, fs)), (pa, .inr (2, ps))] H := hP
  have hD : va_D A [(h0, .inr (6, fs)), (pa, .inr (2, ps))] := hD
  refine lv_pop hx hb dX6_wayOn_4 rfl ?_
  refine lv_aload_n hx hb dX6_wayOn_5 rfl (lv_at hl 0 rfl) ?_
  refine tq_cv (wr := []) hP hD hS hA [0, 1] [] rfl rfl (by decide) (by decide) (va_runV (As := []) (rest := []) ⟨hx, hb, hml, hown, hT⟩ (c_X6_stealAway l G cA H.size h0 fs pa ps (fh_sub hf [0] rfl) (fh_sub hp [0, 1, 2] rfl)) (cwV 0 hT (tq_gV kw_43_6 kw_43_7 kw_43_8 kw_1_23 kw_43_9) rfl rfl rfl (by decide +kernel) ⟨Nat.le_of_ble_eq_true rfl, Nat.le_of_ble_eq_true rfl⟩) ⟨(tq_pre (isC := [0, 1]) hP hD hK hN rfl (by decide)).1, va_recv hK hP (ci := 6) (q0 := 0) rfl rfl, (tq_pre (isC := [0, 1]) hP hD hK hN rfl (by decide)).2⟩ rfl rfl hl.1 rfl (lv_room (Nat.le_of_ble_eq_true rfl)) dX6_wayOn_6 ⟨Nat.le_of_ble_eq_true rfl, Nat.le_of_ble_eq_true rfl⟩) (fun u105 H locs hw106 hP hD hS => ?_)
  refine W.widen (k := 0) (n := 0) (Nat.le_of_ble_eq_true rfl) (Nat.le_of_ble_eq_true rfl) ?_
  have hP : va_P G vwCl [(h0, .inr (6, fs)), (pa, .inr (2, ps))] H := hP
  have hD : va_D A [(h0, .inr (6, fs)), (pa, .inr (2, ps))] := hD
  refine lv_aload_n hx hb dX6_wayOn_9 rfl (lv_at hl 0 rfl) ?_
  refine lv_dup hx hb dX6_wayOn_10 rfl ?_
  refine va_get (D := G) (ci := 6) (v := .int 3) (C := RX6) (T := TX6) (N := 20) hx hb hT ku_6 hown hK hP 0 rfl rfl 0 (by decide) (hT _ kw_8_2) (fun _ h9 => h9) (fh_at hf 1 rfl) dX6_wayOn_11 ?_
  refine lv_iconst (v := 1) hx hb dX6_wayOn_14 (by decide) ?_
  refine lv_iadd hx hb dX6_wayOn_15 ?_
  refine tq_i (w := 4) (by decide) ?_
  refine va_put (D := G) (ci := 6) (v := .int 4) (ty := .int) (C := RX6) (T := TX6) (N := 20) hx hb hT ku_6 tyX6 tyX6_ok nmX6 hown hK hP hD hS 0 rfl rfl 0 (by decide) (hT _ kw_8_2) (fun _ h9 => h9) rfl (by decide +kernel) rfl rfl (fh_lt hf (by decide)) dX6_wayOn_16 (fun H locs hP hD hS => ?_)
  have hP : va_P G vwCl [(h0, .inr (6, (fs.set 0 (.int 4)))), (pa, .inr (2, ps))] H := hP
  have hD : va_D A [(h0, .inr (6, (fs.set 0 (.int 4)))), (pa, .inr (2, ps))] := hD
  have hf := fh_set (l' := [(0, .int 4), (19, .ref pa)]) hf 0 (.int 4) (by decide) rfl
  have ho108 := fo_set ho_hf 0 (.int 4)
  generalize (fs.set 0 (.int 4)) = fs107 at hP hD hf ho108
  have qho108 := fo_mono (k2 := [0]) ho108 (by decide)
  exact W.vret hx hb hr (fun t ht hW => ⟨⟨fs107, rfl, ⟨qho108, fh_sub hf [0] rfl⟩, by rw [ht]; exact hP, hD⟩, hS.F ht⟩) hS.2.2 dX6_wayOn_19

set_option maxHeartbeats 4000000 in
set_option maxRecDepth 100000 in
theorem c_X6_wayOn_4 (l : Launch) (G : va_G) (cA : Nat → ClassId) (sz : Nat) (h0 : Nat) (fs : List Value) (pa : Nat) (ps : List Value) (hf : fh fs 20 [(19, .ref pa), (0, .int 4)]) (hp : fh ps 19 [(0, .int 0), (1, .int 0), (2, .int 0)]) : Met l yX6_wayOn (.code yX6_wayOn cX6_wayOn 1 none :: T0) ({ frames := 1, cells := 0, slots := 0, locals := 23 }) (tqP G cA [.ref h0] [(h0, .inr (6, fs)), (pa, .inr (2, ps))] sz) (tqQv G cA (fun (u : List Value) => fo fs u [0] ∧ fh u 20 [(0, .int 5)]) (fun (u : List Value) => [(h0, .inr (6, u)), (pa, .inr (2, ps))]) (va_A [(h0, .inr (6, fs)), (pa, .inr (2, ps))] sz)) 0 0 (va_A [(h0, .inr (6, fs)), (pa, .inr (2, ps))] sz) := by
  refine Met.ofW (cc := cX6_wayOn) (maxL := 1) (ret := none) (by decide) rfl ?_
  intro p e s m args below meth c s₁ B hml hv
  obtain ⟨rfl, hsz, hP, hK, hD0, hN⟩ := hv
  have hx := B.exec
  have hb := B.bytes
  have hr := B.returns
  have hts := atoms_spec (ws := .code yX6_wayOn cX6_wayOn 1 none :: T0) B.pre
  have hT : ∀ w ∈ T0, w.before _ s = true := fun w h => hts w (List.mem_cons_of_mem _ h)
  have hown : s.vm.findClass RX6 = some m.cls := findClass_of_methodNamed B.named
  have hlocks := B.notSynchronized
  subst hsz
  have hD := hD0.self (sz := s.heap.size)
  generalize hAe : va_A [(h0, .inr (6, fs)), (pa, .inr (2, ps))] s.heap.size = A at hD ⊢
  have hA : ∀ q : Nat, s.heap.size ≤ q → A q := fun q h => by rw [← hAe]; exact Or.inr h
  have hS : va_S A s.heap s.heap [] := va_S.rf
  have hl := lv_entry ([.ref h0]) (n := 1) (Nat.le_of_ble_eq_true rfl)
  rw [lg_entry_eq]
  generalize (lg_sl ([.ref h0]) ++ List.replicate (1 - (lg_sl ([.ref h0])).length) Slot.unset).toArray = ls at hl ⊢
  have hl : lv_has ls 1 [(0, .ref h0)] := hl
  obtain ⟨H, hH⟩ : ∃ z, z = s.heap := ⟨_, rfl⟩
  rw [← hH] at hP
  have hS : va_S A s.heap H [] := by rw [hH]; exact hS
  suffices hgo : W p l e _ s m _ below meth c H [] 0 0 _ _ by rw [hH] at hgo; exact hgo
  have hO := hN.2.2.2.2
  have ho_hf := fo_refl fs
  have ho_hp := fo_refl ps
  refine lv_aload_n hx hb dX6_wayOn_0 rfl (lv_at hl 0 rfl) ?_
  refine tq_ci (wr := []) hP hD hS hA [0, 1] [] rfl rfl (by decide) (by decide) (va_runV (As := []) (rest := []) ⟨hx, hb, hml, hown, hT⟩ (c_X6_fallOff l G cA H.size h0 fs pa ps (fh_sub hf [0] rfl) (fh_sub hp [0, 1, 2] rfl)) (cwV 0 hT (tq_gV kw_42_11 kw_42_12 kw_42_13 kw_1_23 kw_42_14) rfl rfl rfl (by decide +kernel) ⟨Nat.le_of_ble_eq_true rfl, Nat.le_of_ble_eq_true rfl⟩) ⟨(tq_pre (isC := [0, 1]) hP hD hK hN rfl (by decide)).1, va_recv hK hP (ci := 6) (q0 := 0) rfl rfl, (tq_pre (isC := [0, 1]) hP hD hK hN rfl (by decide)).2⟩ rfl rfl hl.1 rfl (lv_room (Nat.le_of_ble_eq_true rfl)) dX6_wayOn_1 ⟨Nat.le_of_ble_eq_true rfl, Nat.le_of_ble_eq_true rfl⟩) (fun r101 u102 H locs hw103 hP hD hS => ?_)
  refine W.widen (k := 0) (n := 0) (Nat.le_of_ble_eq_true rfl) (Nat.le_of_ble_eq_true rfl) ?_
  have hr104 := hw103
  subst hr104
  have hP : va_P G vwCl [(h0, .inr (6, fs)), (pa, .inr (2, ps))] H := hP
  have hD : va_D A [(h0, .inr (6, fs)), (pa, .inr (2, ps))] := hD
  refine lv_pop hx hb dX6_wayOn_4 rfl ?_
  refine lv_aload_n hx hb dX6_wayOn_5 rfl (lv_at hl 0 rfl) ?_
  refine tq_cv (wr := []) hP hD hS hA [0, 1] [] rfl rfl (by decide) (by decide) (va_runV (As := []) (rest := []) ⟨hx, hb, hml, hown, hT⟩ (c_X6_stealAway l G cA H.size h0 fs pa ps (fh_sub hf [0] rfl) (fh_sub hp [0, 1, 2] rfl)) (cwV 0 hT (tq_gV kw_43_6 kw_43_7 kw_43_8 kw_1_23 kw_43_9) rfl rfl rfl (by decide +kernel) ⟨Nat.le_of_ble_eq_true rfl, Nat.le_of_ble_eq_true rfl⟩) ⟨(tq_pre (isC := [0, 1]) hP hD hK hN rfl (by decide)).1, va_recv hK hP (ci := 6) (q0 := 0) rfl rfl, (tq_pre (isC := [0, 1]) hP hD hK hN rfl (by decide)).2⟩ rfl rfl hl.1 rfl (lv_room (Nat.le_of_ble_eq_true rfl)) dX6_wayOn_6 ⟨Nat.le_of_ble_eq_true rfl, Nat.le_of_ble_eq_true rfl⟩) (fun u105 H locs hw106 hP hD hS => ?_)
  refine W.widen (k := 0) (n := 0) (Nat.le_of_ble_eq_true rfl) (Nat.le_of_ble_eq_true rfl) ?_
  have hP : va_P G vwCl [(h0, .inr (6, fs)), (pa, .inr (2, ps))] H := hP
  have hD : va_D A [(h0, .inr (6, fs)), (pa, .inr (2, ps))] := hD
  refine lv_aload_n hx hb dX6_wayOn_9 rfl (lv_at hl 0 rfl) ?_
  refine lv_dup hx hb dX6_wayOn_10 rfl ?_
  refine va_get (D := G) (ci := 6) (v := .int 4) (C := RX6) (T := TX6) (N := 20) hx hb hT ku_6 hown hK hP 0 rfl rfl 0 (by decide) (hT _ kw_8_2) (fun _ h9 => h9) (fh_at hf 1 rfl) dX6_wayOn_11 ?_
  refine lv_iconst (v := 1) hx hb dX6_wayOn_14 (by decide) ?_
  refine lv_iadd hx hb dX6_wayOn_15 ?_
  refine tq_i (w := 5) (by decide) ?_
  refine va_put (D := G) (ci := 6) (v := .int 5) (ty := .int) (C := RX6) (T := TX6) (N := 20) hx hb hT ku_6 tyX6 tyX6_ok nmX6 hown hK hP hD hS 0 rfl rfl 0 (by decide) (hT _ kw_8_2) (fun _ h9 => h9) rfl (by decide +kernel) rfl rfl (fh_lt hf (by decide)) dX6_wayOn_16 (fun H locs hP hD hS => ?_)
  have hP : va_P G vwCl [(h0, .inr (6, (fs.set 0 (.int 5)))), (pa, .inr (2, ps))] H := hP
  have hD : va_D A [(h0, .inr (6, (fs.set 0 (.int 5)))), (pa, .inr (2, ps))] := hD
  have hf := fh_set (l' := [(0, .int 5), (19, .ref pa)]) hf 0 (.int 5) (by decide) rfl
  have ho108 := fo_set ho_hf 0 (.int 5)
  generalize (fs.set 0 (.int 5)) = fs107 at hP hD hf ho108
  have qho108 := fo_mono (k2 := [0]) ho108 (by decide)
  exact W.vret hx hb hr (fun t ht hW => ⟨⟨fs107, rfl, ⟨qho108, fh_sub hf [0] rfl⟩, by rw [ht]; exact hP, hD⟩, hS.F ht⟩) hS.2.2 dX6_wayOn_19

set_option maxHeartbeats 4000000 in
set_option maxRecDepth 100000 in
theorem c_X6_wayOn_5 (l : Launch) (G : va_G) (cA : Nat → ClassId) (sz : Nat) (h0 : Nat) (fs : List Value) (pa : Nat) (ps : List Value) (hf : fh fs 20 [(19, .ref pa), (0, .int 5)]) (hp : fh ps 19 [(0, .int 0), (1, .int 0), (2, .int 0)]) : Met l yX6_wayOn (.code yX6_wayOn cX6_wayOn 1 none :: T0) ({ frames := 1, cells := 0, slots := 0, locals := 23 }) (tqP G cA [.ref h0] [(h0, .inr (6, fs)), (pa, .inr (2, ps))] sz) (tqQv G cA (fun (u : List Value) => fo fs u [0] ∧ fh u 20 [(0, .int 6)]) (fun (u : List Value) => [(h0, .inr (6, u)), (pa, .inr (2, ps))]) (va_A [(h0, .inr (6, fs)), (pa, .inr (2, ps))] sz)) 0 0 (va_A [(h0, .inr (6, fs)), (pa, .inr (2, ps))] sz) := by
  refine Met.ofW (cc := cX6_wayOn) (maxL := 1) (ret := none) (by decide) rfl ?_
  intro p e s m args below meth c s₁ B hml hv
  obtain ⟨rfl, hsz, hP, hK, hD0, hN⟩ := hv
  have hx := B.exec
  have hb := B.bytes
  have hr := B.returns
  have hts := atoms_spec (ws := .code yX6_wayOn cX6_wayOn 1 none :: T0) B.pre
  have hT : ∀ w ∈ T0, w.before _ s = true := fun w h => hts w (List.mem_cons_of_mem _ h)
  have hown : s.vm.findClass RX6 = some m.cls := findClass_of_methodNamed B.named
  have hlocks := B.notSynchronized
  subst hsz
  have hD := hD0.self (sz := s.heap.size)
  generalize hAe : va_A [(h0, .inr (6, fs)), (pa, .inr (2, ps))] s.heap.size = A at hD ⊢
  have hA : ∀ q : Nat, s.heap.size ≤ q → A q := fun q h => by rw [← hAe]; exact Or.inr h
  have hS : va_S A s.heap s.heap [] := va_S.rf
  have hl := lv_entry ([.ref h0]) (n := 1) (Nat.le_of_ble_eq_true rfl)
  rw [lg_entry_eq]
  generalize (lg_sl ([.ref h0]) ++ List.replicate (1 - (lg_sl ([.ref h0])).length) Slot.unset).toArray = ls at hl ⊢
  have hl : lv_has ls 1 [(0, .ref h0)] := hl
  obtain ⟨H, hH⟩ : ∃ z, z = s.heap := ⟨_, rfl⟩
  rw [← hH] at hP
  have hS : va_S A s.heap H [] := by rw [hH]; exact hS
  suffices hgo : W p l e _ s m _ below meth c H [] 0 0 _ _ by rw [hH] at hgo; exact hgo
  have hO := hN.2.2.2.2
  have ho_hf := fo_refl fs
  have ho_hp := fo_refl ps
  refine lv_aload_n hx hb dX6_wayOn_0 rfl (lv_at hl 0 rfl) ?_
  refine tq_ci (wr := []) hP hD hS hA [0, 1] [] rfl rfl (by decide) (by decide) (va_runV (As := []) (rest := []) ⟨hx, hb, hml, hown, hT⟩ (c_X6_fallOff l G cA H.size h0 fs pa ps (fh_sub hf [0] rfl) (fh_sub hp [0, 1, 2] rfl)) (cwV 0 hT (tq_gV kw_42_11 kw_42_12 kw_42_13 kw_1_23 kw_42_14) rfl rfl rfl (by decide +kernel) ⟨Nat.le_of_ble_eq_true rfl, Nat.le_of_ble_eq_true rfl⟩) ⟨(tq_pre (isC := [0, 1]) hP hD hK hN rfl (by decide)).1, va_recv hK hP (ci := 6) (q0 := 0) rfl rfl, (tq_pre (isC := [0, 1]) hP hD hK hN rfl (by decide)).2⟩ rfl rfl hl.1 rfl (lv_room (Nat.le_of_ble_eq_true rfl)) dX6_wayOn_1 ⟨Nat.le_of_ble_eq_true rfl, Nat.le_of_ble_eq_true rfl⟩) (fun r101 u102 H locs hw103 hP hD hS => ?_)
  refine W.widen (k := 0) (n := 0) (Nat.le_of_ble_eq_true rfl) (Nat.le_of_ble_eq_true rfl) ?_
  have hr104 := hw103
  subst hr104
  have hP : va_P G vwCl [(h0, .inr (6, fs)), (pa, .inr (2, ps))] H := hP
  have hD : va_D A [(h0, .inr (6, fs)), (pa, .inr (2, ps))] := hD
  refine lv_pop hx hb dX6_wayOn_4 rfl ?_
  refine lv_aload_n hx hb dX6_wayOn_5 rfl (lv_at hl 0 rfl) ?_
  refine tq_cv (wr := []) hP hD hS hA [0, 1] [] rfl rfl (by decide) (by decide) (va_runV (As := []) (rest := []) ⟨hx, hb, hml, hown, hT⟩ (c_X6_stealAway l G cA H.size h0 fs pa ps (fh_sub hf [0] rfl) (fh_sub hp [0, 1, 2] rfl)) (cwV 0 hT (tq_gV kw_43_6 kw_43_7 kw_43_8 kw_1_23 kw_43_9) rfl rfl rfl (by decide +kernel) ⟨Nat.le_of_ble_eq_true rfl, Nat.le_of_ble_eq_true rfl⟩) ⟨(tq_pre (isC := [0, 1]) hP hD hK hN rfl (by decide)).1, va_recv hK hP (ci := 6) (q0 := 0) rfl rfl, (tq_pre (isC := [0, 1]) hP hD hK hN rfl (by decide)).2⟩ rfl rfl hl.1 rfl (lv_room (Nat.le_of_ble_eq_true rfl)) dX6_wayOn_6 ⟨Nat.le_of_ble_eq_true rfl, Nat.le_of_ble_eq_true rfl⟩) (fun u105 H locs hw106 hP hD hS => ?_)
  refine W.widen (k := 0) (n := 0) (Nat.le_of_ble_eq_true rfl) (Nat.le_of_ble_eq_true rfl) ?_
  have hP : va_P G vwCl [(h0, .inr (6, fs)), (pa, .inr (2, ps))] H := hP
  have hD : va_D A [(h0, .inr (6, fs)), (pa, .inr (2, ps))] := hD
  refine lv_aload_n hx hb dX6_wayOn_9 rfl (lv_at hl 0 rfl) ?_
  refine lv_dup hx hb dX6_wayOn_10 rfl ?_
  refine va_get (D := G) (ci := 6) (v := .int 5) (C := RX6) (T := TX6) (N := 20) hx hb hT ku_6 hown hK hP 0 rfl rfl 0 (by decide) (hT _ kw_8_2) (fun _ h9 => h9) (fh_at hf 1 rfl) dX6_wayOn_11 ?_
  refine lv_iconst (v := 1) hx hb dX6_wayOn_14 (by decide) ?_
  refine lv_iadd hx hb dX6_wayOn_15 ?_
  refine tq_i (w := 6) (by decide) ?_
  refine va_put (D := G) (ci := 6) (v := .int 6) (ty := .int) (C := RX6) (T := TX6) (N := 20) hx hb hT ku_6 tyX6 tyX6_ok nmX6 hown hK hP hD hS 0 rfl rfl 0 (by decide) (hT _ kw_8_2) (fun _ h9 => h9) rfl (by decide +kernel) rfl rfl (fh_lt hf (by decide)) dX6_wayOn_16 (fun H locs hP hD hS => ?_)
  have hP : va_P G vwCl [(h0, .inr (6, (fs.set 0 (.int 6)))), (pa, .inr (2, ps))] H := hP
  have hD : va_D A [(h0, .inr (6, (fs.set 0 (.int 6)))), (pa, .inr (2, ps))] := hD
  have hf := fh_set (l' := [(0, .int 6), (19, .ref pa)]) hf 0 (.int 6) (by decide) rfl
  have ho108 := fo_set ho_hf 0 (.int 6)
  generalize (fs.set 0 (.int 6)) = fs107 at hP hD hf ho108
  have qho108 := fo_mono (k2 := [0]) ho108 (by decide)
  exact W.vret hx hb hr (fun t ht hW => ⟨⟨fs107, rfl, ⟨qho108, fh_sub hf [0] rfl⟩, by rw [ht]; exact hP, hD⟩, hS.F ht⟩) hS.2.2 dX6_wayOn_19

set_option maxHeartbeats 4000000 in
set_option maxRecDepth 100000 in
theorem c_X6_wayOn_6 (l : Launch) (G : va_G) (cA : Nat → ClassId) (sz : Nat) (h0 : Nat) (fs : List Value) (pa : Nat) (ps : List Value) (hf : fh fs 20 [(19, .ref pa), (0, .int 6)]) (hp : fh ps 19 [(0, .int 0), (1, .int 0), (2, .int 0)]) : Met l yX6_wayOn (.code yX6_wayOn cX6_wayOn 1 none :: T0) ({ frames := 1, cells := 0, slots := 0, locals := 23 }) (tqP G cA [.ref h0] [(h0, .inr (6, fs)), (pa, .inr (2, ps))] sz) (tqQv G cA (fun (u : List Value) => fo fs u [0] ∧ fh u 20 [(0, .int 7)]) (fun (u : List Value) => [(h0, .inr (6, u)), (pa, .inr (2, ps))]) (va_A [(h0, .inr (6, fs)), (pa, .inr (2, ps))] sz)) 0 0 (va_A [(h0, .inr (6, fs)), (pa, .inr (2, ps))] sz) := by
  refine Met.ofW (cc := cX6_wayOn) (maxL := 1) (ret := none) (by decide) rfl ?_
  intro p e s m args below meth c s₁ B hml hv
  obtain ⟨rfl, hsz, hP, hK, hD0, hN⟩ := hv
  have hx := B.exec
  have hb := B.bytes
  have hr := B.returns
  have hts := atoms_spec (ws := .code yX6_wayOn cX6_wayOn 1 none :: T0) B.pre
  have hT : ∀ w ∈ T0, w.before _ s = true := fun w h => hts w (List.mem_cons_of_mem _ h)
  have hown : s.vm.findClass RX6 = some m.cls := findClass_of_methodNamed B.named
  have hlocks := B.notSynchronized
  subst hsz
  have hD := hD0.self (sz := s.heap.size)
  generalize hAe : va_A [(h0, .inr (6, fs)), (pa, .inr (2, ps))] s.heap.size = A at hD ⊢
  have hA : ∀ q : Nat, s.heap.size ≤ q → A q := fun q h => by rw [← hAe]; exact Or.inr h
  have hS : va_S A s.heap s.heap [] := va_S.rf
  have hl := lv_entry ([.ref h0]) (n := 1) (Nat.le_of_ble_eq_true rfl)
  rw [lg_entry_eq]
  generalize (lg_sl ([.ref h0]) ++ List.replicate (1 - (lg_sl ([.ref h0])).length) Slot.unset).toArray = ls at hl ⊢
  have hl : lv_has ls 1 [(0, .ref h0)] := hl
  obtain ⟨H, hH⟩ : ∃ z, z = s.heap := ⟨_, rfl⟩
  rw [← hH] at hP
  have hS : va_S A s.heap H [] := by rw [hH]; exact hS
  suffices hgo : W p l e _ s m _ below meth c H [] 0 0 _ _ by rw [hH] at hgo; exact hgo
  have hO := hN.2.2.2.2
  have ho_hf := fo_refl fs
  have ho_hp := fo_refl ps
  refine lv_aload_n hx hb dX6_wayOn_0 rfl (lv_at hl 0 rfl) ?_
  refine tq_ci (wr := []) hP hD hS hA [0, 1] [] rfl rfl (by decide) (by decide) (va_runV (As := []) (rest := []) ⟨hx, hb, hml, hown, hT⟩ (c_X6_fallOff l G cA H.size h0 fs pa ps (fh_sub hf [0] rfl) (fh_sub hp [0, 1, 2] rfl)) (cwV 0 hT (tq_gV kw_42_11 kw_42_12 kw_42_13 kw_1_23 kw_42_14) rfl rfl rfl (by decide +kernel) ⟨Nat.le_of_ble_eq_true rfl, Nat.le_of_ble_eq_true rfl⟩) ⟨(tq_pre (isC := [0, 1]) hP hD hK hN rfl (by decide)).1, va_recv hK hP (ci := 6) (q0 := 0) rfl rfl, (tq_pre (isC := [0, 1]) hP hD hK hN rfl (by decide)).2⟩ rfl rfl hl.1 rfl (lv_room (Nat.le_of_ble_eq_true rfl)) dX6_wayOn_1 ⟨Nat.le_of_ble_eq_true rfl, Nat.le_of_ble_eq_true rfl⟩) (fun r101 u102 H locs hw103 hP hD hS => ?_)
  refine W.widen (k := 0) (n := 0) (Nat.le_of_ble_eq_true rfl) (Nat.le_of_ble_eq_true rfl) ?_
  have hr104 := hw103
  subst hr104
  have hP : va_P G vwCl [(h0, .inr (6, fs)), (pa, .inr (2, ps))] H := hP
  have hD : va_D A [(h0, .inr (6, fs)), (pa, .inr (2, ps))] := hD
  refine lv_pop hx hb dX6_wayOn_4 rfl ?_
  refine lv_aload_n hx hb dX6_wayOn_5 rfl (lv_at hl 0 rfl) ?_
  refine tq_cv (wr := []) hP hD hS hA [0, 1] [] rfl rfl (by decide) (by decide) (va_runV (As := []) (rest := []) ⟨hx, hb, hml, hown, hT⟩ (c_X6_stealAway l G cA H.size h0 fs pa ps (fh_sub hf [0] rfl) (fh_sub hp [0, 1, 2] rfl)) (cwV 0 hT (tq_gV kw_43_6 kw_43_7 kw_43_8 kw_1_23 kw_43_9) rfl rfl rfl (by decide +kernel) ⟨Nat.le_of_ble_eq_true rfl, Nat.le_of_ble_eq_true rfl⟩) ⟨(tq_pre (isC := [0, 1]) hP hD hK hN rfl (by decide)).1, va_recv hK hP (ci := 6) (q0 := 0) rfl rfl, (tq_pre (isC := [0, 1]) hP hD hK hN rfl (by decide)).2⟩ rfl rfl hl.1 rfl (lv_room (Nat.le_of_ble_eq_true rfl)) dX6_wayOn_6 ⟨Nat.le_of_ble_eq_true rfl, Nat.le_of_ble_eq_true rfl⟩) (fun u105 H locs hw106 hP hD hS => ?_)
  refine W.widen (k := 0) (n := 0) (Nat.le_of_ble_eq_true rfl) (Nat.le_of_ble_eq_true rfl) ?_
  have hP : va_P G vwCl [(h0, .inr (6, fs)), (pa, .inr (2, ps))] H := hP
  have hD : va_D A [(h0, .inr (6, fs)), (pa, .inr (2, ps))] := hD
  refine lv_aload_n hx hb dX6_wayOn_9 rfl (lv_at hl 0 rfl) ?_
  refine lv_dup hx hb dX6_wayOn_10 rfl ?_
  refine va_get (D := G) (ci := 6) (v := .int 6) (C := RX6) (T := TX6) (N := 20) hx hb hT ku_6 hown hK hP 0 rfl rfl 0 (by decide) (hT _ kw_8_2) (fun _ h9 => h9) (fh_at hf 1 rfl) dX6_wayOn_11 ?_
  refine lv_iconst (v := 1) hx hb dX6_wayOn_14 (by decide) ?_
  refine lv_iadd hx hb dX6_wayOn_15 ?_
  refine tq_i (w := 7) (by decide) ?_
  refine va_put (D := G) (ci := 6) (v := .int 7) (ty := .int) (C := RX6) (T := TX6) (N := 20) hx hb hT ku_6 tyX6 tyX6_ok nmX6 hown hK hP hD hS 0 rfl rfl 0 (by decide) (hT _ kw_8_2) (fun _ h9 => h9) rfl (by decide +kernel) rfl rfl (fh_lt hf (by decide)) dX6_wayOn_16 (fun H locs hP hD hS => ?_)
  have hP : va_P G vwCl [(h0, .inr (6, (fs.set 0 (.int 7)))), (pa, .inr (2, ps))] H := hP
  have hD : va_D A [(h0, .inr (6, (fs.set 0 (.int 7)))), (pa, .inr (2, ps))] := hD
  have hf := fh_set (l' := [(0, .int 7), (19, .ref pa)]) hf 0 (.int 7) (by decide) rfl
  have ho108 := fo_set ho_hf 0 (.int 7)
  generalize (fs.set 0 (.int 7)) = fs107 at hP hD hf ho108
  have qho108 := fo_mono (k2 := [0]) ho108 (by decide)
  exact W.vret hx hb hr (fun t ht hW => ⟨⟨fs107, rfl, ⟨qho108, fh_sub hf [0] rfl⟩, by rw [ht]; exact hP, hD⟩, hS.F ht⟩) hS.2.2 dX6_wayOn_19

set_option maxHeartbeats 4000000 in
set_option maxRecDepth 100000 in
theorem c_X6_wayOn_7 (l : Launch) (G : va_G) (cA : Nat → ClassId) (sz : Nat) (h0 : Nat) (fs : List Value) (pa : Nat) (ps : List Value) (hf : fh fs 20 [(19, .ref pa), (0, .int 7)]) (hp : fh ps 19 [(0, .int 0), (1, .int 0), (2, .int 0)]) : Met l yX6_wayOn (.code yX6_wayOn cX6_wayOn 1 none :: T0) ({ frames := 1, cells := 0, slots := 0, locals := 23 }) (tqP G cA [.ref h0] [(h0, .inr (6, fs)), (pa, .inr (2, ps))] sz) (tqQv G cA (fun (u : List Value) => fo fs u [0] ∧ fh u 20 [(0, .int 8)]) (fun (u : List Value) => [(h0, .inr (6, u)), (pa, .inr (2, ps))]) (va_A [(h0, .inr (6, fs)), (pa, .inr (2, ps))] sz)) 0 0 (va_A [(h0, .inr (6, fs)), (pa, .inr (2, ps))] sz) := by
  refine Met.ofW (cc := cX6_wayOn) (maxL := 1) (ret := none) (by decide) rfl ?_
  intro p e s m args below meth c s₁ B hml hv
  obtain ⟨rfl, hsz, hP, hK, hD0, hN⟩ := hv
  have hx := B.exec
  have hb := B.bytes
  have hr := B.returns
  have hts := atoms_spec (ws := .code yX6_wayOn cX6_wayOn 1 none :: T0) B.pre
  have hT : ∀ w ∈ T0, w.before _ s = true := fun w h => hts w (List.mem_cons_of_mem _ h)
  have hown : s.vm.findClass RX6 = some m.cls := findClass_of_methodNamed B.named
  have hlocks := B.notSynchronized
  subst hsz
  have hD := hD0.self (sz := s.heap.size)
  generalize hAe : va_A [(h0, .inr (6, fs)), (pa, .inr (2, ps))] s.heap.size = A at hD ⊢
  have hA : ∀ q : Nat, s.heap.size ≤ q → A q := fun q h => by rw [← hAe]; exact Or.inr h
  have hS : va_S A s.heap s.heap [] := va_S.rf
  have hl := lv_entry ([.ref h0]) (n := 1) (Nat.le_of_ble_eq_true rfl)
  rw [lg_entry_eq]
  generalize (lg_sl ([.ref h0]) ++ List.replicate (1 - (lg_sl ([.ref h0])).length) Slot.unset).toArray = ls at hl ⊢
  have hl : lv_has ls 1 [(0, .ref h0)] := hl
  obtain ⟨H, hH⟩ : ∃ z, z = s.heap := ⟨_, rfl⟩
  rw [← hH] at hP
  have hS : va_S A s.heap H [] := by rw [hH]; exact hS
  suffices hgo : W p l e _ s m _ below meth c H [] 0 0 _ _ by rw [hH] at hgo; exact hgo
  have hO := hN.2.2.2.2
  have ho_hf := fo_refl fs
  have ho_hp := fo_refl ps
  refine lv_aload_n hx hb dX6_wayOn_0 rfl (lv_at hl 0 rfl) ?_
  refine tq_ci (wr := []) hP hD hS hA [0, 1] [] rfl rfl (by decide) (by decide) (va_runV (As := []) (rest := []) ⟨hx, hb, hml, hown, hT⟩ (c_X6_fallOff l G cA H.size h0 fs pa ps (fh_sub hf [0] rfl) (fh_sub hp [0, 1, 2] rfl)) (cwV 0 hT (tq_gV kw_42_11 kw_42_12 kw_42_13 kw_1_23 kw_42_14) rfl rfl rfl (by decide +kernel) ⟨Nat.le_of_ble_eq_true rfl, Nat.le_of_ble_eq_true rfl⟩) ⟨(tq_pre (isC := [0, 1]) hP hD hK hN rfl (by decide)).1, va_recv hK hP (ci := 6) (q0 := 0) rfl rfl, (tq_pre (isC := [0, 1]) hP hD hK hN rfl (by decide)).2⟩ rfl rfl hl.1 rfl (lv_room (Nat.le_of_ble_eq_true rfl)) dX6_wayOn_1 ⟨Nat.le_of_ble_eq_true rfl, Nat.le_of_ble_eq_true rfl⟩) (fun r101 u102 H locs hw103 hP hD hS => ?_)
  refine W.widen (k := 0) (n := 0) (Nat.le_of_ble_eq_true rfl) (Nat.le_of_ble_eq_true rfl) ?_
  have hr104 := hw103
  subst hr104
  have hP : va_P G vwCl [(h0, .inr (6, fs)), (pa, .inr (2, ps))] H := hP
  have hD : va_D A [(h0, .inr (6, fs)), (pa, .inr (2, ps))] := hD
  refine lv_pop hx hb dX6_wayOn_4 rfl ?_
  refine lv_aload_n hx hb dX6_wayOn_5 rfl (lv_at hl 0 rfl) ?_
  refine tq_cv (wr := []) hP hD hS hA [0, 1] [] rfl rfl (by decide) (by decide) (va_runV (As := []) (rest := []) ⟨hx, hb, hml, hown, hT⟩ (c_X6_stealAway l G cA H.size h0 fs pa ps (fh_sub hf [0] rfl) (fh_sub hp [0, 1, 2] rfl)) (cwV 0 hT (tq_gV kw_43_6 kw_43_7 kw_43_8 kw_1_23 kw_43_9) rfl rfl rfl (by decide +kernel) ⟨Nat.le_of_ble_eq_true rfl, Nat.le_of_ble_eq_true rfl⟩) ⟨(tq_pre (isC := [0, 1]) hP hD hK hN rfl (by decide)).1, va_recv hK hP (ci := 6) (q0 := 0) rfl rfl, (tq_pre (isC := [0, 1]) hP hD hK hN rfl (by decide)).2⟩ rfl rfl hl.1 rfl (lv_room (Nat.le_of_ble_eq_true rfl)) dX6_wayOn_6 ⟨Nat.le_of_ble_eq_true rfl, Nat.le_of_ble_eq_true rfl⟩) (fun u105 H locs hw106 hP hD hS => ?_)
  refine W.widen (k := 0) (n := 0) (Nat.le_of_ble_eq_true rfl) (Nat.le_of_ble_eq_true rfl) ?_
  have hP : va_P G vwCl [(h0, .inr (6, fs)), (pa, .inr (2, ps))] H := hP
  have hD : va_D A [(h0, .inr (6, fs)), (pa, .inr (2, ps))] := hD
  refine lv_aload_n hx hb dX6_wayOn_9 rfl (lv_at hl 0 rfl) ?_
  refine lv_dup hx hb dX6_wayOn_10 rfl ?_
  refine va_get (D := G) (ci := 6) (v := .int 7) (C := RX6) (T := TX6) (N := 20) hx hb hT ku_6 hown hK hP 0 rfl rfl 0 (by decide) (hT _ kw_8_2) (fun _ h9 => h9) (fh_at hf 1 rfl) dX6_wayOn_11 ?_
  refine lv_iconst (v := 1) hx hb dX6_wayOn_14 (by decide) ?_
  refine lv_iadd hx hb dX6_wayOn_15 ?_
  refine tq_i (w := 8) (by decide) ?_
  refine va_put (D := G) (ci := 6) (v := .int 8) (ty := .int) (C := RX6) (T := TX6) (N := 20) hx hb hT ku_6 tyX6 tyX6_ok nmX6 hown hK hP hD hS 0 rfl rfl 0 (by decide) (hT _ kw_8_2) (fun _ h9 => h9) rfl (by decide +kernel) rfl rfl (fh_lt hf (by decide)) dX6_wayOn_16 (fun H locs hP hD hS => ?_)
  have hP : va_P G vwCl [(h0, .inr (6, (fs.set 0 (.int 8)))), (pa, .inr (2, ps))] H := hP
  have hD : va_D A [(h0, .inr (6, (fs.set 0 (.int 8)))), (pa, .inr (2, ps))] := hD
  have hf := fh_set (l' := [(0, .int 8), (19, .ref pa)]) hf 0 (.int 8) (by decide) rfl
  have ho108 := fo_set ho_hf 0 (.int 8)
  generalize (fs.set 0 (.int 8)) = fs107 at hP hD hf ho108
  have qho108 := fo_mono (k2 := [0]) ho108 (by decide)
  exact W.vret hx hb hr (fun t ht hW => ⟨⟨fs107, rfl, ⟨qho108, fh_sub hf [0] rfl⟩, by rw [ht]; exact hP, hD⟩, hS.F ht⟩) hS.2.2 dX6_wayOn_19

set_option maxHeartbeats 4000000 in
set_option maxRecDepth 100000 in
theorem c_X6_wayOn_8 (l : Launch) (G : va_G) (cA : Nat → ClassId) (sz : Nat) (h0 : Nat) (fs : List Value) (pa : Nat) (ps : List Value) (hf : fh fs 20 [(19, .ref pa), (0, .int 8)]) (hp : fh ps 19 [(0, .int 0), (1, .int 0), (2, .int 0)]) : Met l yX6_wayOn (.code yX6_wayOn cX6_wayOn 1 none :: T0) ({ frames := 1, cells := 0, slots := 0, locals := 23 }) (tqP G cA [.ref h0] [(h0, .inr (6, fs)), (pa, .inr (2, ps))] sz) (tqQv G cA (fun (u : List Value) => fo fs u [0] ∧ fh u 20 [(0, .int 9)]) (fun (u : List Value) => [(h0, .inr (6, u)), (pa, .inr (2, ps))]) (va_A [(h0, .inr (6, fs)), (pa, .inr (2, ps))] sz)) 0 0 (va_A [(h0, .inr (6, fs)), (pa, .inr (2, ps))] sz) := by
  refine Met.ofW (cc := cX6_wayOn) (maxL := 1) (ret := none) (by decide) rfl ?_
  intro p e s m args below meth c s₁ B hml hv
  obtain ⟨rfl, hsz, hP, hK, hD0, hN⟩ := hv
  have hx := B.exec
  have hb := B.bytes
  have hr := B.returns
  have hts := atoms_spec (ws := .code yX6_wayOn cX6_wayOn 1 none :: T0) B.pre
  have hT : ∀ w ∈ T0, w.before _ s = true := fun w h => hts w (List.mem_cons_of_mem _ h)
  have hown : s.vm.findClass RX6 = some m.cls := findClass_of_methodNamed B.named
  have hlocks := B.notSynchronized
  subst hsz
  have hD := hD0.self (sz := s.heap.size)
  generalize hAe : va_A [(h0, .inr (6, fs)), (pa, .inr (2, ps))] s.heap.size = A at hD ⊢
  have hA : ∀ q : Nat, s.heap.size ≤ q → A q := fun q h => by rw [← hAe]; exact Or.inr h
  have hS : va_S A s.heap s.heap [] := va_S.rf
  have hl := lv_entry ([.ref h0]) (n := 1) (Nat.le_of_ble_eq_true rfl)
  rw [lg_entry_eq]
  generalize (lg_sl ([.ref h0]) ++ List.replicate (1 - (lg_sl ([.ref h0])).length) Slot.unset).toArray = ls at hl ⊢
  have hl : lv_has ls 1 [(0, .ref h0)] := hl
  obtain ⟨H, hH⟩ : ∃ z, z = s.heap := ⟨_, rfl⟩
  rw [← hH] at hP
  have hS : va_S A s.heap H [] := by rw [hH]; exact hS
  suffices hgo : W p l e _ s m _ below meth c H [] 0 0 _ _ by rw [hH] at hgo; exact hgo
  have hO := hN.2.2.2.2
  have ho_hf := fo_refl fs
  have ho_hp := fo_refl ps
  refine lv_aload_n hx hb dX6_wayOn_0 rfl (lv_at hl 0 rfl) ?_
  refine tq_ci (wr := []) hP hD hS hA [0, 1] [] rfl rfl (by decide) (by decide) (va_runV (As := []) (rest := []) ⟨hx, hb, hml, hown, hT⟩ (c_X6_fallOff l G cA H.size h0 fs pa ps (fh_sub hf [0] rfl) (fh_sub hp [0, 1, 2] rfl)) (cwV 0 hT (tq_gV kw_42_11 kw_42_12 kw_42_13 kw_1_23 kw_42_14) rfl rfl rfl (by decide +kernel) ⟨Nat.le_of_ble_eq_true rfl, Nat.le_of_ble_eq_true rfl⟩) ⟨(tq_pre (isC := [0, 1]) hP hD hK hN rfl (by decide)).1, va_recv hK hP (ci := 6) (q0 := 0) rfl rfl, (tq_pre (isC := [0, 1]) hP hD hK hN rfl (by decide)).2⟩ rfl rfl hl.1 rfl (lv_room (Nat.le_of_ble_eq_true rfl)) dX6_wayOn_1 ⟨Nat.le_of_ble_eq_true rfl, Nat.le_of_ble_eq_true rfl⟩) (fun r101 u102 H locs hw103 hP hD hS => ?_)
  refine W.widen (k := 0) (n := 0) (Nat.le_of_ble_eq_true rfl) (Nat.le_of_ble_eq_true rfl) ?_
  have hr104 := hw103
  subst hr104
  have hP : va_P G vwCl [(h0, .inr (6, fs)), (pa, .inr (2, ps))] H := hP
  have hD : va_D A [(h0, .inr (6, fs)), (pa, .inr (2, ps))] := hD
  refine lv_pop hx hb dX6_wayOn_4 rfl ?_
  refine lv_aload_n hx hb dX6_wayOn_5 rfl (lv_at hl 0 rfl) ?_
  refine tq_cv (wr := []) hP hD hS hA [0, 1] [] rfl rfl (by decide) (by decide) (va_runV (As := []) (rest := []) ⟨hx, hb, hml, hown, hT⟩ (c_X6_stealAway l G cA H.size h0 fs pa ps (fh_sub hf [0] rfl) (fh_sub hp [0, 1, 2] rfl)) (cwV 0 hT (tq_gV kw_43_6 kw_43_7 kw_43_8 kw_1_23 kw_43_9) rfl rfl rfl (by decide +kernel) ⟨Nat.le_of_ble_eq_true rfl, Nat.le_of_ble_eq_true rfl⟩) ⟨(tq_pre (isC := [0, 1]) hP hD hK hN rfl (by decide)).1, va_recv hK hP (ci := 6) (q0 := 0) rfl rfl, (tq_pre (isC := [0, 1]) hP hD hK hN rfl (by decide)).2⟩ rfl rfl hl.1 rfl (lv_room (Nat.le_of_ble_eq_true rfl)) dX6_wayOn_6 ⟨Nat.le_of_ble_eq_true rfl, Nat.le_of_ble_eq_true rfl⟩) (fun u105 H locs hw106 hP hD hS => ?_)
  refine W.widen (k := 0) (n := 0) (Nat.le_of_ble_eq_true rfl) (Nat.le_of_ble_eq_true rfl) ?_
  have hP : va_P G vwCl [(h0, .inr (6, fs)), (pa, .inr (2, ps))] H := hP
  have hD : va_D A [(h0, .inr (6, fs)), (pa, .inr (2, ps))] := hD
  refine lv_aload_n hx hb dX6_wayOn_9 rfl (lv_at hl 0 rfl) ?_
  refine lv_dup hx hb dX6_wayOn_10 rfl ?_
  refine va_get (D := G) (ci := 6) (v := .int 8) (C := RX6) (T := TX6) (N := 20) hx hb hT ku_6 hown hK hP 0 rfl rfl 0 (by decide) (hT _ kw_8_2) (fun _ h9 => h9) (fh_at hf 1 rfl) dX6_wayOn_11 ?_
  refine lv_iconst (v := 1) hx hb dX6_wayOn_14 (by decide) ?_
  refine lv_iadd hx hb dX6_wayOn_15 ?_
  refine tq_i (w := 9) (by decide) ?_
  refine va_put (D := G) (ci := 6) (v := .int 9) (ty := .int) (C := RX6) (T := TX6) (N := 20) hx hb hT ku_6 tyX6 tyX6_ok nmX6 hown hK hP hD hS 0 rfl rfl 0 (by decide) (hT _ kw_8_2) (fun _ h9 => h9) rfl (by decide +kernel) rfl rfl (fh_lt hf (by decide)) dX6_wayOn_16 (fun H locs hP hD hS => ?_)
  have hP : va_P G vwCl [(h0, .inr (6, (fs.set 0 (.int 9)))), (pa, .inr (2, ps))] H := hP
  have hD : va_D A [(h0, .inr (6, (fs.set 0 (.int 9)))), (pa, .inr (2, ps))] := hD
  have hf := fh_set (l' := [(0, .int 9), (19, .ref pa)]) hf 0 (.int 9) (by decide) rfl
  have ho108 := fo_set ho_hf 0 (.int 9)
  generalize (fs.set 0 (.int 9)) = fs107 at hP hD hf ho108
  have qho108 := fo_mono (k2 := [0]) ho108 (by decide)
  exact W.vret hx hb hr (fun t ht hW => ⟨⟨fs107, rfl, ⟨qho108, fh_sub hf [0] rfl⟩, by rw [ht]; exact hP, hD⟩, hS.F ht⟩) hS.2.2 dX6_wayOn_19

set_option maxHeartbeats 4000000 in
set_option maxRecDepth 100000 in
theorem c_X6_wayOn_9 (l : Launch) (G : va_G) (cA : Nat → ClassId) (sz : Nat) (h0 : Nat) (fs : List Value) (pa : Nat) (ps : List Value) (hf : fh fs 20 [(19, .ref pa), (0, .int 9)]) (hp : fh ps 19 [(0, .int 0), (1, .int 0), (2, .int 0)]) : Met l yX6_wayOn (.code yX6_wayOn cX6_wayOn 1 none :: T0) ({ frames := 1, cells := 0, slots := 0, locals := 23 }) (tqP G cA [.ref h0] [(h0, .inr (6, fs)), (pa, .inr (2, ps))] sz) (tqQv G cA (fun (u : List Value) => fo fs u [0] ∧ fh u 20 [(0, .int 10)]) (fun (u : List Value) => [(h0, .inr (6, u)), (pa, .inr (2, ps))]) (va_A [(h0, .inr (6, fs)), (pa, .inr (2, ps))] sz)) 0 0 (va_A [(h0, .inr (6, fs)), (pa, .inr (2, ps))] sz) := by
  refine Met.ofW (cc := cX6_wayOn) (maxL := 1) (ret := none) (by decide) rfl ?_
  intro p e s m args below meth c s₁ B hml hv
  obtain ⟨rfl, hsz, hP, hK, hD0, hN⟩ := hv
  have hx := B.exec
  have hb := B.bytes
  have hr := B.returns
  have hts := atoms_spec (ws := .code yX6_wayOn cX6_wayOn 1 none :: T0) B.pre
  have hT : ∀ w ∈ T0, w.before _ s = true := fun w h => hts w (List.mem_cons_of_mem _ h)
  have hown : s.vm.findClass RX6 = some m.cls := findClass_of_methodNamed B.named
  have hlocks := B.notSynchronized
  subst hsz
  have hD := hD0.self (sz := s.heap.size)
  generalize hAe : va_A [(h0, .inr (6, fs)), (pa, .inr (2, ps))] s.heap.size = A at hD ⊢
  have hA : ∀ q : Nat, s.heap.size ≤ q → A q := fun q h => by rw [← hAe]; exact Or.inr h
  have hS : va_S A s.heap s.heap [] := va_S.rf
  have hl := lv_entry ([.ref h0]) (n := 1) (Nat.le_of_ble_eq_true rfl)
  rw [lg_entry_eq]
  generalize (lg_sl ([.ref h0]) ++ List.replicate (1 - (lg_sl ([.ref h0])).length) Slot.unset).toArray = ls at hl ⊢
  have hl : lv_has ls 1 [(0, .ref h0)] := hl
  obtain ⟨H, hH⟩ : ∃ z, z = s.heap := ⟨_, rfl⟩
  rw [← hH] at hP
  have hS : va_S A s.heap H [] := by rw [hH]; exact hS
  suffices hgo : W p l e _ s m _ below meth c H [] 0 0 _ _ by rw [hH] at hgo; exact hgo
  have hO := hN.2.2.2.2
  have ho_hf := fo_refl fs
  have ho_hp := fo_refl ps
  refine lv_aload_n hx hb dX6_wayOn_0 rfl (lv_at hl 0 rfl) ?_
  refine tq_ci (wr := []) hP hD hS hA [0, 1] [] rfl rfl (by decide) (by decide) (va_runV (As := []) (rest := []) ⟨hx, hb, hml, hown, hT⟩ (c_X6_fallOff l G cA H.size h0 fs pa ps (fh_sub hf [0] rfl) (fh_sub hp [0, 1, 2] rfl)) (cwV 0 hT (tq_gV kw_42_11 kw_42_12 kw_42_13 kw_1_23 kw_42_14) rfl rfl rfl (by decide +kernel) ⟨Nat.le_of_ble_eq_true rfl, Nat.le_of_ble_eq_true rfl⟩) ⟨(tq_pre (isC := [0, 1]) hP hD hK hN rfl (by decide)).1, va_recv hK hP (ci := 6) (q0 := 0) rfl rfl, (tq_pre (isC := [0, 1]) hP hD hK hN rfl (by decide)).2⟩ rfl rfl hl.1 rfl (lv_room (Nat.le_of_ble_eq_true rfl)) dX6_wayOn_1 ⟨Nat.le_of_ble_eq_true rfl, Nat.le_of_ble_eq_true rfl⟩) (fun r101 u102 H locs hw103 hP hD hS => ?_)
  refine W.widen (k := 0) (n := 0) (Nat.le_of_ble_eq_true rfl) (Nat.le_of_ble_eq_true rfl) ?_
  have hr104 := hw103
  subst hr104
  have hP : va_P G vwCl [(h0, .inr (6, fs)), (pa, .inr (2, ps))] H := hP
  have hD : va_D A [(h0, .inr (6, fs)), (pa, .inr (2, ps))] := hD
  refine lv_pop hx hb dX6_wayOn_4 rfl ?_
  refine lv_aload_n hx hb dX6_wayOn_5 rfl (lv_at hl 0 rfl) ?_
  refine tq_cv (wr := []) hP hD hS hA [0, 1] [] rfl rfl (by decide) (by decide) (va_runV (As := []) (rest := []) ⟨hx, hb, hml, hown, hT⟩ (c_X6_stealAway l G cA H.size h0 fs pa ps (fh_sub hf [0] rfl) (fh_sub hp [0, 1, 2] rfl)) (cwV 0 hT (tq_gV kw_43_6 kw_43_7 kw_43_8 kw_1_23 kw_43_9) rfl rfl rfl (by decide +kernel) ⟨Nat.le_of_ble_eq_true rfl, Nat.le_of_ble_eq_true rfl⟩) ⟨(tq_pre (isC := [0, 1]) hP hD hK hN rfl (by decide)).1, va_recv hK hP (ci := 6) (q0 := 0) rfl rfl, (tq_pre (isC := [0, 1]) hP hD hK hN rfl (by decide)).2⟩ rfl rfl hl.1 rfl (lv_room (Nat.le_of_ble_eq_true rfl)) dX6_wayOn_6 ⟨Nat.le_of_ble_eq_true rfl, Nat.le_of_ble_eq_true rfl⟩) (fun u105 H locs hw106 hP hD hS => ?_)
  refine W.widen (k := 0) (n := 0) (Nat.le_of_ble_eq_true rfl) (Nat.le_of_ble_eq_true rfl) ?_
  have hP : va_P G vwCl [(h0, .inr (6, fs)), (pa, .inr (2, ps))] H := hP
  have hD : va_D A [(h0, .inr (6, fs)), (pa, .inr (2, ps))] := hD
  refine lv_aload_n hx hb dX6_wayOn_9 rfl (lv_at hl 0 rfl) ?_
  refine lv_dup hx hb dX6_wayOn_10 rfl ?_
  refine va_get (D := G) (ci := 6) (v := .int 9) (C := RX6) (T := TX6) (N := 20) hx hb hT ku_6 hown hK hP 0 rfl rfl 0 (by decide) (hT _ kw_8_2) (fun _ h9 => h9) (fh_at hf 1 rfl) dX6_wayOn_11 ?_
  refine lv_iconst (v := 1) hx hb dX6_wayOn_14 (by decide) ?_
  refine lv_iadd hx hb dX6_wayOn_15 ?_
  refine tq_i (w := 10) (by decide) ?_
  refine va_put (D := G) (ci := 6) (v := .int 10) (ty := .int) (C := RX6) (T := TX6) (N := 20) hx hb hT ku_6 tyX6 tyX6_ok nmX6 hown hK hP hD hS 0 rfl rfl 0 (by decide) (hT _ kw_8_2) (fun _ h9 => h9) rfl (by decide +kernel) rfl rfl (fh_lt hf (by decide)) dX6_wayOn_16 (fun H locs hP hD hS => ?_)
  have hP : va_P G vwCl [(h0, .inr (6, (fs.set 0 (.int 10)))), (pa, .inr (2, ps))] H := hP
  have hD : va_D A [(h0, .inr (6, (fs.set 0 (.int 10)))), (pa, .inr (2, ps))] := hD
  have hf := fh_set (l' := [(0, .int 10), (19, .ref pa)]) hf 0 (.int 10) (by decide) rfl
  have ho108 := fo_set ho_hf 0 (.int 10)
  generalize (fs.set 0 (.int 10)) = fs107 at hP hD hf ho108
  have qho108 := fo_mono (k2 := [0]) ho108 (by decide)
  exact W.vret hx hb hr (fun t ht hW => ⟨⟨fs107, rfl, ⟨qho108, fh_sub hf [0] rfl⟩, by rw [ht]; exact hP, hD⟩, hS.F ht⟩) hS.2.2 dX6_wayOn_19

set_option maxHeartbeats 4000000 in
set_option maxRecDepth 100000 in
theorem c_X6_wayOn_10 (l : Launch) (G : va_G) (cA : Nat → ClassId) (sz : Nat) (h0 : Nat) (fs : List Value) (pa : Nat) (ps : List Value) (hf : fh fs 20 [(19, .ref pa), (0, .int 10)]) (hp : fh ps 19 [(0, .int 0), (1, .int 0), (2, .int 0)]) : Met l yX6_wayOn (.code yX6_wayOn cX6_wayOn 1 none :: T0) ({ frames := 1, cells := 0, slots := 0, locals := 23 }) (tqP G cA [.ref h0] [(h0, .inr (6, fs)), (pa, .inr (2, ps))] sz) (tqQv G cA (fun (u : List Value) => fo fs u [0] ∧ fh u 20 [(0, .int 11)]) (fun (u : List Value) => [(h0, .inr (6, u)), (pa, .inr (2, ps))]) (va_A [(h0, .inr (6, fs)), (pa, .inr (2, ps))] sz)) 0 0 (va_A [(h0, .inr (6, fs)), (pa, .inr (2, ps))] sz) := by
  refine Met.ofW (cc := cX6_wayOn) (maxL := 1) (ret := none) (by decide) rfl ?_
  intro p e s m args below meth c s₁ B hml hv
  obtain ⟨rfl, hsz, hP, hK, hD0, hN⟩ := hv
  have hx := B.exec
  have hb := B.bytes
  have hr := B.returns
  have hts := atoms_spec (ws := .code yX6_wayOn cX6_wayOn 1 none :: T0) B.pre
  have hT : ∀ w ∈ T0, w.before _ s = true := fun w h => hts w (List.mem_cons_of_mem _ h)
  have hown : s.vm.findClass RX6 = some m.cls := findClass_of_methodNamed B.named
  have hlocks := B.notSynchronized
  subst hsz
  have hD := hD0.self (sz := s.heap.size)
  generalize hAe : va_A [(h0, .inr (6, fs)), (pa, .inr (2, ps))] s.heap.size = A at hD ⊢
  have hA : ∀ q : Nat, s.heap.size ≤ q → A q := fun q h => by rw [← hAe]; exact Or.inr h
  have hS : va_S A s.heap s.heap [] := va_S.rf
  have hl := lv_entry ([.ref h0]) (n := 1) (Nat.le_of_ble_eq_true rfl)
  rw [lg_entry_eq]
  generalize (lg_sl ([.ref h0]) ++ List.replicate (1 - (lg_sl ([.ref h0])).length) Slot.unset).toArray = ls at hl ⊢
  have hl : lv_has ls 1 [(0, .ref h0)] := hl
  obtain ⟨H, hH⟩ : ∃ z, z = s.heap := ⟨_, rfl⟩
  rw [← hH] at hP
  have hS : va_S A s.heap H [] := by rw [hH]; exact hS
  suffices hgo : W p l e _ s m _ below meth c H [] 0 0 _ _ by rw [hH] at hgo; exact hgo
  have hO := hN.2.2.2.2
  have ho_hf := fo_refl fs
  have ho_hp := fo_refl ps
  refine lv_aload_n hx hb dX6_wayOn_0 rfl (lv_at hl 0 rfl) ?_
  refine tq_ci (wr := []) hP hD hS hA [0, 1] [] rfl rfl (by decide) (by decide) (va_runV (As := []) (rest := []) ⟨hx, hb, hml, hown, hT⟩ (c_X6_fallOff l G cA H.size h0 fs pa ps (fh_sub hf [0] rfl) (fh_sub hp [0, 1, 2] rfl)) (cwV 0 hT (tq_gV kw_42_11 kw_42_12 kw_42_13 kw_1_23 kw_42_14) rfl rfl rfl (by decide +kernel) ⟨Nat.le_of_ble_eq_true rfl, Nat.le_of_ble_eq_true rfl⟩) ⟨(tq_pre (isC := [0, 1]) hP hD hK hN rfl (by decide)).1, va_recv hK hP (ci := 6) (q0 := 0) rfl rfl, (tq_pre (isC := [0, 1]) hP hD hK hN rfl (by decide)).2⟩ rfl rfl hl.1 rfl (lv_room (Nat.le_of_ble_eq_true rfl)) dX6_wayOn_1 ⟨Nat.le_of_ble_eq_true rfl, Nat.le_of_ble_eq_true rfl⟩) (fun r101 u102 H locs hw103 hP hD hS => ?_)
  refine W.widen (k := 0) (n := 0) (Nat.le_of_ble_eq_true rfl) (Nat.le_of_ble_eq_true rfl) ?_
  have hr104 := hw103
  subst hr104
  have hP : va_P G vwCl [(h0, .inr (6, fs)), (pa, .inr (2, ps))] H := hP
  have hD : va_D A [(h0, .inr (6, fs)), (pa, .inr (2, ps))] := hD
  refine lv_pop hx hb dX6_wayOn_4 rfl ?_
  refine lv_aload_n hx hb dX6_wayOn_5 rfl (lv_at hl 0 rfl) ?_
  refine tq_cv (wr := []) hP hD hS hA [0, 1] [] rfl rfl (by decide) (by decide) (va_runV (As := []) (rest := []) ⟨hx, hb, hml, hown, hT⟩ (c_X6_stealAway l G cA H.size h0 fs pa ps (fh_sub hf [0] rfl) (fh_sub hp [0, 1, 2] rfl)) (cwV 0 hT (tq_gV kw_43_6 kw_43_7 kw_43_8 kw_1_23 kw_43_9) rfl rfl rfl (by decide +kernel) ⟨Nat.le_of_ble_eq_true rfl, Nat.le_of_ble_eq_true rfl⟩) ⟨(tq_pre (isC := [0, 1]) hP hD hK hN rfl (by decide)).1, va_recv hK hP (ci := 6) (q0 := 0) rfl rfl, (tq_pre (isC := [0, 1]) hP hD hK hN rfl (by decide)).2⟩ rfl rfl hl.1 rfl (lv_room (Nat.le_of_ble_eq_true rfl)) dX6_wayOn_6 ⟨Nat.le_of_ble_eq_true rfl, Nat.le_of_ble_eq_true rfl⟩) (fun u105 H locs hw106 hP hD hS => ?_)
  refine W.widen (k := 0) (n := 0) (Nat.le_of_ble_eq_true rfl) (Nat.le_of_ble_eq_true rfl) ?_
  have hP : va_P G vwCl [(h0, .inr (6, fs)), (pa, .inr (2, ps))] H := hP
  have hD : va_D A [(h0, .inr (6, fs)), (pa, .inr (2, ps))] := hD
  refine lv_aload_n hx hb dX6_wayOn_9 rfl (lv_at hl 0 rfl) ?_
  refine lv_dup hx hb dX6_wayOn_10 rfl ?_
  refine va_get (D := G) (ci := 6) (v := .int 10) (C := RX6) (T := TX6) (N := 20) hx hb hT ku_6 hown hK hP 0 rfl rfl 0 (by decide) (hT _ kw_8_2) (fun _ h9 => h9) (fh_at hf 1 rfl) dX6_wayOn_11 ?_
  refine lv_iconst (v := 1) hx hb dX6_wayOn_14 (by decide) ?_
  refine lv_iadd hx hb dX6_wayOn_15 ?_
  refine tq_i (w := 11) (by decide) ?_
  refine va_put (D := G) (ci := 6) (v := .int 11) (ty := .int) (C := RX6) (T := TX6) (N := 20) hx hb hT ku_6 tyX6 tyX6_ok nmX6 hown hK hP hD hS 0 rfl rfl 0 (by decide) (hT _ kw_8_2) (fun _ h9 => h9) rfl (by decide +kernel) rfl rfl (fh_lt hf (by decide)) dX6_wayOn_16 (fun H locs hP hD hS => ?_)
  have hP : va_P G vwCl [(h0, .inr (6, (fs.set 0 (.int 11)))), (pa, .inr (2, ps))] H := hP
  have hD : va_D A [(h0, .inr (6, (fs.set 0 (.int 11)))), (pa, .inr (2, ps))] := hD
  have hf := fh_set (l' := [(0, .int 11), (19, .ref pa)]) hf 0 (.int 11) (by decide) rfl
  have ho108 := fo_set ho_hf 0 (.int 11)
  generalize (fs.set 0 (.int 11)) = fs107 at hP hD hf ho108
  have qho108 := fo_mono (k2 := [0]) ho108 (by decide)
  exact W.vret hx hb hr (fun t ht hW => ⟨⟨fs107, rfl, ⟨qho108, fh_sub hf [0] rfl⟩, by rw [ht]; exact hP, hD⟩, hS.F ht⟩) hS.2.2 dX6_wayOn_19

set_option maxHeartbeats 4000000 in
set_option maxRecDepth 100000 in
theorem c_X6_wayOn_11 (l : Launch) (G : va_G) (cA : Nat → ClassId) (sz : Nat) (h0 : Nat) (fs : List Value) (pa : Nat) (ps : List Value) (hf : fh fs 20 [(19, .ref pa), (0, .int 11)]) (hp : fh ps 19 [(0, .int 0), (1, .int 0), (2, .int 0)]) : Met l yX6_wayOn (.code yX6_wayOn cX6_wayOn 1 none :: T0) ({ frames := 1, cells := 0, slots := 0, locals := 23 }) (tqP G cA [.ref h0] [(h0, .inr (6, fs)), (pa, .inr (2, ps))] sz) (tqQv G cA (fun (u : List Value) => fo fs u [0] ∧ fh u 20 [(0, .int 12)]) (fun (u : List Value) => [(h0, .inr (6, u)), (pa, .inr (2, ps))]) (va_A [(h0, .inr (6, fs)), (pa, .inr (2, ps))] sz)) 0 0 (va_A [(h0, .inr (6, fs)), (pa, .inr (2, ps))] sz) := by
  refine Met.ofW (cc := cX6_wayOn) (maxL := 1) (ret := none) (by decide) rfl ?_
  intro p e s m args below meth c s₁ B hml hv
  obtain ⟨rfl, hsz, hP, hK, hD0, hN⟩ := hv
  have hx := B.exec
  have hb := B.bytes
  have hr := B.returns
  have hts := atoms_spec (ws := .code yX6_wayOn cX6_wayOn 1 none :: T0) B.pre
  have hT : ∀ w ∈ T0, w.before _ s = true := fun w h => hts w (List.mem_cons_of_mem _ h)
  have hown : s.vm.findClass RX6 = some m.cls := findClass_of_methodNamed B.named
  have hlocks := B.notSynchronized
  subst hsz
  have hD := hD0.self (sz := s.heap.size)
  generalize hAe : va_A [(h0, .inr (6, fs)), (pa, .inr (2, ps))] s.heap.size = A at hD ⊢
  have hA : ∀ q : Nat, s.heap.size ≤ q → A q := fun q h => by rw [← hAe]; exact Or.inr h
  have hS : va_S A s.heap s.heap [] := va_S.rf
  have hl := lv_entry ([.ref h0]) (n := 1) (Nat.le_of_ble_eq_true rfl)
  rw [lg_entry_eq]
  generalize (lg_sl ([.ref h0]) ++ List.replicate (1 - (lg_sl ([.ref h0])).length) Slot.unset).toArray = ls at hl ⊢
  have hl : lv_has ls 1 [(0, .ref h0)] := hl
  obtain ⟨H, hH⟩ : ∃ z, z = s.heap := ⟨_, rfl⟩
  rw [← hH] at hP
  have hS : va_S A s.heap H [] := by rw [hH]; exact hS
  suffices hgo : W p l e _ s m _ below meth c H [] 0 0 _ _ by rw [hH] at hgo; exact hgo
  have hO := hN.2.2.2.2
  have ho_hf := fo_refl fs
  have ho_hp := fo_refl ps
  refine lv_aload_n hx hb dX6_wayOn_0 rfl (lv_at hl 0 rfl) ?_
  refine tq_ci (wr := []) hP hD hS hA [0, 1] [] rfl rfl (by decide) (by decide) (va_runV (As := []) (rest := []) ⟨hx, hb, hml, hown, hT⟩ (c_X6_fallOff l G cA H.size h0 fs pa ps (fh_sub hf [0] rfl) (fh_sub hp [0, 1, 2] rfl)) (cwV 0 hT (tq_gV kw_42_11 kw_42_12 kw_42_13 kw_1_23 kw_42_14) rfl rfl rfl (by decide +kernel) ⟨Nat.le_of_ble_eq_true rfl, Nat.le_of_ble_eq_true rfl⟩) ⟨(tq_pre (isC := [0, 1]) hP hD hK hN rfl (by decide)).1, va_recv hK hP (ci := 6) (q0 := 0) rfl rfl, (tq_pre (isC := [0, 1]) hP hD hK hN rfl (by decide)).2⟩ rfl rfl hl.1 rfl (lv_room (Nat.le_of_ble_eq_true rfl)) dX6_wayOn_1 ⟨Nat.le_of_ble_eq_true rfl, Nat.le_of_ble_eq_true rfl⟩) (fun r101 u102 H locs hw103 hP hD hS => ?_)
  refine W.widen (k := 0) (n := 0) (Nat.le_of_ble_eq_true rfl) (Nat.le_of_ble_eq_true rfl) ?_
  have hr104 := hw103
  subst hr104
  have hP : va_P G vwCl [(h0, .inr (6, fs)), (pa, .inr (2, ps))] H := hP
  have hD : va_D A [(h0, .inr (6, fs)), (pa, .inr (2, ps))] := hD
  refine lv_pop hx hb dX6_wayOn_4 rfl ?_
  refine lv_aload_n hx hb dX6_wayOn_5 rfl (lv_at hl 0 rfl) ?_
  refine tq_cv (wr := []) hP hD hS hA [0, 1] [] rfl rfl (by decide) (by decide) (va_runV (As := []) (rest := []) ⟨hx, hb, hml, hown, hT⟩ (c_X6_stealAway l G cA H.size h0 fs pa ps (fh_sub hf [0] rfl) (fh_sub hp [0, 1, 2] rfl)) (cwV 0 hT (tq_gV kw_43_6 kw_43_7 kw_43_8 kw_1_23 kw_43_9) rfl rfl rfl (by decide +kernel) ⟨Nat.le_of_ble_eq_true rfl, Nat.le_of_ble_eq_true rfl⟩) ⟨(tq_pre (isC := [0, 1]) hP hD hK hN rfl (by decide)).1, va_recv hK hP (ci := 6) (q0 := 0) rfl rfl, (tq_pre (isC := [0, 1]) hP hD hK hN rfl (by decide)).2⟩ rfl rfl hl.1 rfl (lv_room (Nat.le_of_ble_eq_true rfl)) dX6_wayOn_6 ⟨Nat.le_of_ble_eq_true rfl, Nat.le_of_ble_eq_true rfl⟩) (fun u105 H locs hw106 hP hD hS => ?_)
  refine W.widen (k := 0) (n := 0) (Nat.le_of_ble_eq_true rfl) (Nat.le_of_ble_eq_true rfl) ?_
  have hP : va_P G vwCl [(h0, .inr (6, fs)), (pa, .inr (2, ps))] H := hP
  have hD : va_D A [(h0, .inr (6, fs)), (pa, .inr (2, ps))] := hD
  refine lv_aload_n hx hb dX6_wayOn_9 rfl (lv_at hl 0 rfl) ?_
  refine lv_dup hx hb dX6_wayOn_10 rfl ?_
  refine va_get (D := G) (ci := 6) (v := .int 11) (C := RX6) (T := TX6) (N := 20) hx hb hT ku_6 hown hK hP 0 rfl rfl 0 (by decide) (hT _ kw_8_2) (fun _ h9 => h9) (fh_at hf 1 rfl) dX6_wayOn_11 ?_
  refine lv_iconst (v := 1) hx hb dX6_wayOn_14 (by decide) ?_
  refine lv_iadd hx hb dX6_wayOn_15 ?_
  refine tq_i (w := 12) (by decide) ?_
  refine va_put (D := G) (ci := 6) (v := .int 12) (ty := .int) (C := RX6) (T := TX6) (N := 20) hx hb hT ku_6 tyX6 tyX6_ok nmX6 hown hK hP hD hS 0 rfl rfl 0 (by decide) (hT _ kw_8_2) (fun _ h9 => h9) rfl (by decide +kernel) rfl rfl (fh_lt hf (by decide)) dX6_wayOn_16 (fun H locs hP hD hS => ?_)
  have hP : va_P G vwCl [(h0, .inr (6, (fs.set 0 (.int 12)))), (pa, .inr (2, ps))] H := hP
  have hD : va_D A [(h0, .inr (6, (fs.set 0 (.int 12)))), (pa, .inr (2, ps))] := hD
  have hf := fh_set (l' := [(0, .int 12), (19, .ref pa)]) hf 0 (.int 12) (by decide) rfl
  have ho108 := fo_set ho_hf 0 (.int 12)
  generalize (fs.set 0 (.int 12)) = fs107 at hP hD hf ho108
  have qho108 := fo_mono (k2 := [0]) ho108 (by decide)
  exact W.vret hx hb hr (fun t ht hW => ⟨⟨fs107, rfl, ⟨qho108, fh_sub hf [0] rfl⟩, by rw [ht]; exact hP, hD⟩, hS.F ht⟩) hS.2.2 dX6_wayOn_19

set_option maxHeartbeats 4000000 in
set_option maxRecDepth 100000 in
theorem c_X6_wayOn_12 (l : Launch) (G : va_G) (cA : Nat → ClassId) (sz : Nat) (h0 : Nat) (fs : List Value) (pa : Nat) (ps : List Value) (hf : fh fs 20 [(19, .ref pa), (0, .int 12)]) (hp : fh ps 19 [(0, .int 0), (1, .int 0), (2, .int 0)]) : Met l yX6_wayOn (.code yX6_wayOn cX6_wayOn 1 none :: T0) ({ frames := 1, cells := 0, slots := 0, locals := 23 }) (tqP G cA [.ref h0] [(h0, .inr (6, fs)), (pa, .inr (2, ps))] sz) (tqQv G cA (fun (u : List Value) => fo fs u [0] ∧ fh u 20 [(0, .int 13)]) (fun (u : List Value) => [(h0, .inr (6, u)), (pa, .inr (2, ps))]) (va_A [(h0, .inr (6, fs)), (pa, .inr (2, ps))] sz)) 0 0 (va_A [(h0, .inr (6, fs)), (pa, .inr (2, ps))] sz) := by
  refine Met.ofW (cc := cX6_wayOn) (maxL := 1) (ret := none) (by decide) rfl ?_
  intro p e s m args below meth c s₁ B hml hv
  obtain ⟨rfl, hsz, hP, hK, hD0, hN⟩ := hv
  have hx := B.exec
  have hb := B.bytes
  have hr := B.returns
  have hts := atoms_spec (ws := .code yX6_wayOn cX6_wayOn 1 none :: T0) B.pre
  have hT : ∀ w ∈ T0, w.before _ s = true := fun w h => hts w (List.mem_cons_of_mem _ h)
  have hown : s.vm.findClass RX6 = some m.cls := findClass_of_methodNamed B.named
  have hlocks := B.notSynchronized
  subst hsz
  have hD := hD0.self (sz := s.heap.size)
  generalize hAe : va_A [(h0, .inr (6, fs)), (pa, .inr (2, ps))] s.heap.size = A at hD ⊢
  have hA : ∀ q : Nat, s.heap.size ≤ q → A q := fun q h => by rw [← hAe]; exact Or.inr h
  have hS : va_S A s.heap s.heap [] := va_S.rf
  have hl := lv_entry ([.ref h0]) (n := 1) (Nat.le_of_ble_eq_true rfl)
  rw [lg_entry_eq]
  generalize (lg_sl ([.ref h0]) ++ List.replicate (1 - (lg_sl ([.ref h0])).length) Slot.unset).toArray = ls at hl ⊢
  have hl : lv_has ls 1 [(0, .ref h0)] := hl
  obtain ⟨H, hH⟩ : ∃ z, z = s.heap := ⟨_, rfl⟩
  rw [← hH] at hP
  have hS : va_S A s.heap H [] := by rw [hH]; exact hS
  suffices hgo : W p l e _ s m _ below meth c H [] 0 0 _ _ by rw [hH] at hgo; exact hgo
  have hO := hN.2.2.2.2
  have ho_hf := fo_refl fs
  have ho_hp := fo_refl ps
  refine lv_aload_n hx hb dX6_wayOn_0 rfl (lv_at hl 0 rfl) ?_
  refine tq_ci (wr := []) hP hD hS hA [0, 1] [] rfl rfl (by decide) (by decide) (va_runV (As := []) (rest := []) ⟨hx, hb, hml, hown, hT⟩ (c_X6_fallOff l G cA H.size h0 fs pa ps (fh_sub hf [0] rfl) (fh_sub hp [0, 1, 2] rfl)) (cwV 0 hT (tq_gV kw_42_11 kw_42_12 kw_42_13 kw_1_23 kw_42_14) rfl rfl rfl (by decide +kernel) ⟨Nat.le_of_ble_eq_true rfl, Nat.le_of_ble_eq_true rfl⟩) ⟨(tq_pre (isC := [0, 1]) hP hD hK hN rfl (by decide)).1, va_recv hK hP (ci := 6) (q0 := 0) rfl rfl, (tq_pre (isC := [0, 1]) hP hD hK hN rfl (by decide)).2⟩ rfl rfl hl.1 rfl (lv_room (Nat.le_of_ble_eq_true rfl)) dX6_wayOn_1 ⟨Nat.le_of_ble_eq_true rfl, Nat.le_of_ble_eq_true rfl⟩) (fun r101 u102 H locs hw103 hP hD hS => ?_)
  refine W.widen (k := 0) (n := 0) (Nat.le_of_ble_eq_true rfl) (Nat.le_of_ble_eq_true rfl) ?_
  have hr104 := hw103
  subst hr104
  have hP : va_P G vwCl [(h0, .inr (6, fs)), (pa, .inr (2, ps))] H := hP
  have hD : va_D A [(h0, .inr (6, fs)), (pa, .inr (2, ps))] := hD
  refine lv_pop hx hb dX6_wayOn_4 rfl ?_
  refine lv_aload_n hx hb dX6_wayOn_5 rfl (lv_at hl 0 rfl) ?_
  refine tq_cv (wr := []) hP hD hS hA [0, 1] [] rfl rfl (by decide) (by decide) (va_runV (As := []) (rest := []) ⟨hx, hb, hml, hown, hT⟩ (c_X6_stealAway l G cA H.size h0 fs pa ps (fh_sub hf [0] rfl) (fh_sub hp [0, 1, 2] rfl)) (cwV 0 hT (tq_gV kw_43_6 kw_43_7 kw_43_8 kw_1_23 kw_43_9) rfl rfl rfl (by decide +kernel) ⟨Nat.le_of_ble_eq_true rfl, Nat.le_of_ble_eq_true rfl⟩) ⟨(tq_pre (isC := [0, 1]) hP hD hK hN rfl (by decide)).1, va_recv hK hP (ci := 6) (q0 := 0) rfl rfl, (tq_pre (isC := [0, 1]) hP hD hK hN rfl (by decide)).2⟩ rfl rfl hl.1 rfl (lv_room (Nat.le_of_ble_eq_true rfl)) dX6_wayOn_6 ⟨Nat.le_of_ble_eq_true rfl, Nat.le_of_ble_eq_true rfl⟩) (fun u105 H locs hw106 hP hD hS => ?_)
  refine W.widen (k := 0) (n := 0) (Nat.le_of_ble_eq_true rfl) (Nat.le_of_ble_eq_true rfl) ?_
  have hP : va_P G vwCl [(h0, .inr (6, fs)), (pa, .inr (2, ps))] H := hP
  have hD : va_D A [(h0, .inr (6, fs)), (pa, .inr (2, ps))] := hD
  refine lv_aload_n hx hb dX6_wayOn_9 rfl (lv_at hl 0 rfl) ?_
  refine lv_dup hx hb dX6_wayOn_10 rfl ?_
  refine va_get (D := G) (ci := 6) (v := .int 12) (C := RX6) (T := TX6) (N := 20) hx hb hT ku_6 hown hK hP 0 rfl rfl 0 (by decide) (hT _ kw_8_2) (fun _ h9 => h9) (fh_at hf 1 rfl) dX6_wayOn_11 ?_
  refine lv_iconst (v := 1) hx hb dX6_wayOn_14 (by decide) ?_
  refine lv_iadd hx hb dX6_wayOn_15 ?_
  refine tq_i (w := 13) (by decide) ?_
  refine va_put (D := G) (ci := 6) (v := .int 13) (ty := .int) (C := RX6) (T := TX6) (N := 20) hx hb hT ku_6 tyX6 tyX6_ok nmX6 hown hK hP hD hS 0 rfl rfl 0 (by decide) (hT _ kw_8_2) (fun _ h9 => h9) rfl (by decide +kernel) rfl rfl (fh_lt hf (by decide)) dX6_wayOn_16 (fun H locs hP hD hS => ?_)
  have hP : va_P G vwCl [(h0, .inr (6, (fs.set 0 (.int 13)))), (pa, .inr (2, ps))] H := hP
  have hD : va_D A [(h0, .inr (6, (fs.set 0 (.int 13)))), (pa, .inr (2, ps))] := hD
  have hf := fh_set (l' := [(0, .int 13), (19, .ref pa)]) hf 0 (.int 13) (by decide) rfl
  have ho108 := fo_set ho_hf 0 (.int 13)
  generalize (fs.set 0 (.int 13)) = fs107 at hP hD hf ho108
  have qho108 := fo_mono (k2 := [0]) ho108 (by decide)
  exact W.vret hx hb hr (fun t ht hW => ⟨⟨fs107, rfl, ⟨qho108, fh_sub hf [0] rfl⟩, by rw [ht]; exact hP, hD⟩, hS.F ht⟩) hS.2.2 dX6_wayOn_19

set_option maxHeartbeats 4000000 in
set_option maxRecDepth 100000 in
theorem c_X6_wayOn_13 (l : Launch) (G : va_G) (cA : Nat → ClassId) (sz : Nat) (h0 : Nat) (fs : List Value) (pa : Nat) (ps : List Value) (hf : fh fs 20 [(19, .ref pa), (0, .int 13)]) (hp : fh ps 19 [(0, .int 0), (1, .int 0), (2, .int 0)]) : Met l yX6_wayOn (.code yX6_wayOn cX6_wayOn 1 none :: T0) ({ frames := 1, cells := 0, slots := 0, locals := 23 }) (tqP G cA [.ref h0] [(h0, .inr (6, fs)), (pa, .inr (2, ps))] sz) (tqQv G cA (fun (u : List Value) => fo fs u [0] ∧ fh u 20 [(0, .int 14)]) (fun (u : List Value) => [(h0, .inr (6, u)), (pa, .inr (2, ps))]) (va_A [(h0, .inr (6, fs)), (pa, .inr (2, ps))] sz)) 0 0 (va_A [(h0, .inr (6, fs)), (pa, .inr (2, ps))] sz) := by
  refine Met.ofW (cc := cX6_wayOn) (maxL := 1) (ret := none) (by decide) rfl ?_
  intro p e s m args below meth c s₁ B hml hv
  obtain ⟨rfl, hsz, hP, hK, hD0, hN⟩ := hv
  have hx := B.exec
  have hb := B.bytes
  have hr := B.returns
  have hts := atoms_spec (ws := .code yX6_wayOn cX6_wayOn 1 none :: T0) B.pre
  have hT : ∀ w ∈ T0, w.before _ s = true := fun w h => hts w (List.mem_cons_of_mem _ h)
  have hown : s.vm.findClass RX6 = some m.cls := findClass_of_methodNamed B.named
  have hlocks := B.notSynchronized
  subst hsz
  have hD := hD0.self (sz := s.heap.size)
  generalize hAe : va_A [(h0, .inr (6, fs)), (pa, .inr (2, ps))] s.heap.size = A at hD ⊢
  have hA : ∀ q : Nat, s.heap.size ≤ q → A q := fun q h => by rw [← hAe]; exact Or.inr h
  have hS : va_S A s.heap s.heap [] := va_S.rf
  have hl := lv_entry ([.ref h0]) (n := 1) (Nat.le_of_ble_eq_true rfl)
  rw [lg_entry_eq]
  generalize (lg_sl ([.ref h0]) ++ List.replicate (1 - (lg_sl ([.ref h0])).length) Slot.unset).toArray = ls at hl ⊢
  have hl : lv_has ls 1 [(0, .ref h0)] := hl
  obtain ⟨H, hH⟩ : ∃ z, z = s.heap := ⟨_, rfl⟩
  rw [← hH] at hP
  have hS : va_S A s.heap H [] := by rw [hH]; exact hS
  suffices hgo : W p l e _ s m _ below meth c H [] 0 0 _ _ by rw [hH] at hgo; exact hgo
  have hO := hN.2.2.2.2
  have ho_hf := fo_refl fs
  have ho_hp := fo_refl ps
  refine lv_aload_n hx hb dX6_wayOn_0 rfl (lv_at hl 0 rfl) ?_
  refine tq_ci (wr := []) hP hD hS hA [0, 1] [] rfl rfl (by decide) (by decide) (va_runV (As := []) (rest := []) ⟨hx, hb, hml, hown, hT⟩ (c_X6_fallOff l G cA H.size h0 fs pa ps (fh_sub hf [0] rfl) (fh_sub hp [0, 1, 2] rfl)) (cwV 0 hT (tq_gV kw_42_11 kw_42_12 kw_42_13 kw_1_23 kw_42_14) rfl rfl rfl (by decide +kernel) ⟨Nat.le_of_ble_eq_true rfl, Nat.le_of_ble_eq_true rfl⟩) ⟨(tq_pre (isC := [0, 1]) hP hD hK hN rfl (by decide)).1, va_recv hK hP (ci := 6) (q0 := 0) rfl rfl, (tq_pre (isC := [0, 1]) hP hD hK hN rfl (by decide)).2⟩ rfl rfl hl.1 rfl (lv_room (Nat.le_of_ble_eq_true rfl)) dX6_wayOn_1 ⟨Nat.le_of_ble_eq_true rfl, Nat.le_of_ble_eq_true rfl⟩) (fun r101 u102 H locs hw103 hP hD hS => ?_)
  refine W.widen (k := 0) (n := 0) (Nat.le_of_ble_eq_true rfl) (Nat.le_of_ble_eq_true rfl) ?_
  have hr104 := hw103
  subst hr104
  have hP : va_P G vwCl [(h0, .inr (6, fs)), (pa, .inr (2, ps))] H := hP
  have hD : va_D A [(h0, .inr (6, fs)), (pa, .inr (2, ps))] := hD
  refine lv_pop hx hb dX6_wayOn_4 rfl ?_
  refine lv_aload_n hx hb dX6_wayOn_5 rfl (lv_at hl 0 rfl) ?_
  refine tq_cv (wr := []) hP hD hS hA [0, 1] [] rfl rfl (by decide) (by decide) (va_runV (As := []) (rest := []) ⟨hx, hb, hml, hown, hT⟩ (c_X6_stealAway l G cA H.size h0 fs pa ps (fh_sub hf [0] rfl) (fh_sub hp [0, 1, 2] rfl)) (cwV 0 hT (tq_gV kw_43_6 kw_43_7 kw_43_8 kw_1_23 kw_43_9) rfl rfl rfl (by decide +kernel) ⟨Nat.le_of_ble_eq_true rfl, Nat.le_of_ble_eq_true rfl⟩) ⟨(tq_pre (isC := [0, 1]) hP hD hK hN rfl (by decide)).1, va_recv hK hP (ci := 6) (q0 := 0) rfl rfl, (tq_pre (isC := [0, 1]) hP hD hK hN rfl (by decide)).2⟩ rfl rfl hl.1 rfl (lv_room (Nat.le_of_ble_eq_true rfl)) dX6_wayOn_6 ⟨Nat.le_of_ble_eq_true rfl, Nat.le_of_ble_eq_true rfl⟩) (fun u105 H locs hw106 hP hD hS => ?_)
  refine W.widen (k := 0) (n := 0) (Nat.le_of_ble_eq_true rfl) (Nat.le_of_ble_eq_true rfl) ?_
  have hP : va_P G vwCl [(h0, .inr (6, fs)), (pa, .inr (2, ps))] H := hP
  have hD : va_D A [(h0, .inr (6, fs)), (pa, .inr (2, ps))] := hD
  refine lv_aload_n hx hb dX6_wayOn_9 rfl (lv_at hl 0 rfl) ?_
  refine lv_dup hx hb dX6_wayOn_10 rfl ?_
  refine va_get (D := G) (ci := 6) (v := .int 13) (C := RX6) (T := TX6) (N := 20) hx hb hT ku_6 hown hK hP 0 rfl rfl 0 (by decide) (hT _ kw_8_2) (fun _ h9 => h9) (fh_at hf 1 rfl) dX6_wayOn_11 ?_
  refine lv_iconst (v := 1) hx hb dX6_wayOn_14 (by decide) ?_
  refine lv_iadd hx hb dX6_wayOn_15 ?_
  refine tq_i (w := 14) (by decide) ?_
  refine va_put (D := G) (ci := 6) (v := .int 14) (ty := .int) (C := RX6) (T := TX6) (N := 20) hx hb hT ku_6 tyX6 tyX6_ok nmX6 hown hK hP hD hS 0 rfl rfl 0 (by decide) (hT _ kw_8_2) (fun _ h9 => h9) rfl (by decide +kernel) rfl rfl (fh_lt hf (by decide)) dX6_wayOn_16 (fun H locs hP hD hS => ?_)
  have hP : va_P G vwCl [(h0, .inr (6, (fs.set 0 (.int 14)))), (pa, .inr (2, ps))] H := hP
  have hD : va_D A [(h0, .inr (6, (fs.set 0 (.int 14)))), (pa, .inr (2, ps))] := hD
  have hf := fh_set (l' := [(0, .int 14), (19, .ref pa)]) hf 0 (.int 14) (by decide) rfl
  have ho108 := fo_set ho_hf 0 (.int 14)
  generalize (fs.set 0 (.int 14)) = fs107 at hP hD hf ho108
  have qho108 := fo_mono (k2 := [0]) ho108 (by decide)
  exact W.vret hx hb hr (fun t ht hW => ⟨⟨fs107, rfl, ⟨qho108, fh_sub hf [0] rfl⟩, by rw [ht]; exact hP, hD⟩, hS.F ht⟩) hS.2.2 dX6_wayOn_19

set_option maxHeartbeats 4000000 in
set_option maxRecDepth 100000 in
theorem c_X6_wayOn_14 (l : Launch) (G : va_G) (cA : Nat → ClassId) (sz : Nat) (h0 : Nat) (fs : List Value) (pa : Nat) (ps : List Value) (hf : fh fs 20 [(19, .ref pa), (0, .int 14)]) (hp : fh ps 19 [(0, .int 0), (1, .int 0), (2, .int 0)]) : Met l yX6_wayOn (.code yX6_wayOn cX6_wayOn 1 none :: T0) ({ frames := 1, cells := 0, slots := 0, locals := 23 }) (tqP G cA [.ref h0] [(h0, .inr (6, fs)), (pa, .inr (2, ps))] sz) (tqQv G cA (fun (u : List Value) => fo fs u [0] ∧ fh u 20 [(0, .int 15)]) (fun (u : List Value) => [(h0, .inr (6, u)), (pa, .inr (2, ps))]) (va_A [(h0, .inr (6, fs)), (pa, .inr (2, ps))] sz)) 0 0 (va_A [(h0, .inr (6, fs)), (pa, .inr (2, ps))] sz) := by
  refine Met.ofW (cc := cX6_wayOn) (maxL := 1) (ret := none) (by decide) rfl ?_
  intro p e s m args below meth c s₁ B hml hv
  obtain ⟨rfl, hsz, hP, hK, hD0, hN⟩ := hv
  have hx := B.exec
  have hb := B.bytes
  have hr := B.returns
  have hts := atoms_spec (ws := .code yX6_wayOn cX6_wayOn 1 none :: T0) B.pre
  have hT : ∀ w ∈ T0, w.before _ s = true := fun w h => hts w (List.mem_cons_of_mem _ h)
  have hown : s.vm.findClass RX6 = some m.cls := findClass_of_methodNamed B.named
  have hlocks := B.notSynchronized
  subst hsz
  have hD := hD0.self (sz := s.heap.size)
  generalize hAe : va_A [(h0, .inr (6, fs)), (pa, .inr (2, ps))] s.heap.size = A at hD ⊢
  have hA : ∀ q : Nat, s.heap.size ≤ q → A q := fun q h => by rw [← hAe]; exact Or.inr h
  have hS : va_S A s.heap s.heap [] := va_S.rf
  have hl := lv_entry ([.ref h0]) (n := 1) (Nat.le_of_ble_eq_true rfl)
  rw [lg_entry_eq]
  generalize (lg_sl ([.ref h0]) ++ List.replicate (1 - (lg_sl ([.ref h0])).length) Slot.unset).toArray = ls at hl ⊢
  have hl : lv_has ls 1 [(0, .ref h0)] := hl
  obtain ⟨H, hH⟩ : ∃ z, z = s.heap := ⟨_, rfl⟩
  rw [← hH] at hP
  have hS : va_S A s.heap H [] := by rw [hH]; exact hS
  suffices hgo : W p l e _ s m _ below meth c H [] 0 0 _ _ by rw [hH] at hgo; exact hgo
  have hO := hN.2.2.2.2
  have ho_hf := fo_refl fs
  have ho_hp := fo_refl ps
  refine lv_aload_n hx hb dX6_wayOn_0 rfl (lv_at hl 0 rfl) ?_
  refine tq_ci (wr := []) hP hD hS hA [0, 1] [] rfl rfl (by decide) (by decide) (va_runV (As := []) (rest := []) ⟨hx, hb, hml, hown, hT⟩ (c_X6_fallOff l G cA H.size h0 fs pa ps (fh_sub hf [0] rfl) (fh_sub hp [0, 1, 2] rfl)) (cwV 0 hT (tq_gV kw_42_11 kw_42_12 kw_42_13 kw_1_23 kw_42_14) rfl rfl rfl (by decide +kernel) ⟨Nat.le_of_ble_eq_true rfl, Nat.le_of_ble_eq_true rfl⟩) ⟨(tq_pre (isC := [0, 1]) hP hD hK hN rfl (by decide)).1, va_recv hK hP (ci := 6) (q0 := 0) rfl rfl, (tq_pre (isC := [0, 1]) hP hD hK hN rfl (by decide)).2⟩ rfl rfl hl.1 rfl (lv_room (Nat.le_of_ble_eq_true rfl)) dX6_wayOn_1 ⟨Nat.le_of_ble_eq_true rfl, Nat.le_of_ble_eq_true rfl⟩) (fun r101 u102 H locs hw103 hP hD hS => ?_)
  refine W.widen (k := 0) (n := 0) (Nat.le_of_ble_eq_true rfl) (Nat.le_of_ble_eq_true rfl) ?_
  have hr104 := hw103
  subst hr104
  have hP : va_P G vwCl [(h0, .inr (6, fs)), (pa, .inr (2, ps))] H := hP
  have hD : va_D A [(h0, .inr (6, fs)), (pa, .inr (2, ps))] := hD
  refine lv_pop hx hb dX6_wayOn_4 rfl ?_
  refine lv_aload_n hx hb dX6_wayOn_5 rfl (lv_at hl 0 rfl) ?_
  refine tq_cv (wr := []) hP hD hS hA [0, 1] [] rfl rfl (by decide) (by decide) (va_runV (As := []) (rest := []) ⟨hx, hb, hml, hown, hT⟩ (c_X6_stealAway l G cA H.size h0 fs pa ps (fh_sub hf [0] rfl) (fh_sub hp [0, 1, 2] rfl)) (cwV 0 hT (tq_gV kw_43_6 kw_43_7 kw_43_8 kw_1_23 kw_43_9) rfl rfl rfl (by decide +kernel) ⟨Nat.le_of_ble_eq_true rfl, Nat.le_of_ble_eq_true rfl⟩) ⟨(tq_pre (isC := [0, 1]) hP hD hK hN rfl (by decide)).1, va_recv hK hP (ci := 6) (q0 := 0) rfl rfl, (tq_pre (isC := [0, 1]) hP hD hK hN rfl (by decide)).2⟩ rfl rfl hl.1 rfl (lv_room (Nat.le_of_ble_eq_true rfl)) dX6_wayOn_6 ⟨Nat.le_of_ble_eq_true rfl, Nat.le_of_ble_eq_true rfl⟩) (fun u105 H locs hw106 hP hD hS => ?_)
  refine W.widen (k := 0) (n := 0) (Nat.le_of_ble_eq_true rfl) (Nat.le_of_ble_eq_true rfl) ?_
  have hP : va_P G vwCl [(h0, .inr (6, fs)), (pa, .inr (2, ps))] H := hP
  have hD : va_D A [(h0, .inr (6, fs)), (pa, .inr (2, ps))] := hD
  refine lv_aload_n hx hb dX6_wayOn_9 rfl (lv_at hl 0 rfl) ?_
  refine lv_dup hx hb dX6_wayOn_10 rfl ?_
  refine va_get (D := G) (ci := 6) (v := .int 14) (C := RX6) (T := TX6) (N := 20) hx hb hT ku_6 hown hK hP 0 rfl rfl 0 (by decide) (hT _ kw_8_2) (fun _ h9 => h9) (fh_at hf 1 rfl) dX6_wayOn_11 ?_
  refine lv_iconst (v := 1) hx hb dX6_wayOn_14 (by decide) ?_
  refine lv_iadd hx hb dX6_wayOn_15 ?_
  refine tq_i (w := 15) (by decide) ?_
  refine va_put (D := G) (ci := 6) (v := .int 15) (ty := .int) (C := RX6) (T := TX6) (N := 20) hx hb hT ku_6 tyX6 tyX6_ok nmX6 hown hK hP hD hS 0 rfl rfl 0 (by decide) (hT _ kw_8_2) (fun _ h9 => h9) rfl (by decide +kernel) rfl rfl (fh_lt hf (by decide)) dX6_wayOn_16 (fun H locs hP hD hS => ?_)
  have hP : va_P G vwCl [(h0, .inr (6, (fs.set 0 (.int 15)))), (pa, .inr (2, ps))] H := hP
  have hD : va_D A [(h0, .inr (6, (fs.set 0 (.int 15)))), (pa, .inr (2, ps))] := hD
  have hf := fh_set (l' := [(0, .int 15), (19, .ref pa)]) hf 0 (.int 15) (by decide) rfl
  have ho108 := fo_set ho_hf 0 (.int 15)
  generalize (fs.set 0 (.int 15)) = fs107 at hP hD hf ho108
  have qho108 := fo_mono (k2 := [0]) ho108 (by decide)
  exact W.vret hx hb hr (fun t ht hW => ⟨⟨fs107, rfl, ⟨qho108, fh_sub hf [0] rfl⟩, by rw [ht]; exact hP, hD⟩, hS.F ht⟩) hS.2.2 dX6_wayOn_19

set_option maxHeartbeats 4000000 in
set_option maxRecDepth 100000 in
theorem c_X6_wayOn_15 (l : Launch) (G : va_G) (cA : Nat → ClassId) (sz : Nat) (h0 : Nat) (fs : List Value) (pa : Nat) (ps : List Value) (hf : fh fs 20 [(19, .ref pa), (0, .int 15)]) (hp : fh ps 19 [(0, .int 0), (1, .int 0), (2, .int 0)]) : Met l yX6_wayOn (.code yX6_wayOn cX6_wayOn 1 none :: T0) ({ frames := 1, cells := 0, slots := 0, locals := 23 }) (tqP G cA [.ref h0] [(h0, .inr (6, fs)), (pa, .inr (2, ps))] sz) (tqQv G cA (fun (u : List Value) => fo fs u [0] ∧ fh u 20 [(0, .int 16)]) (fun (u : List Value) => [(h0, .inr (6, u)), (pa, .inr (2, ps))]) (va_A [(h0, .inr (6, fs)), (pa, .inr (2, ps))] sz)) 0 0 (va_A [(h0, .inr (6, fs)), (pa, .inr (2, ps))] sz) := by
  refine Met.ofW (cc := cX6_wayOn) (maxL := 1) (ret := none) (by decide) rfl ?_
  intro p e s m args below meth c s₁ B hml hv
  obtain ⟨rfl, hsz, hP, hK, hD0, hN⟩ := hv
  have hx := B.exec
  have hb := B.bytes
  have hr := B.returns
  have hts := atoms_spec (ws := .code yX6_wayOn cX6_wayOn 1 none :: T0) B.pre
  have hT : ∀ w ∈ T0, w.before _ s = true := fun w h => hts w (List.mem_cons_of_mem _ h)
  have hown : s.vm.findClass RX6 = some m.cls := findClass_of_methodNamed B.named
  have hlocks := B.notSynchronized
  subst hsz
  have hD := hD0.self (sz := s.heap.size)
  generalize hAe : va_A [(h0, .inr (6, fs)), (pa, .inr (2, ps))] s.heap.size = A at hD ⊢
  have hA : ∀ q : Nat, s.heap.size ≤ q → A q := fun q h => by rw [← hAe]; exact Or.inr h
  have hS : va_S A s.heap s.heap [] := va_S.rf
  have hl := lv_entry ([.ref h0]) (n := 1) (Nat.le_of_ble_eq_true rfl)
  rw [lg_entry_eq]
  generalize (lg_sl ([.ref h0]) ++ List.replicate (1 - (lg_sl ([.ref h0])).length) Slot.unset).toArray = ls at hl ⊢
  have hl : lv_has ls 1 [(0, .ref h0)] := hl
  obtain ⟨H, hH⟩ : ∃ z, z = s.heap := ⟨_, rfl⟩
  rw [← hH] at hP
  have hS : va_S A s.heap H [] := by rw [hH]; exact hS
  suffices hgo : W p l e _ s m _ below meth c H [] 0 0 _ _ by rw [hH] at hgo; exact hgo
  have hO := hN.2.2.2.2
  have ho_hf := fo_refl fs
  have ho_hp := fo_refl ps
  refine lv_aload_n hx hb dX6_wayOn_0 rfl (lv_at hl 0 rfl) ?_
  refine tq_ci (wr := []) hP hD hS hA [0, 1] [] rfl rfl (by decide) (by decide) (va_runV (As := []) (rest := []) ⟨hx, hb, hml, hown, hT⟩ (c_X6_fallOff l G cA H.size h0 fs pa ps (fh_sub hf [0] rfl) (fh_sub hp [0, 1, 2] rfl)) (cwV 0 hT (tq_gV kw_42_11 kw_42_12 kw_42_13 kw_1_23 kw_42_14) rfl rfl rfl (by decide +kernel) ⟨Nat.le_of_ble_eq_true rfl, Nat.le_of_ble_eq_true rfl⟩) ⟨(tq_pre (isC := [0, 1]) hP hD hK hN rfl (by decide)).1, va_recv hK hP (ci := 6) (q0 := 0) rfl rfl, (tq_pre (isC := [0, 1]) hP hD hK hN rfl (by decide)).2⟩ rfl rfl hl.1 rfl (lv_room (Nat.le_of_ble_eq_true rfl)) dX6_wayOn_1 ⟨Nat.le_of_ble_eq_true rfl, Nat.le_of_ble_eq_true rfl⟩) (fun r101 u102 H locs hw103 hP hD hS => ?_)
  refine W.widen (k := 0) (n := 0) (Nat.le_of_ble_eq_true rfl) (Nat.le_of_ble_eq_true rfl) ?_
  have hr104 := hw103
  subst hr104
  have hP : va_P G vwCl [(h0, .inr (6, fs)), (pa, .inr (2, ps))] H := hP
  have hD : va_D A [(h0, .inr (6, fs)), (pa, .inr (2, ps))] := hD
  refine lv_pop hx hb dX6_wayOn_4 rfl ?_
  refine lv_aload_n hx hb dX6_wayOn_5 rfl (lv_at hl 0 rfl) ?_
  refine tq_cv (wr := []) hP hD hS hA [0, 1] [] rfl rfl (by decide) (by decide) (va_runV (As := []) (rest := []) ⟨hx, hb, hml, hown, hT⟩ (c_X6_stealAway l G cA H.size h0 fs pa ps (fh_sub hf [0] rfl) (fh_sub hp [0, 1, 2] rfl)) (cwV 0 hT (tq_gV kw_43_6 kw_43_7 kw_43_8 kw_1_23 kw_43_9) rfl rfl rfl (by decide +kernel) ⟨Nat.le_of_ble_eq_true rfl, Nat.le_of_ble_eq_true rfl⟩) ⟨(tq_pre (isC := [0, 1]) hP hD hK hN rfl (by decide)).1, va_recv hK hP (ci := 6) (q0 := 0) rfl rfl, (tq_pre (isC := [0, 1]) hP hD hK hN rfl (by decide)).2⟩ rfl rfl hl.1 rfl (lv_room (Nat.le_of_ble_eq_true rfl)) dX6_wayOn_6 ⟨Nat.le_of_ble_eq_true rfl, Nat.le_of_ble_eq_true rfl⟩) (fun u105 H locs hw106 hP hD hS => ?_)
  refine W.widen (k := 0) (n := 0) (Nat.le_of_ble_eq_true rfl) (Nat.le_of_ble_eq_true rfl) ?_
  have hP : va_P G vwCl [(h0, .inr (6, fs)), (pa, .inr (2, ps))] H := hP
  have hD : va_D A [(h0, .inr (6, fs)), (pa, .inr (2, ps))] := hD
  refine lv_aload_n hx hb dX6_wayOn_9 rfl (lv_at hl 0 rfl) ?_
  refine lv_dup hx hb dX6_wayOn_10 rfl ?_
  refine va_get (D := G) (ci := 6) (v := .int 15) (C := RX6) (T := TX6) (N := 20) hx hb hT ku_6 hown hK hP 0 rfl rfl 0 (by decide) (hT _ kw_8_2) (fun _ h9 => h9) (fh_at hf 1 rfl) dX6_wayOn_11 ?_
  refine lv_iconst (v := 1) hx hb dX6_wayOn_14 (by decide) ?_
  refine lv_iadd hx hb dX6_wayOn_15 ?_
  refine tq_i (w := 16) (by decide) ?_
  refine va_put (D := G) (ci := 6) (v := .int 16) (ty := .int) (C := RX6) (T := TX6) (N := 20) hx hb hT ku_6 tyX6 tyX6_ok nmX6 hown hK hP hD hS 0 rfl rfl 0 (by decide) (hT _ kw_8_2) (fun _ h9 => h9) rfl (by decide +kernel) rfl rfl (fh_lt hf (by decide)) dX6_wayOn_16 (fun H locs hP hD hS => ?_)
  have hP : va_P G vwCl [(h0, .inr (6, (fs.set 0 (.int 16)))), (pa, .inr (2, ps))] H := hP
  have hD : va_D A [(h0, .inr (6, (fs.set 0 (.int 16)))), (pa, .inr (2, ps))] := hD
  have hf := fh_set (l' := [(0, .int 16), (19, .ref pa)]) hf 0 (.int 16) (by decide) rfl
  have ho108 := fo_set ho_hf 0 (.int 16)
  generalize (fs.set 0 (.int 16)) = fs107 at hP hD hf ho108
  have qho108 := fo_mono (k2 := [0]) ho108 (by decide)
  exact W.vret hx hb hr (fun t ht hW => ⟨⟨fs107, rfl, ⟨qho108, fh_sub hf [0] rfl⟩, by rw [ht]; exact hP, hD⟩, hS.F ht⟩) hS.2.2 dX6_wayOn_19

set_option maxHeartbeats 4000000 in
set_option maxRecDepth 100000 in
theorem c_X6_wayOn_16 (l : Launch) (G : va_G) (cA : Nat → ClassId) (sz : Nat) (h0 : Nat) (fs : List Value) (pa : Nat) (ps : List Value) (hf : fh fs 20 [(19, .ref pa), (0, .int 16)]) (hp : fh ps 19 [(0, .int 0), (1, .int 0), (2, .int 0)]) : Met l yX6_wayOn (.code yX6_wayOn cX6_wayOn 1 none :: T0) ({ frames := 1, cells := 0, slots := 0, locals := 23 }) (tqP G cA [.ref h0] [(h0, .inr (6, fs)), (pa, .inr (2, ps))] sz) (tqQv G cA (fun (u : List Value) => fo fs u [0] ∧ fh u 20 [(0, .int 17)]) (fun (u : List Value) => [(h0, .inr (6, u)), (pa, .inr (2, ps))]) (va_A [(h0, .inr (6, fs)), (pa, .inr (2, ps))] sz)) 0 0 (va_A [(h0, .inr (6, fs)), (pa, .inr (2, ps))] sz) := by
  refine Met.ofW (cc := cX6_wayOn) (maxL := 1) (ret := none) (by decide) rfl ?_
  intro p e s m args below meth c s₁ B hml hv
  obtain ⟨rfl, hsz, hP, hK, hD0, hN⟩ := hv
  have hx := B.exec
  have hb := B.bytes
  have hr := B.returns
  have hts := atoms_spec (ws := .code yX6_wayOn cX6_wayOn 1 none :: T0) B.pre
  have hT : ∀ w ∈ T0, w.before _ s = true := fun w h => hts w (List.mem_cons_of_mem _ h)
  have hown : s.vm.findClass RX6 = some m.cls := findClass_of_methodNamed B.named
  have hlocks := B.notSynchronized
  subst hsz
  have hD := hD0.self (sz := s.heap.size)
  generalize hAe : va_A [(h0, .inr (6, fs)), (pa, .inr (2, ps))] s.heap.size = A at hD ⊢
  have hA : ∀ q : Nat, s.heap.size ≤ q → A q := fun q h => by rw [← hAe]; exact Or.inr h
  have hS : va_S A s.heap s.heap [] := va_S.rf
  have hl := lv_entry ([.ref h0]) (n := 1) (Nat.le_of_ble_eq_true rfl)
  rw [lg_entry_eq]
  generalize (lg_sl ([.ref h0]) ++ List.replicate (1 - (lg_sl ([.ref h0])).length) Slot.unset).toArray = ls at hl ⊢
  have hl : lv_has ls 1 [(0, .ref h0)] := hl
  obtain ⟨H, hH⟩ : ∃ z, z = s.heap := ⟨_, rfl⟩
  rw [← hH] at hP
  have hS : va_S A s.heap H [] := by rw [hH]; exact hS
  suffices hgo : W p l e _ s m _ below meth c H [] 0 0 _ _ by rw [hH] at hgo; exact hgo
  have hO := hN.2.2.2.2
  have ho_hf := fo_refl fs
  have ho_hp := fo_refl ps
  refine lv_aload_n hx hb dX6_wayOn_0 rfl (lv_at hl 0 rfl) ?_
  refine tq_ci (wr := []) hP hD hS hA [0, 1] [] rfl rfl (by decide) (by decide) (va_runV (As := []) (rest := []) ⟨hx, hb, hml, hown, hT⟩ (c_X6_fallOff l G cA H.size h0 fs pa ps (fh_sub hf [0] rfl) (fh_sub hp [0, 1, 2] rfl)) (cwV 0 hT (tq_gV kw_42_11 kw_42_12 kw_42_13 kw_1_23 kw_42_14) rfl rfl rfl (by decide +kernel) ⟨Nat.le_of_ble_eq_true rfl, Nat.le_of_ble_eq_true rfl⟩) ⟨(tq_pre (isC := [0, 1]) hP hD hK hN rfl (by decide)).1, va_recv hK hP (ci := 6) (q0 := 0) rfl rfl, (tq_pre (isC := [0, 1]) hP hD hK hN rfl (by decide)).2⟩ rfl rfl hl.1 rfl (lv_room (Nat.le_of_ble_eq_true rfl)) dX6_wayOn_1 ⟨Nat.le_of_ble_eq_true rfl, Nat.le_of_ble_eq_true rfl⟩) (fun r101 u102 H locs hw103 hP hD hS => ?_)
  refine W.widen (k := 0) (n := 0) (Nat.le_of_ble_eq_true rfl) (Nat.le_of_ble_eq_true rfl) ?_
  have hr104 := hw103
  subst hr104
  have hP : va_P G vwCl [(h0, .inr (6, fs)), (pa, .inr (2, ps))] H := hP
  have hD : va_D A [(h0, .inr (6, fs)), (pa, .inr (2, ps))] := hD
  refine lv_pop hx hb dX6_wayOn_4 rfl ?_
  refine lv_aload_n hx hb dX6_wayOn_5 rfl (lv_at hl 0 rfl) ?_
  refine tq_cv (wr := []) hP hD hS hA [0, 1] [] rfl rfl (by decide) (by decide) (va_runV (As := []) (rest := []) ⟨hx, hb, hml, hown, hT⟩ (c_X6_stealAway l G cA H.size h0 fs pa ps (fh_sub hf [0] rfl) (fh_sub hp [0, 1, 2] rfl)) (cwV 0 hT (tq_gV kw_43_6 kw_43_7 kw_43_8 kw_1_23 kw_43_9) rfl rfl rfl (by decide +kernel) ⟨Nat.le_of_ble_eq_true rfl, Nat.le_of_ble_eq_true rfl⟩) ⟨(tq_pre (isC := [0, 1]) hP hD hK hN rfl (by decide)).1, va_recv hK hP (ci := 6) (q0 := 0) rfl rfl, (tq_pre (isC := [0, 1]) hP hD hK hN rfl (by decide)).2⟩ rfl rfl hl.1 rfl (lv_room (Nat.le_of_ble_eq_true rfl)) dX6_wayOn_6 ⟨Nat.le_of_ble_eq_true rfl, Nat.le_of_ble_eq_true rfl⟩) (fun u105 H locs hw106 hP hD hS => ?_)
  refine W.widen (k := 0) (n := 0) (Nat.le_of_ble_eq_true rfl) (Nat.le_of_ble_eq_true rfl) ?_
  have hP : va_P G vwCl [(h0, .inr (6, fs)), (pa, .inr (2, ps))] H := hP
  have hD : va_D A [(h0, .inr (6, fs)), (pa, .inr (2, ps))] := hD
  refine lv_aload_n hx hb dX6_wayOn_9 rfl (lv_at hl 0 rfl) ?_
  refine lv_dup hx hb dX6_wayOn_10 rfl ?_
  refine va_get (D := G) (ci := 6) (v := .int 16) (C := RX6) (T := TX6) (N := 20) hx hb hT ku_6 hown hK hP 0 rfl rfl 0 (by decide) (hT _ kw_8_2) (fun _ h9 => h9) (fh_at hf 1 rfl) dX6_wayOn_11 ?_
  refine lv_iconst (v := 1) hx hb dX6_wayOn_14 (by decide) ?_
  refine lv_iadd hx hb dX6_wayOn_15 ?_
  refine tq_i (w := 17) (by decide) ?_
  refine va_put (D := G) (ci := 6) (v := .int 17) (ty := .int) (C := RX6) (T := TX6) (N := 20) hx hb hT ku_6 tyX6 tyX6_ok nmX6 hown hK hP hD hS 0 rfl rfl 0 (by decide) (hT _ kw_8_2) (fun _ h9 => h9) rfl (by decide +kernel) rfl rfl (fh_lt hf (by decide)) dX6_wayOn_16 (fun H locs hP hD hS => ?_)
  have hP : va_P G vwCl [(h0, .inr (6, (fs.set 0 (.int 17)))), (pa, .inr (2, ps))] H := hP
  have hD : va_D A [(h0, .inr (6, (fs.set 0 (.int 17)))), (pa, .inr (2, ps))] := hD
  have hf := fh_set (l' := [(0, .int 17), (19, .ref pa)]) hf 0 (.int 17) (by decide) rfl
  have ho108 := fo_set ho_hf 0 (.int 17)
  generalize (fs.set 0 (.int 17)) = fs107 at hP hD hf ho108
  have qho108 := fo_mono (k2 := [0]) ho108 (by decide)
  exact W.vret hx hb hr (fun t ht hW => ⟨⟨fs107, rfl, ⟨qho108, fh_sub hf [0] rfl⟩, by rw [ht]; exact hP, hD⟩, hS.F ht⟩) hS.2.2 dX6_wayOn_19

set_option maxHeartbeats 4000000 in
set_option maxRecDepth 100000 in
theorem c_X6_wayOn_17 (l : Launch) (G : va_G) (cA : Nat → ClassId) (sz : Nat) (h0 : Nat) (fs : List Value) (pa : Nat) (ps : List Value) (hf : fh fs 20 [(19, .ref pa), (0, .int 17)]) (hp : fh ps 19 [(0, .int 0), (1, .int 0), (2, .int 0)]) : Met l yX6_wayOn (.code yX6_wayOn cX6_wayOn 1 none :: T0) ({ frames := 1, cells := 0, slots := 0, locals := 23 }) (tqP G cA [.ref h0] [(h0, .inr (6, fs)), (pa, .inr (2, ps))] sz) (tqQv G cA (fun (u : List Value) => fo fs u [0] ∧ fh u 20 [(0, .int 18)]) (fun (u : List Value) => [(h0, .inr (6, u)), (pa, .inr (2, ps))]) (va_A [(h0, .inr (6, fs)), (pa, .inr (2, ps))] sz)) 0 0 (va_A [(h0, .inr (6, fs)), (pa, .inr (2, ps))] sz) := by
  refine Met.ofW (cc := cX6_wayOn) (maxL := 1) (ret := none) (by decide) rfl ?_
  intro p e s m args below meth c s₁ B hml hv
  obtain ⟨rfl, hsz, hP, hK, hD0, hN⟩ := hv
  have hx := B.exec
  have hb := B.bytes
  have hr := B.returns
  have hts := atoms_spec (ws := .code yX6_wayOn cX6_wayOn 1 none :: T0) B.pre
  have hT : ∀ w ∈ T0, w.before _ s = true := fun w h => hts w (List.mem_cons_of_mem _ h)
  have hown : s.vm.findClass RX6 = some m.cls := findClass_of_methodNamed B.named
  have hlocks := B.notSynchronized
  subst hsz
  have hD := hD0.self (sz := s.heap.size)
  generalize hAe : va_A [(h0, .inr (6, fs)), (pa, .inr (2, ps))] s.heap.size = A at hD ⊢
  have hA : ∀ q : Nat, s.heap.size ≤ q → A q := fun q h => by rw [← hAe]; exact Or.inr h
  have hS : va_S A s.heap s.heap [] := va_S.rf
  have hl := lv_entry ([.ref h0]) (n := 1) (Nat.le_of_ble_eq_true rfl)
  rw [lg_entry_eq]
  generalize (lg_sl ([.ref h0]) ++ List.replicate (1 - (lg_sl ([.ref h0])).length) Slot.unset).toArray = ls at hl ⊢
  have hl : lv_has ls 1 [(0, .ref h0)] := hl
  obtain ⟨H, hH⟩ : ∃ z, z = s.heap := ⟨_, rfl⟩
  rw [← hH] at hP
  have hS : va_S A s.heap H [] := by rw [hH]; exact hS
  suffices hgo : W p l e _ s m _ below meth c H [] 0 0 _ _ by rw [hH] at hgo; exact hgo
  have hO := hN.2.2.2.2
  have ho_hf := fo_refl fs
  have ho_hp := fo_refl ps
  refine lv_aload_n hx hb dX6_wayOn_0 rfl (lv_at hl 0 rfl) ?_
  refine tq_ci (wr := []) hP hD hS hA [0, 1] [] rfl rfl (by decide) (by decide) (va_runV (As := []) (rest := []) ⟨hx, hb, hml, hown, hT⟩ (c_X6_fallOff l G cA H.size h0 fs pa ps (fh_sub hf [0] rfl) (fh_sub hp [0, 1, 2] rfl)) (cwV 0 hT (tq_gV kw_42_11 kw_42_12 kw_42_13 kw_1_23 kw_42_14) rfl rfl rfl (by decide +kernel) ⟨Nat.le_of_ble_eq_true rfl, Nat.le_of_ble_eq_true rfl⟩) ⟨(tq_pre (isC := [0, 1]) hP hD hK hN rfl (by decide)).1, va_recv hK hP (ci := 6) (q0 := 0) rfl rfl, (tq_pre (isC := [0, 1]) hP hD hK hN rfl (by decide)).2⟩ rfl rfl hl.1 rfl (lv_room (Nat.le_of_ble_eq_true rfl)) dX6_wayOn_1 ⟨Nat.le_of_ble_eq_true rfl, Nat.le_of_ble_eq_true rfl⟩) (fun r101 u102 H locs hw103 hP hD hS => ?_)
  refine W.widen (k := 0) (n := 0) (Nat.le_of_ble_eq_true rfl) (Nat.le_of_ble_eq_true rfl) ?_
  have hr104 := hw103
  subst hr104
  have hP : va_P G vwCl [(h0, .inr (6, fs)), (pa, .inr (2, ps))] H := hP
  have hD : va_D A [(h0, .inr (6, fs)), (pa, .inr (2, ps))] := hD
  refine lv_pop hx hb dX6_wayOn_4 rfl ?_
  refine lv_aload_n hx hb dX6_wayOn_5 rfl (lv_at hl 0 rfl) ?_
  refine tq_cv (wr := []) hP hD hS hA [0, 1] [] rfl rfl (by decide) (by decide) (va_runV (As := []) (rest := []) ⟨hx, hb, hml, hown, hT⟩ (c_X6_stealAway l G cA H.size h0 fs pa ps (fh_sub hf [0] rfl) (fh_sub hp [0, 1, 2] rfl)) (cwV 0 hT (tq_gV kw_43_6 kw_43_7 kw_43_8 kw_1_23 kw_43_9) rfl rfl rfl (by decide +kernel) ⟨Nat.le_of_ble_eq_true rfl, Nat.le_of_ble_eq_true rfl⟩) ⟨(tq_pre (isC := [0, 1]) hP hD hK hN rfl (by decide)).1, va_recv hK hP (ci := 6) (q0 := 0) rfl rfl, (tq_pre (isC := [0, 1]) hP hD hK hN rfl (by decide)).2⟩ rfl rfl hl.1 rfl (lv_room (Nat.le_of_ble_eq_true rfl)) dX6_wayOn_6 ⟨Nat.le_of_ble_eq_true rfl, Nat.le_of_ble_eq_true rfl⟩) (fun u105 H locs hw106 hP hD hS => ?_)
  refine W.widen (k := 0) (n := 0) (Nat.le_of_ble_eq_true rfl) (Nat.le_of_ble_eq_true rfl) ?_
  have hP : va_P G vwCl [(h0, .inr (6, fs)), (pa, .inr (2, ps))] H := hP
  have hD : va_D A [(h0, .inr (6, fs)), (pa, .inr (2, ps))] := hD
  refine lv_aload_n hx hb dX6_wayOn_9 rfl (lv_at hl 0 rfl) ?_
  refine lv_dup hx hb dX6_wayOn_10 rfl ?_
  refine va_get (D := G) (ci := 6) (v := .int 17) (C := RX6) (T := TX6) (N := 20) hx hb hT ku_6 hown hK hP 0 rfl rfl 0 (by decide) (hT _ kw_8_2) (fun _ h9 => h9) (fh_at hf 1 rfl) dX6_wayOn_11 ?_
  refine lv_iconst (v := 1) hx hb dX6_wayOn_14 (by decide) ?_
  refine lv_iadd hx hb dX6_wayOn_15 ?_
  refine tq_i (w := 18) (by decide) ?_
  refine va_put (D := G) (ci := 6) (v := .int 18) (ty := .int) (C := RX6) (T := TX6) (N := 20) hx hb hT ku_6 tyX6 tyX6_ok nmX6 hown hK hP hD hS 0 rfl rfl 0 (by decide) (hT _ kw_8_2) (fun _ h9 => h9) rfl (by decide +kernel) rfl rfl (fh_lt hf (by decide)) dX6_wayOn_16 (fun H locs hP hD hS => ?_)
  have hP : va_P G vwCl [(h0, .inr (6, (fs.set 0 (.int 18)))), (pa, .inr (2, ps))] H := hP
  have hD : va_D A [(h0, .inr (6, (fs.set 0 (.int 18)))), (pa, .inr (2, ps))] := hD
  have hf := fh_set (l' := [(0, .int 18), (19, .ref pa)]) hf 0 (.int 18) (by decide) rfl
  have ho108 := fo_set ho_hf 0 (.int 18)
  generalize (fs.set 0 (.int 18)) = fs107 at hP hD hf ho108
  have qho108 := fo_mono (k2 := [0]) ho108 (by decide)
  exact W.vret hx hb hr (fun t ht hW => ⟨⟨fs107, rfl, ⟨qho108, fh_sub hf [0] rfl⟩, by rw [ht]; exact hP, hD⟩, hS.F ht⟩) hS.2.2 dX6_wayOn_19

set_option maxHeartbeats 4000000 in
set_option maxRecDepth 100000 in
theorem c_X6_wayOn_18 (l : Launch) (G : va_G) (cA : Nat → ClassId) (sz : Nat) (h0 : Nat) (fs : List Value) (pa : Nat) (ps : List Value) (hf : fh fs 20 [(19, .ref pa), (0, .int 18)]) (hp : fh ps 19 [(0, .int 0), (1, .int 0), (2, .int 0)]) : Met l yX6_wayOn (.code yX6_wayOn cX6_wayOn 1 none :: T0) ({ frames := 1, cells := 0, slots := 0, locals := 23 }) (tqP G cA [.ref h0] [(h0, .inr (6, fs)), (pa, .inr (2, ps))] sz) (tqQv G cA (fun (u : List Value) => fo fs u [0] ∧ fh u 20 [(0, .int 19)]) (fun (u : List Value) => [(h0, .inr (6, u)), (pa, .inr (2, ps))]) (va_A [(h0, .inr (6, fs)), (pa, .inr (2, ps))] sz)) 0 0 (va_A [(h0, .inr (6, fs)), (pa, .inr (2, ps))] sz) := by
  refine Met.ofW (cc := cX6_wayOn) (maxL := 1) (ret := none) (by decide) rfl ?_
  intro p e s m args below meth c s₁ B hml hv
  obtain ⟨rfl, hsz, hP, hK, hD0, hN⟩ := hv
  have hx := B.exec
  have hb := B.bytes
  have hr := B.returns
  have hts := atoms_spec (ws := .code yX6_wayOn cX6_wayOn 1 none :: T0) B.pre
  have hT : ∀ w ∈ T0, w.before _ s = true := fun w h => hts w (List.mem_cons_of_mem _ h)
  have hown : s.vm.findClass RX6 = some m.cls := findClass_of_methodNamed B.named
  have hlocks := B.notSynchronized
  subst hsz
  have hD := hD0.self (sz := s.heap.size)
  generalize hAe : va_A [(h0, .inr (6, fs)), (pa, .inr (2, ps))] s.heap.size = A at hD ⊢
  have hA : ∀ q : Nat, s.heap.size ≤ q → A q := fun q h => by rw [← hAe]; exact Or.inr h
  have hS : va_S A s.heap s.heap [] := va_S.rf
  have hl := lv_entry ([.ref h0]) (n := 1) (Nat.le_of_ble_eq_true rfl)
  rw [lg_entry_eq]
  generalize (lg_sl ([.ref h0]) ++ List.replicate (1 - (lg_sl ([.ref h0])).length) Slot.unset).toArray = ls at hl ⊢
  have hl : lv_has ls 1 [(0, .ref h0)] := hl
  obtain ⟨H, hH⟩ : ∃ z, z = s.heap := ⟨_, rfl⟩
  rw [← hH] at hP
  have hS : va_S A s.heap H [] := by rw [hH]; exact hS
  suffices hgo : W p l e _ s m _ below meth c H [] 0 0 _ _ by rw [hH] at hgo; exact hgo
  have hO := hN.2.2.2.2
  have ho_hf := fo_refl fs
  have ho_hp := fo_refl ps
  refine lv_aload_n hx hb dX6_wayOn_0 rfl (lv_at hl 0 rfl) ?_
  refine tq_ci (wr := []) hP hD hS hA [0, 1] [] rfl rfl (by decide) (by decide) (va_runV (As := []) (rest := []) ⟨hx, hb, hml, hown, hT⟩ (c_X6_fallOff l G cA H.size h0 fs pa ps (fh_sub hf [0] rfl) (fh_sub hp [0, 1, 2] rfl)) (cwV 0 hT (tq_gV kw_42_11 kw_42_12 kw_42_13 kw_1_23 kw_42_14) rfl rfl rfl (by decide +kernel) ⟨Nat.le_of_ble_eq_true rfl, Nat.le_of_ble_eq_true rfl⟩) ⟨(tq_pre (isC := [0, 1]) hP hD hK hN rfl (by decide)).1, va_recv hK hP (ci := 6) (q0 := 0) rfl rfl, (tq_pre (isC := [0, 1]) hP hD hK hN rfl (by decide)).2⟩ rfl rfl hl.1 rfl (lv_room (Nat.le_of_ble_eq_true rfl)) dX6_wayOn_1 ⟨Nat.le_of_ble_eq_true rfl, Nat.le_of_ble_eq_true rfl⟩) (fun r101 u102 H locs hw103 hP hD hS => ?_)
  refine W.widen (k := 0) (n := 0) (Nat.le_of_ble_eq_true rfl) (Nat.le_of_ble_eq_true rfl) ?_
  have hr104 := hw103
  subst hr104
  have hP : va_P G vwCl [(h0, .inr (6, fs)), (pa, .inr (2, ps))] H := hP
  have hD : va_D A [(h0, .inr (6, fs)), (pa, .inr (2, ps))] := hD
  refine lv_pop hx hb dX6_wayOn_4 rfl ?_
  refine lv_aload_n hx hb dX6_wayOn_5 rfl (lv_at hl 0 rfl) ?_
  refine tq_cv (wr := []) hP hD hS hA [0, 1] [] rfl rfl (by decide) (by decide) (va_runV (As := []) (rest := []) ⟨hx, hb, hml, hown, hT⟩ (c_X6_stealAway l G cA H.size h0 fs pa ps (fh_sub hf [0] rfl) (fh_sub hp [0, 1, 2] rfl)) (cwV 0 hT (tq_gV kw_43_6 kw_43_7 kw_43_8 kw_1_23 kw_43_9) rfl rfl rfl (by decide +kernel) ⟨Nat.le_of_ble_eq_true rfl, Nat.le_of_ble_eq_true rfl⟩) ⟨(tq_pre (isC := [0, 1]) hP hD hK hN rfl (by decide)).1, va_recv hK hP (ci := 6) (q0 := 0) rfl rfl, (tq_pre (isC := [0, 1]) hP hD hK hN rfl (by decide)).2⟩ rfl rfl hl.1 rfl (lv_room (Nat.le_of_ble_eq_true rfl)) dX6_wayOn_6 ⟨Nat.le_of_ble_eq_true rfl, Nat.le_of_ble_eq_true rfl⟩) (fun u105 H locs hw106 hP hD hS => ?_)
  refine W.widen (k := 0) (n := 0) (Nat.le_of_ble_eq_true rfl) (Nat.le_of_ble_eq_true rfl) ?_
  have hP : va_P G vwCl [(h0, .inr (6, fs)), (pa, .inr (2, ps))] H := hP
  have hD : va_D A [(h0, .inr (6, fs)), (pa, .inr (2, ps))] := hD
  refine lv_aload_n hx hb dX6_wayOn_9 rfl (lv_at hl 0 rfl) ?_
  refine lv_dup hx hb dX6_wayOn_10 rfl ?_
  refine va_get (D := G) (ci := 6) (v := .int 18) (C := RX6) (T := TX6) (N := 20) hx hb hT ku_6 hown hK hP 0 rfl rfl 0 (by decide) (hT _ kw_8_2) (fun _ h9 => h9) (fh_at hf 1 rfl) dX6_wayOn_11 ?_
  refine lv_iconst (v := 1) hx hb dX6_wayOn_14 (by decide) ?_
  refine lv_iadd hx hb dX6_wayOn_15 ?_
  refine tq_i (w := 19) (by decide) ?_
  refine va_put (D := G) (ci := 6) (v := .int 19) (ty := .int) (C := RX6) (T := TX6) (N := 20) hx hb hT ku_6 tyX6 tyX6_ok nmX6 hown hK hP hD hS 0 rfl rfl 0 (by decide) (hT _ kw_8_2) (fun _ h9 => h9) rfl (by decide +kernel) rfl rfl (fh_lt hf (by decide)) dX6_wayOn_16 (fun H locs hP hD hS => ?_)
  have hP : va_P G vwCl [(h0, .inr (6, (fs.set 0 (.int 19)))), (pa, .inr (2, ps))] H := hP
  have hD : va_D A [(h0, .inr (6, (fs.set 0 (.int 19)))), (pa, .inr (2, ps))] := hD
  have hf := fh_set (l' := [(0, .int 19), (19, .ref pa)]) hf 0 (.int 19) (by decide) rfl
  have ho108 := fo_set ho_hf 0 (.int 19)
  generalize (fs.set 0 (.int 19)) = fs107 at hP hD hf ho108
  have qho108 := fo_mono (k2 := [0]) ho108 (by decide)
  exact W.vret hx hb hr (fun t ht hW => ⟨⟨fs107, rfl, ⟨qho108, fh_sub hf [0] rfl⟩, by rw [ht]; exact hP, hD⟩, hS.F ht⟩) hS.2.2 dX6_wayOn_19

set_option maxHeartbeats 4000000 in
set_option maxRecDepth 100000 in
theorem c_X6_wayOn_19 (l : Launch) (G : va_G) (cA : Nat → ClassId) (sz : Nat) (h0 : Nat) (fs : List Value) (pa : Nat) (ps : List Value) (hf : fh fs 20 [(19, .ref pa), (0, .int 19)]) (hp : fh ps 19 [(0, .int 0), (1, .int 0), (2, .int 0)]) : Met l yX6_wayOn (.code yX6_wayOn cX6_wayOn 1 none :: T0) ({ frames := 1, cells := 0, slots := 0, locals := 23 }) (tqP G cA [.ref h0] [(h0, .inr (6, fs)), (pa, .inr (2, ps))] sz) (tqQv G cA (fun (u : List Value) => fo fs u [0] ∧ fh u 20 [(0, .int 20)]) (fun (u : List Value) => [(h0, .inr (6, u)), (pa, .inr (2, ps))]) (va_A [(h0, .inr (6, fs)), (pa, .inr (2, ps))] sz)) 0 0 (va_A [(h0, .inr (6, fs)), (pa, .inr (2, ps))] sz) := by
  refine Met.ofW (cc := cX6_wayOn) (maxL := 1) (ret := none) (by decide) rfl ?_
  intro p e s m args below meth c s₁ B hml hv
  obtain ⟨rfl, hsz, hP, hK, hD0, hN⟩ := hv
  have hx := B.exec
  have hb := B.bytes
  have hr := B.returns
  have hts := atoms_spec (ws := .code yX6_wayOn cX6_wayOn 1 none :: T0) B.pre
  have hT : ∀ w ∈ T0, w.before _ s = true := fun w h => hts w (List.mem_cons_of_mem _ h)
  have hown : s.vm.findClass RX6 = some m.cls := findClass_of_methodNamed B.named
  have hlocks := B.notSynchronized
  subst hsz
  have hD := hD0.self (sz := s.heap.size)
  generalize hAe : va_A [(h0, .inr (6, fs)), (pa, .inr (2, ps))] s.heap.size = A at hD ⊢
  have hA : ∀ q : Nat, s.heap.size ≤ q → A q := fun q h => by rw [← hAe]; exact Or.inr h
  have hS : va_S A s.heap s.heap [] := va_S.rf
  have hl := lv_entry ([.ref h0]) (n := 1) (Nat.le_of_ble_eq_true rfl)
  rw [lg_entry_eq]
  generalize (lg_sl ([.ref h0]) ++ List.replicate (1 - (lg_sl ([.ref h0])).length) Slot.unset).toArray = ls at hl ⊢
  have hl : lv_has ls 1 [(0, .ref h0)] := hl
  obtain ⟨H, hH⟩ : ∃ z, z = s.heap := ⟨_, rfl⟩
  rw [← hH] at hP
  have hS : va_S A s.heap H [] := by rw [hH]; exact hS
  suffices hgo : W p l e _ s m _ below meth c H [] 0 0 _ _ by rw [hH] at hgo; exact hgo
  have hO := hN.2.2.2.2
  have ho_hf := fo_refl fs
  have ho_hp := fo_refl ps
  refine lv_aload_n hx hb dX6_wayOn_0 rfl (lv_at hl 0 rfl) ?_
  refine tq_ci (wr := []) hP hD hS hA [0, 1] [] rfl rfl (by decide) (by decide) (va_runV (As := []) (rest := []) ⟨hx, hb, hml, hown, hT⟩ (c_X6_fallOff l G cA H.size h0 fs pa ps (fh_sub hf [0] rfl) (fh_sub hp [0, 1, 2] rfl)) (cwV 0 hT (tq_gV kw_42_11 kw_42_12 kw_42_13 kw_1_23 kw_42_14) rfl rfl rfl (by decide +kernel) ⟨Nat.le_of_ble_eq_true rfl, Nat.le_of_ble_eq_true rfl⟩) ⟨(tq_pre (isC := [0, 1]) hP hD hK hN rfl (by decide)).1, va_recv hK hP (ci := 6) (q0 := 0) rfl rfl, (tq_pre (isC := [0, 1]) hP hD hK hN rfl (by decide)).2⟩ rfl rfl hl.1 rfl (lv_room (Nat.le_of_ble_eq_true rfl)) dX6_wayOn_1 ⟨Nat.le_of_ble_eq_true rfl, Nat.le_of_ble_eq_true rfl⟩) (fun r101 u102 H locs hw103 hP hD hS => ?_)
  refine W.widen (k := 0) (n := 0) (Nat.le_of_ble_eq_true rfl) (Nat.le_of_ble_eq_true rfl) ?_
  have hr104 := hw103
  subst hr104
  have hP : va_P G vwCl [(h0, .inr (6, fs)), (pa, .inr (2, ps))] H := hP
  have hD : va_D A [(h0, .inr (6, fs)), (pa, .inr (2, ps))] := hD
  refine lv_pop hx hb dX6_wayOn_4 rfl ?_
  refine lv_aload_n hx hb dX6_wayOn_5 rfl (lv_at hl 0 rfl) ?_
  refine tq_cv (wr := []) hP hD hS hA [0, 1] [] rfl rfl (by decide) (by decide) (va_runV (As := []) (rest := []) ⟨hx, hb, hml, hown, hT⟩ (c_X6_stealAway l G cA H.size h0 fs pa ps (fh_sub hf [0] rfl) (fh_sub hp [0, 1, 2] rfl)) (cwV 0 hT (tq_gV kw_43_6 kw_43_7 kw_43_8 kw_1_23 kw_43_9) rfl rfl rfl (by decide +kernel) ⟨Nat.le_of_ble_eq_true rfl, Nat.le_of_ble_eq_true rfl⟩) ⟨(tq_pre (isC := [0, 1]) hP hD hK hN rfl (by decide)).1, va_recv hK hP (ci := 6) (q0 := 0) rfl rfl, (tq_pre (isC := [0, 1]) hP hD hK hN rfl (by decide)).2⟩ rfl rfl hl.1 rfl (lv_room (Nat.le_of_ble_eq_true rfl)) dX6_wayOn_6 ⟨Nat.le_of_ble_eq_true rfl, Nat.le_of_ble_eq_true rfl⟩) (fun u105 H locs hw106 hP hD hS => ?_)
  refine W.widen (k := 0) (n := 0) (Nat.le_of_ble_eq_true rfl) (Nat.le_of_ble_eq_true rfl) ?_
  have hP : va_P G vwCl [(h0, .inr (6, fs)), (pa, .inr (2, ps))] H := hP
  have hD : va_D A [(h0, .inr (6, fs)), (pa, .inr (2, ps))] := hD
  refine lv_aload_n hx hb dX6_wayOn_9 rfl (lv_at hl 0 rfl) ?_
  refine lv_dup hx hb dX6_wayOn_10 rfl ?_
  refine va_get (D := G) (ci := 6) (v := .int 19) (C := RX6) (T := TX6) (N := 20) hx hb hT ku_6 hown hK hP 0 rfl rfl 0 (by decide) (hT _ kw_8_2) (fun _ h9 => h9) (fh_at hf 1 rfl) dX6_wayOn_11 ?_
  refine lv_iconst (v := 1) hx hb dX6_wayOn_14 (by decide) ?_
  refine lv_iadd hx hb dX6_wayOn_15 ?_
  refine tq_i (w := 20) (by decide) ?_
  refine va_put (D := G) (ci := 6) (v := .int 20) (ty := .int) (C := RX6) (T := TX6) (N := 20) hx hb hT ku_6 tyX6 tyX6_ok nmX6 hown hK hP hD hS 0 rfl rfl 0 (by decide) (hT _ kw_8_2) (fun _ h9 => h9) rfl (by decide +kernel) rfl rfl (fh_lt hf (by decide)) dX6_wayOn_16 (fun H locs hP hD hS => ?_)
  have hP : va_P G vwCl [(h0, .inr (6, (fs.set 0 (.int 20)))), (pa, .inr (2, ps))] H := hP
  have hD : va_D A [(h0, .inr (6, (fs.set 0 (.int 20)))), (pa, .inr (2, ps))] := hD
  have hf := fh_set (l' := [(0, .int 20), (19, .ref pa)]) hf 0 (.int 20) (by decide) rfl
  have ho108 := fo_set ho_hf 0 (.int 20)
  generalize (fs.set 0 (.int 20)) = fs107 at hP hD hf ho108
  have qho108 := fo_mono (k2 := [0]) ho108 (by decide)
  exact W.vret hx hb hr (fun t ht hW => ⟨⟨fs107, rfl, ⟨qho108, fh_sub hf [0] rfl⟩, by rw [ht]; exact hP, hD⟩, hS.F ht⟩) hS.2.2 dX6_wayOn_19

set_option maxHeartbeats 4000000 in
set_option maxRecDepth 100000 in
theorem c_X6_wayOn_20 (l : Launch) (G : va_G) (cA : Nat → ClassId) (sz : Nat) (h0 : Nat) (fs : List Value) (pa : Nat) (ps : List Value) (hf : fh fs 20 [(19, .ref pa), (0, .int 20)]) (hp : fh ps 19 [(0, .int 0), (1, .int 0), (2, .int 0)]) : Met l yX6_wayOn (.code yX6_wayOn cX6_wayOn 1 none :: T0) ({ frames := 1, cells := 0, slots := 0, locals := 23 }) (tqP G cA [.ref h0] [(h0, .inr (6, fs)), (pa, .inr (2, ps))] sz) (tqQv G cA (fun (u : List Value) => fo fs u [0] ∧ fh u 20 [(0, .int 21)]) (fun (u : List Value) => [(h0, .inr (6, u)), (pa, .inr (2, ps))]) (va_A [(h0, .inr (6, fs)), (pa, .inr (2, ps))] sz)) 0 0 (va_A [(h0, .inr (6, fs)), (pa, .inr (2, ps))] sz) := by
  refine Met.ofW (cc := cX6_wayOn) (maxL := 1) (ret := none) (by decide) rfl ?_
  intro p e s m args below meth c s₁ B hml hv
  obtain ⟨rfl, hsz, hP, hK, hD0, hN⟩ := hv
  have hx := B.exec
  have hb := B.bytes
  have hr := B.returns
  have hts := atoms_spec (ws := .code yX6_wayOn cX6_wayOn 1 none :: T0) B.pre
  have hT : ∀ w ∈ T0, w.before _ s = true := fun w h => hts w (List.mem_cons_of_mem _ h)
  have hown : s.vm.findClass RX6 = some m.cls := findClass_of_methodNamed B.named
  have hlocks := B.notSynchronized
  subst hsz
  have hD := hD0.self (sz := s.heap.size)
  generalize hAe : va_A [(h0, .inr (6, fs)), (pa, .inr (2, ps))] s.heap.size = A at hD ⊢
  have hA : ∀ q : Nat, s.heap.size ≤ q → A q := fun q h => by rw [← hAe]; exact Or.inr h
  have hS : va_S A s.heap s.heap [] := va_S.rf
  have hl := lv_entry ([.ref h0]) (n := 1) (Nat.le_of_ble_eq_true rfl)
  rw [lg_entry_eq]
  generalize (lg_sl ([.ref h0]) ++ List.replicate (1 - (lg_sl ([.ref h0])).length) Slot.unset).toArray = ls at hl ⊢
  have hl : lv_has ls 1 [(0, .ref h0)] := hl
  obtain ⟨H, hH⟩ : ∃ z, z = s.heap := ⟨_, rfl⟩
  rw [← hH] at hP
  have hS : va_S A s.heap H [] := by rw [hH]; exact hS
  suffices hgo : W p l e _ s m _ below meth c H [] 0 0 _ _ by rw [hH] at hgo; exact hgo
  have hO := hN.2.2.2.2
  have ho_hf := fo_refl fs
  have ho_hp := fo_refl ps
  refine lv_aload_n hx hb dX6_wayOn_0 rfl (lv_at hl 0 rfl) ?_
  refine tq_ci (wr := []) hP hD hS hA [0, 1] [] rfl rfl (by decide) (by decide) (va_runV (As := []) (rest := []) ⟨hx, hb, hml, hown, hT⟩ (c_X6_fallOff l G cA H.size h0 fs pa ps (fh_sub hf [0] rfl) (fh_sub hp [0, 1, 2] rfl)) (cwV 0 hT (tq_gV kw_42_11 kw_42_12 kw_42_13 kw_1_23 kw_42_14) rfl rfl rfl (by decide +kernel) ⟨Nat.le_of_ble_eq_true rfl, Nat.le_of_ble_eq_true rfl⟩) ⟨(tq_pre (isC := [0, 1]) hP hD hK hN rfl (by decide)).1, va_recv hK hP (ci := 6) (q0 := 0) rfl rfl, (tq_pre (isC := [0, 1]) hP hD hK hN rfl (by decide)).2⟩ rfl rfl hl.1 rfl (lv_room (Nat.le_of_ble_eq_true rfl)) dX6_wayOn_1 ⟨Nat.le_of_ble_eq_true rfl, Nat.le_of_ble_eq_true rfl⟩) (fun r101 u102 H locs hw103 hP hD hS => ?_)
  refine W.widen (k := 0) (n := 0) (Nat.le_of_ble_eq_true rfl) (Nat.le_of_ble_eq_true rfl) ?_
  have hr104 := hw103
  subst hr104
  have hP : va_P G vwCl [(h0, .inr (6, fs)), (pa, .inr (2, ps))] H := hP
  have hD : va_D A [(h0, .inr (6, fs)), (pa, .inr (2, ps))] := hD
  refine lv_pop hx hb dX6_wayOn_4 rfl ?_
  refine lv_aload_n hx hb dX6_wayOn_5 rfl (lv_at hl 0 rfl) ?_
  refine tq_cv (wr := []) hP hD hS hA [0, 1] [] rfl rfl (by decide) (by decide) (va_runV (As := []) (rest := []) ⟨hx, hb, hml, hown, hT⟩ (c_X6_stealAway l G cA H.size h0 fs pa ps (fh_sub hf [0] rfl) (fh_sub hp [0, 1, 2] rfl)) (cwV 0 hT (tq_gV kw_43_6 kw_43_7 kw_43_8 kw_1_23 kw_43_9) rfl rfl rfl (by decide +kernel) ⟨Nat.le_of_ble_eq_true rfl, Nat.le_of_ble_eq_true rfl⟩) ⟨(tq_pre (isC := [0, 1]) hP hD hK hN rfl (by decide)).1, va_recv hK hP (ci := 6) (q0 := 0) rfl rfl, (tq_pre (isC := [0, 1]) hP hD hK hN rfl (by decide)).2⟩ rfl rfl hl.1 rfl (lv_room (Nat.le_of_ble_eq_true rfl)) dX6_wayOn_6 ⟨Nat.le_of_ble_eq_true rfl, Nat.le_of_ble_eq_true rfl⟩) (fun u105 H locs hw106 hP hD hS => ?_)
  refine W.widen (k := 0) (n := 0) (Nat.le_of_ble_eq_true rfl) (Nat.le_of_ble_eq_true rfl) ?_
  have hP : va_P G vwCl [(h0, .inr (6, fs)), (pa, .inr (2, ps))] H := hP
  have hD : va_D A [(h0, .inr (6, fs)), (pa, .inr (2, ps))] := hD
  refine lv_aload_n hx hb dX6_wayOn_9 rfl (lv_at hl 0 rfl) ?_
  refine lv_dup hx hb dX6_wayOn_10 rfl ?_
  refine va_get (D := G) (ci := 6) (v := .int 20) (C := RX6) (T := TX6) (N := 20) hx hb hT ku_6 hown hK hP 0 rfl rfl 0 (by decide) (hT _ kw_8_2) (fun _ h9 => h9) (fh_at hf 1 rfl) dX6_wayOn_11 ?_
  refine lv_iconst (v := 1) hx hb dX6_wayOn_14 (by decide) ?_
  refine lv_iadd hx hb dX6_wayOn_15 ?_
  refine tq_i (w := 21) (by decide) ?_
  refine va_put (D := G) (ci := 6) (v := .int 21) (ty := .int) (C := RX6) (T := TX6) (N := 20) hx hb hT ku_6 tyX6 tyX6_ok nmX6 hown hK hP hD hS 0 rfl rfl 0 (by decide) (hT _ kw_8_2) (fun _ h9 => h9) rfl (by decide +kernel) rfl rfl (fh_lt hf (by decide)) dX6_wayOn_16 (fun H locs hP hD hS => ?_)
  have hP : va_P G vwCl [(h0, .inr (6, (fs.set 0 (.int 21)))), (pa, .inr (2, ps))] H := hP
  have hD : va_D A [(h0, .inr (6, (fs.set 0 (.int 21)))), (pa, .inr (2, ps))] := hD
  have hf := fh_set (l' := [(0, .int 21), (19, .ref pa)]) hf 0 (.int 21) (by decide) rfl
  have ho108 := fo_set ho_hf 0 (.int 21)
  generalize (fs.set 0 (.int 21)) = fs107 at hP hD hf ho108
  have qho108 := fo_mono (k2 := [0]) ho108 (by decide)
  exact W.vret hx hb hr (fun t ht hW => ⟨⟨fs107, rfl, ⟨qho108, fh_sub hf [0] rfl⟩, by rw [ht]; exact hP, hD⟩, hS.F ht⟩) hS.2.2 dX6_wayOn_19

set_option maxHeartbeats 4000000 in
set_option maxRecDepth 100000 in
theorem c_X6_passStop_0 (l : Launch) (G : va_G) (cA : Nat → ClassId) (sz : Nat) (h0 : Nat) (fs : List Value) (pa : Nat) (ps : List Value) (sa : Nat) (fsec : Nat → Int32) (hf : fh fs 20 [(19, .ref pa), (0, .int 0)]) (hp : fh ps 19 [(0, .int 0), (1, .int 0), (2, .int 0), (17, .ref sa)]) (hsec : ∀ j, j < 21 → fsec j = 60) : Met l yX6_passStop (.code yX6_passStop cX6_passStop 1 none :: T0) ({ frames := 2, cells := 0, slots := 0, locals := 43 }) (tqP G cA [.ref h0] [(h0, .inr (6, fs)), (pa, .inr (2, ps)), (sa, .inl (cA 0, 21, .inl fsec))] sz) (tqQv G cA (fun (u : List Value) => fo fs u [0] ∧ fh u 20 [(0, .int 1)]) (fun (u : List Value) => [(h0, .inr (6, u)), (pa, .inr (2, ps)), (sa, .inl (cA 0, 21, .inl fsec))]) (va_A [(h0, .inr (6, fs)), (pa, .inr (2, ps)), (sa, .inl (cA 0, 21, .inl fsec))] sz)) 0 0 (va_A [(h0, .inr (6, fs)), (pa, .inr (2, ps)), (sa, .inl (cA 0, 21, .inl fsec))] sz) := by
  refine Met.ofW (cc := cX6_passStop) (maxL := 1) (ret := none) (by decide) rfl ?_
  intro p e s m args below meth c s₁ B hml hv
  obtain ⟨rfl, hsz, hP, hK, hD0, hN⟩ := hv
  have hx := B.exec
  have hb := B.bytes
  have hr := B.returns
  have hts := atoms_spec (ws := .code yX6_passStop cX6_passStop 1 none :: T0) B.pre
  have hT : ∀ w ∈ T0, w.before _ s = true := fun w h => hts w (List.mem_cons_of_mem _ h)
  have hown : s.vm.findClass RX6 = some m.cls := findClass_of_methodNamed B.named
  have hlocks := B.notSynchronized
  subst hsz
  have hD := hD0.self (sz := s.heap.size)
  generalize hAe : va_A [(h0, .inr (6, fs)), (pa, .inr (2, ps)), (sa, .inl (cA 0, 21, .inl fsec))] s.heap.size = A at hD ⊢
  have hA : ∀ q : Nat, s.heap.size ≤ q → A q := fun q h => by rw [← hAe]; exact Or.inr h
  have hS : va_S A s.heap s.heap [] := va_S.rf
  have hl := lv_entry ([.ref h0]) (n := 1) (Nat.le_of_ble_eq_true rfl)
  rw [lg_entry_eq]
  generalize (lg_sl ([.ref h0]) ++ List.replicate (1 - (lg_sl ([.ref h0])).length) Slot.unset).toArray = ls at hl ⊢
  have hl : lv_has ls 1 [(0, .ref h0)] := hl
  obtain ⟨H, hH⟩ : ∃ z, z = s.heap := ⟨_, rfl⟩
  rw [← hH] at hP
  have hS : va_S A s.heap H [] := by rw [hH]; exact hS
  suffices hgo : W p l e _ s m _ below meth c H [] 0 0 _ _ by rw [hH] at hgo; exact hgo
  have hO := hN.2.2.2.2
  have ho_hf := fo_refl fs
  have ho_hp := fo_refl ps
  refine lv_aload_n hx hb dX6_passStop_0 rfl (lv_at hl 0 rfl) ?_
  refine va_get (D := G) (ci := 6) (v := .int 0) (C := RX6) (T := TX6) (N := 20) hx hb hT ku_6 hown hK hP 0 rfl rfl 0 (by decide) (hT _ kw_8_2) (fun _ h9 => h9) (fh_at hf 1 rfl) dX6_passStop_1 ?_
  refine lv_bipush (v := 20) hx hb dX6_passStop_4 (by decide) ?_
  refine lv_icmp_gt (tgt := 34) hx hb dX6_passStop_6 (by decide) (fun c101 => absurd c101 (by decide)) (fun c101 => ?_)
  refine lv_aload_n hx hb dX6_passStop_9 rfl (lv_at hl 0 rfl) ?_
  refine lv_aload_n hx hb dX6_passStop_10 rfl (lv_at hl 0 rfl) ?_
  refine va_get (D := G) (ci := 6) (v := .ref pa) (C := RX6) (T := TX6) (N := 20) hx hb hT ku_6 hown hK hP 0 rfl rfl 19 (by decide) (hT _ kw_8_1) (fun _ h9 => h9) (fh_at hf 0 rfl) dX6_passStop_11 ?_
  refine va_get (D := G) (ci := 2) (v := .ref sa) (C := RX2) (T := TX2) (N := 19) hx hb hT ku_2 hown hK hP 1 rfl rfl 17 (by decide) (hT _ kw_40_15) (fun _ h9 => h9) (fh_at hp 3 rfl) dX6_passStop_14 ?_
  refine lv_aload_n hx hb dX6_passStop_17 rfl (lv_at hl 0 rfl) ?_
  refine va_get (D := G) (ci := 6) (v := .int 0) (C := RX6) (T := TX6) (N := 20) hx hb hT ku_6 hown hK hP 0 rfl rfl 0 (by decide) (hT _ kw_8_2) (fun _ h9 => h9) (fh_at hf 1 rfl) dX6_passStop_18 ?_
  refine va_iald (i := 0) hx hb hK hP 2 0 rfl rfl (tq_in (by decide)) dX6_passStop_21 ?_
  refine tq_i (w := 60) (hsec 0 (by decide)) ?_
  refine tq_ci (wr := [(sa, .inl (cA 0, 21, .inl fsec))]) hP hD hS hA [0, 1] [2] rfl rfl (by decide) (by decide) (va_runV (As := [.int 60]) (rest := []) ⟨hx, hb, hml, hown, hT⟩ (c_X6_takeDown l G cA H.size h0 60 fs pa ps (fh_sub hf [0] rfl) (fh_sub hp [0, 1, 2] rfl)) (cwV 1 hT (tq_gV kw_40_16 kw_40_17 kw_40_18 kw_1_23 kw_40_19) rfl rfl rfl (by decide +kernel) ⟨Nat.le_of_ble_eq_true rfl, Nat.le_of_ble_eq_true rfl⟩) ⟨(tq_pre (isC := [0, 1]) hP hD hK hN rfl (by decide)).1, va_recv hK hP (ci := 6) (q0 := 0) rfl rfl, (tq_pre (isC := [0, 1]) hP hD hK hN rfl (by decide)).2⟩ rfl rfl hl.1 rfl (lv_room (Nat.le_of_ble_eq_true rfl)) dX6_passStop_22 ⟨Nat.le_of_ble_eq_true rfl, Nat.le_of_ble_eq_true rfl⟩) (fun r102 u103 H locs hw104 hP hD hS => ?_)
  refine W.widen (k := 0) (n := 0) (Nat.le_of_ble_eq_true rfl) (Nat.le_of_ble_eq_true rfl) ?_
  have hr105 := hw104
  subst hr105
  have hP : va_P G vwCl [(sa, .inl (cA 0, 21, .inl fsec)), (h0, .inr (6, fs)), (pa, .inr (2, ps))] H := hP
  have hD : va_D A [(sa, .inl (cA 0, 21, .inl fsec)), (h0, .inr (6, fs)), (pa, .inr (2, ps))] := hD
  refine lv_pop hx hb dX6_passStop_25 rfl ?_
  refine lv_aload_n hx hb dX6_passStop_26 rfl (lv_at hl 0 rfl) ?_
  refine tq_cv (wr := [(sa, .inl (cA 0, 21, .inl fsec))]) hP hD hS hA [1, 2] [0] rfl rfl (by decide) (by decide) (va_runV (As := []) (rest := []) ⟨hx, hb, hml, hown, hT⟩ (c_X6_getIn l G cA H.size h0 fs pa ps (fh_sub hf [0] rfl) (fh_sub hp [0, 1, 2] rfl)) (cwV 0 hT (tq_gV kw_41_16 kw_41_17 kw_41_18 kw_1_23 kw_41_19) rfl rfl rfl (by decide +kernel) ⟨Nat.le_of_ble_eq_true rfl, Nat.le_of_ble_eq_true rfl⟩) ⟨(tq_pre (isC := [1, 2]) hP hD hK hN rfl (by decide)).1, va_recv hK hP (ci := 6) (q0 := 1) rfl rfl, (tq_pre (isC := [1, 2]) hP hD hK hN rfl (by decide)).2⟩ rfl rfl hl.1 rfl (lv_room (Nat.le_of_ble_eq_true rfl)) dX6_passStop_27 ⟨Nat.le_of_ble_eq_true rfl, Nat.le_of_ble_eq_true rfl⟩) (fun u106 H locs hw107 hP hD hS => ?_)
  refine W.widen (k := 0) (n := 0) (Nat.le_of_ble_eq_true rfl) (Nat.le_of_ble_eq_true rfl) ?_
  have hP : va_P G vwCl [(sa, .inl (cA 0, 21, .inl fsec)), (h0, .inr (6, fs)), (pa, .inr (2, ps))] H := hP
  have hD : va_D A [(sa, .inl (cA 0, 21, .inl fsec)), (h0, .inr (6, fs)), (pa, .inr (2, ps))] := hD
  refine lv_aload_n hx hb dX6_passStop_30 rfl (lv_at hl 0 rfl) ?_
  refine tq_cv (wr := [(sa, .inl (cA 0, 21, .inl fsec))]) hP hD hS hA [1, 2] [0] rfl rfl (by decide) (by decide) (va_runV (As := []) (rest := []) ⟨hx, hb, hml, hown, hT⟩ (c_X6_wayOn_0 l G cA H.size h0 fs pa ps (fh_sub hf [0, 1] rfl) (fh_sub hp [0, 1, 2] rfl)) (cwV 0 hT (tq_gV kw_42_7 kw_42_8 kw_42_9 kw_1_23 kw_42_10) rfl rfl rfl (by decide +kernel) ⟨Nat.le_of_ble_eq_true rfl, Nat.le_of_ble_eq_true rfl⟩) ⟨(tq_pre (isC := [1, 2]) hP hD hK hN rfl (by decide)).1, va_recv hK hP (ci := 6) (q0 := 1) rfl rfl, (tq_pre (isC := [1, 2]) hP hD hK hN rfl (by decide)).2⟩ rfl rfl hl.1 rfl (lv_room (Nat.le_of_ble_eq_true rfl)) dX6_passStop_31 ⟨Nat.le_of_ble_eq_true rfl, Nat.le_of_ble_eq_true rfl⟩) (fun u108 H locs hw109 hP hD hS => ?_)
  refine W.widen (k := 0) (n := 0) (Nat.le_of_ble_eq_true rfl) (Nat.le_of_ble_eq_true rfl) ?_
  obtain ⟨ho111, hf112⟩ := hw109
  have hf112 := fh_app (fo_fh (l' := [(19, .ref pa)]) hf ho111 rfl) hf112
  have ho113 := fo_mono (k2 := [0]) (fo_trans ho_hf ho111) (by decide)
  have hf112 : fh u108 20 [(19, .ref pa), (0, .int 1)] := hf112
  have hP : va_P G vwCl [(sa, .inl (cA 0, 21, .inl fsec)), (h0, .inr (6, u108)), (pa, .inr (2, ps))] H := hP
  have hD : va_D A [(sa, .inl (cA 0, 21, .inl fsec)), (h0, .inr (6, u108)), (pa, .inr (2, ps))] := hD
  have hP : va_P G vwCl [(h0, .inr (6, u108)), (pa, .inr (2, ps)), (sa, .inl (cA 0, 21, .inl fsec))] H := hP.sub [1, 2, 0] rfl
  have hD : va_D A [(h0, .inr (6, u108)), (pa, .inr (2, ps)), (sa, .inl (cA 0, 21, .inl fsec))] := hD.sub [1, 2, 0] (by decide) rfl
  have qho113 := fo_mono (k2 := [0]) ho113 (by decide)
  exact W.vret hx hb hr (fun t ht hW => ⟨⟨u108, rfl, ⟨qho113, fh_sub hf112 [1] rfl⟩, by rw [ht]; exact hP, hD⟩, hS.F ht⟩) hS.2.2 dX6_passStop_34

set_option maxHeartbeats 4000000 in
set_option maxRecDepth 100000 in
theorem c_X6_passStop_1 (l : Launch) (G : va_G) (cA : Nat → ClassId) (sz : Nat) (h0 : Nat) (fs : List Value) (pa : Nat) (ps : List Value) (sa : Nat) (fsec : Nat → Int32) (hf : fh fs 20 [(19, .ref pa), (0, .int 1)]) (hp : fh ps 19 [(0, .int 0), (1, .int 0), (2, .int 0), (17, .ref sa)]) (hsec : ∀ j, j < 21 → fsec j = 60) : Met l yX6_passStop (.code yX6_passStop cX6_passStop 1 none :: T0) ({ frames := 2, cells := 0, slots := 0, locals := 43 }) (tqP G cA [.ref h0] [(h0, .inr (6, fs)), (pa, .inr (2, ps)), (sa, .inl (cA 0, 21, .inl fsec))] sz) (tqQv G cA (fun (u : List Value) => fo fs u [0] ∧ fh u 20 [(0, .int 2)]) (fun (u : List Value) => [(h0, .inr (6, u)), (pa, .inr (2, ps)), (sa, .inl (cA 0, 21, .inl fsec))]) (va_A [(h0, .inr (6, fs)), (pa, .inr (2, ps)), (sa, .inl (cA 0, 21, .inl fsec))] sz)) 0 0 (va_A [(h0, .inr (6, fs)), (pa, .inr (2, ps)), (sa, .inl (cA 0, 21, .inl fsec))] sz) := by
  refine Met.ofW (cc := cX6_passStop) (maxL := 1) (ret := none) (by decide) rfl ?_
  intro p e s m args below meth c s₁ B hml hv
  obtain ⟨rfl, hsz, hP, hK, hD0, hN⟩ := hv
  have hx := B.exec
  have hb := B.bytes
  have hr := B.returns
  have hts := atoms_spec (ws := .code yX6_passStop cX6_passStop 1 none :: T0) B.pre
  have hT : ∀ w ∈ T0, w.before _ s = true := fun w h => hts w (List.mem_cons_of_mem _ h)
  have hown : s.vm.findClass RX6 = some m.cls := findClass_of_methodNamed B.named
  have hlocks := B.notSynchronized
  subst hsz
  have hD := hD0.self (sz := s.heap.size)
  generalize hAe : va_A [(h0, .inr (6, fs)), (pa, .inr (2, ps)), (sa, .inl (cA 0, 21, .inl fsec))] s.heap.size = A at hD ⊢
  have hA : ∀ q : Nat, s.heap.size ≤ q → A q := fun q h => by rw [← hAe]; exact Or.inr h
  have hS : va_S A s.heap s.heap [] := va_S.rf
  have hl := lv_entry ([.ref h0]) (n := 1) (Nat.le_of_ble_eq_true rfl)
  rw [lg_entry_eq]
  generalize (lg_sl ([.ref h0]) ++ List.replicate (1 - (lg_sl ([.ref h0])).length) Slot.unset).toArray = ls at hl ⊢
  have hl : lv_has ls 1 [(0, .ref h0)] := hl
  obtain ⟨H, hH⟩ : ∃ z, z = s.heap := ⟨_, rfl⟩
  rw [← hH] at hP
  have hS : va_S A s.heap H [] := by rw [hH]; exact hS
  suffices hgo : W p l e _ s m _ below meth c H [] 0 0 _ _ by rw [hH] at hgo; exact hgo
  have hO := hN.2.2.2.2
  have ho_hf := fo_refl fs
  have ho_hp := fo_refl ps
  refine lv_aload_n hx hb dX6_passStop_0 rfl (lv_at hl 0 rfl) ?_
  refine va_get (D := G) (ci := 6) (v := .int 1) (C := RX6) (T := TX6) (N := 20) hx hb hT ku_6 hown hK hP 0 rfl rfl 0 (by decide) (hT _ kw_8_2) (fun _ h9 => h9) (fh_at hf 1 rfl) dX6_passStop_1 ?_
  refine lv_bipush (v := 20) hx hb dX6_passStop_4 (by decide) ?_
  refine lv_icmp_gt (tgt := 34) hx hb dX6_passStop_6 (by decide) (fun c101 => absurd c101 (by decide)) (fun c101 => ?_)
  refine lv_aload_n hx hb dX6_passStop_9 rfl (lv_at hl 0 rfl) ?_
  refine lv_aload_n hx hb dX6_passStop_10 rfl (lv_at hl 0 rfl) ?_
  refine va_get (D := G) (ci := 6) (v := .ref pa) (C := RX6) (T := TX6) (N := 20) hx hb hT ku_6 hown hK hP 0 rfl rfl 19 (by decide) (hT _ kw_8_1) (fun _ h9 => h9) (fh_at hf 0 rfl) dX6_passStop_11 ?_
  refine va_get (D := G) (ci := 2) (v := .ref sa) (C := RX2) (T := TX2) (N := 19) hx hb hT ku_2 hown hK hP 1 rfl rfl 17 (by decide) (hT _ kw_40_15) (fun _ h9 => h9) (fh_at hp 3 rfl) dX6_passStop_14 ?_
  refine lv_aload_n hx hb dX6_passStop_17 rfl (lv_at hl 0 rfl) ?_
  refine va_get (D := G) (ci := 6) (v := .int 1) (C := RX6) (T := TX6) (N := 20) hx hb hT ku_6 hown hK hP 0 rfl rfl 0 (by decide) (hT _ kw_8_2) (fun _ h9 => h9) (fh_at hf 1 rfl) dX6_passStop_18 ?_
  refine va_iald (i := 1) hx hb hK hP 2 0 rfl rfl (tq_in (by decide)) dX6_passStop_21 ?_
  refine tq_i (w := 60) (hsec 1 (by decide)) ?_
  refine tq_ci (wr := [(sa, .inl (cA 0, 21, .inl fsec))]) hP hD hS hA [0, 1] [2] rfl rfl (by decide) (by decide) (va_runV (As := [.int 60]) (rest := []) ⟨hx, hb, hml, hown, hT⟩ (c_X6_takeDown l G cA H.size h0 60 fs pa ps (fh_sub hf [0] rfl) (fh_sub hp [0, 1, 2] rfl)) (cwV 1 hT (tq_gV kw_40_16 kw_40_17 kw_40_18 kw_1_23 kw_40_19) rfl rfl rfl (by decide +kernel) ⟨Nat.le_of_ble_eq_true rfl, Nat.le_of_ble_eq_true rfl⟩) ⟨(tq_pre (isC := [0, 1]) hP hD hK hN rfl (by decide)).1, va_recv hK hP (ci := 6) (q0 := 0) rfl rfl, (tq_pre (isC := [0, 1]) hP hD hK hN rfl (by decide)).2⟩ rfl rfl hl.1 rfl (lv_room (Nat.le_of_ble_eq_true rfl)) dX6_passStop_22 ⟨Nat.le_of_ble_eq_true rfl, Nat.le_of_ble_eq_true rfl⟩) (fun r102 u103 H locs hw104 hP hD hS => ?_)
  refine W.widen (k := 0) (n := 0) (Nat.le_of_ble_eq_true rfl) (Nat.le_of_ble_eq_true rfl) ?_
  have hr105 := hw104
  subst hr105
  have hP : va_P G vwCl [(sa, .inl (cA 0, 21, .inl fsec)), (h0, .inr (6, fs)), (pa, .inr (2, ps))] H := hP
  have hD : va_D A [(sa, .inl (cA 0, 21, .inl fsec)), (h0, .inr (6, fs)), (pa, .inr (2, ps))] := hD
  refine lv_pop hx hb dX6_passStop_25 rfl ?_
  refine lv_aload_n hx hb dX6_passStop_26 rfl (lv_at hl 0 rfl) ?_
  refine tq_cv (wr := [(sa, .inl (cA 0, 21, .inl fsec))]) hP hD hS hA [1, 2] [0] rfl rfl (by decide) (by decide) (va_runV (As := []) (rest := []) ⟨hx, hb, hml, hown, hT⟩ (c_X6_getIn l G cA H.size h0 fs pa ps (fh_sub hf [0] rfl) (fh_sub hp [0, 1, 2] rfl)) (cwV 0 hT (tq_gV kw_41_16 kw_41_17 kw_41_18 kw_1_23 kw_41_19) rfl rfl rfl (by decide +kernel) ⟨Nat.le_of_ble_eq_true rfl, Nat.le_of_ble_eq_true rfl⟩) ⟨(tq_pre (isC := [1, 2]) hP hD hK hN rfl (by decide)).1, va_recv hK hP (ci := 6) (q0 := 1) rfl rfl, (tq_pre (isC := [1, 2]) hP hD hK hN rfl (by decide)).2⟩ rfl rfl hl.1 rfl (lv_room (Nat.le_of_ble_eq_true rfl)) dX6_passStop_27 ⟨Nat.le_of_ble_eq_true rfl, Nat.le_of_ble_eq_true rfl⟩) (fun u106 H locs hw107 hP hD hS => ?_)
  refine W.widen (k := 0) (n := 0) (Nat.le_of_ble_eq_true rfl) (Nat.le_of_ble_eq_true rfl) ?_
  have hP : va_P G vwCl [(sa, .inl (cA 0, 21, .inl fsec)), (h0, .inr (6, fs)), (pa, .inr (2, ps))] H := hP
  have hD : va_D A [(sa, .inl (cA 0, 21, .inl fsec)), (h0, .inr (6, fs)), (pa, .inr (2, ps))] := hD
  refine lv_aload_n hx hb dX6_passStop_30 rfl (lv_at hl 0 rfl) ?_
  refine tq_cv (wr := [(sa, .inl (cA 0, 21, .inl fsec))]) hP hD hS hA [1, 2] [0] rfl rfl (by decide) (by decide) (va_runV (As := []) (rest := []) ⟨hx, hb, hml, hown, hT⟩ (c_X6_wayOn_1 l G cA H.size h0 fs pa ps (fh_sub hf [0, 1] rfl) (fh_sub hp [0, 1, 2] rfl)) (cwV 0 hT (tq_gV kw_42_7 kw_42_8 kw_42_9 kw_1_23 kw_42_10) rfl rfl rfl (by decide +kernel) ⟨Nat.le_of_ble_eq_true rfl, Nat.le_of_ble_eq_true rfl⟩) ⟨(tq_pre (isC := [1, 2]) hP hD hK hN rfl (by decide)).1, va_recv hK hP (ci := 6) (q0 := 1) rfl rfl, (tq_pre (isC := [1, 2]) hP hD hK hN rfl (by decide)).2⟩ rfl rfl hl.1 rfl (lv_room (Nat.le_of_ble_eq_true rfl)) dX6_passStop_31 ⟨Nat.le_of_ble_eq_true rfl, Nat.le_of_ble_eq_true rfl⟩) (fun u108 H locs hw109 hP hD hS => ?_)
  refine W.widen (k := 0) (n := 0) (Nat.le_of_ble_eq_true rfl) (Nat.le_of_ble_eq_true rfl) ?_
  obtain ⟨ho111, hf112⟩ := hw109
  have hf112 := fh_app (fo_fh (l' := [(19, .ref pa)]) hf ho111 rfl) hf112
  have ho113 := fo_mono (k2 := [0]) (fo_trans ho_hf ho111) (by decide)
  have hf112 : fh u108 20 [(19, .ref pa), (0, .int 2)] := hf112
  have hP : va_P G vwCl [(sa, .inl (cA 0, 21, .inl fsec)), (h0, .inr (6, u108)), (pa, .inr (2, ps))] H := hP
  have hD : va_D A [(sa, .inl (cA 0, 21, .inl fsec)), (h0, .inr (6, u108)), (pa, .inr (2, ps))] := hD
  have hP : va_P G vwCl [(h0, .inr (6, u108)), (pa, .inr (2, ps)), (sa, .inl (cA 0, 21, .inl fsec))] H := hP.sub [1, 2, 0] rfl
  have hD : va_D A [(h0, .inr (6, u108)), (pa, .inr (2, ps)), (sa, .inl (cA 0, 21, .inl fsec))] := hD.sub [1, 2, 0] (by decide) rfl
  have qho113 := fo_mono (k2 := [0]) ho113 (by decide)
  exact W.vret hx hb hr (fun t ht hW => ⟨⟨u108, rfl, ⟨qho113, fh_sub hf112 [1] rfl⟩, by rw [ht]; exact hP, hD⟩, hS.F ht⟩) hS.2.2 dX6_passStop_34

set_option maxHeartbeats 4000000 in
set_option maxRecDepth 100000 in
theorem c_X6_passStop_2 (l : Launch) (G : va_G) (cA : Nat → ClassId) (sz : Nat) (h0 : Nat) (fs : List Value) (pa : Nat) (ps : List Value) (sa : Nat) (fsec : Nat → Int32) (hf : fh fs 20 [(19, .ref pa), (0, .int 2)]) (hp : fh ps 19 [(0, .int 0), (1, .int 0), (2, .int 0), (17, .ref sa)]) (hsec : ∀ j, j < 21 → fsec j = 60) : Met l yX6_passStop (.code yX6_passStop cX6_passStop 1 none :: T0) ({ frames := 2, cells := 0, slots := 0, locals := 43 }) (tqP G cA [.ref h0] [(h0, .inr (6, fs)), (pa, .inr (2, ps)), (sa, .inl (cA 0, 21, .inl fsec))] sz) (tqQv G cA (fun (u : List Value) => fo fs u [0] ∧ fh u 20 [(0, .int 3)]) (fun (u : List Value) => [(h0, .inr (6, u)), (pa, .inr (2, ps)), (sa, .inl (cA 0, 21, .inl fsec))]) (va_A [(h0, .inr (6, fs)), (pa, .inr (2, ps)), (sa, .inl (cA 0, 21, .inl fsec))] sz)) 0 0 (va_A [(h0, .inr (6, fs)), (pa, .inr (2, ps)), (sa, .inl (cA 0, 21, .inl fsec))] sz) := by
  refine Met.ofW (cc := cX6_passStop) (maxL := 1) (ret := none) (by decide) rfl ?_
  intro p e s m args below meth c s₁ B hml hv
  obtain ⟨rfl, hsz, hP, hK, hD0, hN⟩ := hv
  have hx := B.exec
  have hb := B.bytes
  have hr := B.returns
  have hts := atoms_spec (ws := .code yX6_passStop cX6_passStop 1 none :: T0) B.pre
  have hT : ∀ w ∈ T0, w.before _ s = true := fun w h => hts w (List.mem_cons_of_mem _ h)
  have hown : s.vm.findClass RX6 = some m.cls := findClass_of_methodNamed B.named
  have hlocks := B.notSynchronized
  subst hsz
  have hD := hD0.self (sz := s.heap.size)
  generalize hAe : va_A [(h0, .inr (6, fs)), (pa, .inr (2, ps)), (sa, .inl (cA 0, 21, .inl fsec))] s.heap.size = A at hD ⊢
  have hA : ∀ q : Nat, s.heap.size ≤ q → A q := fun q h => by rw [← hAe]; exact Or.inr h
  have hS : va_S A s.heap s.heap [] := va_S.rf
  have hl := lv_entry ([.ref h0]) (n := 1) (Nat.le_of_ble_eq_true rfl)
  rw [lg_entry_eq]
  generalize (lg_sl ([.ref h0]) ++ List.replicate (1 - (lg_sl ([.ref h0])).length) Slot.unset).toArray = ls at hl ⊢
  have hl : lv_has ls 1 [(0, .ref h0)] := hl
  obtain ⟨H, hH⟩ : ∃ z, z = s.heap := ⟨_, rfl⟩
  rw [← hH] at hP
  have hS : va_S A s.heap H [] := by rw [hH]; exact hS
  suffices hgo : W p l e _ s m _ below meth c H [] 0 0 _ _ by rw [hH] at hgo; exact hgo
  have hO := hN.2.2.2.2
  have ho_hf := fo_refl fs
  have ho_hp := fo_refl ps
  refine lv_aload_n hx hb dX6_passStop_0 rfl (lv_at hl 0 rfl) ?_
  refine va_get (D := G) (ci := 6) (v := .int 2) (C := RX6) (T := TX6) (N := 20) hx hb hT ku_6 hown hK hP 0 rfl rfl 0 (by decide) (hT _ kw_8_2) (fun _ h9 => h9) (fh_at hf 1 rfl) dX6_passStop_1 ?_
  refine lv_bipush (v := 20) hx hb dX6_passStop_4 (by decide) ?_
  refine lv_icmp_gt (tgt := 34) hx hb dX6_passStop_6 (by decide) (fun c101 => absurd c101 (by decide)) (fun c101 => ?_)
  refine lv_aload_n hx hb dX6_passStop_9 rfl (lv_at hl 0 rfl) ?_
  refine lv_aload_n hx hb dX6_passStop_10 rfl (lv_at hl 0 rfl) ?_
  refine va_get (D := G) (ci := 6) (v := .ref pa) (C := RX6) (T := TX6) (N := 20) hx hb hT ku_6 hown hK hP 0 rfl rfl 19 (by decide) (hT _ kw_8_1) (fun _ h9 => h9) (fh_at hf 0 rfl) dX6_passStop_11 ?_
  refine va_get (D := G) (ci := 2) (v := .ref sa) (C := RX2) (T := TX2) (N := 19) hx hb hT ku_2 hown hK hP 1 rfl rfl 17 (by decide) (hT _ kw_40_15) (fun _ h9 => h9) (fh_at hp 3 rfl) dX6_passStop_14 ?_
  refine lv_aload_n hx hb dX6_passStop_17 rfl (lv_at hl 0 rfl) ?_
  refine va_get (D := G) (ci := 6) (v := .int 2) (C := RX6) (T := TX6) (N := 20) hx hb hT ku_6 hown hK hP 0 rfl rfl 0 (by decide) (hT _ kw_8_2) (fun _ h9 => h9) (fh_at hf 1 rfl) dX6_passStop_18 ?_
  refine va_iald (i := 2) hx hb hK hP 2 0 rfl rfl (tq_in (by decide)) dX6_passStop_21 ?_
  refine tq_i (w := 60) (hsec 2 (by decide)) ?_
  refine tq_ci (wr := [(sa, .inl (cA 0, 21, .inl fsec))]) hP hD hS hA [0, 1] [2] rfl rfl (by decide) (by decide) (va_runV (As := [.int 60]) (rest := []) ⟨hx, hb, hml, hown, hT⟩ (c_X6_takeDown l G cA H.size h0 60 fs pa ps (fh_sub hf [0] rfl) (fh_sub hp [0, 1, 2] rfl)) (cwV 1 hT (tq_gV kw_40_16 kw_40_17 kw_40_18 kw_1_23 kw_40_19) rfl rfl rfl (by decide +kernel) ⟨Nat.le_of_ble_eq_true rfl, Nat.le_of_ble_eq_true rfl⟩) ⟨(tq_pre (isC := [0, 1]) hP hD hK hN rfl (by decide)).1, va_recv hK hP (ci := 6) (q0 := 0) rfl rfl, (tq_pre (isC := [0, 1]) hP hD hK hN rfl (by decide)).2⟩ rfl rfl hl.1 rfl (lv_room (Nat.le_of_ble_eq_true rfl)) dX6_passStop_22 ⟨Nat.le_of_ble_eq_true rfl, Nat.le_of_ble_eq_true rfl⟩) (fun r102 u103 H locs hw104 hP hD hS => ?_)
  refine W.widen (k := 0) (n := 0) (Nat.le_of_ble_eq_true rfl) (Nat.le_of_ble_eq_true rfl) ?_
  have hr105 := hw104
  subst hr105
  have hP : va_P G vwCl [(sa, .inl (cA 0, 21, .inl fsec)), (h0, .inr (6, fs)), (pa, .inr (2, ps))] H := hP
  have hD : va_D A [(sa, .inl (cA 0, 21, .inl fsec)), (h0, .inr (6, fs)), (pa, .inr (2, ps))] := hD
  refine lv_pop hx hb dX6_passStop_25 rfl ?_
  refine lv_aload_n hx hb dX6_passStop_26 rfl (lv_at hl 0 rfl) ?_
  refine tq_cv (wr := [(sa, .inl (cA 0, 21, .inl fsec))]) hP hD hS hA [1, 2] [0] rfl rfl (by decide) (by decide) (va_runV (As := []) (rest := []) ⟨hx, hb, hml, hown, hT⟩ (c_X6_getIn l G cA H.size h0 fs pa ps (fh_sub hf [0] rfl) (fh_sub hp [0, 1, 2] rfl)) (cwV 0 hT (tq_gV kw_41_16 kw_41_17 kw_41_18 kw_1_23 kw_41_19) rfl rfl rfl (by decide +kernel) ⟨Nat.le_of_ble_eq_true rfl, Nat.le_of_ble_eq_true rfl⟩) ⟨(tq_pre (isC := [1, 2]) hP hD hK hN rfl (by decide)).1, va_recv hK hP (ci := 6) (q0 := 1) rfl rfl, (tq_pre (isC := [1, 2]) hP hD hK hN rfl (by decide)).2⟩ rfl rfl hl.1 rfl (lv_room (Nat.le_of_ble_eq_true rfl)) dX6_passStop_27 ⟨Nat.le_of_ble_eq_true rfl, Nat.le_of_ble_eq_true rfl⟩) (fun u106 H locs hw107 hP hD hS => ?_)
  refine W.widen (k := 0) (n := 0) (Nat.le_of_ble_eq_true rfl) (Nat.le_of_ble_eq_true rfl) ?_
  have hP : va_P G vwCl [(sa, .inl (cA 0, 21, .inl fsec)), (h0, .inr (6, fs)), (pa, .inr (2, ps))] H := hP
  have hD : va_D A [(sa, .inl (cA 0, 21, .inl fsec)), (h0, .inr (6, fs)), (pa, .inr (2, ps))] := hD
  refine lv_aload_n hx hb dX6_passStop_30 rfl (lv_at hl 0 rfl) ?_
  refine tq_cv (wr := [(sa, .inl (cA 0, 21, .inl fsec))]) hP hD hS hA [1, 2] [0] rfl rfl (by decide) (by decide) (va_runV (As := []) (rest := []) ⟨hx, hb, hml, hown, hT⟩ (c_X6_wayOn_2 l G cA H.size h0 fs pa ps (fh_sub hf [0, 1] rfl) (fh_sub hp [0, 1, 2] rfl)) (cwV 0 hT (tq_gV kw_42_7 kw_42_8 kw_42_9 kw_1_23 kw_42_10) rfl rfl rfl (by decide +kernel) ⟨Nat.le_of_ble_eq_true rfl, Nat.le_of_ble_eq_true rfl⟩) ⟨(tq_pre (isC := [1, 2]) hP hD hK hN rfl (by decide)).1, va_recv hK hP (ci := 6) (q0 := 1) rfl rfl, (tq_pre (isC := [1, 2]) hP hD hK hN rfl (by decide)).2⟩ rfl rfl hl.1 rfl (lv_room (Nat.le_of_ble_eq_true rfl)) dX6_passStop_31 ⟨Nat.le_of_ble_eq_true rfl, Nat.le_of_ble_eq_true rfl⟩) (fun u108 H locs hw109 hP hD hS => ?_)
  refine W.widen (k := 0) (n := 0) (Nat.le_of_ble_eq_true rfl) (Nat.le_of_ble_eq_true rfl) ?_
  obtain ⟨ho111, hf112⟩ := hw109
  have hf112 := fh_app (fo_fh (l' := [(19, .ref pa)]) hf ho111 rfl) hf112
  have ho113 := fo_mono (k2 := [0]) (fo_trans ho_hf ho111) (by decide)
  have hf112 : fh u108 20 [(19, .ref pa), (0, .int 3)] := hf112
  have hP : va_P G vwCl [(sa, .inl (cA 0, 21, .inl fsec)), (h0, .inr (6, u108)), (pa, .inr (2, ps))] H := hP
  have hD : va_D A [(sa, .inl (cA 0, 21, .inl fsec)), (h0, .inr (6, u108)), (pa, .inr (2, ps))] := hD
  have hP : va_P G vwCl [(h0, .inr (6, u108)), (pa, .inr (2, ps)), (sa, .inl (cA 0, 21, .inl fsec))] H := hP.sub [1, 2, 0] rfl
  have hD : va_D A [(h0, .inr (6, u108)), (pa, .inr (2, ps)), (sa, .inl (cA 0, 21, .inl fsec))] := hD.sub [1, 2, 0] (by decide) rfl
  have qho113 := fo_mono (k2 := [0]) ho113 (by decide)
  exact W.vret hx hb hr (fun t ht hW => ⟨⟨u108, rfl, ⟨qho113, fh_sub hf112 [1] rfl⟩, by rw [ht]; exact hP, hD⟩, hS.F ht⟩) hS.2.2 dX6_passStop_34

set_option maxHeartbeats 4000000 in
set_option maxRecDepth 100000 in
theorem c_X6_passStop_3 (l : Launch) (G : va_G) (cA : Nat → ClassId) (sz : Nat) (h0 : Nat) (fs : List Value) (pa : Nat) (ps : List Value) (sa : Nat) (fsec : Nat → Int32) (hf : fh fs 20 [(19, .ref pa), (0, .int 3)]) (hp : fh ps 19 [(0, .int 0), (1, .int 0), (2, .int 0), (17, .ref sa)]) (hsec : ∀ j, j < 21 → fsec j = 60) : Met l yX6_passStop (.code yX6_passStop cX6_passStop 1 none :: T0) ({ frames := 2, cells := 0, slots := 0, locals := 43 }) (tqP G cA [.ref h0] [(h0, .inr (6, fs)), (pa, .inr (2, ps)), (sa, .inl (cA 0, 21, .inl fsec))] sz) (tqQv G cA (fun (u : List Value) => fo fs u [0] ∧ fh u 20 [(0, .int 4)]) (fun (u : List Value) => [(h0, .inr (6, u)), (pa, .inr (2, ps)), (sa, .inl (cA 0, 21, .inl fsec))]) (va_A [(h0, .inr (6, fs)), (pa, .inr (2, ps)), (sa, .inl (cA 0, 21, .inl fsec))] sz)) 0 0 (va_A [(h0, .inr (6, fs)), (pa, .inr (2, ps)), (sa, .inl (cA 0, 21, .inl fsec))] sz) := by
  refine Met.ofW (cc := cX6_passStop) (maxL := 1) (ret := none) (by decide) rfl ?_
  intro p e s m args below meth c s₁ B hml hv
  obtain ⟨rfl, hsz, hP, hK, hD0, hN⟩ := hv
  have hx := B.exec
  have hb := B.bytes
  have hr := B.returns
  have hts := atoms_spec (ws := .code yX6_passStop cX6_passStop 1 none :: T0) B.pre
  have hT : ∀ w ∈ T0, w.before _ s = true := fun w h => hts w (List.mem_cons_of_mem _ h)
  have hown : s.vm.findClass RX6 = some m.cls := findClass_of_methodNamed B.named
  have hlocks := B.notSynchronized
  subst hsz
  have hD := hD0.self (sz := s.heap.size)
  generalize hAe : va_A [(h0, .inr (6, fs)), (pa, .inr (2, ps)), (sa, .inl (cA 0, 21, .inl fsec))] s.heap.size = A at hD ⊢
  have hA : ∀ q : Nat, s.heap.size ≤ q → A q := fun q h => by rw [← hAe]; exact Or.inr h
  have hS : va_S A s.heap s.heap [] := va_S.rf
  have hl := lv_entry ([.ref h0]) (n := 1) (Nat.le_of_ble_eq_true rfl)
  rw [lg_entry_eq]
  generalize (lg_sl ([.ref h0]) ++ List.replicate (1 - (lg_sl ([.ref h0])).length) Slot.unset).toArray = ls at hl ⊢
  have hl : lv_has ls 1 [(0, .ref h0)] := hl
  obtain ⟨H, hH⟩ : ∃ z, z = s.heap := ⟨_, rfl⟩
  rw [← hH] at hP
  have hS : va_S A s.heap H [] := by rw [hH]; exact hS
  suffices hgo : W p l e _ s m _ below meth c H [] 0 0 _ _ by rw [hH] at hgo; exact hgo
  have hO := hN.2.2.2.2
  have ho_hf := fo_refl fs
  have ho_hp := fo_refl ps
  refine lv_aload_n hx hb dX6_passStop_0 rfl (lv_at hl 0 rfl) ?_
  refine va_get (D := G) (ci := 6) (v := .int 3) (C := RX6) (T := TX6) (N := 20) hx hb hT ku_6 hown hK hP 0 rfl rfl 0 (by decide) (hT _ kw_8_2) (fun _ h9 => h9) (fh_at hf 1 rfl) dX6_passStop_1 ?_
  refine lv_bipush (v := 20) hx hb dX6_passStop_4 (by decide) ?_
  refine lv_icmp_gt (tgt := 34) hx hb dX6_passStop_6 (by decide) (fun c101 => absurd c101 (by decide)) (fun c101 => ?_)
  refine lv_aload_n hx hb dX6_passStop_9 rfl (lv_at hl 0 rfl) ?_
  refine lv_aload_n hx hb dX6_passStop_10 rfl (lv_at hl 0 rfl) ?_
  refine va_get (D := G) (ci := 6) (v := .ref pa) (C := RX6) (T := TX6) (N := 20) hx hb hT ku_6 hown hK hP 0 rfl rfl 19 (by decide) (hT _ kw_8_1) (fun _ h9 => h9) (fh_at hf 0 rfl) dX6_passStop_11 ?_
  refine va_get (D := G) (ci := 2) (v := .ref sa) (C := RX2) (T := TX2) (N := 19) hx hb hT ku_2 hown hK hP 1 rfl rfl 17 (by decide) (hT _ kw_40_15) (fun _ h9 => h9) (fh_at hp 3 rfl) dX6_passStop_14 ?_
  refine lv_aload_n hx hb dX6_passStop_17 rfl (lv_at hl 0 rfl) ?_
  refine va_get (D := G) (ci := 6) (v := .int 3) (C := RX6) (T := TX6) (N := 20) hx hb hT ku_6 hown hK hP 0 rfl rfl 0 (by decide) (hT _ kw_8_2) (fun _ h9 => h9) (fh_at hf 1 rfl) dX6_passStop_18 ?_
  refine va_iald (i := 3) hx hb hK hP 2 0 rfl rfl (tq_in (by decide)) dX6_passStop_21 ?_
  refine tq_i (w := 60) (hsec 3 (by decide)) ?_
  refine tq_ci (wr := [(sa, .inl (cA 0, 21, .inl fsec))]) hP hD hS hA [0, 1] [2] rfl rfl (by decide) (by decide) (va_runV (As := [.int 60]) (rest := []) ⟨hx, hb, hml, hown, hT⟩ (c_X6_takeDown l G cA H.size h0 60 fs pa ps (fh_sub hf [0] rfl) (fh_sub hp [0, 1, 2] rfl)) (cwV 1 hT (tq_gV kw_40_16 kw_40_17 kw_40_18 kw_1_23 kw_40_19) rfl rfl rfl (by decide +kernel) ⟨Nat.le_of_ble_eq_true rfl, Nat.le_of_ble_eq_true rfl⟩) ⟨(tq_pre (isC := [0, 1]) hP hD hK hN rfl (by decide)).1, va_recv hK hP (ci := 6) (q0 := 0) rfl rfl, (tq_pre (isC := [0, 1]) hP hD hK hN rfl (by decide)).2⟩ rfl rfl hl.1 rfl (lv_room (Nat.le_of_ble_eq_true rfl)) dX6_passStop_22 ⟨Nat.le_of_ble_eq_true rfl, Nat.le_of_ble_eq_true rfl⟩) (fun r102 u103 H locs hw104 hP hD hS => ?_)
  refine W.widen (k := 0) (n := 0) (Nat.le_of_ble_eq_true rfl) (Nat.le_of_ble_eq_true rfl) ?_
  have hr105 := hw104
  subst hr105
  have hP : va_P G vwCl [(sa, .inl (cA 0, 21, .inl fsec)), (h0, .inr (6, fs)), (pa, .inr (2, ps))] H := hP
  have hD : va_D A [(sa, .inl (cA 0, 21, .inl fsec)), (h0, .inr (6, fs)), (pa, .inr (2, ps))] := hD
  refine lv_pop hx hb dX6_passStop_25 rfl ?_
  refine lv_aload_n hx hb dX6_passStop_26 rfl (lv_at hl 0 rfl) ?_
  refine tq_cv (wr := [(sa, .inl (cA 0, 21, .inl fsec))]) hP hD hS hA [1, 2] [0] rfl rfl (by decide) (by decide) (va_runV (As := []) (rest := []) ⟨hx, hb, hml, hown, hT⟩ (c_X6_getIn l G cA H.size h0 fs pa ps (fh_sub hf [0] rfl) (fh_sub hp [0, 1, 2] rfl)) (cwV 0 hT (tq_gV kw_41_16 kw_41_17 kw_41_18 kw_1_23 kw_41_19) rfl rfl rfl (by decide +kernel) ⟨Nat.le_of_ble_eq_true rfl, Nat.le_of_ble_eq_true rfl⟩) ⟨(tq_pre (isC := [1, 2]) hP hD hK hN rfl (by decide)).1, va_recv hK hP (ci := 6) (q0 := 1) rfl rfl, (tq_pre (isC := [1, 2]) hP hD hK hN rfl (by decide)).2⟩ rfl rfl hl.1 rfl (lv_room (Nat.le_of_ble_eq_true rfl)) dX6_passStop_27 ⟨Nat.le_of_ble_eq_true rfl, Nat.le_of_ble_eq_true rfl⟩) (fun u106 H locs hw107 hP hD hS => ?_)
  refine W.widen (k := 0) (n := 0) (Nat.le_of_ble_eq_true rfl) (Nat.le_of_ble_eq_true rfl) ?_
  have hP : va_P G vwCl [(sa, .inl (cA 0, 21, .inl fsec)), (h0, .inr (6, fs)), (pa, .inr (2, ps))] H := hP
  have hD : va_D A [(sa, .inl (cA 0, 21, .inl fsec)), (h0, .inr (6, fs)), (pa, .inr (2, ps))] := hD
  refine lv_aload_n hx hb dX6_passStop_30 rfl (lv_at hl 0 rfl) ?_
  refine tq_cv (wr := [(sa, .inl (cA 0, 21, .inl fsec))]) hP hD hS hA [1, 2] [0] rfl rfl (by decide) (by decide) (va_runV (As := []) (rest := []) ⟨hx, hb, hml, hown, hT⟩ (c_X6_wayOn_3 l G cA H.size h0 fs pa ps (fh_sub hf [0, 1] rfl) (fh_sub hp [0, 1, 2] rfl)) (cwV 0 hT (tq_gV kw_42_7 kw_42_8 kw_42_9 kw_1_23 kw_42_10) rfl rfl rfl (by decide +kernel) ⟨Nat.le_of_ble_eq_true rfl, Nat.le_of_ble_eq_true rfl⟩) ⟨(tq_pre (isC := [1, 2]) hP hD hK hN rfl (by decide)).1, va_recv hK hP (ci := 6) (q0 := 1) rfl rfl, (tq_pre (isC := [1, 2]) hP hD hK hN rfl (by decide)).2⟩ rfl rfl hl.1 rfl (lv_room (Nat.le_of_ble_eq_true rfl)) dX6_passStop_31 ⟨Nat.le_of_ble_eq_true rfl, Nat.le_of_ble_eq_true rfl⟩) (fun u108 H locs hw109 hP hD hS => ?_)
  refine W.widen (k := 0) (n := 0) (Nat.le_of_ble_eq_true rfl) (Nat.le_of_ble_eq_true rfl) ?_
  obtain ⟨ho111, hf112⟩ := hw109
  have hf112 := fh_app (fo_fh (l' := [(19, .ref pa)]) hf ho111 rfl) hf112
  have ho113 := fo_mono (k2 := [0]) (fo_trans ho_hf ho111) (by decide)
  have hf112 : fh u108 20 [(19, .ref pa), (0, .int 4)] := hf112
  have hP : va_P G vwCl [(sa, .inl (cA 0, 21, .inl fsec)), (h0, .inr (6, u108)), (pa, .inr (2, ps))] H := hP
  have hD : va_D A [(sa, .inl (cA 0, 21, .inl fsec)), (h0, .inr (6, u108)), (pa, .inr (2, ps))] := hD
  have hP : va_P G vwCl [(h0, .inr (6, u108)), (pa, .inr (2, ps)), (sa, .inl (cA 0, 21, .inl fsec))] H := hP.sub [1, 2, 0] rfl
  have hD : va_D A [(h0, .inr (6, u108)), (pa, .inr (2, ps)), (sa, .inl (cA 0, 21, .inl fsec))] := hD.sub [1, 2, 0] (by decide) rfl
  have qho113 := fo_mono (k2 := [0]) ho113 (by decide)
  exact W.vret hx hb hr (fun t ht hW => ⟨⟨u108, rfl, ⟨qho113, fh_sub hf112 [1] rfl⟩, by rw [ht]; exact hP, hD⟩, hS.F ht⟩) hS.2.2 dX6_passStop_34

set_option maxHeartbeats 4000000 in
set_option maxRecDepth 100000 in
theorem c_X6_passStop_4 (l : Launch) (G : va_G) (cA : Nat → ClassId) (sz : Nat) (h0 : Nat) (fs : List Value) (pa : Nat) (ps : List Value) (sa : Nat) (fsec : Nat → Int32) (hf : fh fs 20 [(19, .ref pa), (0, .int 4)]) (hp : fh ps 19 [(0, .int 0), (1, .int 0), (2, .int 0), (17, .ref sa)]) (hsec : ∀ j, j < 21 → fsec j = 60) : Met l yX6_passStop (.code yX6_passStop cX6_passStop 1 none :: T0) ({ frames := 2, cells := 0, slots := 0, locals := 43 }) (tqP G cA [.ref h0] [(h0, .inr (6, fs)), (pa, .inr (2, ps)), (sa, .inl (cA 0, 21, .inl fsec))] sz) (tqQv G cA (fun (u : List Value) => fo fs u [0] ∧ fh u 20 [(0, .int 5)]) (fun (u : List Value) => [(h0, .inr (6, u)), (pa, .inr (2, ps)), (sa, .inl (cA 0, 21, .inl fsec))]) (va_A [(h0, .inr (6, fs)), (pa, .inr (2, ps)), (sa, .inl (cA 0, 21, .inl fsec))] sz)) 0 0 (va_A [(h0, .inr (6, fs)), (pa, .inr (2, ps)), (sa, .inl (cA 0, 21, .inl fsec))] sz) := by
  refine Met.ofW (cc := cX6_passStop) (maxL := 1) (ret := none) (by decide) rfl ?_
  intro p e s m args below meth c s₁ B hml hv
  obtain ⟨rfl, hsz, hP, hK, hD0, hN⟩ := hv
  have hx := B.exec
  have hb := B.bytes
  have hr := B.returns
  have hts := atoms_spec (ws := .code yX6_passStop cX6_passStop 1 none :: T0) B.pre
  have hT : ∀ w ∈ T0, w.before _ s = true := fun w h => hts w (List.mem_cons_of_mem _ h)
  have hown : s.vm.findClass RX6 = some m.cls := findClass_of_methodNamed B.named
  have hlocks := B.notSynchronized
  subst hsz
  have hD := hD0.self (sz := s.heap.size)
  generalize hAe : va_A [(h0, .inr (6, fs)), (pa, .inr (2, ps)), (sa, .inl (cA 0, 21, .inl fsec))] s.heap.size = A at hD ⊢
  have hA : ∀ q : Nat, s.heap.size ≤ q → A q := fun q h => by rw [← hAe]; exact Or.inr h
  have hS : va_S A s.heap s.heap [] := va_S.rf
  have hl := lv_entry ([.ref h0]) (n := 1) (Nat.le_of_ble_eq_true rfl)
  rw [lg_entry_eq]
  generalize (lg_sl ([.ref h0]) ++ List.replicate (1 - (lg_sl ([.ref h0])).length) Slot.unset).toArray = ls at hl ⊢
  have hl : lv_has ls 1 [(0, .ref h0)] := hl
  obtain ⟨H, hH⟩ : ∃ z, z = s.heap := ⟨_, rfl⟩
  rw [← hH] at hP
  have hS : va_S A s.heap H [] := by rw [hH]; exact hS
  suffices hgo : W p l e _ s m _ below meth c H [] 0 0 _ _ by rw [hH] at hgo; exact hgo
  have hO := hN.2.2.2.2
  have ho_hf := fo_refl fs
  have ho_hp := fo_refl ps
  refine lv_aload_n hx hb dX6_passStop_0 rfl (lv_at hl 0 rfl) ?_
  refine va_get (D := G) (ci := 6) (v := .int 4) (C := RX6) (T := TX6) (N := 20) hx hb hT ku_6 hown hK hP 0 rfl rfl 0 (by decide) (hT _ kw_8_2) (fun _ h9 => h9) (fh_at hf 1 rfl) dX6_passStop_1 ?_
  refine lv_bipush (v := 20) hx hb dX6_passStop_4 (by decide) ?_
  refine lv_icmp_gt (tgt := 34) hx hb dX6_passStop_6 (by decide) (fun c101 => absurd c101 (by decide)) (fun c101 => ?_)
  refine lv_aload_n hx hb dX6_passStop_9 rfl (lv_at hl 0 rfl) ?_
  refine lv_aload_n hx hb dX6_passStop_10 rfl (lv_at hl 0 rfl) ?_
  refine va_get (D := G) (ci := 6) (v := .ref pa) (C := RX6) (T := TX6) (N := 20) hx hb hT ku_6 hown hK hP 0 rfl rfl 19 (by decide) (hT _ kw_8_1) (fun _ h9 => h9) (fh_at hf 0 rfl) dX6_passStop_11 ?_
  refine va_get (D := G) (ci := 2) (v := .ref sa) (C := RX2) (T := TX2) (N := 19) hx hb hT ku_2 hown hK hP 1 rfl rfl 17 (by decide) (hT _ kw_40_15) (fun _ h9 => h9) (fh_at hp 3 rfl) dX6_passStop_14 ?_
  refine lv_aload_n hx hb dX6_passStop_17 rfl (lv_at hl 0 rfl) ?_
  refine va_get (D := G) (ci := 6) (v := .int 4) (C := RX6) (T := TX6) (N := 20) hx hb hT ku_6 hown hK hP 0 rfl rfl 0 (by decide) (hT _ kw_8_2) (fun _ h9 => h9) (fh_at hf 1 rfl) dX6_passStop_18 ?_
  refine va_iald (i := 4) hx hb hK hP 2 0 rfl rfl (tq_in (by decide)) dX6_passStop_21 ?_
  refine tq_i (w := 60) (hsec 4 (by decide)) ?_
  refine tq_ci (wr := [(sa, .inl (cA 0, 21, .inl fsec))]) hP hD hS hA [0, 1] [2] rfl rfl (by decide) (by decide) (va_runV (As := [.int 60]) (rest := []) ⟨hx, hb, hml, hown, hT⟩ (c_X6_takeDown l G cA H.size h0 60 fs pa ps (fh_sub hf [0] rfl) (fh_sub hp [0, 1, 2] rfl)) (cwV 1 hT (tq_gV kw_40_16 kw_40_17 kw_40_18 kw_1_23 kw_40_19) rfl rfl rfl (by decide +kernel) ⟨Nat.le_of_ble_eq_true rfl, Nat.le_of_ble_eq_true rfl⟩) ⟨(tq_pre (isC := [0, 1]) hP hD hK hN rfl (by decide)).1, va_recv hK hP (ci := 6) (q0 := 0) rfl rfl, (tq_pre (isC := [0, 1]) hP hD hK hN rfl (by decide)).2⟩ rfl rfl hl.1 rfl (lv_room (Nat.le_of_ble_eq_true rfl)) dX6_passStop_22 ⟨Nat.le_of_ble_eq_true rfl, Nat.le_of_ble_eq_true rfl⟩) (fun r102 u103 H locs hw104 hP hD hS => ?_)
  refine W.widen (k := 0) (n := 0) (Nat.le_of_ble_eq_true rfl) (Nat.le_of_ble_eq_true rfl) ?_
  have hr105 := hw104
  subst hr105
  have hP : va_P G vwCl [(sa, .inl (cA 0, 21, .inl fsec)), (h0, .inr (6, fs)), (pa, .inr (2, ps))] H := hP
  have hD : va_D A [(sa, .inl (cA 0, 21, .inl fsec)), (h0, .inr (6, fs)), (pa, .inr (2, ps))] := hD
  refine lv_pop hx hb dX6_passStop_25 rfl ?_
  refine lv_aload_n hx hb dX6_passStop_26 rfl (lv_at hl 0 rfl) ?_
  refine tq_cv (wr := [(sa, .inl (cA 0, 21, .inl fsec))]) hP hD hS hA [1, 2] [0] rfl rfl (by decide) (by decide) (va_runV (As := []) (rest := []) ⟨hx, hb, hml, hown, hT⟩ (c_X6_getIn l G cA H.size h0 fs pa ps (fh_sub hf [0] rfl) (fh_sub hp [0, 1, 2] rfl)) (cwV 0 hT (tq_gV kw_41_16 kw_41_17 kw_41_18 kw_1_23 kw_41_19) rfl rfl rfl (by decide +kernel) ⟨Nat.le_of_ble_eq_true rfl, Nat.le_of_ble_eq_true rfl⟩) ⟨(tq_pre (isC := [1, 2]) hP hD hK hN rfl (by decide)).1, va_recv hK hP (ci := 6) (q0 := 1) rfl rfl, (tq_pre (isC := [1, 2]) hP hD hK hN rfl (by decide)).2⟩ rfl rfl hl.1 rfl (lv_room (Nat.le_of_ble_eq_true rfl)) dX6_passStop_27 ⟨Nat.le_of_ble_eq_true rfl, Nat.le_of_ble_eq_true rfl⟩) (fun u106 H locs hw107 hP hD hS => ?_)
  refine W.widen (k := 0) (n := 0) (Nat.le_of_ble_eq_true rfl) (Nat.le_of_ble_eq_true rfl) ?_
  have hP : va_P G vwCl [(sa, .inl (cA 0, 21, .inl fsec)), (h0, .inr (6, fs)), (pa, .inr (2, ps))] H := hP
  have hD : va_D A [(sa, .inl (cA 0, 21, .inl fsec)), (h0, .inr (6, fs)), (pa, .inr (2, ps))] := hD
  refine lv_aload_n hx hb dX6_passStop_30 rfl (lv_at hl 0 rfl) ?_
  refine tq_cv (wr := [(sa, .inl (cA 0, 21, .inl fsec))]) hP hD hS hA [1, 2] [0] rfl rfl (by decide) (by decide) (va_runV (As := []) (rest := []) ⟨hx, hb, hml, hown, hT⟩ (c_X6_wayOn_4 l G cA H.size h0 fs pa ps (fh_sub hf [0, 1] rfl) (fh_sub hp [0, 1, 2] rfl)) (cwV 0 hT (tq_gV kw_42_7 kw_42_8 kw_42_9 kw_1_23 kw_42_10) rfl rfl rfl (by decide +kernel) ⟨Nat.le_of_ble_eq_true rfl, Nat.le_of_ble_eq_true rfl⟩) ⟨(tq_pre (isC := [1, 2]) hP hD hK hN rfl (by decide)).1, va_recv hK hP (ci := 6) (q0 := 1) rfl rfl, (tq_pre (isC := [1, 2]) hP hD hK hN rfl (by decide)).2⟩ rfl rfl hl.1 rfl (lv_room (Nat.le_of_ble_eq_true rfl)) dX6_passStop_31 ⟨Nat.le_of_ble_eq_true rfl, Nat.le_of_ble_eq_true rfl⟩) (fun u108 H locs hw109 hP hD hS => ?_)
  refine W.widen (k := 0) (n := 0) (Nat.le_of_ble_eq_true rfl) (Nat.le_of_ble_eq_true rfl) ?_
  obtain ⟨ho111, hf112⟩ := hw109
  have hf112 := fh_app (fo_fh (l' := [(19, .ref pa)]) hf ho111 rfl) hf112
  have ho113 := fo_mono (k2 := [0]) (fo_trans ho_hf ho111) (by decide)
  have hf112 : fh u108 20 [(19, .ref pa), (0, .int 5)] := hf112
  have hP : va_P G vwCl [(sa, .inl (cA 0, 21, .inl fsec)), (h0, .inr (6, u108)), (pa, .inr (2, ps))] H := hP
  have hD : va_D A [(sa, .inl (cA 0, 21, .inl fsec)), (h0, .inr (6, u108)), (pa, .inr (2, ps))] := hD
  have hP : va_P G vwCl [(h0, .inr (6, u108)), (pa, .inr (2, ps)), (sa, .inl (cA 0, 21, .inl fsec))] H := hP.sub [1, 2, 0] rfl
  have hD : va_D A [(h0, .inr (6, u108)), (pa, .inr (2, ps)), (sa, .inl (cA 0, 21, .inl fsec))] := hD.sub [1, 2, 0] (by decide) rfl
  have qho113 := fo_mono (k2 := [0]) ho113 (by decide)
  exact W.vret hx hb hr (fun t ht hW => ⟨⟨u108, rfl, ⟨qho113, fh_sub hf112 [1] rfl⟩, by rw [ht]; exact hP, hD⟩, hS.F ht⟩) hS.2.2 dX6_passStop_34

set_option maxHeartbeats 4000000 in
set_option maxRecDepth 100000 in
theorem c_X6_passStop_5 (l : Launch) (G : va_G) (cA : Nat → ClassId) (sz : Nat) (h0 : Nat) (fs : List Value) (pa : Nat) (ps : List Value) (sa : Nat) (fsec : Nat → Int32) (hf : fh fs 20 [(19, .ref pa), (0, .int 5)]) (hp : fh ps 19 [(0, .int 0), (1, .int 0), (2, .int 0), (17, .ref sa)]) (hsec : ∀ j, j < 21 → fsec j = 60) : Met l yX6_passStop (.code yX6_passStop cX6_passStop 1 none :: T0) ({ frames := 2, cells := 0, slots := 0, locals := 43 }) (tqP G cA [.ref h0] [(h0, .inr (6, fs)), (pa, .inr (2, ps)), (sa, .inl (cA 0, 21, .inl fsec))] sz) (tqQv G cA (fun (u : List Value) => fo fs u [0] ∧ fh u 20 [(0, .int 6)]) (fun (u : List Value) => [(h0, .inr (6, u)), (pa, .inr (2, ps)), (sa, .inl (cA 0, 21, .inl fsec))]) (va_A [(h0, .inr (6, fs)), (pa, .inr (2, ps)), (sa, .inl (cA 0, 21, .inl fsec))] sz)) 0 0 (va_A [(h0, .inr (6, fs)), (pa, .inr (2, ps)), (sa, .inl (cA 0, 21, .inl fsec))] sz) := by
  refine Met.ofW (cc := cX6_passStop) (maxL := 1) (ret := none) (by decide) rfl ?_
  intro p e s m args below meth c s₁ B hml hv
  obtain ⟨rfl, hsz, hP, hK, hD0, hN⟩ := hv
  have hx := B.exec
  have hb := B.bytes
  have hr := B.returns
  have hts := atoms_spec (ws := .code yX6_passStop cX6_passStop 1 none :: T0) B.pre
  have hT : ∀ w ∈ T0, w.before _ s = true := fun w h => hts w (List.mem_cons_of_mem _ h)
  have hown : s.vm.findClass RX6 = some m.cls := findClass_of_methodNamed B.named
  have hlocks := B.notSynchronized
  subst hsz
  have hD := hD0.self (sz := s.heap.size)
  generalize hAe : va_A [(h0, .inr (6, fs)), (pa, .inr (2, ps)), (sa, .inl (cA 0, 21, .inl fsec))] s.heap.size = A at hD ⊢
  have hA : ∀ q : Nat, s.heap.size ≤ q → A q := fun q h => by rw [← hAe]; exact Or.inr h
  have hS : va_S A s.heap s.heap [] := va_S.rf
  have hl := lv_entry ([.ref h0]) (n := 1) (Nat.le_of_ble_eq_true rfl)
  rw [lg_entry_eq]
  generalize (lg_sl ([.ref h0]) ++ List.replicate (1 - (lg_sl ([.ref h0])).length) Slot.unset).toArray = ls at hl ⊢
  have hl : lv_has ls 1 [(0, .ref h0)] := hl
  obtain ⟨H, hH⟩ : ∃ z, z = s.heap := ⟨_, rfl⟩
  rw [← hH] at hP
  have hS : va_S A s.heap H [] := by rw [hH]; exact hS
  suffices hgo : W p l e _ s m _ below meth c H [] 0 0 _ _ by rw [hH] at hgo; exact hgo
  have hO := hN.2.2.2.2
  have ho_hf := fo_refl fs
  have ho_hp := fo_refl ps
  refine lv_aload_n hx hb dX6_passStop_0 rfl (lv_at hl 0 rfl) ?_
  refine va_get (D := G) (ci := 6) (v := .int 5) (C := RX6) (T := TX6) (N := 20) hx hb hT ku_6 hown hK hP 0 rfl rfl 0 (by decide) (hT _ kw_8_2) (fun _ h9 => h9) (fh_at hf 1 rfl) dX6_passStop_1 ?_
  refine lv_bipush (v := 20) hx hb dX6_passStop_4 (by decide) ?_
  refine lv_icmp_gt (tgt := 34) hx hb dX6_passStop_6 (by decide) (fun c101 => absurd c101 (by decide)) (fun c101 => ?_)
  refine lv_aload_n hx hb dX6_passStop_9 rfl (lv_at hl 0 rfl) ?_
  refine lv_aload_n hx hb dX6_passStop_10 rfl (lv_at hl 0 rfl) ?_
  refine va_get (D := G) (ci := 6) (v := .ref pa) (C := RX6) (T := TX6) (N := 20) hx hb hT ku_6 hown hK hP 0 rfl rfl 19 (by decide) (hT _ kw_8_1) (fun _ h9 => h9) (fh_at hf 0 rfl) dX6_passStop_11 ?_
  refine va_get (D := G) (ci := 2) (v := .ref sa) (C := RX2) (T := TX2) (N := 19) hx hb hT ku_2 hown hK hP 1 rfl rfl 17 (by decide) (hT _ kw_40_15) (fun _ h9 => h9) (fh_at hp 3 rfl) dX6_passStop_14 ?_
  refine lv_aload_n hx hb dX6_passStop_17 rfl (lv_at hl 0 rfl) ?_
  refine va_get (D := G) (ci := 6) (v := .int 5) (C := RX6) (T := TX6) (N := 20) hx hb hT ku_6 hown hK hP 0 rfl rfl 0 (by decide) (hT _ kw_8_2) (fun _ h9 => h9) (fh_at hf 1 rfl) dX6_passStop_18 ?_
  refine va_iald (i := 5) hx hb hK hP 2 0 rfl rfl (tq_in (by decide)) dX6_passStop_21 ?_
  refine tq_i (w := 60) (hsec 5 (by decide)) ?_
  refine tq_ci (wr := [(sa, .inl (cA 0, 21, .inl fsec))]) hP hD hS hA [0, 1] [2] rfl rfl (by decide) (by decide) (va_runV (As := [.int 60]) (rest := []) ⟨hx, hb, hml, hown, hT⟩ (c_X6_takeDown l G cA H.size h0 60 fs pa ps (fh_sub hf [0] rfl) (fh_sub hp [0, 1, 2] rfl)) (cwV 1 hT (tq_gV kw_40_16 kw_40_17 kw_40_18 kw_1_23 kw_40_19) rfl rfl rfl (by decide +kernel) ⟨Nat.le_of_ble_eq_true rfl, Nat.le_of_ble_eq_true rfl⟩) ⟨(tq_pre (isC := [0, 1]) hP hD hK hN rfl (by decide)).1, va_recv hK hP (ci := 6) (q0 := 0) rfl rfl, (tq_pre (isC := [0, 1]) hP hD hK hN rfl (by decide)).2⟩ rfl rfl hl.1 rfl (lv_room (Nat.le_of_ble_eq_true rfl)) dX6_passStop_22 ⟨Nat.le_of_ble_eq_true rfl, Nat.le_of_ble_eq_true rfl⟩) (fun r102 u103 H locs hw104 hP hD hS => ?_)
  refine W.widen (k := 0) (n := 0) (Nat.le_of_ble_eq_true rfl) (Nat.le_of_ble_eq_true rfl) ?_
  have hr105 := hw104
  subst hr105
  have hP : va_P G vwCl [(sa, .inl (cA 0, 21, .inl fsec)), (h0, .inr (6, fs)), (pa, .inr (2, ps))] H := hP
  have hD : va_D A [(sa, .inl (cA 0, 21, .inl fsec)), (h0, .inr (6, fs)), (pa, .inr (2, ps))] := hD
  refine lv_pop hx hb dX6_passStop_25 rfl ?_
  refine lv_aload_n hx hb dX6_passStop_26 rfl (lv_at hl 0 rfl) ?_
  refine tq_cv (wr := [(sa, .inl (cA 0, 21, .inl fsec))]) hP hD hS hA [1, 2] [0] rfl rfl (by decide) (by decide) (va_runV (As := []) (rest := []) ⟨hx, hb, hml, hown, hT⟩ (c_X6_getIn l G cA H.size h0 fs pa ps (fh_sub hf [0] rfl) (fh_sub hp [0, 1, 2] rfl)) (cwV 0 hT (tq_gV kw_41_16 kw_41_17 kw_41_18 kw_1_23 kw_41_19) rfl rfl rfl (by decide +kernel) ⟨Nat.le_of_ble_eq_true rfl, Nat.le_of_ble_eq_true rfl⟩) ⟨(tq_pre (isC := [1, 2]) hP hD hK hN rfl (by decide)).1, va_recv hK hP (ci := 6) (q0 := 1) rfl rfl, (tq_pre (isC := [1, 2]) hP hD hK hN rfl (by decide)).2⟩ rfl rfl hl.1 rfl (lv_room (Nat.le_of_ble_eq_true rfl)) dX6_passStop_27 ⟨Nat.le_of_ble_eq_true rfl, Nat.le_of_ble_eq_true rfl⟩) (fun u106 H locs hw107 hP hD hS => ?_)
  refine W.widen (k := 0) (n := 0) (Nat.le_of_ble_eq_true rfl) (Nat.le_of_ble_eq_true rfl) ?_
  have hP : va_P G vwCl [(sa, .inl (cA 0, 21, .inl fsec)), (h0, .inr (6, fs)), (pa, .inr (2, ps))] H := hP
  have hD : va_D A [(sa, .inl (cA 0, 21, .inl fsec)), (h0, .inr (6, fs)), (pa, .inr (2, ps))] := hD
  refine lv_aload_n hx hb dX6_passStop_30 rfl (lv_at hl 0 rfl) ?_
  refine tq_cv (wr := [(sa, .inl (cA 0, 21, .inl fsec))]) hP hD hS hA [1, 2] [0] rfl rfl (by decide) (by decide) (va_runV (As := []) (rest := []) ⟨hx, hb, hml, hown, hT⟩ (c_X6_wayOn_5 l G cA H.size h0 fs pa ps (fh_sub hf [0, 1] rfl) (fh_sub hp [0, 1, 2] rfl)) (cwV 0 hT (tq_gV kw_42_7 kw_42_8 kw_42_9 kw_1_23 kw_42_10) rfl rfl rfl (by decide +kernel) ⟨Nat.le_of_ble_eq_true rfl, Nat.le_of_ble_eq_true rfl⟩) ⟨(tq_pre (isC := [1, 2]) hP hD hK hN rfl (by decide)).1, va_recv hK hP (ci := 6) (q0 := 1) rfl rfl, (tq_pre (isC := [1, 2]) hP hD hK hN rfl (by decide)).2⟩ rfl rfl hl.1 rfl (lv_room (Nat.le_of_ble_eq_true rfl)) dX6_passStop_31 ⟨Nat.le_of_ble_eq_true rfl, Nat.le_of_ble_eq_true rfl⟩) (fun u108 H locs hw109 hP hD hS => ?_)
  refine W.widen (k := 0) (n := 0) (Nat.le_of_ble_eq_true rfl) (Nat.le_of_ble_eq_true rfl) ?_
  obtain ⟨ho111, hf112⟩ := hw109
  have hf112 := fh_app (fo_fh (l' := [(19, .ref pa)]) hf ho111 rfl) hf112
  have ho113 := fo_mono (k2 := [0]) (fo_trans ho_hf ho111) (by decide)
  have hf112 : fh u108 20 [(19, .ref pa), (0, .int 6)] := hf112
  have hP : va_P G vwCl [(sa, .inl (cA 0, 21, .inl fsec)), (h0, .inr (6, u108)), (pa, .inr (2, ps))] H := hP
  have hD : va_D A [(sa, .inl (cA 0, 21, .inl fsec)), (h0, .inr (6, u108)), (pa, .inr (2, ps))] := hD
  have hP : va_P G vwCl [(h0, .inr (6, u108)), (pa, .inr (2, ps)), (sa, .inl (cA 0, 21, .inl fsec))] H := hP.sub [1, 2, 0] rfl
  have hD : va_D A [(h0, .inr (6, u108)), (pa, .inr (2, ps)), (sa, .inl (cA 0, 21, .inl fsec))] := hD.sub [1, 2, 0] (by decide) rfl
  have qho113 := fo_mono (k2 := [0]) ho113 (by decide)
  exact W.vret hx hb hr (fun t ht hW => ⟨⟨u108, rfl, ⟨qho113, fh_sub hf112 [1] rfl⟩, by rw [ht]; exact hP, hD⟩, hS.F ht⟩) hS.2.2 dX6_passStop_34

set_option maxHeartbeats 4000000 in
set_option maxRecDepth 100000 in
theorem c_X6_passStop_6 (l : Launch) (G : va_G) (cA : Nat → ClassId) (sz : Nat) (h0 : Nat) (fs : List Value) (pa : Nat) (ps : List Value) (sa : Nat) (fsec : Nat → Int32) (hf : fh fs 20 [(19, .ref pa), (0, .int 6)]) (hp : fh ps 19 [(0, .int 0), (1, .int 0), (2, .int 0), (17, .ref sa)]) (hsec : ∀ j, j < 21 → fsec j = 60) : Met l yX6_passStop (.code yX6_passStop cX6_passStop 1 none :: T0) ({ frames := 2, cells := 0, slots := 0, locals := 43 }) (tqP G cA [.ref h0] [(h0, .inr (6, fs)), (pa, .inr (2, ps)), (sa, .inl (cA 0, 21, .inl fsec))] sz) (tqQv G cA (fun (u : List Value) => fo fs u [0] ∧ fh u 20 [(0, .int 7)]) (fun (u : List Value) => [(h0, .inr (6, u)), (pa, .inr (2, ps)), (sa, .inl (cA 0, 21, .inl fsec))]) (va_A [(h0, .inr (6, fs)), (pa, .inr (2, ps)), (sa, .inl (cA 0, 21, .inl fsec))] sz)) 0 0 (va_A [(h0, .inr (6, fs)), (pa, .inr (2, ps)), (sa, .inl (cA 0, 21, .inl fsec))] sz) := by
  refine Met.ofW (cc := cX6_passStop) (maxL := 1) (ret := none) (by decide) rfl ?_
  intro p e s m args below meth c s₁ B hml hv
  obtain ⟨rfl, hsz, hP, hK, hD0, hN⟩ := hv
  have hx := B.exec
  have hb := B.bytes
  have hr := B.returns
  have hts := atoms_spec (ws := .code yX6_passStop cX6_passStop 1 none :: T0) B.pre
  have hT : ∀ w ∈ T0, w.before _ s = true := fun w h => hts w (List.mem_cons_of_mem _ h)
  have hown : s.vm.findClass RX6 = some m.cls := findClass_of_methodNamed B.named
  have hlocks := B.notSynchronized
  subst hsz
  have hD := hD0.self (sz := s.heap.size)
  generalize hAe : va_A [(h0, .inr (6, fs)), (pa, .inr (2, ps)), (sa, .inl (cA 0, 21, .inl fsec))] s.heap.size = A at hD ⊢
  have hA : ∀ q : Nat, s.heap.size ≤ q → A q := fun q h => by rw [← hAe]; exact Or.inr h
  have hS : va_S A s.heap s.heap [] := va_S.rf
  have hl := lv_entry ([.ref h0]) (n := 1) (Nat.le_of_ble_eq_true rfl)
  rw [lg_entry_eq]
  generalize (lg_sl ([.ref h0]) ++ List.replicate (1 - (lg_sl ([.ref h0])).length) Slot.unset).toArray = ls at hl ⊢
  have hl : lv_has ls 1 [(0, .ref h0)] := hl
  obtain ⟨H, hH⟩ : ∃ z, z = s.heap := ⟨_, rfl⟩
  rw [← hH] at hP
  have hS : va_S A s.heap H [] := by rw [hH]; exact hS
  suffices hgo : W p l e _ s m _ below meth c H [] 0 0 _ _ by rw [hH] at hgo; exact hgo
  have hO := hN.2.2.2.2
  have ho_hf := fo_refl fs
  have ho_hp := fo_refl ps
  refine lv_aload_n hx hb dX6_passStop_0 rfl (lv_at hl 0 rfl) ?_
  refine va_get (D := G) (ci := 6) (v := .int 6) (C := RX6) (T := TX6) (N := 20) hx hb hT ku_6 hown hK hP 0 rfl rfl 0 (by decide) (hT _ kw_8_2) (fun _ h9 => h9) (fh_at hf 1 rfl) dX6_passStop_1 ?_
  refine lv_bipush (v := 20) hx hb dX6_passStop_4 (by decide) ?_
  refine lv_icmp_gt (tgt := 34) hx hb dX6_passStop_6 (by decide) (fun c101 => absurd c101 (by decide)) (fun c101 => ?_)
  refine lv_aload_n hx hb dX6_passStop_9 rfl (lv_at hl 0 rfl) ?_
  refine lv_aload_n hx hb dX6_passStop_10 rfl (lv_at hl 0 rfl) ?_
  refine va_get (D := G) (ci := 6) (v := .ref pa) (C := RX6) (T := TX6) (N := 20) hx hb hT ku_6 hown hK hP 0 rfl rfl 19 (by decide) (hT _ kw_8_1) (fun _ h9 => h9) (fh_at hf 0 rfl) dX6_passStop_11 ?_
  refine va_get (D := G) (ci := 2) (v := .ref sa) (C := RX2) (T := TX2) (N := 19) hx hb hT ku_2 hown hK hP 1 rfl rfl 17 (by decide) (hT _ kw_40_15) (fun _ h9 => h9) (fh_at hp 3 rfl) dX6_passStop_14 ?_
  refine lv_aload_n hx hb dX6_passStop_17 rfl (lv_at hl 0 rfl) ?_
  refine va_get (D := G) (ci := 6) (v := .int 6) (C := RX6) (T := TX6) (N := 20) hx hb hT ku_6 hown hK hP 0 rfl rfl 0 (by decide) (hT _ kw_8_2) (fun _ h9 => h9) (fh_at hf 1 rfl) dX6_passStop_18 ?_
  refine va_iald (i := 6) hx hb hK hP 2 0 rfl rfl (tq_in (by decide)) dX6_passStop_21 ?_
  refine tq_i (w := 60) (hsec 6 (by decide)) ?_
  refine tq_ci (wr := [(sa, .inl (cA 0, 21, .inl fsec))]) hP hD hS hA [0, 1] [2] rfl rfl (by decide) (by decide) (va_runV (As := [.int 60]) (rest := []) ⟨hx, hb, hml, hown, hT⟩ (c_X6_takeDown l G cA H.size h0 60 fs pa ps (fh_sub hf [0] rfl) (fh_sub hp [0, 1, 2] rfl)) (cwV 1 hT (tq_gV kw_40_16 kw_40_17 kw_40_18 kw_1_23 kw_40_19) rfl rfl rfl (by decide +kernel) ⟨Nat.le_of_ble_eq_true rfl, Nat.le_of_ble_eq_true rfl⟩) ⟨(tq_pre (isC := [0, 1]) hP hD hK hN rfl (by decide)).1, va_recv hK hP (ci := 6) (q0 := 0) rfl rfl, (tq_pre (isC := [0, 1]) hP hD hK hN rfl (by decide)).2⟩ rfl rfl hl.1 rfl (lv_room (Nat.le_of_ble_eq_true rfl)) dX6_passStop_22 ⟨Nat.le_of_ble_eq_true rfl, Nat.le_of_ble_eq_true rfl⟩) (fun r102 u103 H locs hw104 hP hD hS => ?_)
  refine W.widen (k := 0) (n := 0) (Nat.le_of_ble_eq_true rfl) (Nat.le_of_ble_eq_true rfl) ?_
  have hr105 := hw104
  subst hr105
  have hP : va_P G vwCl [(sa, .inl (cA 0, 21, .inl fsec)), (h0, .inr (6, fs)), (pa, .inr (2, ps))] H := hP
  have hD : va_D A [(sa, .inl (cA 0, 21, .inl fsec)), (h0, .inr (6, fs)), (pa, .inr (2, ps))] := hD
  refine lv_pop hx hb dX6_passStop_25 rfl ?_
  refine lv_aload_n hx hb dX6_passStop_26 rfl (lv_at hl 0 rfl) ?_
  refine tq_cv (wr := [(sa, .inl (cA 0, 21, .inl fsec))]) hP hD hS hA [1, 2] [0] rfl rfl (by decide) (by decide) (va_runV (As := []) (rest := []) ⟨hx, hb, hml, hown, hT⟩ (c_X6_getIn l G cA H.size h0 fs pa ps (fh_sub hf [0] rfl) (fh_sub hp [0, 1, 2] rfl)) (cwV 0 hT (tq_gV kw_41_16 kw_41_17 kw_41_18 kw_1_23 kw_41_19) rfl rfl rfl (by decide +kernel) ⟨Nat.le_of_ble_eq_true rfl, Nat.le_of_ble_eq_true rfl⟩) ⟨(tq_pre (isC := [1, 2]) hP hD hK hN rfl (by decide)).1, va_recv hK hP (ci := 6) (q0 := 1) rfl rfl, (tq_pre (isC := [1, 2]) hP hD hK hN rfl (by decide)).2⟩ rfl rfl hl.1 rfl (lv_room (Nat.le_of_ble_eq_true rfl)) dX6_passStop_27 ⟨Nat.le_of_ble_eq_true rfl, Nat.le_of_ble_eq_true rfl⟩) (fun u106 H locs hw107 hP hD hS => ?_)
  refine W.widen (k := 0) (n := 0) (Nat.le_of_ble_eq_true rfl) (Nat.le_of_ble_eq_true rfl) ?_
  have hP : va_P G vwCl [(sa, .inl (cA 0, 21, .inl fsec)), (h0, .inr (6, fs)), (pa, .inr (2, ps))] H := hP
  have hD : va_D A [(sa, .inl (cA 0, 21, .inl fsec)), (h0, .inr (6, fs)), (pa, .inr (2, ps))] := hD
  refine lv_aload_n hx hb dX6_passStop_30 rfl (lv_at hl 0 rfl) ?_
  refine tq_cv (wr := [(sa, .inl (cA 0, 21, .inl fsec))]) hP hD hS hA [1, 2] [0] rfl rfl (by decide) (by decide) (va_runV (As := []) (rest := []) ⟨hx, hb, hml, hown, hT⟩ (c_X6_wayOn_6 l G cA H.size h0 fs pa ps (fh_sub hf [0, 1] rfl) (fh_sub hp [0, 1, 2] rfl)) (cwV 0 hT (tq_gV kw_42_7 kw_42_8 kw_42_9 kw_1_23 kw_42_10) rfl rfl rfl (by decide +kernel) ⟨Nat.le_of_ble_eq_true rfl, Nat.le_of_ble_eq_true rfl⟩) ⟨(tq_pre (isC := [1, 2]) hP hD hK hN rfl (by decide)).1, va_recv hK hP (ci := 6) (q0 := 1) rfl rfl, (tq_pre (isC := [1, 2]) hP hD hK hN rfl (by decide)).2⟩ rfl rfl hl.1 rfl (lv_room (Nat.le_of_ble_eq_true rfl)) dX6_passStop_31 ⟨Nat.le_of_ble_eq_true rfl, Nat.le_of_ble_eq_true rfl⟩) (fun u108 H locs hw109 hP hD hS => ?_)
  refine W.widen (k := 0) (n := 0) (Nat.le_of_ble_eq_true rfl) (Nat.le_of_ble_eq_true rfl) ?_
  obtain ⟨ho111, hf112⟩ := hw109
  have hf112 := fh_app (fo_fh (l' := [(19, .ref pa)]) hf ho111 rfl) hf112
  have ho113 := fo_mono (k2 := [0]) (fo_trans ho_hf ho111) (by decide)
  have hf112 : fh u108 20 [(19, .ref pa), (0, .int 7)] := hf112
  have hP : va_P G vwCl [(sa, .inl (cA 0, 21, .inl fsec)), (h0, .inr (6, u108)), (pa, .inr (2, ps))] H := hP
  have hD : va_D A [(sa, .inl (cA 0, 21, .inl fsec)), (h0, .inr (6, u108)), (pa, .inr (2, ps))] := hD
  have hP : va_P G vwCl [(h0, .inr (6, u108)), (pa, .inr (2, ps)), (sa, .inl (cA 0, 21, .inl fsec))] H := hP.sub [1, 2, 0] rfl
  have hD : va_D A [(h0, .inr (6, u108)), (pa, .inr (2, ps)), (sa, .inl (cA 0, 21, .inl fsec))] := hD.sub [1, 2, 0] (by decide) rfl
  have qho113 := fo_mono (k2 := [0]) ho113 (by decide)
  exact W.vret hx hb hr (fun t ht hW => ⟨⟨u108, rfl, ⟨qho113, fh_sub hf112 [1] rfl⟩, by rw [ht]; exact hP, hD⟩, hS.F ht⟩) hS.2.2 dX6_passStop_34

set_option maxHeartbeats 4000000 in
set_option maxRecDepth 100000 in
theorem c_X6_passStop_7 (l : Launch) (G : va_G) (cA : Nat → ClassId) (sz : Nat) (h0 : Nat) (fs : List Value) (pa : Nat) (ps : List Value) (sa : Nat) (fsec : Nat → Int32) (hf : fh fs 20 [(19, .ref pa), (0, .int 7)]) (hp : fh ps 19 [(0, .int 0), (1, .int 0), (2, .int 0), (17, .ref sa)]) (hsec : ∀ j, j < 21 → fsec j = 60) : Met l yX6_passStop (.code yX6_passStop cX6_passStop 1 none :: T0) ({ frames := 2, cells := 0, slots := 0, locals := 43 }) (tqP G cA [.ref h0] [(h0, .inr (6, fs)), (pa, .inr (2, ps)), (sa, .inl (cA 0, 21, .inl fsec))] sz) (tqQv G cA (fun (u : List Value) => fo fs u [0] ∧ fh u 20 [(0, .int 8)]) (fun (u : List Value) => [(h0, .inr (6, u)), (pa, .inr (2, ps)), (sa, .inl (cA 0, 21, .inl fsec))]) (va_A [(h0, .inr (6, fs)), (pa, .inr (2, ps)), (sa, .inl (cA 0, 21, .inl fsec))] sz)) 0 0 (va_A [(h0, .inr (6, fs)), (pa, .inr (2, ps)), (sa, .inl (cA 0, 21, .inl fsec))] sz) := by
  refine Met.ofW (cc := cX6_passStop) (maxL := 1) (ret := none) (by decide) rfl ?_
  intro p e s m args below meth c s₁ B hml hv
  obtain ⟨rfl, hsz, hP, hK, hD0, hN⟩ := hv
  have hx := B.exec
  have hb := B.bytes
  have hr := B.returns
  have hts := atoms_spec (ws := .code yX6_passStop cX6_passStop 1 none :: T0) B.pre
  have hT : ∀ w ∈ T0, w.before _ s = true := fun w h => hts w (List.mem_cons_of_mem _ h)
  have hown : s.vm.findClass RX6 = some m.cls := findClass_of_methodNamed B.named
  have hlocks := B.notSynchronized
  subst hsz
  have hD := hD0.self (sz := s.heap.size)
  generalize hAe : va_A [(h0, .inr (6, fs)), (pa, .inr (2, ps)), (sa, .inl (cA 0, 21, .inl fsec))] s.heap.size = A at hD ⊢
  have hA : ∀ q : Nat, s.heap.size ≤ q → A q := fun q h => by rw [← hAe]; exact Or.inr h
  have hS : va_S A s.heap s.heap [] := va_S.rf
  have hl := lv_entry ([.ref h0]) (n := 1) (Nat.le_of_ble_eq_true rfl)
  rw [lg_entry_eq]
  generalize (lg_sl ([.ref h0]) ++ List.replicate (1 - (lg_sl ([.ref h0])).length) Slot.unset).toArray = ls at hl ⊢
  have hl : lv_has ls 1 [(0, .ref h0)] := hl
  obtain ⟨H, hH⟩ : ∃ z, z = s.heap := ⟨_, rfl⟩
  rw [← hH] at hP
  have hS : va_S A s.heap H [] := by rw [hH]; exact hS
  suffices hgo : W p l e _ s m _ below meth c H [] 0 0 _ _ by rw [hH] at hgo; exact hgo
  have hO := hN.2.2.2.2
  have ho_hf := fo_refl fs
  have ho_hp := fo_refl ps
  refine lv_aload_n hx hb dX6_passStop_0 rfl (lv_at hl 0 rfl) ?_
  refine va_get (D := G) (ci := 6) (v := .int 7) (C := RX6) (T := TX6) (N := 20) hx hb hT ku_6 hown hK hP 0 rfl rfl 0 (by decide) (hT _ kw_8_2) (fun _ h9 => h9) (fh_at hf 1 rfl) dX6_passStop_1 ?_
  refine lv_bipush (v := 20) hx hb dX6_passStop_4 (by decide) ?_
  refine lv_icmp_gt (tgt := 34) hx hb dX6_passStop_6 (by decide) (fun c101 => absurd c101 (by decide)) (fun c101 => ?_)
  refine lv_aload_n hx hb dX6_passStop_9 rfl (lv_at hl 0 rfl) ?_
  refine lv_aload_n hx hb dX6_passStop_10 rfl (lv_at hl 0 rfl) ?_
  refine va_get (D := G) (ci := 6) (v := .ref pa) (C := RX6) (T := TX6) (N := 20) hx hb hT ku_6 hown hK hP 0 rfl rfl 19 (by decide) (hT _ kw_8_1) (fun _ h9 => h9) (fh_at hf 0 rfl) dX6_passStop_11 ?_
  refine va_get (D := G) (ci := 2) (v := .ref sa) (C := RX2) (T := TX2) (N := 19) hx hb hT ku_2 hown hK hP 1 rfl rfl 17 (by decide) (hT _ kw_40_15) (fun _ h9 => h9) (fh_at hp 3 rfl) dX6_passStop_14 ?_
  refine lv_aload_n hx hb dX6_passStop_17 rfl (lv_at hl 0 rfl) ?_
  refine va_get (D := G) (ci := 6) (v := .int 7) (C := RX6) (T := TX6) (N := 20) hx hb hT ku_6 hown hK hP 0 rfl rfl 0 (by decide) (hT _ kw_8_2) (fun _ h9 => h9) (fh_at hf 1 rfl) dX6_passStop_18 ?_
  refine va_iald (i := 7) hx hb hK hP 2 0 rfl rfl (tq_in (by decide)) dX6_passStop_21 ?_
  refine tq_i (w := 60) (hsec 7 (by decide)) ?_
  refine tq_ci (wr := [(sa, .inl (cA 0, 21, .inl fsec))]) hP hD hS hA [0, 1] [2] rfl rfl (by decide) (by decide) (va_runV (As := [.int 60]) (rest := []) ⟨hx, hb, hml, hown, hT⟩ (c_X6_takeDown l G cA H.size h0 60 fs pa ps (fh_sub hf [0] rfl) (fh_sub hp [0, 1, 2] rfl)) (cwV 1 hT (tq_gV kw_40_16 kw_40_17 kw_40_18 kw_1_23 kw_40_19) rfl rfl rfl (by decide +kernel) ⟨Nat.le_of_ble_eq_true rfl, Nat.le_of_ble_eq_true rfl⟩) ⟨(tq_pre (isC := [0, 1]) hP hD hK hN rfl (by decide)).1, va_recv hK hP (ci := 6) (q0 := 0) rfl rfl, (tq_pre (isC := [0, 1]) hP hD hK hN rfl (by decide)).2⟩ rfl rfl hl.1 rfl (lv_room (Nat.le_of_ble_eq_true rfl)) dX6_passStop_22 ⟨Nat.le_of_ble_eq_true rfl, Nat.le_of_ble_eq_true rfl⟩) (fun r102 u103 H locs hw104 hP hD hS => ?_)
  refine W.widen (k := 0) (n := 0) (Nat.le_of_ble_eq_true rfl) (Nat.le_of_ble_eq_true rfl) ?_
  have hr105 := hw104
  subst hr105
  have hP : va_P G vwCl [(sa, .inl (cA 0, 21, .inl fsec)), (h0, .inr (6, fs)), (pa, .inr (2, ps))] H := hP
  have hD : va_D A [(sa, .inl (cA 0, 21, .inl fsec)), (h0, .inr (6, fs)), (pa, .inr (2, ps))] := hD
  refine lv_pop hx hb dX6_passStop_25 rfl ?_
  refine lv_aload_n hx hb dX6_passStop_26 rfl (lv_at hl 0 rfl) ?_
  refine tq_cv (wr := [(sa, .inl (cA 0, 21, .inl fsec))]) hP hD hS hA [1, 2] [0] rfl rfl (by decide) (by decide) (va_runV (As := []) (rest := []) ⟨hx, hb, hml, hown, hT⟩ (c_X6_getIn l G cA H.size h0 fs pa ps (fh_sub hf [0] rfl) (fh_sub hp [0, 1, 2] rfl)) (cwV 0 hT (tq_gV kw_41_16 kw_41_17 kw_41_18 kw_1_23 kw_41_19) rfl rfl rfl (by decide +kernel) ⟨Nat.le_of_ble_eq_true rfl, Nat.le_of_ble_eq_true rfl⟩) ⟨(tq_pre (isC := [1, 2]) hP hD hK hN rfl (by decide)).1, va_recv hK hP (ci := 6) (q0 := 1) rfl rfl, (tq_pre (isC := [1, 2]) hP hD hK hN rfl (by decide)).2⟩ rfl rfl hl.1 rfl (lv_room (Nat.le_of_ble_eq_true rfl)) dX6_passStop_27 ⟨Nat.le_of_ble_eq_true rfl, Nat.le_of_ble_eq_true rfl⟩) (fun u106 H locs hw107 hP hD hS => ?_)
  refine W.widen (k := 0) (n := 0) (Nat.le_of_ble_eq_true rfl) (Nat.le_of_ble_eq_true rfl) ?_
  have hP : va_P G vwCl [(sa, .inl (cA 0, 21, .inl fsec)), (h0, .inr (6, fs)), (pa, .inr (2, ps))] H := hP
  have hD : va_D A [(sa, .inl (cA 0, 21, .inl fsec)), (h0, .inr (6, fs)), (pa, .inr (2, ps))] := hD
  refine lv_aload_n hx hb dX6_passStop_30 rfl (lv_at hl 0 rfl) ?_
  refine tq_cv (wr := [(sa, .inl (cA 0, 21, .inl fsec))]) hP hD hS hA [1, 2] [0] rfl rfl (by decide) (by decide) (va_runV (As := []) (rest := []) ⟨hx, hb, hml, hown, hT⟩ (c_X6_wayOn_7 l G cA H.size h0 fs pa ps (fh_sub hf [0, 1] rfl) (fh_sub hp [0, 1, 2] rfl)) (cwV 0 hT (tq_gV kw_42_7 kw_42_8 kw_42_9 kw_1_23 kw_42_10) rfl rfl rfl (by decide +kernel) ⟨Nat.le_of_ble_eq_true rfl, Nat.le_of_ble_eq_true rfl⟩) ⟨(tq_pre (isC := [1, 2]) hP hD hK hN rfl (by decide)).1, va_recv hK hP (ci := 6) (q0 := 1) rfl rfl, (tq_pre (isC := [1, 2]) hP hD hK hN rfl (by decide)).2⟩ rfl rfl hl.1 rfl (lv_room (Nat.le_of_ble_eq_true rfl)) dX6_passStop_31 ⟨Nat.le_of_ble_eq_true rfl, Nat.le_of_ble_eq_true rfl⟩) (fun u108 H locs hw109 hP hD hS => ?_)
  refine W.widen (k := 0) (n := 0) (Nat.le_of_ble_eq_true rfl) (Nat.le_of_ble_eq_true rfl) ?_
  obtain ⟨ho111, hf112⟩ := hw109
  have hf112 := fh_app (fo_fh (l' := [(19, .ref pa)]) hf ho111 rfl) hf112
  have ho113 := fo_mono (k2 := [0]) (fo_trans ho_hf ho111) (by decide)
  have hf112 : fh u108 20 [(19, .ref pa), (0, .int 8)] := hf112
  have hP : va_P G vwCl [(sa, .inl (cA 0, 21, .inl fsec)), (h0, .inr (6, u108)), (pa, .inr (2, ps))] H := hP
  have hD : va_D A [(sa, .inl (cA 0, 21, .inl fsec)), (h0, .inr (6, u108)), (pa, .inr (2, ps))] := hD
  have hP : va_P G vwCl [(h0, .inr (6, u108)), (pa, .inr (2, ps)), (sa, .inl (cA 0, 21, .inl fsec))] H := hP.sub [1, 2, 0] rfl
  have hD : va_D A [(h0, .inr (6, u108)), (pa, .inr (2, ps)), (sa, .inl (cA 0, 21, .inl fsec))] := hD.sub [1, 2, 0] (by decide) rfl
  have qho113 := fo_mono (k2 := [0]) ho113 (by decide)
  exact W.vret hx hb hr (fun t ht hW => ⟨⟨u108, rfl, ⟨qho113, fh_sub hf112 [1] rfl⟩, by rw [ht]; exact hP, hD⟩, hS.F ht⟩) hS.2.2 dX6_passStop_34

set_option maxHeartbeats 4000000 in
set_option maxRecDepth 100000 in
theorem c_X6_passStop_8 (l : Launch) (G : va_G) (cA : Nat → ClassId) (sz : Nat) (h0 : Nat) (fs : List Value) (pa : Nat) (ps : List Value) (sa : Nat) (fsec : Nat → Int32) (hf : fh fs 20 [(19, .ref pa), (0, .int 8)]) (hp : fh ps 19 [(0, .int 0), (1, .int 0), (2, .int 0), (17, .ref sa)]) (hsec : ∀ j, j < 21 → fsec j = 60) : Met l yX6_passStop (.code yX6_passStop cX6_passStop 1 none :: T0) ({ frames := 2, cells := 0, slots := 0, locals := 43 }) (tqP G cA [.ref h0] [(h0, .inr (6, fs)), (pa, .inr (2, ps)), (sa, .inl (cA 0, 21, .inl fsec))] sz) (tqQv G cA (fun (u : List Value) => fo fs u [0] ∧ fh u 20 [(0, .int 9)]) (fun (u : List Value) => [(h0, .inr (6, u)), (pa, .inr (2, ps)), (sa, .inl (cA 0, 21, .inl fsec))]) (va_A [(h0, .inr (6, fs)), (pa, .inr (2, ps)), (sa, .inl (cA 0, 21, .inl fsec))] sz)) 0 0 (va_A [(h0, .inr (6, fs)), (pa, .inr (2, ps)), (sa, .inl (cA 0, 21, .inl fsec))] sz) := by
  refine Met.ofW (cc := cX6_passStop) (maxL := 1) (ret := none) (by decide) rfl ?_
  intro p e s m args below meth c s₁ B hml hv
  obtain ⟨rfl, hsz, hP, hK, hD0, hN⟩ := hv
  have hx := B.exec
  have hb := B.bytes
  have hr := B.returns
  have hts := atoms_spec (ws := .code yX6_passStop cX6_passStop 1 none :: T0) B.pre
  have hT : ∀ w ∈ T0, w.before _ s = true := fun w h => hts w (List.mem_cons_of_mem _ h)
  have hown : s.vm.findClass RX6 = some m.cls := findClass_of_methodNamed B.named
  have hlocks := B.notSynchronized
  subst hsz
  have hD := hD0.self (sz := s.heap.size)
  generalize hAe : va_A [(h0, .inr (6, fs)), (pa, .inr (2, ps)), (sa, .inl (cA 0, 21, .inl fsec))] s.heap.size = A at hD ⊢
  have hA : ∀ q : Nat, s.heap.size ≤ q → A q := fun q h => by rw [← hAe]; exact Or.inr h
  have hS : va_S A s.heap s.heap [] := va_S.rf
  have hl := lv_entry ([.ref h0]) (n := 1) (Nat.le_of_ble_eq_true rfl)
  rw [lg_entry_eq]
  generalize (lg_sl ([.ref h0]) ++ List.replicate (1 - (lg_sl ([.ref h0])).length) Slot.unset).toArray = ls at hl ⊢
  have hl : lv_has ls 1 [(0, .ref h0)] := hl
  obtain ⟨H, hH⟩ : ∃ z, z = s.heap := ⟨_, rfl⟩
  rw [← hH] at hP
  have hS : va_S A s.heap H [] := by rw [hH]; exact hS
  suffices hgo : W p l e _ s m _ below meth c H [] 0 0 _ _ by rw [hH] at hgo; exact hgo
  have hO := hN.2.2.2.2
  have ho_hf := fo_refl fs
  have ho_hp := fo_refl ps
  refine lv_aload_n hx hb dX6_passStop_0 rfl (lv_at hl 0 rfl) ?_
  refine va_get (D := G) (ci := 6) (v := .int 8) (C := RX6) (T := TX6) (N := 20) hx hb hT ku_6 hown hK hP 0 rfl rfl 0 (by decide) (hT _ kw_8_2) (fun _ h9 => h9) (fh_at hf 1 rfl) dX6_passStop_1 ?_
  refine lv_bipush (v := 20) hx hb dX6_passStop_4 (by decide) ?_
  refine lv_icmp_gt (tgt := 34) hx hb dX6_passStop_6 (by decide) (fun c101 => absurd c101 (by decide)) (fun c101 => ?_)
  refine lv_aload_n hx hb dX6_passStop_9 rfl (lv_at hl 0 rfl) ?_
  refine lv_aload_n hx hb dX6_passStop_10 rfl (lv_at hl 0 rfl) ?_
  refine va_get (D := G) (ci := 6) (v := .ref pa) (C := RX6) (T := TX6) (N := 20) hx hb hT ku_6 hown hK hP 0 rfl rfl 19 (by decide) (hT _ kw_8_1) (fun _ h9 => h9) (fh_at hf 0 rfl) dX6_passStop_11 ?_
  refine va_get (D := G) (ci := 2) (v := .ref sa) (C := RX2) (T := TX2) (N := 19) hx hb hT ku_2 hown hK hP 1 rfl rfl 17 (by decide) (hT _ kw_40_15) (fun _ h9 => h9) (fh_at hp 3 rfl) dX6_passStop_14 ?_
  refine lv_aload_n hx hb dX6_passStop_17 rfl (lv_at hl 0 rfl) ?_
  refine va_get (D := G) (ci := 6) (v := .int 8) (C := RX6) (T := TX6) (N := 20) hx hb hT ku_6 hown hK hP 0 rfl rfl 0 (by decide) (hT _ kw_8_2) (fun _ h9 => h9) (fh_at hf 1 rfl) dX6_passStop_18 ?_
  refine va_iald (i := 8) hx hb hK hP 2 0 rfl rfl (tq_in (by decide)) dX6_passStop_21 ?_
  refine tq_i (w := 60) (hsec 8 (by decide)) ?_
  refine tq_ci (wr := [(sa, .inl (cA 0, 21, .inl fsec))]) hP hD hS hA [0, 1] [2] rfl rfl (by decide) (by decide) (va_runV (As := [.int 60]) (rest := []) ⟨hx, hb, hml, hown, hT⟩ (c_X6_takeDown l G cA H.size h0 60 fs pa ps (fh_sub hf [0] rfl) (fh_sub hp [0, 1, 2] rfl)) (cwV 1 hT (tq_gV kw_40_16 kw_40_17 kw_40_18 kw_1_23 kw_40_19) rfl rfl rfl (by decide +kernel) ⟨Nat.le_of_ble_eq_true rfl, Nat.le_of_ble_eq_true rfl⟩) ⟨(tq_pre (isC := [0, 1]) hP hD hK hN rfl (by decide)).1, va_recv hK hP (ci := 6) (q0 := 0) rfl rfl, (tq_pre (isC := [0, 1]) hP hD hK hN rfl (by decide)).2⟩ rfl rfl hl.1 rfl (lv_room (Nat.le_of_ble_eq_true rfl)) dX6_passStop_22 ⟨Nat.le_of_ble_eq_true rfl, Nat.le_of_ble_eq_true rfl⟩) (fun r102 u103 H locs hw104 hP hD hS => ?_)
  refine W.widen (k := 0) (n := 0) (Nat.le_of_ble_eq_true rfl) (Nat.le_of_ble_eq_true rfl) ?_
  have hr105 := hw104
  subst hr105
  have hP : va_P G vwCl [(sa, .inl (cA 0, 21, .inl fsec)), (h0, .inr (6, fs)), (pa, .inr (2, ps))] H := hP
  have hD : va_D A [(sa, .inl (cA 0, 21, .inl fsec)), (h0, .inr (6, fs)), (pa, .inr (2, ps))] := hD
  refine lv_pop hx hb dX6_passStop_25 rfl ?_
  refine lv_aload_n hx hb dX6_passStop_26 rfl (lv_at hl 0 rfl) ?_
  refine tq_cv (wr := [(sa, .inl (cA 0, 21, .inl fsec))]) hP hD hS hA [1, 2] [0] rfl rfl (by decide) (by decide) (va_runV (As := []) (rest := []) ⟨hx, hb, hml, hown, hT⟩ (c_X6_getIn l G cA H.size h0 fs pa ps (fh_sub hf [0] rfl) (fh_sub hp [0, 1, 2] rfl)) (cwV 0 hT (tq_gV kw_41_16 kw_41_17 kw_41_18 kw_1_23 kw_41_19) rfl rfl rfl (by decide +kernel) ⟨Nat.le_of_ble_eq_true rfl, Nat.le_of_ble_eq_true rfl⟩) ⟨(tq_pre (isC := [1, 2]) hP hD hK hN rfl (by decide)).1, va_recv hK hP (ci := 6) (q0 := 1) rfl rfl, (tq_pre (isC := [1, 2]) hP hD hK hN rfl (by decide)).2⟩ rfl rfl hl.1 rfl (lv_room (Nat.le_of_ble_eq_true rfl)) dX6_passStop_27 ⟨Nat.le_of_ble_eq_true rfl, Nat.le_of_ble_eq_true rfl⟩) (fun u106 H locs hw107 hP hD hS => ?_)
  refine W.widen (k := 0) (n := 0) (Nat.le_of_ble_eq_true rfl) (Nat.le_of_ble_eq_true rfl) ?_
  have hP : va_P G vwCl [(sa, .inl (cA 0, 21, .inl fsec)), (h0, .inr (6, fs)), (pa, .inr (2, ps))] H := hP
  have hD : va_D A [(sa, .inl (cA 0, 21, .inl fsec)), (h0, .inr (6, fs)), (pa, .inr (2, ps))] := hD
  refine lv_aload_n hx hb dX6_passStop_30 rfl (lv_at hl 0 rfl) ?_
  refine tq_cv (wr := [(sa, .inl (cA 0, 21, .inl fsec))]) hP hD hS hA [1, 2] [0] rfl rfl (by decide) (by decide) (va_runV (As := []) (rest := []) ⟨hx, hb, hml, hown, hT⟩ (c_X6_wayOn_8 l G cA H.size h0 fs pa ps (fh_sub hf [0, 1] rfl) (fh_sub hp [0, 1, 2] rfl)) (cwV 0 hT (tq_gV kw_42_7 kw_42_8 kw_42_9 kw_1_23 kw_42_10) rfl rfl rfl (by decide +kernel) ⟨Nat.le_of_ble_eq_true rfl, Nat.le_of_ble_eq_true rfl⟩) ⟨(tq_pre (isC := [1, 2]) hP hD hK hN rfl (by decide)).1, va_recv hK hP (ci := 6) (q0 := 1) rfl rfl, (tq_pre (isC := [1, 2]) hP hD hK hN rfl (by decide)).2⟩ rfl rfl hl.1 rfl (lv_room (Nat.le_of_ble_eq_true rfl)) dX6_passStop_31 ⟨Nat.le_of_ble_eq_true rfl, Nat.le_of_ble_eq_true rfl⟩) (fun u108 H locs hw109 hP hD hS => ?_)
  refine W.widen (k := 0) (n := 0) (Nat.le_of_ble_eq_true rfl) (Nat.le_of_ble_eq_true rfl) ?_
  obtain ⟨ho111, hf112⟩ := hw109
  have hf112 := fh_app (fo_fh (l' := [(19, .ref pa)]) hf ho111 rfl) hf112
  have ho113 := fo_mono (k2 := [0]) (fo_trans ho_hf ho111) (by decide)
  have hf112 : fh u108 20 [(19, .ref pa), (0, .int 9)] := hf112
  have hP : va_P G vwCl [(sa, .inl (cA 0, 21, .inl fsec)), (h0, .inr (6, u108)), (pa, .inr (2, ps))] H := hP
  have hD : va_D A [(sa, .inl (cA 0, 21, .inl fsec)), (h0, .inr (6, u108)), (pa, .inr (2, ps))] := hD
  have hP : va_P G vwCl [(h0, .inr (6, u108)), (pa, .inr (2, ps)), (sa, .inl (cA 0, 21, .inl fsec))] H := hP.sub [1, 2, 0] rfl
  have hD : va_D A [(h0, .inr (6, u108)), (pa, .inr (2, ps)), (sa, .inl (cA 0, 21, .inl fsec))] := hD.sub [1, 2, 0] (by decide) rfl
  have qho113 := fo_mono (k2 := [0]) ho113 (by decide)
  exact W.vret hx hb hr (fun t ht hW => ⟨⟨u108, rfl, ⟨qho113, fh_sub hf112 [1] rfl⟩, by rw [ht]; exact hP, hD⟩, hS.F ht⟩) hS.2.2 dX6_passStop_34

set_option maxHeartbeats 4000000 in
set_option maxRecDepth 100000 in
theorem c_X6_passStop_9 (l : Launch) (G : va_G) (cA : Nat → ClassId) (sz : Nat) (h0 : Nat) (fs : List Value) (pa : Nat) (ps : List Value) (sa : Nat) (fsec : Nat → Int32) (hf : fh fs 20 [(19, .ref pa), (0, .int 9)]) (hp : fh ps 19 [(0, .int 0), (1, .int 0), (2, .int 0), (17, .ref sa)]) (hsec : ∀ j, j < 21 → fsec j = 60) : Met l yX6_passStop (.code yX6_passStop cX6_passStop 1 none :: T0) ({ frames := 2, cells := 0, slots := 0, locals := 43 }) (tqP G cA [.ref h0] [(h0, .inr (6, fs)), (pa, .inr (2, ps)), (sa, .inl (cA 0, 21, .inl fsec))] sz) (tqQv G cA (fun (u : List Value) => fo fs u [0] ∧ fh u 20 [(0, .int 10)]) (fun (u : List Value) => [(h0, .inr (6, u)), (pa, .inr (2, ps)), (sa, .inl (cA 0, 21, .inl fsec))]) (va_A [(h0, .inr (6, fs)), (pa, .inr (2, ps)), (sa, .inl (cA 0, 21, .inl fsec))] sz)) 0 0 (va_A [(h0, .inr (6, fs)), (pa, .inr (2, ps)), (sa, .inl (cA 0, 21, .inl fsec))] sz) := by
  refine Met.ofW (cc := cX6_passStop) (maxL := 1) (ret := none) (by decide) rfl ?_
  intro p e s m args below meth c s₁ B hml hv
  obtain ⟨rfl, hsz, hP, hK, hD0, hN⟩ := hv
  have hx := B.exec
  have hb := B.bytes
  have hr := B.returns
  have hts := atoms_spec (ws := .code yX6_passStop cX6_passStop 1 none :: T0) B.pre
  have hT : ∀ w ∈ T0, w.before _ s = true := fun w h => hts w (List.mem_cons_of_mem _ h)
  have hown : s.vm.findClass RX6 = some m.cls := findClass_of_methodNamed B.named
  have hlocks := B.notSynchronized
  subst hsz
  have hD := hD0.self (sz := s.heap.size)
  generalize hAe : va_A [(h0, .inr (6, fs)), (pa, .inr (2, ps)), (sa, .inl (cA 0, 21, .inl fsec))] s.heap.size = A at hD ⊢
  have hA : ∀ q : Nat, s.heap.size ≤ q → A q := fun q h => by rw [← hAe]; exact Or.inr h
  have hS : va_S A s.heap s.heap [] := va_S.rf
  have hl := lv_entry ([.ref h0]) (n := 1) (Nat.le_of_ble_eq_true rfl)
  rw [lg_entry_eq]
  generalize (lg_sl ([.ref h0]) ++ List.replicate (1 - (lg_sl ([.ref h0])).length) Slot.unset).toArray = ls at hl ⊢
  have hl : lv_has ls 1 [(0, .ref h0)] := hl
  obtain ⟨H, hH⟩ : ∃ z, z = s.heap := ⟨_, rfl⟩
  rw [← hH] at hP
  have hS : va_S A s.heap H [] := by rw [hH]; exact hS
  suffices hgo : W p l e _ s m _ below meth c H [] 0 0 _ _ by rw [hH] at hgo; exact hgo
  have hO := hN.2.2.2.2
  have ho_hf := fo_refl fs
  have ho_hp := fo_refl ps
  refine lv_aload_n hx hb dX6_passStop_0 rfl (lv_at hl 0 rfl) ?_
  refine va_get (D := G) (ci := 6) (v := .int 9) (C := RX6) (T := TX6) (N := 20) hx hb hT ku_6 hown hK hP 0 rfl rfl 0 (by decide) (hT _ kw_8_2) (fun _ h9 => h9) (fh_at hf 1 rfl) dX6_passStop_1 ?_
  refine lv_bipush (v := 20) hx hb dX6_passStop_4 (by decide) ?_
  refine lv_icmp_gt (tgt := 34) hx hb dX6_passStop_6 (by decide) (fun c101 => absurd c101 (by decide)) (fun c101 => ?_)
  refine lv_aload_n hx hb dX6_passStop_9 rfl (lv_at hl 0 rfl) ?_
  refine lv_aload_n hx hb dX6_passStop_10 rfl (lv_at hl 0 rfl) ?_
  refine va_get (D := G) (ci := 6) (v := .ref pa) (C := RX6) (T := TX6) (N := 20) hx hb hT ku_6 hown hK hP 0 rfl rfl 19 (by decide) (hT _ kw_8_1) (fun _ h9 => h9) (fh_at hf 0 rfl) dX6_passStop_11 ?_
  refine va_get (D := G) (ci := 2) (v := .ref sa) (C := RX2) (T := TX2) (N := 19) hx hb hT ku_2 hown hK hP 1 rfl rfl 17 (by decide) (hT _ kw_40_15) (fun _ h9 => h9) (fh_at hp 3 rfl) dX6_passStop_14 ?_
  refine lv_aload_n hx hb dX6_passStop_17 rfl (lv_at hl 0 rfl) ?_
  refine va_get (D := G) (ci := 6) (v := .int 9) (C := RX6) (T := TX6) (N := 20) hx hb hT ku_6 hown hK hP 0 rfl rfl 0 (by decide) (hT _ kw_8_2) (fun _ h9 => h9) (fh_at hf 1 rfl) dX6_passStop_18 ?_
  refine va_iald (i := 9) hx hb hK hP 2 0 rfl rfl (tq_in (by decide)) dX6_passStop_21 ?_
  refine tq_i (w := 60) (hsec 9 (by decide)) ?_
  refine tq_ci (wr := [(sa, .inl (cA 0, 21, .inl fsec))]) hP hD hS hA [0, 1] [2] rfl rfl (by decide) (by decide) (va_runV (As := [.int 60]) (rest := []) ⟨hx, hb, hml, hown, hT⟩ (c_X6_takeDown l G cA H.size h0 60 fs pa ps (fh_sub hf [0] rfl) (fh_sub hp [0, 1, 2] rfl)) (cwV 1 hT (tq_gV kw_40_16 kw_40_17 kw_40_18 kw_1_23 kw_40_19) rfl rfl rfl (by decide +kernel) ⟨Nat.le_of_ble_eq_true rfl, Nat.le_of_ble_eq_true rfl⟩) ⟨(tq_pre (isC := [0, 1]) hP hD hK hN rfl (by decide)).1, va_recv hK hP (ci := 6) (q0 := 0) rfl rfl, (tq_pre (isC := [0, 1]) hP hD hK hN rfl (by decide)).2⟩ rfl rfl hl.1 rfl (lv_room (Nat.le_of_ble_eq_true rfl)) dX6_passStop_22 ⟨Nat.le_of_ble_eq_true rfl, Nat.le_of_ble_eq_true rfl⟩) (fun r102 u103 H locs hw104 hP hD hS => ?_)
  refine W.widen (k := 0) (n := 0) (Nat.le_of_ble_eq_true rfl) (Nat.le_of_ble_eq_true rfl) ?_
  have hr105 := hw104
  subst hr105
  have hP : va_P G vwCl [(sa, .inl (cA 0, 21, .inl fsec)), (h0, .inr (6, fs)), (pa, .inr (2, ps))] H := hP
  have hD : va_D A [(sa, .inl (cA 0, 21, .inl fsec)), (h0, .inr (6, fs)), (pa, .inr (2, ps))] := hD
  refine lv_pop hx hb dX6_passStop_25 rfl ?_
  refine lv_aload_n hx hb dX6_passStop_26 rfl (lv_at hl 0 rfl) ?_
  refine tq_cv (wr := [(sa, .inl (cA 0, 21, .inl fsec))]) hP hD hS hA [1, 2] [0] rfl rfl (by decide) (by decide) (va_runV (As := []) (rest := []) ⟨hx, hb, hml, hown, hT⟩ (c_X6_getIn l G cA H.size h0 fs pa ps (fh_sub hf [0] rfl) (fh_sub hp [0, 1, 2] rfl)) (cwV 0 hT (tq_gV kw_41_16 kw_41_17 kw_41_18 kw_1_23 kw_41_19) rfl rfl rfl (by decide +kernel) ⟨Nat.le_of_ble_eq_true rfl, Nat.le_of_ble_eq_true rfl⟩) ⟨(tq_pre (isC := [1, 2]) hP hD hK hN rfl (by decide)).1, va_recv hK hP (ci := 6) (q0 := 1) rfl rfl, (tq_pre (isC := [1, 2]) hP hD hK hN rfl (by decide)).2⟩ rfl rfl hl.1 rfl (lv_room (Nat.le_of_ble_eq_true rfl)) dX6_passStop_27 ⟨Nat.le_of_ble_eq_true rfl, Nat.le_of_ble_eq_true rfl⟩) (fun u106 H locs hw107 hP hD hS => ?_)
  refine W.widen (k := 0) (n := 0) (Nat.le_of_ble_eq_true rfl) (Nat.le_of_ble_eq_true rfl) ?_
  have hP : va_P G vwCl [(sa, .inl (cA 0, 21, .inl fsec)), (h0, .inr (6, fs)), (pa, .inr (2, ps))] H := hP
  have hD : va_D A [(sa, .inl (cA 0, 21, .inl fsec)), (h0, .inr (6, fs)), (pa, .inr (2, ps))] := hD
  refine lv_aload_n hx hb dX6_passStop_30 rfl (lv_at hl 0 rfl) ?_
  refine tq_cv (wr := [(sa, .inl (cA 0, 21, .inl fsec))]) hP hD hS hA [1, 2] [0] rfl rfl (by decide) (by decide) (va_runV (As := []) (rest := []) ⟨hx, hb, hml, hown, hT⟩ (c_X6_wayOn_9 l G cA H.size h0 fs pa ps (fh_sub hf [0, 1] rfl) (fh_sub hp [0, 1, 2] rfl)) (cwV 0 hT (tq_gV kw_42_7 kw_42_8 kw_42_9 kw_1_23 kw_42_10) rfl rfl rfl (by decide +kernel) ⟨Nat.le_of_ble_eq_true rfl, Nat.le_of_ble_eq_true rfl⟩) ⟨(tq_pre (isC := [1, 2]) hP hD hK hN rfl (by decide)).1, va_recv hK hP (ci := 6) (q0 := 1) rfl rfl, (tq_pre (isC := [1, 2]) hP hD hK hN rfl (by decide)).2⟩ rfl rfl hl.1 rfl (lv_room (Nat.le_of_ble_eq_true rfl)) dX6_passStop_31 ⟨Nat.le_of_ble_eq_true rfl, Nat.le_of_ble_eq_true rfl⟩) (fun u108 H locs hw109 hP hD hS => ?_)
  refine W.widen (k := 0) (n := 0) (Nat.le_of_ble_eq_true rfl) (Nat.le_of_ble_eq_true rfl) ?_
  obtain ⟨ho111, hf112⟩ := hw109
  have hf112 := fh_app (fo_fh (l' := [(19, .ref pa)]) hf ho111 rfl) hf112
  have ho113 := fo_mono (k2 := [0]) (fo_trans ho_hf ho111) (by decide)
  have hf112 : fh u108 20 [(19, .ref pa), (0, .int 10)] := hf112
  have hP : va_P G vwCl [(sa, .inl (cA 0, 21, .inl fsec)), (h0, .inr (6, u108)), (pa, .inr (2, ps))] H := hP
  have hD : va_D A [(sa, .inl (cA 0, 21, .inl fsec)), (h0, .inr (6, u108)), (pa, .inr (2, ps))] := hD
  have hP : va_P G vwCl [(h0, .inr (6, u108)), (pa, .inr (2, ps)), (sa, .inl (cA 0, 21, .inl fsec))] H := hP.sub [1, 2, 0] rfl
  have hD : va_D A [(h0, .inr (6, u108)), (pa, .inr (2, ps)), (sa, .inl (cA 0, 21, .inl fsec))] := hD.sub [1, 2, 0] (by decide) rfl
  have qho113 := fo_mono (k2 := [0]) ho113 (by decide)
  exact W.vret hx hb hr (fun t ht hW => ⟨⟨u108, rfl, ⟨qho113, fh_sub hf112 [1] rfl⟩, by rw [ht]; exact hP, hD⟩, hS.F ht⟩) hS.2.2 dX6_passStop_34

set_option maxHeartbeats 4000000 in
set_option maxRecDepth 100000 in
theorem c_X6_passStop_10 (l : Launch) (G : va_G) (cA : Nat → ClassId) (sz : Nat) (h0 : Nat) (fs : List Value) (pa : Nat) (ps : List Value) (sa : Nat) (fsec : Nat → Int32) (hf : fh fs 20 [(19, .ref pa), (0, .int 10)]) (hp : fh ps 19 [(0, .int 0), (1, .int 0), (2, .int 0), (17, .ref sa)]) (hsec : ∀ j, j < 21 → fsec j = 60) : Met l yX6_passStop (.code yX6_passStop cX6_passStop 1 none :: T0) ({ frames := 2, cells := 0, slots := 0, locals := 43 }) (tqP G cA [.ref h0] [(h0, .inr (6, fs)), (pa, .inr (2, ps)), (sa, .inl (cA 0, 21, .inl fsec))] sz) (tqQv G cA (fun (u : List Value) => fo fs u [0] ∧ fh u 20 [(0, .int 11)]) (fun (u : List Value) => [(h0, .inr (6, u)), (pa, .inr (2, ps)), (sa, .inl (cA 0, 21, .inl fsec))]) (va_A [(h0, .inr (6, fs)), (pa, .inr (2, ps)), (sa, .inl (cA 0, 21, .inl fsec))] sz)) 0 0 (va_A [(h0, .inr (6, fs)), (pa, .inr (2, ps)), (sa, .inl (cA 0, 21, .inl fsec))] sz) := by
  refine Met.ofW (cc := cX6_passStop) (maxL := 1) (ret := none) (by decide) rfl ?_
  intro p e s m args below meth c s₁ B hml hv
  obtain ⟨rfl, hsz, hP, hK, hD0, hN⟩ := hv
  have hx := B.exec
  have hb := B.bytes
  have hr := B.returns
  have hts := atoms_spec (ws := .code yX6_passStop cX6_passStop 1 none :: T0) B.pre
  have hT : ∀ w ∈ T0, w.before _ s = true := fun w h => hts w (List.mem_cons_of_mem _ h)
  have hown : s.vm.findClass RX6 = some m.cls := findClass_of_methodNamed B.named
  have hlocks := B.notSynchronized
  subst hsz
  have hD := hD0.self (sz := s.heap.size)
  generalize hAe : va_A [(h0, .inr (6, fs)), (pa, .inr (2, ps)), (sa, .inl (cA 0, 21, .inl fsec))] s.heap.size = A at hD ⊢
  have hA : ∀ q : Nat, s.heap.size ≤ q → A q := fun q h => by rw [← hAe]; exact Or.inr h
  have hS : va_S A s.heap s.heap [] := va_S.rf
  have hl := lv_entry ([.ref h0]) (n := 1) (Nat.le_of_ble_eq_true rfl)
  rw [lg_entry_eq]
  generalize (lg_sl ([.ref h0]) ++ List.replicate (1 - (lg_sl ([.ref h0])).length) Slot.unset).toArray = ls at hl ⊢
  have hl : lv_has ls 1 [(0, .ref h0)] := hl
  obtain ⟨H, hH⟩ : ∃ z, z = s.heap := ⟨_, rfl⟩
  rw [← hH] at hP
  have hS : va_S A s.heap H [] := by rw [hH]; exact hS
  suffices hgo : W p l e _ s m _ below meth c H [] 0 0 _ _ by rw [hH] at hgo; exact hgo
  have hO := hN.2.2.2.2
  have ho_hf := fo_refl fs
  have ho_hp := fo_refl ps
  refine lv_aload_n hx hb dX6_passStop_0 rfl (lv_at hl 0 rfl) ?_
  refine va_get (D := G) (ci := 6) (v := .int 10) (C := RX6) (T := TX6) (N := 20) hx hb hT ku_6 hown hK hP 0 rfl rfl 0 (by decide) (hT _ kw_8_2) (fun _ h9 => h9) (fh_at hf 1 rfl) dX6_passStop_1 ?_
  refine lv_bipush (v := 20) hx hb dX6_passStop_4 (by decide) ?_
  refine lv_icmp_gt (tgt := 34) hx hb dX6_passStop_6 (by decide) (fun c101 => absurd c101 (by decide)) (fun c101 => ?_)
  refine lv_aload_n hx hb dX6_passStop_9 rfl (lv_at hl 0 rfl) ?_
  refine lv_aload_n hx hb dX6_passStop_10 rfl (lv_at hl 0 rfl) ?_
  refine va_get (D := G) (ci := 6) (v := .ref pa) (C := RX6) (T := TX6) (N := 20) hx hb hT ku_6 hown hK hP 0 rfl rfl 19 (by decide) (hT _ kw_8_1) (fun _ h9 => h9) (fh_at hf 0 rfl) dX6_passStop_11 ?_
  refine va_get (D := G) (ci := 2) (v := .ref sa) (C := RX2) (T := TX2) (N := 19) hx hb hT ku_2 hown hK hP 1 rfl rfl 17 (by decide) (hT _ kw_40_15) (fun _ h9 => h9) (fh_at hp 3 rfl) dX6_passStop_14 ?_
  refine lv_aload_n hx hb dX6_passStop_17 rfl (lv_at hl 0 rfl) ?_
  refine va_get (D := G) (ci := 6) (v := .int 10) (C := RX6) (T := TX6) (N := 20) hx hb hT ku_6 hown hK hP 0 rfl rfl 0 (by decide) (hT _ kw_8_2) (fun _ h9 => h9) (fh_at hf 1 rfl) dX6_passStop_18 ?_
  refine va_iald (i := 10) hx hb hK hP 2 0 rfl rfl (tq_in (by decide)) dX6_passStop_21 ?_
  refine tq_i (w := 60) (hsec 10 (by decide)) ?_
  refine tq_ci (wr := [(sa, .inl (cA 0, 21, .inl fsec))]) hP hD hS hA [0, 1] [2] rfl rfl (by decide) (by decide) (va_runV (As := [.int 60]) (rest := []) ⟨hx, hb, hml, hown, hT⟩ (c_X6_takeDown l G cA H.size h0 60 fs pa ps (fh_sub hf [0] rfl) (fh_sub hp [0, 1, 2] rfl)) (cwV 1 hT (tq_gV kw_40_16 kw_40_17 kw_40_18 kw_1_23 kw_40_19) rfl rfl rfl (by decide +kernel) ⟨Nat.le_of_ble_eq_true rfl, Nat.le_of_ble_eq_true rfl⟩) ⟨(tq_pre (isC := [0, 1]) hP hD hK hN rfl (by decide)).1, va_recv hK hP (ci := 6) (q0 := 0) rfl rfl, (tq_pre (isC := [0, 1]) hP hD hK hN rfl (by decide)).2⟩ rfl rfl hl.1 rfl (lv_room (Nat.le_of_ble_eq_true rfl)) dX6_passStop_22 ⟨Nat.le_of_ble_eq_true rfl, Nat.le_of_ble_eq_true rfl⟩) (fun r102 u103 H locs hw104 hP hD hS => ?_)
  refine W.widen (k := 0) (n := 0) (Nat.le_of_ble_eq_true rfl) (Nat.le_of_ble_eq_true rfl) ?_
  have hr105 := hw104
  subst hr105
  have hP : va_P G vwCl [(sa, .inl (cA 0, 21, .inl fsec)), (h0, .inr (6, fs)), (pa, .inr (2, ps))] H := hP
  have hD : va_D A [(sa, .inl (cA 0, 21, .inl fsec)), (h0, .inr (6, fs)), (pa, .inr (2, ps))] := hD
  refine lv_pop hx hb dX6_passStop_25 rfl ?_
  refine lv_aload_n hx hb dX6_passStop_26 rfl (lv_at hl 0 rfl) ?_
  refine tq_cv (wr := [(sa, .inl (cA 0, 21, .inl fsec))]) hP hD hS hA [1, 2] [0] rfl rfl (by decide) (by decide) (va_runV (As := []) (rest := []) ⟨hx, hb, hml, hown, hT⟩ (c_X6_getIn l G cA H.size h0 fs pa ps (fh_sub hf [0] rfl) (fh_sub hp [0, 1, 2] rfl)) (cwV 0 hT (tq_gV kw_41_16 kw_41_17 kw_41_18 kw_1_23 kw_41_19) rfl rfl rfl (by decide +kernel) ⟨Nat.le_of_ble_eq_true rfl, Nat.le_of_ble_eq_true rfl⟩) ⟨(tq_pre (isC := [1, 2]) hP hD hK hN rfl (by decide)).1, va_recv hK hP (ci := 6) (q0 := 1) rfl rfl, (tq_pre (isC := [1, 2]) hP hD hK hN rfl (by decide)).2⟩ rfl rfl hl.1 rfl (lv_room (Nat.le_of_ble_eq_true rfl)) dX6_passStop_27 ⟨Nat.le_of_ble_eq_true rfl, Nat.le_of_ble_eq_true rfl⟩) (fun u106 H locs hw107 hP hD hS => ?_)
  refine W.widen (k := 0) (n := 0) (Nat.le_of_ble_eq_true rfl) (Nat.le_of_ble_eq_true rfl) ?_
  have hP : va_P G vwCl [(sa, .inl (cA 0, 21, .inl fsec)), (h0, .inr (6, fs)), (pa, .inr (2, ps))] H := hP
  have hD : va_D A [(sa, .inl (cA 0, 21, .inl fsec)), (h0, .inr (6, fs)), (pa, .inr (2, ps))] := hD
  refine lv_aload_n hx hb dX6_passStop_30 rfl (lv_at hl 0 rfl) ?_
  refine tq_cv (wr := [(sa, .inl (cA 0, 21, .inl fsec))]) hP hD hS hA [1, 2] [0] rfl rfl (by decide) (by decide) (va_runV (As := []) (rest := []) ⟨hx, hb, hml, hown, hT⟩ (c_X6_wayOn_10 l G cA H.size h0 fs pa ps (fh_sub hf [0, 1] rfl) (fh_sub hp [0, 1, 2] rfl)) (cwV 0 hT (tq_gV kw_42_7 kw_42_8 kw_42_9 kw_1_23 kw_42_10) rfl rfl rfl (by decide +kernel) ⟨Nat.le_of_ble_eq_true rfl, Nat.le_of_ble_eq_true rfl⟩) ⟨(tq_pre (isC := [1, 2]) hP hD hK hN rfl (by decide)).1, va_recv hK hP (ci := 6) (q0 := 1) rfl rfl, (tq_pre (isC := [1, 2]) hP hD hK hN rfl (by decide)).2⟩ rfl rfl hl.1 rfl (lv_room (Nat.le_of_ble_eq_true rfl)) dX6_passStop_31 ⟨Nat.le_of_ble_eq_true rfl, Nat.le_of_ble_eq_true rfl⟩) (fun u108 H locs hw109 hP hD hS => ?_)
  refine W.widen (k := 0) (n := 0) (Nat.le_of_ble_eq_true rfl) (Nat.le_of_ble_eq_true rfl) ?_
  obtain ⟨ho111, hf112⟩ := hw109
  have hf112 := fh_app (fo_fh (l' := [(19, .ref pa)]) hf ho111 rfl) hf112
  have ho113 := fo_mono (k2 := [0]) (fo_trans ho_hf ho111) (by decide)
  have hf112 : fh u108 20 [(19, .ref pa), (0, .int 11)] := hf112
  have hP : va_P G vwCl [(sa, .inl (cA 0, 21, .inl fsec)), (h0, .inr (6, u108)), (pa, .inr (2, ps))] H := hP
  have hD : va_D A [(sa, .inl (cA 0, 21, .inl fsec)), (h0, .inr (6, u108)), (pa, .inr (2, ps))] := hD
  have hP : va_P G vwCl [(h0, .inr (6, u108)), (pa, .inr (2, ps)), (sa, .inl (cA 0, 21, .inl fsec))] H := hP.sub [1, 2, 0] rfl
  have hD : va_D A [(h0, .inr (6, u108)), (pa, .inr (2, ps)), (sa, .inl (cA 0, 21, .inl fsec))] := hD.sub [1, 2, 0] (by decide) rfl
  have qho113 := fo_mono (k2 := [0]) ho113 (by decide)
  exact W.vret hx hb hr (fun t ht hW => ⟨⟨u108, rfl, ⟨qho113, fh_sub hf112 [1] rfl⟩, by rw [ht]; exact hP, hD⟩, hS.F ht⟩) hS.2.2 dX6_passStop_34

set_option maxHeartbeats 4000000 in
set_option maxRecDepth 100000 in
theorem c_X6_passStop_11 (l : Launch) (G : va_G) (cA : Nat → ClassId) (sz : Nat) (h0 : Nat) (fs : List Value) (pa : Nat) (ps : List Value) (sa : Nat) (fsec : Nat → Int32) (hf : fh fs 20 [(19, .ref pa), (0, .int 11)]) (hp : fh ps 19 [(0, .int 0), (1, .int 0), (2, .int 0), (17, .ref sa)]) (hsec : ∀ j, j < 21 → fsec j = 60) : Met l yX6_passStop (.code yX6_passStop cX6_passStop 1 none :: T0) ({ frames := 2, cells := 0, slots := 0, locals := 43 }) (tqP G cA [.ref h0] [(h0, .inr (6, fs)), (pa, .inr (2, ps)), (sa, .inl (cA 0, 21, .inl fsec))] sz) (tqQv G cA (fun (u : List Value) => fo fs u [0] ∧ fh u 20 [(0, .int 12)]) (fun (u : List Value) => [(h0, .inr (6, u)), (pa, .inr (2, ps)), (sa, .inl (cA 0, 21, .inl fsec))]) (va_A [(h0, .inr (6, fs)), (pa, .inr (2, ps)), (sa, .inl (cA 0, 21, .inl fsec))] sz)) 0 0 (va_A [(h0, .inr (6, fs)), (pa, .inr (2, ps)), (sa, .inl (cA 0, 21, .inl fsec))] sz) := by
  refine Met.ofW (cc := cX6_passStop) (maxL := 1) (ret := none) (by decide) rfl ?_
  intro p e s m args below meth c s₁ B hml hv
  obtain ⟨rfl, hsz, hP, hK, hD0, hN⟩ := hv
  have hx := B.exec
  have hb := B.bytes
  have hr := B.returns
  have hts := atoms_spec (ws := .code yX6_passStop cX6_passStop 1 none :: T0) B.pre
  have hT : ∀ w ∈ T0, w.before _ s = true := fun w h => hts w (List.mem_cons_of_mem _ h)
  have hown : s.vm.findClass RX6 = some m.cls := findClass_of_methodNamed B.named
  have hlocks := B.notSynchronized
  subst hsz
  have hD := hD0.self (sz := s.heap.size)
  generalize hAe : va_A [(h0, .inr (6, fs)), (pa, .inr (2, ps)), (sa, .inl (cA 0, 21, .inl fsec))] s.heap.size = A at hD ⊢
  have hA : ∀ q : Nat, s.heap.size ≤ q → A q := fun q h => by rw [← hAe]; exact Or.inr h
  have hS : va_S A s.heap s.heap [] := va_S.rf
  have hl := lv_entry ([.ref h0]) (n := 1) (Nat.le_of_ble_eq_true rfl)
  rw [lg_entry_eq]
  generalize (lg_sl ([.ref h0]) ++ List.replicate (1 - (lg_sl ([.ref h0])).length) Slot.unset).toArray = ls at hl ⊢
  have hl : lv_has ls 1 [(0, .ref h0)] := hl
  obtain ⟨H, hH⟩ : ∃ z, z = s.heap := ⟨_, rfl⟩
  rw [← hH] at hP
  have hS : va_S A s.heap H [] := by rw [hH]; exact hS
  suffices hgo : W p l e _ s m _ below meth c H [] 0 0 _ _ by rw [hH] at hgo; exact hgo
  have hO := hN.2.2.2.2
  have ho_hf := fo_refl fs
  have ho_hp := fo_refl ps
  refine lv_aload_n hx hb dX6_passStop_0 rfl (lv_at hl 0 rfl) ?_
  refine va_get (D := G) (ci := 6) (v := .int 11) (C := RX6) (T := TX6) (N := 20) hx hb hT ku_6 hown hK hP 0 rfl rfl 0 (by decide) (hT _ kw_8_2) (fun _ h9 => h9) (fh_at hf 1 rfl) dX6_passStop_1 ?_
  refine lv_bipush (v := 20) hx hb dX6_passStop_4 (by decide) ?_
  refine lv_icmp_gt (tgt := 34) hx hb dX6_passStop_6 (by decide) (fun c101 => absurd c101 (by decide)) (fun c101 => ?_)
  refine lv_aload_n hx hb dX6_passStop_9 rfl (lv_at hl 0 rfl) ?_
  refine lv_aload_n hx hb dX6_passStop_10 rfl (lv_at hl 0 rfl) ?_
  refine va_get (D := G) (ci := 6) (v := .ref pa) (C := RX6) (T := TX6) (N := 20) hx hb hT ku_6 hown hK hP 0 rfl rfl 19 (by decide) (hT _ kw_8_1) (fun _ h9 => h9) (fh_at hf 0 rfl) dX6_passStop_11 ?_
  refine va_get (D := G) (ci := 2) (v := .ref sa) (C := RX2) (T := TX2) (N := 19) hx hb hT ku_2 hown hK hP 1 rfl rfl 17 (by decide) (hT _ kw_40_15) (fun _ h9 => h9) (fh_at hp 3 rfl) dX6_passStop_14 ?_
  refine lv_aload_n hx hb dX6_passStop_17 rfl (lv_at hl 0 rfl) ?_
  refine va_get (D := G) (ci := 6) (v := .int 11) (C := RX6) (T := TX6) (N := 20) hx hb hT ku_6 hown hK hP 0 rfl rfl 0 (by decide) (hT _ kw_8_2) (fun _ h9 => h9) (fh_at hf 1 rfl) dX6_passStop_18 ?_
  refine va_iald (i := 11) hx hb hK hP 2 0 rfl rfl (tq_in (by decide)) dX6_passStop_21 ?_
  refine tq_i (w := 60) (hsec 11 (by decide)) ?_
  refine tq_ci (wr := [(sa, .inl (cA 0, 21, .inl fsec))]) hP hD hS hA [0, 1] [2] rfl rfl (by decide) (by decide) (va_runV (As := [.int 60]) (rest := []) ⟨hx, hb, hml, hown, hT⟩ (c_X6_takeDown l G cA H.size h0 60 fs pa ps (fh_sub hf [0] rfl) (fh_sub hp [0, 1, 2] rfl)) (cwV 1 hT (tq_gV kw_40_16 kw_40_17 kw_40_18 kw_1_23 kw_40_19) rfl rfl rfl (by decide +kernel) ⟨Nat.le_of_ble_eq_true rfl, Nat.le_of_ble_eq_true rfl⟩) ⟨(tq_pre (isC := [0, 1]) hP hD hK hN rfl (by decide)).1, va_recv hK hP (ci := 6) (q0 := 0) rfl rfl, (tq_pre (isC := [0, 1]) hP hD hK hN rfl (by decide)).2⟩ rfl rfl hl.1 rfl (lv_room (Nat.le_of_ble_eq_true rfl)) dX6_passStop_22 ⟨Nat.le_of_ble_eq_true rfl, Nat.le_of_ble_eq_true rfl⟩) (fun r102 u103 H locs hw104 hP hD hS => ?_)
  refine W.widen (k := 0) (n := 0) (Nat.le_of_ble_eq_true rfl) (Nat.le_of_ble_eq_true rfl) ?_
  have hr105 := hw104
  subst hr105
  have hP : va_P G vwCl [(sa, .inl (cA 0, 21, .inl fsec)), (h0, .inr (6, fs)), (pa, .inr (2, ps))] H := hP
  have hD : va_D A [(sa, .inl (cA 0, 21, .inl fsec)), (h0, .inr (6, fs)), (pa, .inr (2, ps))] := hD
  refine lv_pop hx hb dX6_passStop_25 rfl ?_
  refine lv_aload_n hx hb dX6_passStop_26 rfl (lv_at hl 0 rfl) ?_
  refine tq_cv (wr := [(sa, .inl (cA 0, 21, .inl fsec))]) hP hD hS hA [1, 2] [0] rfl rfl (by decide) (by decide) (va_runV (As := []) (rest := []) ⟨hx, hb, hml, hown, hT⟩ (c_X6_getIn l G cA H.size h0 fs pa ps (fh_sub hf [0] rfl) (fh_sub hp [0, 1, 2] rfl)) (cwV 0 hT (tq_gV kw_41_16 kw_41_17 kw_41_18 kw_1_23 kw_41_19) rfl rfl rfl (by decide +kernel) ⟨Nat.le_of_ble_eq_true rfl, Nat.le_of_ble_eq_true rfl⟩) ⟨(tq_pre (isC := [1, 2]) hP hD hK hN rfl (by decide)).1, va_recv hK hP (ci := 6) (q0 := 1) rfl rfl, (tq_pre (isC := [1, 2]) hP hD hK hN rfl (by decide)).2⟩ rfl rfl hl.1 rfl (lv_room (Nat.le_of_ble_eq_true rfl)) dX6_passStop_27 ⟨Nat.le_of_ble_eq_true rfl, Nat.le_of_ble_eq_true rfl⟩) (fun u106 H locs hw107 hP hD hS => ?_)
  refine W.widen (k := 0) (n := 0) (Nat.le_of_ble_eq_true rfl) (Nat.le_of_ble_eq_true rfl) ?_
  have hP : va_P G vwCl [(sa, .inl (cA 0, 21, .inl fsec)), (h0, .inr (6, fs)), (pa, .inr (2, ps))] H := hP
  have hD : va_D A [(sa, .inl (cA 0, 21, .inl fsec)), (h0, .inr (6, fs)), (pa, .inr (2, ps))] := hD
  refine lv_aload_n hx hb dX6_passStop_30 rfl (lv_at hl 0 rfl) ?_
  refine tq_cv (wr := [(sa, .inl (cA 0, 21, .inl fsec))]) hP hD hS hA [1, 2] [0] rfl rfl (by decide) (by decide) (va_runV (As := []) (rest := []) ⟨hx, hb, hml, hown, hT⟩ (c_X6_wayOn_11 l G cA H.size h0 fs pa ps (fh_sub hf [0, 1] rfl) (fh_sub hp [0, 1, 2] rfl)) (cwV 0 hT (tq_gV kw_42_7 kw_42_8 kw_42_9 kw_1_23 kw_42_10) rfl rfl rfl (by decide +kernel) ⟨Nat.le_of_ble_eq_true rfl, Nat.le_of_ble_eq_true rfl⟩) ⟨(tq_pre (isC := [1, 2]) hP hD hK hN rfl (by decide)).1, va_recv hK hP (ci := 6) (q0 := 1) rfl rfl, (tq_pre (isC := [1, 2]) hP hD hK hN rfl (by decide)).2⟩ rfl rfl hl.1 rfl (lv_room (Nat.le_of_ble_eq_true rfl)) dX6_passStop_31 ⟨Nat.le_of_ble_eq_true rfl, Nat.le_of_ble_eq_true rfl⟩) (fun u108 H locs hw109 hP hD hS => ?_)
  refine W.widen (k := 0) (n := 0) (Nat.le_of_ble_eq_true rfl) (Nat.le_of_ble_eq_true rfl) ?_
  obtain ⟨ho111, hf112⟩ := hw109
  have hf112 := fh_app (fo_fh (l' := [(19, .ref pa)]) hf ho111 rfl) hf112
  have ho113 := fo_mono (k2 := [0]) (fo_trans ho_hf ho111) (by decide)
  have hf112 : fh u108 20 [(19, .ref pa), (0, .int 12)] := hf112
  have hP : va_P G vwCl [(sa, .inl (cA 0, 21, .inl fsec)), (h0, .inr (6, u108)), (pa, .inr (2, ps))] H := hP
  have hD : va_D A [(sa, .inl (cA 0, 21, .inl fsec)), (h0, .inr (6, u108)), (pa, .inr (2, ps))] := hD
  have hP : va_P G vwCl [(h0, .inr (6, u108)), (pa, .inr (2, ps)), (sa, .inl (cA 0, 21, .inl fsec))] H := hP.sub [1, 2, 0] rfl
  have hD : va_D A [(h0, .inr (6, u108)), (pa, .inr (2, ps)), (sa, .inl (cA 0, 21, .inl fsec))] := hD.sub [1, 2, 0] (by decide) rfl
  have qho113 := fo_mono (k2 := [0]) ho113 (by decide)
  exact W.vret hx hb hr (fun t ht hW => ⟨⟨u108, rfl, ⟨qho113, fh_sub hf112 [1] rfl⟩, by rw [ht]; exact hP, hD⟩, hS.F ht⟩) hS.2.2 dX6_passStop_34

set_option maxHeartbeats 4000000 in
set_option maxRecDepth 100000 in
theorem c_X6_passStop_12 (l : Launch) (G : va_G) (cA : Nat → ClassId) (sz : Nat) (h0 : Nat) (fs : List Value) (pa : Nat) (ps : List Value) (sa : Nat) (fsec : Nat → Int32) (hf : fh fs 20 [(19, .ref pa), (0, .int 12)]) (hp : fh ps 19 [(0, .int 0), (1, .int 0), (2, .int 0), (17, .ref sa)]) (hsec : ∀ j, j < 21 → fsec j = 60) : Met l yX6_passStop (.code yX6_passStop cX6_passStop 1 none :: T0) ({ frames := 2, cells := 0, slots := 0, locals := 43 }) (tqP G cA [.ref h0] [(h0, .inr (6, fs)), (pa, .inr (2, ps)), (sa, .inl (cA 0, 21, .inl fsec))] sz) (tqQv G cA (fun (u : List Value) => fo fs u [0] ∧ fh u 20 [(0, .int 13)]) (fun (u : List Value) => [(h0, .inr (6, u)), (pa, .inr (2, ps)), (sa, .inl (cA 0, 21, .inl fsec))]) (va_A [(h0, .inr (6, fs)), (pa, .inr (2, ps)), (sa, .inl (cA 0, 21, .inl fsec))] sz)) 0 0 (va_A [(h0, .inr (6, fs)), (pa, .inr (2, ps)), (sa, .inl (cA 0, 21, .inl fsec))] sz) := by
  refine Met.ofW (cc := cX6_passStop) (maxL := 1) (ret := none) (by decide) rfl ?_
  intro p e s m args below meth c s₁ B hml hv
  obtain ⟨rfl, hsz, hP, hK, hD0, hN⟩ := hv
  have hx := B.exec
  have hb := B.bytes
  have hr := B.returns
  have hts := atoms_spec (ws := .code yX6_passStop cX6_passStop 1 none :: T0) B.pre
  have hT : ∀ w ∈ T0, w.before _ s = true := fun w h => hts w (List.mem_cons_of_mem _ h)
  have hown : s.vm.findClass RX6 = some m.cls := findClass_of_methodNamed B.named
  have hlocks := B.notSynchronized
  subst hsz
  have hD := hD0.self (sz := s.heap.size)
  generalize hAe : va_A [(h0, .inr (6, fs)), (pa, .inr (2, ps)), (sa, .inl (cA 0, 21, .inl fsec))] s.heap.size = A at hD ⊢
  have hA : ∀ q : Nat, s.heap.size ≤ q → A q := fun q h => by rw [← hAe]; exact Or.inr h
  have hS : va_S A s.heap s.heap [] := va_S.rf
  have hl := lv_entry ([.ref h0]) (n := 1) (Nat.le_of_ble_eq_true rfl)
  rw [lg_entry_eq]
  generalize (lg_sl ([.ref h0]) ++ List.replicate (1 - (lg_sl ([.ref h0])).length) Slot.unset).toArray = ls at hl ⊢
  have hl : lv_has ls 1 [(0, .ref h0)] := hl
  obtain ⟨H, hH⟩ : ∃ z, z = s.heap := ⟨_, rfl⟩
  rw [← hH] at hP
  have hS : va_S A s.heap H [] := by rw [hH]; exact hS
  suffices hgo : W p l e _ s m _ below meth c H [] 0 0 _ _ by rw [hH] at hgo; exact hgo
  have hO := hN.2.2.2.2
  have ho_hf := fo_refl fs
  have ho_hp := fo_refl ps
  refine lv_aload_n hx hb dX6_passStop_0 rfl (lv_at hl 0 rfl) ?_
  refine va_get (D := G) (ci := 6) (v := .int 12) (C := RX6) (T := TX6) (N := 20) hx hb hT ku_6 hown hK hP 0 rfl rfl 0 (by decide) (hT _ kw_8_2) (fun _ h9 => h9) (fh_at hf 1 rfl) dX6_passStop_1 ?_
  refine lv_bipush (v := 20) hx hb dX6_passStop_4 (by decide) ?_
  refine lv_icmp_gt (tgt := 34) hx hb dX6_passStop_6 (by decide) (fun c101 => absurd c101 (by decide)) (fun c101 => ?_)
  refine lv_aload_n hx hb dX6_passStop_9 rfl (lv_at hl 0 rfl) ?_
  refine lv_aload_n hx hb dX6_passStop_10 rfl (lv_at hl 0 rfl) ?_
  refine va_get (D := G) (ci := 6) (v := .ref pa) (C := RX6) (T := TX6) (N := 20) hx hb hT ku_6 hown hK hP 0 rfl rfl 19 (by decide) (hT _ kw_8_1) (fun _ h9 => h9) (fh_at hf 0 rfl) dX6_passStop_11 ?_
  refine va_get (D := G) (ci := 2) (v := .ref sa) (C := RX2) (T := TX2) (N := 19) hx hb hT ku_2 hown hK hP 1 rfl rfl 17 (by decide) (hT _ kw_40_15) (fun _ h9 => h9) (fh_at hp 3 rfl) dX6_passStop_14 ?_
  refine lv_aload_n hx hb dX6_passStop_17 rfl (lv_at hl 0 rfl) ?_
  refine va_get (D := G) (ci := 6) (v := .int 12) (C := RX6) (T := TX6) (N := 20) hx hb hT ku_6 hown hK hP 0 rfl rfl 0 (by decide) (hT _ kw_8_2) (fun _ h9 => h9) (fh_at hf 1 rfl) dX6_passStop_18 ?_
  refine va_iald (i := 12) hx hb hK hP 2 0 rfl rfl (tq_in (by decide)) dX6_passStop_21 ?_
  refine tq_i (w := 60) (hsec 12 (by decide)) ?_
  refine tq_ci (wr := [(sa, .inl (cA 0, 21, .inl fsec))]) hP hD hS hA [0, 1] [2] rfl rfl (by decide) (by decide) (va_runV (As := [.int 60]) (rest := []) ⟨hx, hb, hml, hown, hT⟩ (c_X6_takeDown l G cA H.size h0 60 fs pa ps (fh_sub hf [0] rfl) (fh_sub hp [0, 1, 2] rfl)) (cwV 1 hT (tq_gV kw_40_16 kw_40_17 kw_40_18 kw_1_23 kw_40_19) rfl rfl rfl (by decide +kernel) ⟨Nat.le_of_ble_eq_true rfl, Nat.le_of_ble_eq_true rfl⟩) ⟨(tq_pre (isC := [0, 1]) hP hD hK hN rfl (by decide)).1, va_recv hK hP (ci := 6) (q0 := 0) rfl rfl, (tq_pre (isC := [0, 1]) hP hD hK hN rfl (by decide)).2⟩ rfl rfl hl.1 rfl (lv_room (Nat.le_of_ble_eq_true rfl)) dX6_passStop_22 ⟨Nat.le_of_ble_eq_true rfl, Nat.le_of_ble_eq_true rfl⟩) (fun r102 u103 H locs hw104 hP hD hS => ?_)
  refine W.widen (k := 0) (n := 0) (Nat.le_of_ble_eq_true rfl) (Nat.le_of_ble_eq_true rfl) ?_
  have hr105 := hw104
  subst hr105
  have hP : va_P G vwCl [(sa, .inl (cA 0, 21, .inl fsec)), (h0, .inr (6, fs)), (pa, .inr (2, ps))] H := hP
  have hD : va_D A [(sa, .inl (cA 0, 21, .inl fsec)), (h0, .inr (6, fs)), (pa, .inr (2, ps))] := hD
  refine lv_pop hx hb dX6_passStop_25 rfl ?_
  refine lv_aload_n hx hb dX6_passStop_26 rfl (lv_at hl 0 rfl) ?_
  refine tq_cv (wr := [(sa, .inl (cA 0, 21, .inl fsec))]) hP hD hS hA [1, 2] [0] rfl rfl (by decide) (by decide) (va_runV (As := []) (rest := []) ⟨hx, hb, hml, hown, hT⟩ (c_X6_getIn l G cA H.size h0 fs pa ps (fh_sub hf [0] rfl) (fh_sub hp [0, 1, 2] rfl)) (cwV 0 hT (tq_gV kw_41_16 kw_41_17 kw_41_18 kw_1_23 kw_41_19) rfl rfl rfl (by decide +kernel) ⟨Nat.le_of_ble_eq_true rfl, Nat.le_of_ble_eq_true rfl⟩) ⟨(tq_pre (isC := [1, 2]) hP hD hK hN rfl (by decide)).1, va_recv hK hP (ci := 6) (q0 := 1) rfl rfl, (tq_pre (isC := [1, 2]) hP hD hK hN rfl (by decide)).2⟩ rfl rfl hl.1 rfl (lv_room (Nat.le_of_ble_eq_true rfl)) dX6_passStop_27 ⟨Nat.le_of_ble_eq_true rfl, Nat.le_of_ble_eq_true rfl⟩) (fun u106 H locs hw107 hP hD hS => ?_)
  refine W.widen (k := 0) (n := 0) (Nat.le_of_ble_eq_true rfl) (Nat.le_of_ble_eq_true rfl) ?_
  have hP : va_P G vwCl [(sa, .inl (cA 0, 21, .inl fsec)), (h0, .inr (6, fs)), (pa, .inr (2, ps))] H := hP
  have hD : va_D A [(sa, .inl (cA 0, 21, .inl fsec)), (h0, .inr (6, fs)), (pa, .inr (2, ps))] := hD
  refine lv_aload_n hx hb dX6_passStop_30 rfl (lv_at hl 0 rfl) ?_
  refine tq_cv (wr := [(sa, .inl (cA 0, 21, .inl fsec))]) hP hD hS hA [1, 2] [0] rfl rfl (by decide) (by decide) (va_runV (As := []) (rest := []) ⟨hx, hb, hml, hown, hT⟩ (c_X6_wayOn_12 l G cA H.size h0 fs pa ps (fh_sub hf [0, 1] rfl) (fh_sub hp [0, 1, 2] rfl)) (cwV 0 hT (tq_gV kw_42_7 kw_42_8 kw_42_9 kw_1_23 kw_42_10) rfl rfl rfl (by decide +kernel) ⟨Nat.le_of_ble_eq_true rfl, Nat.le_of_ble_eq_true rfl⟩) ⟨(tq_pre (isC := [1, 2]) hP hD hK hN rfl (by decide)).1, va_recv hK hP (ci := 6) (q0 := 1) rfl rfl, (tq_pre (isC := [1, 2]) hP hD hK hN rfl (by decide)).2⟩ rfl rfl hl.1 rfl (lv_room (Nat.le_of_ble_eq_true rfl)) dX6_passStop_31 ⟨Nat.le_of_ble_eq_true rfl, Nat.le_of_ble_eq_true rfl⟩) (fun u108 H locs hw109 hP hD hS => ?_)
  refine W.widen (k := 0) (n := 0) (Nat.le_of_ble_eq_true rfl) (Nat.le_of_ble_eq_true rfl) ?_
  obtain ⟨ho111, hf112⟩ := hw109
  have hf112 := fh_app (fo_fh (l' := [(19, .ref pa)]) hf ho111 rfl) hf112
  have ho113 := fo_mono (k2 := [0]) (fo_trans ho_hf ho111) (by decide)
  have hf112 : fh u108 20 [(19, .ref pa), (0, .int 13)] := hf112
  have hP : va_P G vwCl [(sa, .inl (cA 0, 21, .inl fsec)), (h0, .inr (6, u108)), (pa, .inr (2, ps))] H := hP
  have hD : va_D A [(sa, .inl (cA 0, 21, .inl fsec)), (h0, .inr (6, u108)), (pa, .inr (2, ps))] := hD
  have hP : va_P G vwCl [(h0, .inr (6, u108)), (pa, .inr (2, ps)), (sa, .inl (cA 0, 21, .inl fsec))] H := hP.sub [1, 2, 0] rfl
  have hD : va_D A [(h0, .inr (6, u108)), (pa, .inr (2, ps)), (sa, .inl (cA 0, 21, .inl fsec))] := hD.sub [1, 2, 0] (by decide) rfl
  have qho113 := fo_mono (k2 := [0]) ho113 (by decide)
  exact W.vret hx hb hr (fun t ht hW => ⟨⟨u108, rfl, ⟨qho113, fh_sub hf112 [1] rfl⟩, by rw [ht]; exact hP, hD⟩, hS.F ht⟩) hS.2.2 dX6_passStop_34

set_option maxHeartbeats 4000000 in
set_option maxRecDepth 100000 in
theorem c_X6_passStop_13 (l : Launch) (G : va_G) (cA : Nat → ClassId) (sz : Nat) (h0 : Nat) (fs : List Value) (pa : Nat) (ps : List Value) (sa : Nat) (fsec : Nat → Int32) (hf : fh fs 20 [(19, .ref pa), (0, .int 13)]) (hp : fh ps 19 [(0, .int 0), (1, .int 0), (2, .int 0), (17, .ref sa)]) (hsec : ∀ j, j < 21 → fsec j = 60) : Met l yX6_passStop (.code yX6_passStop cX6_passStop 1 none :: T0) ({ frames := 2, cells := 0, slots := 0, locals := 43 }) (tqP G cA [.ref h0] [(h0, .inr (6, fs)), (pa, .inr (2, ps)), (sa, .inl (cA 0, 21, .inl fsec))] sz) (tqQv G cA (fun (u : List Value) => fo fs u [0] ∧ fh u 20 [(0, .int 14)]) (fun (u : List Value) => [(h0, .inr (6, u)), (pa, .inr (2, ps)), (sa, .inl (cA 0, 21, .inl fsec))]) (va_A [(h0, .inr (6, fs)), (pa, .inr (2, ps)), (sa, .inl (cA 0, 21, .inl fsec))] sz)) 0 0 (va_A [(h0, .inr (6, fs)), (pa, .inr (2, ps)), (sa, .inl (cA 0, 21, .inl fsec))] sz) := by
  refine Met.ofW (cc := cX6_passStop) (maxL := 1) (ret := none) (by decide) rfl ?_
  intro p e s m args below meth c s₁ B hml hv
  obtain ⟨rfl, hsz, hP, hK, hD0, hN⟩ := hv
  have hx := B.exec
  have hb := B.bytes
  have hr := B.returns
  have hts := atoms_spec (ws := .code yX6_passStop cX6_passStop 1 none :: T0) B.pre
  have hT : ∀ w ∈ T0, w.before _ s = true := fun w h => hts w (List.mem_cons_of_mem _ h)
  have hown : s.vm.findClass RX6 = some m.cls := findClass_of_methodNamed B.named
  have hlocks := B.notSynchronized
  subst hsz
  have hD := hD0.self (sz := s.heap.size)
  generalize hAe : va_A [(h0, .inr (6, fs)), (pa, .inr (2, ps)), (sa, .inl (cA 0, 21, .inl fsec))] s.heap.size = A at hD ⊢
  have hA : ∀ q : Nat, s.heap.size ≤ q → A q := fun q h => by rw [← hAe]; exact Or.inr h
  have hS : va_S A s.heap s.heap [] := va_S.rf
  have hl := lv_entry ([.ref h0]) (n := 1) (Nat.le_of_ble_eq_true rfl)
  rw [lg_entry_eq]
  generalize (lg_sl ([.ref h0]) ++ List.replicate (1 - (lg_sl ([.ref h0])).length) Slot.unset).toArray = ls at hl ⊢
  have hl : lv_has ls 1 [(0, .ref h0)] := hl
  obtain ⟨H, hH⟩ : ∃ z, z = s.heap := ⟨_, rfl⟩
  rw [← hH] at hP
  have hS : va_S A s.heap H [] := by rw [hH]; exact hS
  suffices hgo : W p l e _ s m _ below meth c H [] 0 0 _ _ by rw [hH] at hgo; exact hgo
  have hO := hN.2.2.2.2
  have ho_hf := fo_refl fs
  have ho_hp := fo_refl ps
  refine lv_aload_n hx hb dX6_passStop_0 rfl (lv_at hl 0 rfl) ?_
  refine va_get (D := G) (ci := 6) (v := .int 13) (C := RX6) (T := TX6) (N := 20) hx hb hT ku_6 hown hK hP 0 rfl rfl 0 (by decide) (hT _ kw_8_2) (fun _ h9 => h9) (fh_at hf 1 rfl) dX6_passStop_1 ?_
  refine lv_bipush (v := 20) hx hb dX6_passStop_4 (by decide) ?_
  refine lv_icmp_gt (tgt := 34) hx hb dX6_passStop_6 (by decide) (fun c101 => absurd c101 (by decide)) (fun c101 => ?_)
  refine lv_aload_n hx hb dX6_passStop_9 rfl (lv_at hl 0 rfl) ?_
  refine lv_aload_n hx hb dX6_passStop_10 rfl (lv_at hl 0 rfl) ?_
  refine va_get (D := G) (ci := 6) (v := .ref pa) (C := RX6) (T := TX6) (N := 20) hx hb hT ku_6 hown hK hP 0 rfl rfl 19 (by decide) (hT _ kw_8_1) (fun _ h9 => h9) (fh_at hf 0 rfl) dX6_passStop_11 ?_
  refine va_get (D := G) (ci := 2) (v := .ref sa) (C := RX2) (T := TX2) (N := 19) hx hb hT ku_2 hown hK hP 1 rfl rfl 17 (by decide) (hT _ kw_40_15) (fun _ h9 => h9) (fh_at hp 3 rfl) dX6_passStop_14 ?_
  refine lv_aload_n hx hb dX6_passStop_17 rfl (lv_at hl 0 rfl) ?_
  refine va_get (D := G) (ci := 6) (v := .int 13) (C := RX6) (T := TX6) (N := 20) hx hb hT ku_6 hown hK hP 0 rfl rfl 0 (by decide) (hT _ kw_8_2) (fun _ h9 => h9) (fh_at hf 1 rfl) dX6_passStop_18 ?_
  refine va_iald (i := 13) hx hb hK hP 2 0 rfl rfl (tq_in (by decide)) dX6_passStop_21 ?_
  refine tq_i (w := 60) (hsec 13 (by decide)) ?_
  refine tq_ci (wr := [(sa, .inl (cA 0, 21, .inl fsec))]) hP hD hS hA [0, 1] [2] rfl rfl (by decide) (by decide) (va_runV (As := [.int 60]) (rest := []) ⟨hx, hb, hml, hown, hT⟩ (c_X6_takeDown l G cA H.size h0 60 fs pa ps (fh_sub hf [0] rfl) (fh_sub hp [0, 1, 2] rfl)) (cwV 1 hT (tq_gV kw_40_16 kw_40_17 kw_40_18 kw_1_23 kw_40_19) rfl rfl rfl (by decide +kernel) ⟨Nat.le_of_ble_eq_true rfl, Nat.le_of_ble_eq_true rfl⟩) ⟨(tq_pre (isC := [0, 1]) hP hD hK hN rfl (by decide)).1, va_recv hK hP (ci := 6) (q0 := 0) rfl rfl, (tq_pre (isC := [0, 1]) hP hD hK hN rfl (by decide)).2⟩ rfl rfl hl.1 rfl (lv_room (Nat.le_of_ble_eq_true rfl)) dX6_passStop_22 ⟨Nat.le_of_ble_eq_true rfl, Nat.le_of_ble_eq_true rfl⟩) (fun r102 u103 H locs hw104 hP hD hS => ?_)
  refine W.widen (k := 0) (n := 0) (Nat.le_of_ble_eq_true rfl) (Nat.le_of_ble_eq_true rfl) ?_
  have hr105 := hw104
  subst hr105
  have hP : va_P G vwCl [(sa, .inl (cA 0, 21, .inl fsec)), (h0, .inr (6, fs)), (pa, .inr (2, ps))] H := hP
  have hD : va_D A [(sa, .inl (cA 0, 21, .inl fsec)), (h0, .inr (6, fs)), (pa, .inr (2, ps))] := hD
  refine lv_pop hx hb dX6_passStop_25 rfl ?_
  refine lv_aload_n hx hb dX6_passStop_26 rfl (lv_at hl 0 rfl) ?_
  refine tq_cv (wr := [(sa, .inl (cA 0, 21, .inl fsec))]) hP hD hS hA [1, 2] [0] rfl rfl (by decide) (by decide) (va_runV (As := []) (rest := []) ⟨hx, hb, hml, hown, hT⟩ (c_X6_getIn l G cA H.size h0 fs pa ps (fh_sub hf [0] rfl) (fh_sub hp [0, 1, 2] rfl)) (cwV 0 hT (tq_gV kw_41_16 kw_41_17 kw_41_18 kw_1_23 kw_41_19) rfl rfl rfl (by decide +kernel) ⟨Nat.le_of_ble_eq_true rfl, Nat.le_of_ble_eq_true rfl⟩) ⟨(tq_pre (isC := [1, 2]) hP hD hK hN rfl (by decide)).1, va_recv hK hP (ci := 6) (q0 := 1) rfl rfl, (tq_pre (isC := [1, 2]) hP hD hK hN rfl (by decide)).2⟩ rfl rfl hl.1 rfl (lv_room (Nat.le_of_ble_eq_true rfl)) dX6_passStop_27 ⟨Nat.le_of_ble_eq_true rfl, Nat.le_of_ble_eq_true rfl⟩) (fun u106 H locs hw107 hP hD hS => ?_)
  refine W.widen (k := 0) (n := 0) (Nat.le_of_ble_eq_true rfl) (Nat.le_of_ble_eq_true rfl) ?_
  have hP : va_P G vwCl [(sa, .inl (cA 0, 21, .inl fsec)), (h0, .inr (6, fs)), (pa, .inr (2, ps))] H := hP
  have hD : va_D A [(sa, .inl (cA 0, 21, .inl fsec)), (h0, .inr (6, fs)), (pa, .inr (2, ps))] := hD
  refine lv_aload_n hx hb dX6_passStop_30 rfl (lv_at hl 0 rfl) ?_
  refine tq_cv (wr := [(sa, .inl (cA 0, 21, .inl fsec))]) hP hD hS hA [1, 2] [0] rfl rfl (by decide) (by decide) (va_runV (As := []) (rest := []) ⟨hx, hb, hml, hown, hT⟩ (c_X6_wayOn_13 l G cA H.size h0 fs pa ps (fh_sub hf [0, 1] rfl) (fh_sub hp [0, 1, 2] rfl)) (cwV 0 hT (tq_gV kw_42_7 kw_42_8 kw_42_9 kw_1_23 kw_42_10) rfl rfl rfl (by decide +kernel) ⟨Nat.le_of_ble_eq_true rfl, Nat.le_of_ble_eq_true rfl⟩) ⟨(tq_pre (isC := [1, 2]) hP hD hK hN rfl (by decide)).1, va_recv hK hP (ci := 6) (q0 := 1) rfl rfl, (tq_pre (isC := [1, 2]) hP hD hK hN rfl (by decide)).2⟩ rfl rfl hl.1 rfl (lv_room (Nat.le_of_ble_eq_true rfl)) dX6_passStop_31 ⟨Nat.le_of_ble_eq_true rfl, Nat.le_of_ble_eq_true rfl⟩) (fun u108 H locs hw109 hP hD hS => ?_)
  refine W.widen (k := 0) (n := 0) (Nat.le_of_ble_eq_true rfl) (Nat.le_of_ble_eq_true rfl) ?_
  obtain ⟨ho111, hf112⟩ := hw109
  have hf112 := fh_app (fo_fh (l' := [(19, .ref pa)]) hf ho111 rfl) hf112
  have ho113 := fo_mono (k2 := [0]) (fo_trans ho_hf ho111) (by decide)
  have hf112 : fh u108 20 [(19, .ref pa), (0, .int 14)] := hf112
  have hP : va_P G vwCl [(sa, .inl (cA 0, 21, .inl fsec)), (h0, .inr (6, u108)), (pa, .inr (2, ps))] H := hP
  have hD : va_D A [(sa, .inl (cA 0, 21, .inl fsec)), (h0, .inr (6, u108)), (pa, .inr (2, ps))] := hD
  have hP : va_P G vwCl [(h0, .inr (6, u108)), (pa, .inr (2, ps)), (sa, .inl (cA 0, 21, .inl fsec))] H := hP.sub [1, 2, 0] rfl
  have hD : va_D A [(h0, .inr (6, u108)), (pa, .inr (2, ps)), (sa, .inl (cA 0, 21, .inl fsec))] := hD.sub [1, 2, 0] (by decide) rfl
  have qho113 := fo_mono (k2 := [0]) ho113 (by decide)
  exact W.vret hx hb hr (fun t ht hW => ⟨⟨u108, rfl, ⟨qho113, fh_sub hf112 [1] rfl⟩, by rw [ht]; exact hP, hD⟩, hS.F ht⟩) hS.2.2 dX6_passStop_34

set_option maxHeartbeats 4000000 in
set_option maxRecDepth 100000 in
theorem c_X6_passStop_14 (l : Launch) (G : va_G) (cA : Nat → ClassId) (sz : Nat) (h0 : Nat) (fs : List Value) (pa : Nat) (ps : List Value) (sa : Nat) (fsec : Nat → Int32) (hf : fh fs 20 [(19, .ref pa), (0, .int 14)]) (hp : fh ps 19 [(0, .int 0), (1, .int 0), (2, .int 0), (17, .ref sa)]) (hsec : ∀ j, j < 21 → fsec j = 60) : Met l yX6_passStop (.code yX6_passStop cX6_passStop 1 none :: T0) ({ frames := 2, cells := 0, slots := 0, locals := 43 }) (tqP G cA [.ref h0] [(h0, .inr (6, fs)), (pa, .inr (2, ps)), (sa, .inl (cA 0, 21, .inl fsec))] sz) (tqQv G cA (fun (u : List Value) => fo fs u [0] ∧ fh u 20 [(0, .int 15)]) (fun (u : List Value) => [(h0, .inr (6, u)), (pa, .inr (2, ps)), (sa, .inl (cA 0, 21, .inl fsec))]) (va_A [(h0, .inr (6, fs)), (pa, .inr (2, ps)), (sa, .inl (cA 0, 21, .inl fsec))] sz)) 0 0 (va_A [(h0, .inr (6, fs)), (pa, .inr (2, ps)), (sa, .inl (cA 0, 21, .inl fsec))] sz) := by
  refine Met.ofW (cc := cX6_passStop) (maxL := 1) (ret := none) (by decide) rfl ?_
  intro p e s m args below meth c s₁ B hml hv
  obtain ⟨rfl, hsz, hP, hK, hD0, hN⟩ := hv
  have hx := B.exec
  have hb := B.bytes
  have hr := B.returns
  have hts := atoms_spec (ws := .code yX6_passStop cX6_passStop 1 none :: T0) B.pre
  have hT : ∀ w ∈ T0, w.before _ s = true := fun w h => hts w (List.mem_cons_of_mem _ h)
  have hown : s.vm.findClass RX6 = some m.cls := findClass_of_methodNamed B.named
  have hlocks := B.notSynchronized
  subst hsz
  have hD := hD0.self (sz := s.heap.size)
  generalize hAe : va_A [(h0, .inr (6, fs)), (pa, .inr (2, ps)), (sa, .inl (cA 0, 21, .inl fsec))] s.heap.size = A at hD ⊢
  have hA : ∀ q : Nat, s.heap.size ≤ q → A q := fun q h => by rw [← hAe]; exact Or.inr h
  have hS : va_S A s.heap s.heap [] := va_S.rf
  have hl := lv_entry ([.ref h0]) (n := 1) (Nat.le_of_ble_eq_true rfl)
  rw [lg_entry_eq]
  generalize (lg_sl ([.ref h0]) ++ List.replicate (1 - (lg_sl ([.ref h0])).length) Slot.unset).toArray = ls at hl ⊢
  have hl : lv_has ls 1 [(0, .ref h0)] := hl
  obtain ⟨H, hH⟩ : ∃ z, z = s.heap := ⟨_, rfl⟩
  rw [← hH] at hP
  have hS : va_S A s.heap H [] := by rw [hH]; exact hS
  suffices hgo : W p l e _ s m _ below meth c H [] 0 0 _ _ by rw [hH] at hgo; exact hgo
  have hO := hN.2.2.2.2
  have ho_hf := fo_refl fs
  have ho_hp := fo_refl ps
  refine lv_aload_n hx hb dX6_passStop_0 rfl (lv_at hl 0 rfl) ?_
  refine va_get (D := G) (ci := 6) (v := .int 14) (C := RX6) (T := TX6) (N := 20) hx hb hT ku_6 hown hK hP 0 rfl rfl 0 (by decide) (hT _ kw_8_2) (fun _ h9 => h9) (fh_at hf 1 rfl) dX6_passStop_1 ?_
  refine lv_bipush (v := 20) hx hb dX6_passStop_4 (by decide) ?_
  refine lv_icmp_gt (tgt := 34) hx hb dX6_passStop_6 (by decide) (fun c101 => absurd c101 (by decide)) (fun c101 => ?_)
  refine lv_aload_n hx hb dX6_passStop_9 rfl (lv_at hl 0 rfl) ?_
  refine lv_aload_n hx hb dX6_passStop_10 rfl (lv_at hl 0 rfl) ?_
  refine va_get (D := G) (ci := 6) (v := .ref pa) (C := RX6) (T := TX6) (N := 20) hx hb hT ku_6 hown hK hP 0 rfl rfl 19 (by decide) (hT _ kw_8_1) (fun _ h9 => h9) (fh_at hf 0 rfl) dX6_passStop_11 ?_
  refine va_get (D := G) (ci := 2) (v := .ref sa) (C := RX2) (T := TX2) (N := 19) hx hb hT ku_2 hown hK hP 1 rfl rfl 17 (by decide) (hT _ kw_40_15) (fun _ h9 => h9) (fh_at hp 3 rfl) dX6_passStop_14 ?_
  refine lv_aload_n hx hb dX6_passStop_17 rfl (lv_at hl 0 rfl) ?_
  refine va_get (D := G) (ci := 6) (v := .int 14) (C := RX6) (T := TX6) (N := 20) hx hb hT ku_6 hown hK hP 0 rfl rfl 0 (by decide) (hT _ kw_8_2) (fun _ h9 => h9) (fh_at hf 1 rfl) dX6_passStop_18 ?_
  refine va_iald (i := 14) hx hb hK hP 2 0 rfl rfl (tq_in (by decide)) dX6_passStop_21 ?_
  refine tq_i (w := 60) (hsec 14 (by decide)) ?_
  refine tq_ci (wr := [(sa, .inl (cA 0, 21, .inl fsec))]) hP hD hS hA [0, 1] [2] rfl rfl (by decide) (by decide) (va_runV (As := [.int 60]) (rest := []) ⟨hx, hb, hml, hown, hT⟩ (c_X6_takeDown l G cA H.size h0 60 fs pa ps (fh_sub hf [0] rfl) (fh_sub hp [0, 1, 2] rfl)) (cwV 1 hT (tq_gV kw_40_16 kw_40_17 kw_40_18 kw_1_23 kw_40_19) rfl rfl rfl (by decide +kernel) ⟨Nat.le_of_ble_eq_true rfl, Nat.le_of_ble_eq_true rfl⟩) ⟨(tq_pre (isC := [0, 1]) hP hD hK hN rfl (by decide)).1, va_recv hK hP (ci := 6) (q0 := 0) rfl rfl, (tq_pre (isC := [0, 1]) hP hD hK hN rfl (by decide)).2⟩ rfl rfl hl.1 rfl (lv_room (Nat.le_of_ble_eq_true rfl)) dX6_passStop_22 ⟨Nat.le_of_ble_eq_true rfl, Nat.le_of_ble_eq_true rfl⟩) (fun r102 u103 H locs hw104 hP hD hS => ?_)
  refine W.widen (k := 0) (n := 0) (Nat.le_of_ble_eq_true rfl) (Nat.le_of_ble_eq_true rfl) ?_
  have hr105 := hw104
  subst hr105
  have hP : va_P G vwCl [(sa, .inl (cA 0, 21, .inl fsec)), (h0, .inr (6, fs)), (pa, .inr (2, ps))] H := hP
  have hD : va_D A [(sa, .inl (cA 0, 21, .inl fsec)), (h0, .inr (6, fs)), (pa, .inr (2, ps))] := hD
  refine lv_pop hx hb dX6_passStop_25 rfl ?_
  refine lv_aload_n hx hb dX6_passStop_26 rfl (lv_at hl 0 rfl) ?_
  refine tq_cv (wr := [(sa, .inl (cA 0, 21, .inl fsec))]) hP hD hS hA [1, 2] [0] rfl rfl (by decide) (by decide) (va_runV (As := []) (rest := []) ⟨hx, hb, hml, hown, hT⟩ (c_X6_getIn l G cA H.size h0 fs pa ps (fh_sub hf [0] rfl) (fh_sub hp [0, 1, 2] rfl)) (cwV 0 hT (tq_gV kw_41_16 kw_41_17 kw_41_18 kw_1_23 kw_41_19) rfl rfl rfl (by decide +kernel) ⟨Nat.le_of_ble_eq_true rfl, Nat.le_of_ble_eq_true rfl⟩) ⟨(tq_pre (isC := [1, 2]) hP hD hK hN rfl (by decide)).1, va_recv hK hP (ci := 6) (q0 := 1) rfl rfl, (tq_pre (isC := [1, 2]) hP hD hK hN rfl (by decide)).2⟩ rfl rfl hl.1 rfl (lv_room (Nat.le_of_ble_eq_true rfl)) dX6_passStop_27 ⟨Nat.le_of_ble_eq_true rfl, Nat.le_of_ble_eq_true rfl⟩) (fun u106 H locs hw107 hP hD hS => ?_)
  refine W.widen (k := 0) (n := 0) (Nat.le_of_ble_eq_true rfl) (Nat.le_of_ble_eq_true rfl) ?_
  have hP : va_P G vwCl [(sa, .inl (cA 0, 21, .inl fsec)), (h0, .inr (6, fs)), (pa, .inr (2, ps))] H := hP
  have hD : va_D A [(sa, .inl (cA 0, 21, .inl fsec)), (h0, .inr (6, fs)), (pa, .inr (2, ps))] := hD
  refine lv_aload_n hx hb dX6_passStop_30 rfl (lv_at hl 0 rfl) ?_
  refine tq_cv (wr := [(sa, .inl (cA 0, 21, .inl fsec))]) hP hD hS hA [1, 2] [0] rfl rfl (by decide) (by decide) (va_runV (As := []) (rest := []) ⟨hx, hb, hml, hown, hT⟩ (c_X6_wayOn_14 l G cA H.size h0 fs pa ps (fh_sub hf [0, 1] rfl) (fh_sub hp [0, 1, 2] rfl)) (cwV 0 hT (tq_gV kw_42_7 kw_42_8 kw_42_9 kw_1_23 kw_42_10) rfl rfl rfl (by decide +kernel) ⟨Nat.le_of_ble_eq_true rfl, Nat.le_of_ble_eq_true rfl⟩) ⟨(tq_pre (isC := [1, 2]) hP hD hK hN rfl (by decide)).1, va_recv hK hP (ci := 6) (q0 := 1) rfl rfl, (tq_pre (isC := [1, 2]) hP hD hK hN rfl (by decide)).2⟩ rfl rfl hl.1 rfl (lv_room (Nat.le_of_ble_eq_true rfl)) dX6_passStop_31 ⟨Nat.le_of_ble_eq_true rfl, Nat.le_of_ble_eq_true rfl⟩) (fun u108 H locs hw109 hP hD hS => ?_)
  refine W.widen (k := 0) (n := 0) (Nat.le_of_ble_eq_true rfl) (Nat.le_of_ble_eq_true rfl) ?_
  obtain ⟨ho111, hf112⟩ := hw109
  have hf112 := fh_app (fo_fh (l' := [(19, .ref pa)]) hf ho111 rfl) hf112
  have ho113 := fo_mono (k2 := [0]) (fo_trans ho_hf ho111) (by decide)
  have hf112 : fh u108 20 [(19, .ref pa), (0, .int 15)] := hf112
  have hP : va_P G vwCl [(sa, .inl (cA 0, 21, .inl fsec)), (h0, .inr (6, u108)), (pa, .inr (2, ps))] H := hP
  have hD : va_D A [(sa, .inl (cA 0, 21, .inl fsec)), (h0, .inr (6, u108)), (pa, .inr (2, ps))] := hD
  have hP : va_P G vwCl [(h0, .inr (6, u108)), (pa, .inr (2, ps)), (sa, .inl (cA 0, 21, .inl fsec))] H := hP.sub [1, 2, 0] rfl
  have hD : va_D A [(h0, .inr (6, u108)), (pa, .inr (2, ps)), (sa, .inl (cA 0, 21, .inl fsec))] := hD.sub [1, 2, 0] (by decide) rfl
  have qho113 := fo_mono (k2 := [0]) ho113 (by decide)
  exact W.vret hx hb hr (fun t ht hW => ⟨⟨u108, rfl, ⟨qho113, fh_sub hf112 [1] rfl⟩, by rw [ht]; exact hP, hD⟩, hS.F ht⟩) hS.2.2 dX6_passStop_34

set_option maxHeartbeats 4000000 in
set_option maxRecDepth 100000 in
theorem c_X6_passStop_15 (l : Launch) (G : va_G) (cA : Nat → ClassId) (sz : Nat) (h0 : Nat) (fs : List Value) (pa : Nat) (ps : List Value) (sa : Nat) (fsec : Nat → Int32) (hf : fh fs 20 [(19, .ref pa), (0, .int 15)]) (hp : fh ps 19 [(0, .int 0), (1, .int 0), (2, .int 0), (17, .ref sa)]) (hsec : ∀ j, j < 21 → fsec j = 60) : Met l yX6_passStop (.code yX6_passStop cX6_passStop 1 none :: T0) ({ frames := 2, cells := 0, slots := 0, locals := 43 }) (tqP G cA [.ref h0] [(h0, .inr (6, fs)), (pa, .inr (2, ps)), (sa, .inl (cA 0, 21, .inl fsec))] sz) (tqQv G cA (fun (u : List Value) => fo fs u [0] ∧ fh u 20 [(0, .int 16)]) (fun (u : List Value) => [(h0, .inr (6, u)), (pa, .inr (2, ps)), (sa, .inl (cA 0, 21, .inl fsec))]) (va_A [(h0, .inr (6, fs)), (pa, .inr (2, ps)), (sa, .inl (cA 0, 21, .inl fsec))] sz)) 0 0 (va_A [(h0, .inr (6, fs)), (pa, .inr (2, ps)), (sa, .inl (cA 0, 21, .inl fsec))] sz) := by
  refine Met.ofW (cc := cX6_passStop) (maxL := 1) (ret := none) (by decide) rfl ?_
  intro p e s m args below meth c s₁ B hml hv
  obtain ⟨rfl, hsz, hP, hK, hD0, hN⟩ := hv
  have hx := B.exec
  have hb := B.bytes
  have hr := B.returns
  have hts := atoms_spec (ws := .code yX6_passStop cX6_passStop 1 none :: T0) B.pre
  have hT : ∀ w ∈ T0, w.before _ s = true := fun w h => hts w (List.mem_cons_of_mem _ h)
  have hown : s.vm.findClass RX6 = some m.cls := findClass_of_methodNamed B.named
  have hlocks := B.notSynchronized
  subst hsz
  have hD := hD0.self (sz := s.heap.size)
  generalize hAe : va_A [(h0, .inr (6, fs)), (pa, .inr (2, ps)), (sa, .inl (cA 0, 21, .inl fsec))] s.heap.size = A at hD ⊢
  have hA : ∀ q : Nat, s.heap.size ≤ q → A q := fun q h => by rw [← hAe]; exact Or.inr h
  have hS : va_S A s.heap s.heap [] := va_S.rf
  have hl := lv_entry ([.ref h0]) (n := 1) (Nat.le_of_ble_eq_true rfl)
  rw [lg_entry_eq]
  generalize (lg_sl ([.ref h0]) ++ List.replicate (1 - (lg_sl ([.ref h0])).length) Slot.unset).toArray = ls at hl ⊢
  have hl : lv_has ls 1 [(0, .ref h0)] := hl
  obtain ⟨H, hH⟩ : ∃ z, z = s.heap := ⟨_, rfl⟩
  rw [← hH] at hP
  have hS : va_S A s.heap H [] := by rw [hH]; exact hS
  suffices hgo : W p l e _ s m _ below meth c H [] 0 0 _ _ by rw [hH] at hgo; exact hgo
  have hO := hN.2.2.2.2
  have ho_hf := fo_refl fs
  have ho_hp := fo_refl ps
  refine lv_aload_n hx hb dX6_passStop_0 rfl (lv_at hl 0 rfl) ?_
  refine va_get (D := G) (ci := 6) (v := .int 15) (C := RX6) (T := TX6) (N := 20) hx hb hT ku_6 hown hK hP 0 rfl rfl 0 (by decide) (hT _ kw_8_2) (fun _ h9 => h9) (fh_at hf 1 rfl) dX6_passStop_1 ?_
  refine lv_bipush (v := 20) hx hb dX6_passStop_4 (by decide) ?_
  refine lv_icmp_gt (tgt := 34) hx hb dX6_passStop_6 (by decide) (fun c101 => absurd c101 (by decide)) (fun c101 => ?_)
  refine lv_aload_n hx hb dX6_passStop_9 rfl (lv_at hl 0 rfl) ?_
  refine lv_aload_n hx hb dX6_passStop_10 rfl (lv_at hl 0 rfl) ?_
  refine va_get (D := G) (ci := 6) (v := .ref pa) (C := RX6) (T := TX6) (N := 20) hx hb hT ku_6 hown hK hP 0 rfl rfl 19 (by decide) (hT _ kw_8_1) (fun _ h9 => h9) (fh_at hf 0 rfl) dX6_passStop_11 ?_
  refine va_get (D := G) (ci := 2) (v := .ref sa) (C := RX2) (T := TX2) (N := 19) hx hb hT ku_2 hown hK hP 1 rfl rfl 17 (by decide) (hT _ kw_40_15) (fun _ h9 => h9) (fh_at hp 3 rfl) dX6_passStop_14 ?_
  refine lv_aload_n hx hb dX6_passStop_17 rfl (lv_at hl 0 rfl) ?_
  refine va_get (D := G) (ci := 6) (v := .int 15) (C := RX6) (T := TX6) (N := 20) hx hb hT ku_6 hown hK hP 0 rfl rfl 0 (by decide) (hT _ kw_8_2) (fun _ h9 => h9) (fh_at hf 1 rfl) dX6_passStop_18 ?_
  refine va_iald (i := 15) hx hb hK hP 2 0 rfl rfl (tq_in (by decide)) dX6_passStop_21 ?_
  refine tq_i (w := 60) (hsec 15 (by decide)) ?_
  refine tq_ci (wr := [(sa, .inl (cA 0, 21, .inl fsec))]) hP hD hS hA [0, 1] [2] rfl rfl (by decide) (by decide) (va_runV (As := [.int 60]) (rest := []) ⟨hx, hb, hml, hown, hT⟩ (c_X6_takeDown l G cA H.size h0 60 fs pa ps (fh_sub hf [0] rfl) (fh_sub hp [0, 1, 2] rfl)) (cwV 1 hT (tq_gV kw_40_16 kw_40_17 kw_40_18 kw_1_23 kw_40_19) rfl rfl rfl (by decide +kernel) ⟨Nat.le_of_ble_eq_true rfl, Nat.le_of_ble_eq_true rfl⟩) ⟨(tq_pre (isC := [0, 1]) hP hD hK hN rfl (by decide)).1, va_recv hK hP (ci := 6) (q0 := 0) rfl rfl, (tq_pre (isC := [0, 1]) hP hD hK hN rfl (by decide)).2⟩ rfl rfl hl.1 rfl (lv_room (Nat.le_of_ble_eq_true rfl)) dX6_passStop_22 ⟨Nat.le_of_ble_eq_true rfl, Nat.le_of_ble_eq_true rfl⟩) (fun r102 u103 H locs hw104 hP hD hS => ?_)
  refine W.widen (k := 0) (n := 0) (Nat.le_of_ble_eq_true rfl) (Nat.le_of_ble_eq_true rfl) ?_
  have hr105 := hw104
  subst hr105
  have hP : va_P G vwCl [(sa, .inl (cA 0, 21, .inl fsec)), (h0, .inr (6, fs)), (pa, .inr (2, ps))] H := hP
  have hD : va_D A [(sa, .inl (cA 0, 21, .inl fsec)), (h0, .inr (6, fs)), (pa, .inr (2, ps))] := hD
  refine lv_pop hx hb dX6_passStop_25 rfl ?_
  refine lv_aload_n hx hb dX6_passStop_26 rfl (lv_at hl 0 rfl) ?_
  refine tq_cv (wr := [(sa, .inl (cA 0, 21, .inl fsec))]) hP hD hS hA [1, 2] [0] rfl rfl (by decide) (by decide) (va_runV (As := []) (rest := []) ⟨hx, hb, hml, hown, hT⟩ (c_X6_getIn l G cA H.size h0 fs pa ps (fh_sub hf [0] rfl) (fh_sub hp [0, 1, 2] rfl)) (cwV 0 hT (tq_gV kw_41_16 kw_41_17 kw_41_18 kw_1_23 kw_41_19) rfl rfl rfl (by decide +kernel) ⟨Nat.le_of_ble_eq_true rfl, Nat.le_of_ble_eq_true rfl⟩) ⟨(tq_pre (isC := [1, 2]) hP hD hK hN rfl (by decide)).1, va_recv hK hP (ci := 6) (q0 := 1) rfl rfl, (tq_pre (isC := [1, 2]) hP hD hK hN rfl (by decide)).2⟩ rfl rfl hl.1 rfl (lv_room (Nat.le_of_ble_eq_true rfl)) dX6_passStop_27 ⟨Nat.le_of_ble_eq_true rfl, Nat.le_of_ble_eq_true rfl⟩) (fun u106 H locs hw107 hP hD hS => ?_)
  refine W.widen (k := 0) (n := 0) (Nat.le_of_ble_eq_true rfl) (Nat.le_of_ble_eq_true rfl) ?_
  have hP : va_P G vwCl [(sa, .inl (cA 0, 21, .inl fsec)), (h0, .inr (6, fs)), (pa, .inr (2, ps))] H := hP
  have hD : va_D A [(sa, .inl (cA 0, 21, .inl fsec)), (h0, .inr (6, fs)), (pa, .inr (2, ps))] := hD
  refine lv_aload_n hx hb dX6_passStop_30 rfl (lv_at hl 0 rfl) ?_
  refine tq_cv (wr := [(sa, .inl (cA 0, 21, .inl fsec))]) hP hD hS hA [1, 2] [0] rfl rfl (by decide) (by decide) (va_runV (As := []) (rest := []) ⟨hx, hb, hml, hown, hT⟩ (c_X6_wayOn_15 l G cA H.size h0 fs pa ps (fh_sub hf [0, 1] rfl) (fh_sub hp [0, 1, 2] rfl)) (cwV 0 hT (tq_gV kw_42_7 kw_42_8 kw_42_9 kw_1_23 kw_42_10) rfl rfl rfl (by decide +kernel) ⟨Nat.le_of_ble_eq_true rfl, Nat.le_of_ble_eq_true rfl⟩) ⟨(tq_pre (isC := [1, 2]) hP hD hK hN rfl (by decide)).1, va_recv hK hP (ci := 6) (q0 := 1) rfl rfl, (tq_pre (isC := [1, 2]) hP hD hK hN rfl (by decide)).2⟩ rfl rfl hl.1 rfl (lv_room (Nat.le_of_ble_eq_true rfl)) dX6_passStop_31 ⟨Nat.le_of_ble_eq_true rfl, Nat.le_of_ble_eq_true rfl⟩) (fun u108 H locs hw109 hP hD hS => ?_)
  refine W.widen (k := 0) (n := 0) (Nat.le_of_ble_eq_true rfl) (Nat.le_of_ble_eq_true rfl) ?_
  obtain ⟨ho111, hf112⟩ := hw109
  have hf112 := fh_app (fo_fh (l' := [(19, .ref pa)]) hf ho111 rfl) hf112
  have ho113 := fo_mono (k2 := [0]) (fo_trans ho_hf ho111) (by decide)
  have hf112 : fh u108 20 [(19, .ref pa), (0, .int 16)] := hf112
  have hP : va_P G vwCl [(sa, .inl (cA 0, 21, .inl fsec)), (h0, .inr (6, u108)), (pa, .inr (2, ps))] H := hP
  have hD : va_D A [(sa, .inl (cA 0, 21, .inl fsec)), (h0, .inr (6, u108)), (pa, .inr (2, ps))] := hD
  have hP : va_P G vwCl [(h0, .inr (6, u108)), (pa, .inr (2, ps)), (sa, .inl (cA 0, 21, .inl fsec))] H := hP.sub [1, 2, 0] rfl
  have hD : va_D A [(h0, .inr (6, u108)), (pa, .inr (2, ps)), (sa, .inl (cA 0, 21, .inl fsec))] := hD.sub [1, 2, 0] (by decide) rfl
  have qho113 := fo_mono (k2 := [0]) ho113 (by decide)
  exact W.vret hx hb hr (fun t ht hW => ⟨⟨u108, rfl, ⟨qho113, fh_sub hf112 [1] rfl⟩, by rw [ht]; exact hP, hD⟩, hS.F ht⟩) hS.2.2 dX6_passStop_34

set_option maxHeartbeats 4000000 in
set_option maxRecDepth 100000 in
theorem c_X6_passStop_16 (l : Launch) (G : va_G) (cA : Nat → ClassId) (sz : Nat) (h0 : Nat) (fs : List Value) (pa : Nat) (ps : List Value) (sa : Nat) (fsec : Nat → Int32) (hf : fh fs 20 [(19, .ref pa), (0, .int 16)]) (hp : fh ps 19 [(0, .int 0), (1, .int 0), (2, .int 0), (17, .ref sa)]) (hsec : ∀ j, j < 21 → fsec j = 60) : Met l yX6_passStop (.code yX6_passStop cX6_passStop 1 none :: T0) ({ frames := 2, cells := 0, slots := 0, locals := 43 }) (tqP G cA [.ref h0] [(h0, .inr (6, fs)), (pa, .inr (2, ps)), (sa, .inl (cA 0, 21, .inl fsec))] sz) (tqQv G cA (fun (u : List Value) => fo fs u [0] ∧ fh u 20 [(0, .int 17)]) (fun (u : List Value) => [(h0, .inr (6, u)), (pa, .inr (2, ps)), (sa, .inl (cA 0, 21, .inl fsec))]) (va_A [(h0, .inr (6, fs)), (pa, .inr (2, ps)), (sa, .inl (cA 0, 21, .inl fsec))] sz)) 0 0 (va_A [(h0, .inr (6, fs)), (pa, .inr (2, ps)), (sa, .inl (cA 0, 21, .inl fsec))] sz) := by
  refine Met.ofW (cc := cX6_passStop) (maxL := 1) (ret := none) (by decide) rfl ?_
  intro p e s m args below meth c s₁ B hml hv
  obtain ⟨rfl, hsz, hP, hK, hD0, hN⟩ := hv
  have hx := B.exec
  have hb := B.bytes
  have hr := B.returns
  have hts := atoms_spec (ws := .code yX6_passStop cX6_passStop 1 none :: T0) B.pre
  have hT : ∀ w ∈ T0, w.before _ s = true := fun w h => hts w (List.mem_cons_of_mem _ h)
  have hown : s.vm.findClass RX6 = some m.cls := findClass_of_methodNamed B.named
  have hlocks := B.notSynchronized
  subst hsz
  have hD := hD0.self (sz := s.heap.size)
  generalize hAe : va_A [(h0, .inr (6, fs)), (pa, .inr (2, ps)), (sa, .inl (cA 0, 21, .inl fsec))] s.heap.size = A at hD ⊢
  have hA : ∀ q : Nat, s.heap.size ≤ q → A q := fun q h => by rw [← hAe]; exact Or.inr h
  have hS : va_S A s.heap s.heap [] := va_S.rf
  have hl := lv_entry ([.ref h0]) (n := 1) (Nat.le_of_ble_eq_true rfl)
  rw [lg_entry_eq]
  generalize (lg_sl ([.ref h0]) ++ List.replicate (1 - (lg_sl ([.ref h0])).length) Slot.unset).toArray = ls at hl ⊢
  have hl : lv_has ls 1 [(0, .ref h0)] := hl
  obtain ⟨H, hH⟩ : ∃ z, z = s.heap := ⟨_, rfl⟩
  rw [← hH] at hP
  have hS : va_S A s.heap H [] := by rw [hH]; exact hS
  suffices hgo : W p l e _ s m _ below meth c H [] 0 0 _ _ by rw [hH] at hgo; exact hgo
  have hO := hN.2.2.2.2
  have ho_hf := fo_refl fs
  have ho_hp := fo_refl ps
  refine lv_aload_n hx hb dX6_passStop_0 rfl (lv_at hl 0 rfl) ?_
  refine va_get (D := G) (ci := 6) (v := .int 16) (C := RX6) (T := TX6) (N := 20) hx hb hT ku_6 hown hK hP 0 rfl rfl 0 (by decide) (hT _ kw_8_2) (fun _ h9 => h9) (fh_at hf 1 rfl) dX6_passStop_1 ?_
  refine lv_bipush (v := 20) hx hb dX6_passStop_4 (by decide) ?_
  refine lv_icmp_gt (tgt := 34) hx hb dX6_passStop_6 (by decide) (fun c101 => absurd c101 (by decide)) (fun c101 => ?_)
  refine lv_aload_n hx hb dX6_passStop_9 rfl (lv_at hl 0 rfl) ?_
  refine lv_aload_n hx hb dX6_passStop_10 rfl (lv_at hl 0 rfl) ?_
  refine va_get (D := G) (ci := 6) (v := .ref pa) (C := RX6) (T := TX6) (N := 20) hx hb hT ku_6 hown hK hP 0 rfl rfl 19 (by decide) (hT _ kw_8_1) (fun _ h9 => h9) (fh_at hf 0 rfl) dX6_passStop_11 ?_
  refine va_get (D := G) (ci := 2) (v := .ref sa) (C := RX2) (T := TX2) (N := 19) hx hb hT ku_2 hown hK hP 1 rfl rfl 17 (by decide) (hT _ kw_40_15) (fun _ h9 => h9) (fh_at hp 3 rfl) dX6_passStop_14 ?_
  refine lv_aload_n hx hb dX6_passStop_17 rfl (lv_at hl 0 rfl) ?_
  refine va_get (D := G) (ci := 6) (v := .int 16) (C := RX6) (T := TX6) (N := 20) hx hb hT ku_6 hown hK hP 0 rfl rfl 0 (by decide) (hT _ kw_8_2) (fun _ h9 => h9) (fh_at hf 1 rfl) dX6_passStop_18 ?_
  refine va_iald (i := 16) hx hb hK hP 2 0 rfl rfl (tq_in (by decide)) dX6_passStop_21 ?_
  refine tq_i (w := 60) (hsec 16 (by decide)) ?_
  refine tq_ci (wr := [(sa, .inl (cA 0, 21, .inl fsec))]) hP hD hS hA [0, 1] [2] rfl rfl (by decide) (by decide) (va_runV (As := [.int 60]) (rest := []) ⟨hx, hb, hml, hown, hT⟩ (c_X6_takeDown l G cA H.size h0 60 fs pa ps (fh_sub hf [0] rfl) (fh_sub hp [0, 1, 2] rfl)) (cwV 1 hT (tq_gV kw_40_16 kw_40_17 kw_40_18 kw_1_23 kw_40_19) rfl rfl rfl (by decide +kernel) ⟨Nat.le_of_ble_eq_true rfl, Nat.le_of_ble_eq_true rfl⟩) ⟨(tq_pre (isC := [0, 1]) hP hD hK hN rfl (by decide)).1, va_recv hK hP (ci := 6) (q0 := 0) rfl rfl, (tq_pre (isC := [0, 1]) hP hD hK hN rfl (by decide)).2⟩ rfl rfl hl.1 rfl (lv_room (Nat.le_of_ble_eq_true rfl)) dX6_passStop_22 ⟨Nat.le_of_ble_eq_true rfl, Nat.le_of_ble_eq_true rfl⟩) (fun r102 u103 H locs hw104 hP hD hS => ?_)
  refine W.widen (k := 0) (n := 0) (Nat.le_of_ble_eq_true rfl) (Nat.le_of_ble_eq_true rfl) ?_
  have hr105 := hw104
  subst hr105
  have hP : va_P G vwCl [(sa, .inl (cA 0, 21, .inl fsec)), (h0, .inr (6, fs)), (pa, .inr (2, ps))] H := hP
  have hD : va_D A [(sa, .inl (cA 0, 21, .inl fsec)), (h0, .inr (6, fs)), (pa, .inr (2, ps))] := hD
  refine lv_pop hx hb dX6_passStop_25 rfl ?_
  refine lv_aload_n hx hb dX6_passStop_26 rfl (lv_at hl 0 rfl) ?_
  refine tq_cv (wr := [(sa, .inl (cA 0, 21, .inl fsec))]) hP hD hS hA [1, 2] [0] rfl rfl (by decide) (by decide) (va_runV (As := []) (rest := []) ⟨hx, hb, hml, hown, hT⟩ (c_X6_getIn l G cA H.size h0 fs pa ps (fh_sub hf [0] rfl) (fh_sub hp [0, 1, 2] rfl)) (cwV 0 hT (tq_gV kw_41_16 kw_41_17 kw_41_18 kw_1_23 kw_41_19) rfl rfl rfl (by decide +kernel) ⟨Nat.le_of_ble_eq_true rfl, Nat.le_of_ble_eq_true rfl⟩) ⟨(tq_pre (isC := [1, 2]) hP hD hK hN rfl (by decide)).1, va_recv hK hP (ci := 6) (q0 := 1) rfl rfl, (tq_pre (isC := [1, 2]) hP hD hK hN rfl (by decide)).2⟩ rfl rfl hl.1 rfl (lv_room (Nat.le_of_ble_eq_true rfl)) dX6_passStop_27 ⟨Nat.le_of_ble_eq_true rfl, Nat.le_of_ble_eq_true rfl⟩) (fun u106 H locs hw107 hP hD hS => ?_)
  refine W.widen (k := 0) (n := 0) (Nat.le_of_ble_eq_true rfl) (Nat.le_of_ble_eq_true rfl) ?_
  have hP : va_P G vwCl [(sa, .inl (cA 0, 21, .inl fsec)), (h0, .inr (6, fs)), (pa, .inr (2, ps))] H := hP
  have hD : va_D A [(sa, .inl (cA 0, 21, .inl fsec)), (h0, .inr (6, fs)), (pa, .inr (2, ps))] := hD
  refine lv_aload_n hx hb dX6_passStop_30 rfl (lv_at hl 0 rfl) ?_
  refine tq_cv (wr := [(sa, .inl (cA 0, 21, .inl fsec))]) hP hD hS hA [1, 2] [0] rfl rfl (by decide) (by decide) (va_runV (As := []) (rest := []) ⟨hx, hb, hml, hown, hT⟩ (c_X6_wayOn_16 l G cA H.size h0 fs pa ps (fh_sub hf [0, 1] rfl) (fh_sub hp [0, 1, 2] rfl)) (cwV 0 hT (tq_gV kw_42_7 kw_42_8 kw_42_9 kw_1_23 kw_42_10) rfl rfl rfl (by decide +kernel) ⟨Nat.le_of_ble_eq_true rfl, Nat.le_of_ble_eq_true rfl⟩) ⟨(tq_pre (isC := [1, 2]) hP hD hK hN rfl (by decide)).1, va_recv hK hP (ci := 6) (q0 := 1) rfl rfl, (tq_pre (isC := [1, 2]) hP hD hK hN rfl (by decide)).2⟩ rfl rfl hl.1 rfl (lv_room (Nat.le_of_ble_eq_true rfl)) dX6_passStop_31 ⟨Nat.le_of_ble_eq_true rfl, Nat.le_of_ble_eq_true rfl⟩) (fun u108 H locs hw109 hP hD hS => ?_)
  refine W.widen (k := 0) (n := 0) (Nat.le_of_ble_eq_true rfl) (Nat.le_of_ble_eq_true rfl) ?_
  obtain ⟨ho111, hf112⟩ := hw109
  have hf112 := fh_app (fo_fh (l' := [(19, .ref pa)]) hf ho111 rfl) hf112
  have ho113 := fo_mono (k2 := [0]) (fo_trans ho_hf ho111) (by decide)
  have hf112 : fh u108 20 [(19, .ref pa), (0, .int 17)] := hf112
  have hP : va_P G vwCl [(sa, .inl (cA 0, 21, .inl fsec)), (h0, .inr (6, u108)), (pa, .inr (2, ps))] H := hP
  have hD : va_D A [(sa, .inl (cA 0, 21, .inl fsec)), (h0, .inr (6, u108)), (pa, .inr (2, ps))] := hD
  have hP : va_P G vwCl [(h0, .inr (6, u108)), (pa, .inr (2, ps)), (sa, .inl (cA 0, 21, .inl fsec))] H := hP.sub [1, 2, 0] rfl
  have hD : va_D A [(h0, .inr (6, u108)), (pa, .inr (2, ps)), (sa, .inl (cA 0, 21, .inl fsec))] := hD.sub [1, 2, 0] (by decide) rfl
  have qho113 := fo_mono (k2 := [0]) ho113 (by decide)
  exact W.vret hx hb hr (fun t ht hW => ⟨⟨u108, rfl, ⟨qho113, fh_sub hf112 [1] rfl⟩, by rw [ht]; exact hP, hD⟩, hS.F ht⟩) hS.2.2 dX6_passStop_34

set_option maxHeartbeats 4000000 in
set_option maxRecDepth 100000 in
theorem c_X6_passStop_17 (l : Launch) (G : va_G) (cA : Nat → ClassId) (sz : Nat) (h0 : Nat) (fs : List Value) (pa : Nat) (ps : List Value) (sa : Nat) (fsec : Nat → Int32) (hf : fh fs 20 [(19, .ref pa), (0, .int 17)]) (hp : fh ps 19 [(0, .int 0), (1, .int 0), (2, .int 0), (17, .ref sa)]) (hsec : ∀ j, j < 21 → fsec j = 60) : Met l yX6_passStop (.code yX6_passStop cX6_passStop 1 none :: T0) ({ frames := 2, cells := 0, slots := 0, locals := 43 }) (tqP G cA [.ref h0] [(h0, .inr (6, fs)), (pa, .inr (2, ps)), (sa, .inl (cA 0, 21, .inl fsec))] sz) (tqQv G cA (fun (u : List Value) => fo fs u [0] ∧ fh u 20 [(0, .int 18)]) (fun (u : List Value) => [(h0, .inr (6, u)), (pa, .inr (2, ps)), (sa, .inl (cA 0, 21, .inl fsec))]) (va_A [(h0, .inr (6, fs)), (pa, .inr (2, ps)), (sa, .inl (cA 0, 21, .inl fsec))] sz)) 0 0 (va_A [(h0, .inr (6, fs)), (pa, .inr (2, ps)), (sa, .inl (cA 0, 21, .inl fsec))] sz) := by
  refine Met.ofW (cc := cX6_passStop) (maxL := 1) (ret := none) (by decide) rfl ?_
  intro p e s m args below meth c s₁ B hml hv
  obtain ⟨rfl, hsz, hP, hK, hD0, hN⟩ := hv
  have hx := B.exec
  have hb := B.bytes
  have hr := B.returns
  have hts := atoms_spec (ws := .code yX6_passStop cX6_passStop 1 none :: T0) B.pre
  have hT : ∀ w ∈ T0, w.before _ s = true := fun w h => hts w (List.mem_cons_of_mem _ h)
  have hown : s.vm.findClass RX6 = some m.cls := findClass_of_methodNamed B.named
  have hlocks := B.notSynchronized
  subst hsz
  have hD := hD0.self (sz := s.heap.size)
  generalize hAe : va_A [(h0, .inr (6, fs)), (pa, .inr (2, ps)), (sa, .inl (cA 0, 21, .inl fsec))] s.heap.size = A at hD ⊢
  have hA : ∀ q : Nat, s.heap.size ≤ q → A q := fun q h => by rw [← hAe]; exact Or.inr h
  have hS : va_S A s.heap s.heap [] := va_S.rf
  have hl := lv_entry ([.ref h0]) (n := 1) (Nat.le_of_ble_eq_true rfl)
  rw [lg_entry_eq]
  generalize (lg_sl ([.ref h0]) ++ List.replicate (1 - (lg_sl ([.ref h0])).length) Slot.unset).toArray = ls at hl ⊢
  have hl : lv_has ls 1 [(0, .ref h0)] := hl
  obtain ⟨H, hH⟩ : ∃ z, z = s.heap := ⟨_, rfl⟩
  rw [← hH] at hP
  have hS : va_S A s.heap H [] := by rw [hH]; exact hS
  suffices hgo : W p l e _ s m _ below meth c H [] 0 0 _ _ by rw [hH] at hgo; exact hgo
  have hO := hN.2.2.2.2
  have ho_hf := fo_refl fs
  have ho_hp := fo_refl ps
  refine lv_aload_n hx hb dX6_passStop_0 rfl (lv_at hl 0 rfl) ?_
  refine va_get (D := G) (ci := 6) (v := .int 17) (C := RX6) (T := TX6) (N := 20) hx hb hT ku_6 hown hK hP 0 rfl rfl 0 (by decide) (hT _ kw_8_2) (fun _ h9 => h9) (fh_at hf 1 rfl) dX6_passStop_1 ?_
  refine lv_bipush (v := 20) hx hb dX6_passStop_4 (by decide) ?_
  refine lv_icmp_gt (tgt := 34) hx hb dX6_passStop_6 (by decide) (fun c101 => absurd c101 (by decide)) (fun c101 => ?_)
  refine lv_aload_n hx hb dX6_passStop_9 rfl (lv_at hl 0 rfl) ?_
  refine lv_aload_n hx hb dX6_passStop_10 rfl (lv_at hl 0 rfl) ?_
  refine va_get (D := G) (ci := 6) (v := .ref pa) (C := RX6) (T := TX6) (N := 20) hx hb hT ku_6 hown hK hP 0 rfl rfl 19 (by decide) (hT _ kw_8_1) (fun _ h9 => h9) (fh_at hf 0 rfl) dX6_passStop_11 ?_
  refine va_get (D := G) (ci := 2) (v := .ref sa) (C := RX2) (T := TX2) (N := 19) hx hb hT ku_2 hown hK hP 1 rfl rfl 17 (by decide) (hT _ kw_40_15) (fun _ h9 => h9) (fh_at hp 3 rfl) dX6_passStop_14 ?_
  refine lv_aload_n hx hb dX6_passStop_17 rfl (lv_at hl 0 rfl) ?_
  refine va_get (D := G) (ci := 6) (v := .int 17) (C := RX6) (T := TX6) (N := 20) hx hb hT ku_6 hown hK hP 0 rfl rfl 0 (by decide) (hT _ kw_8_2) (fun _ h9 => h9) (fh_at hf 1 rfl) dX6_passStop_18 ?_
  refine va_iald (i := 17) hx hb hK hP 2 0 rfl rfl (tq_in (by decide)) dX6_passStop_21 ?_
  refine tq_i (w := 60) (hsec 17 (by decide)) ?_
  refine tq_ci (wr := [(sa, .inl (cA 0, 21, .inl fsec))]) hP hD hS hA [0, 1] [2] rfl rfl (by decide) (by decide) (va_runV (As := [.int 60]) (rest := []) ⟨hx, hb, hml, hown, hT⟩ (c_X6_takeDown l G cA H.size h0 60 fs pa ps (fh_sub hf [0] rfl) (fh_sub hp [0, 1, 2] rfl)) (cwV 1 hT (tq_gV kw_40_16 kw_40_17 kw_40_18 kw_1_23 kw_40_19) rfl rfl rfl (by decide +kernel) ⟨Nat.le_of_ble_eq_true rfl, Nat.le_of_ble_eq_true rfl⟩) ⟨(tq_pre (isC := [0, 1]) hP hD hK hN rfl (by decide)).1, va_recv hK hP (ci := 6) (q0 := 0) rfl rfl, (tq_pre (isC := [0, 1]) hP hD hK hN rfl (by decide)).2⟩ rfl rfl hl.1 rfl (lv_room (Nat.le_of_ble_eq_true rfl)) dX6_passStop_22 ⟨Nat.le_of_ble_eq_true rfl, Nat.le_of_ble_eq_true rfl⟩) (fun r102 u103 H locs hw104 hP hD hS => ?_)
  refine W.widen (k := 0) (n := 0) (Nat.le_of_ble_eq_true rfl) (Nat.le_of_ble_eq_true rfl) ?_
  have hr105 := hw104
  subst hr105
  have hP : va_P G vwCl [(sa, .inl (cA 0, 21, .inl fsec)), (h0, .inr (6, fs)), (pa, .inr (2, ps))] H := hP
  have hD : va_D A [(sa, .inl (cA 0, 21, .inl fsec)), (h0, .inr (6, fs)), (pa, .inr (2, ps))] := hD
  refine lv_pop hx hb dX6_passStop_25 rfl ?_
  refine lv_aload_n hx hb dX6_passStop_26 rfl (lv_at hl 0 rfl) ?_
  refine tq_cv (wr := [(sa, .inl (cA 0, 21, .inl fsec))]) hP hD hS hA [1, 2] [0] rfl rfl (by decide) (by decide) (va_runV (As := []) (rest := []) ⟨hx, hb, hml, hown, hT⟩ (c_X6_getIn l G cA H.size h0 fs pa ps (fh_sub hf [0] rfl) (fh_sub hp [0, 1, 2] rfl)) (cwV 0 hT (tq_gV kw_41_16 kw_41_17 kw_41_18 kw_1_23 kw_41_19) rfl rfl rfl (by decide +kernel) ⟨Nat.le_of_ble_eq_true rfl, Nat.le_of_ble_eq_true rfl⟩) ⟨(tq_pre (isC := [1, 2]) hP hD hK hN rfl (by decide)).1, va_recv hK hP (ci := 6) (q0 := 1) rfl rfl, (tq_pre (isC := [1, 2]) hP hD hK hN rfl (by decide)).2⟩ rfl rfl hl.1 rfl (lv_room (Nat.le_of_ble_eq_true rfl)) dX6_passStop_27 ⟨Nat.le_of_ble_eq_true rfl, Nat.le_of_ble_eq_true rfl⟩) (fun u106 H locs hw107 hP hD hS => ?_)
  refine W.widen (k := 0) (n := 0) (Nat.le_of_ble_eq_true rfl) (Nat.le_of_ble_eq_true rfl) ?_
  have hP : va_P G vwCl [(sa, .inl (cA 0, 21, .inl fsec)), (h0, .inr (6, fs)), (pa, .inr (2, ps))] H := hP
  have hD : va_D A [(sa, .inl (cA 0, 21, .inl fsec)), (h0, .inr (6, fs)), (pa, .inr (2, ps))] := hD
  refine lv_aload_n hx hb dX6_passStop_30 rfl (lv_at hl 0 rfl) ?_
  refine tq_cv (wr := [(sa, .inl (cA 0, 21, .inl fsec))]) hP hD hS hA [1, 2] [0] rfl rfl (by decide) (by decide) (va_runV (As := []) (rest := []) ⟨hx, hb, hml, hown, hT⟩ (c_X6_wayOn_17 l G cA H.size h0 fs pa ps (fh_sub hf [0, 1] rfl) (fh_sub hp [0, 1, 2] rfl)) (cwV 0 hT (tq_gV kw_42_7 kw_42_8 kw_42_9 kw_1_23 kw_42_10) rfl rfl rfl (by decide +kernel) ⟨Nat.le_of_ble_eq_true rfl, Nat.le_of_ble_eq_true rfl⟩) ⟨(tq_pre (isC := [1, 2]) hP hD hK hN rfl (by decide)).1, va_recv hK hP (ci := 6) (q0 := 1) rfl rfl, (tq_pre (isC := [1, 2]) hP hD hK hN rfl (by decide)).2⟩ rfl rfl hl.1 rfl (lv_room (Nat.le_of_ble_eq_true rfl)) dX6_passStop_31 ⟨Nat.le_of_ble_eq_true rfl, Nat.le_of_ble_eq_true rfl⟩) (fun u108 H locs hw109 hP hD hS => ?_)
  refine W.widen (k := 0) (n := 0) (Nat.le_of_ble_eq_true rfl) (Nat.le_of_ble_eq_true rfl) ?_
  obtain ⟨ho111, hf112⟩ := hw109
  have hf112 := fh_app (fo_fh (l' := [(19, .ref pa)]) hf ho111 rfl) hf112
  have ho113 := fo_mono (k2 := [0]) (fo_trans ho_hf ho111) (by decide)
  have hf112 : fh u108 20 [(19, .ref pa), (0, .int 18)] := hf112
  have hP : va_P G vwCl [(sa, .inl (cA 0, 21, .inl fsec)), (h0, .inr (6, u108)), (pa, .inr (2, ps))] H := hP
  have hD : va_D A [(sa, .inl (cA 0, 21, .inl fsec)), (h0, .inr (6, u108)), (pa, .inr (2, ps))] := hD
  have hP : va_P G vwCl [(h0, .inr (6, u108)), (pa, .inr (2, ps)), (sa, .inl (cA 0, 21, .inl fsec))] H := hP.sub [1, 2, 0] rfl
  have hD : va_D A [(h0, .inr (6, u108)), (pa, .inr (2, ps)), (sa, .inl (cA 0, 21, .inl fsec))] := hD.sub [1, 2, 0] (by decide) rfl
  have qho113 := fo_mono (k2 := [0]) ho113 (by decide)
  exact W.vret hx hb hr (fun t ht hW => ⟨⟨u108, rfl, ⟨qho113, fh_sub hf112 [1] rfl⟩, by rw [ht]; exact hP, hD⟩, hS.F ht⟩) hS.2.2 dX6_passStop_34

set_option maxHeartbeats 4000000 in
set_option maxRecDepth 100000 in
theorem c_X6_passStop_18 (l : Launch) (G : va_G) (cA : Nat → ClassId) (sz : Nat) (h0 : Nat) (fs : List Value) (pa : Nat) (ps : List Value) (sa : Nat) (fsec : Nat → Int32) (hf : fh fs 20 [(19, .ref pa), (0, .int 18)]) (hp : fh ps 19 [(0, .int 0), (1, .int 0), (2, .int 0), (17, .ref sa)]) (hsec : ∀ j, j < 21 → fsec j = 60) : Met l yX6_passStop (.code yX6_passStop cX6_passStop 1 none :: T0) ({ frames := 2, cells := 0, slots := 0, locals := 43 }) (tqP G cA [.ref h0] [(h0, .inr (6, fs)), (pa, .inr (2, ps)), (sa, .inl (cA 0, 21, .inl fsec))] sz) (tqQv G cA (fun (u : List Value) => fo fs u [0] ∧ fh u 20 [(0, .int 19)]) (fun (u : List Value) => [(h0, .inr (6, u)), (pa, .inr (2, ps)), (sa, .inl (cA 0, 21, .inl fsec))]) (va_A [(h0, .inr (6, fs)), (pa, .inr (2, ps)), (sa, .inl (cA 0, 21, .inl fsec))] sz)) 0 0 (va_A [(h0, .inr (6, fs)), (pa, .inr (2, ps)), (sa, .inl (cA 0, 21, .inl fsec))] sz) := by
  refine Met.ofW (cc := cX6_passStop) (maxL := 1) (ret := none) (by decide) rfl ?_
  intro p e s m args below meth c s₁ B hml hv
  obtain ⟨rfl, hsz, hP, hK, hD0, hN⟩ := hv
  have hx := B.exec
  have hb := B.bytes
  have hr := B.returns
  have hts := atoms_spec (ws := .code yX6_passStop cX6_passStop 1 none :: T0) B.pre
  have hT : ∀ w ∈ T0, w.before _ s = true := fun w h => hts w (List.mem_cons_of_mem _ h)
  have hown : s.vm.findClass RX6 = some m.cls := findClass_of_methodNamed B.named
  have hlocks := B.notSynchronized
  subst hsz
  have hD := hD0.self (sz := s.heap.size)
  generalize hAe : va_A [(h0, .inr (6, fs)), (pa, .inr (2, ps)), (sa, .inl (cA 0, 21, .inl fsec))] s.heap.size = A at hD ⊢
  have hA : ∀ q : Nat, s.heap.size ≤ q → A q := fun q h => by rw [← hAe]; exact Or.inr h
  have hS : va_S A s.heap s.heap [] := va_S.rf
  have hl := lv_entry ([.ref h0]) (n := 1) (Nat.le_of_ble_eq_true rfl)
  rw [lg_entry_eq]
  generalize (lg_sl ([.ref h0]) ++ List.replicate (1 - (lg_sl ([.ref h0])).length) Slot.unset).toArray = ls at hl ⊢
  have hl : lv_has ls 1 [(0, .ref h0)] := hl
  obtain ⟨H, hH⟩ : ∃ z, z = s.heap := ⟨_, rfl⟩
  rw [← hH] at hP
  have hS : va_S A s.heap H [] := by rw [hH]; exact hS
  suffices hgo : W p l e _ s m _ below meth c H [] 0 0 _ _ by rw [hH] at hgo; exact hgo
  have hO := hN.2.2.2.2
  have ho_hf := fo_refl fs
  have ho_hp := fo_refl ps
  refine lv_aload_n hx hb dX6_passStop_0 rfl (lv_at hl 0 rfl) ?_
  refine va_get (D := G) (ci := 6) (v := .int 18) (C := RX6) (T := TX6) (N := 20) hx hb hT ku_6 hown hK hP 0 rfl rfl 0 (by decide) (hT _ kw_8_2) (fun _ h9 => h9) (fh_at hf 1 rfl) dX6_passStop_1 ?_
  refine lv_bipush (v := 20) hx hb dX6_passStop_4 (by decide) ?_
  refine lv_icmp_gt (tgt := 34) hx hb dX6_passStop_6 (by decide) (fun c101 => absurd c101 (by decide)) (fun c101 => ?_)
  refine lv_aload_n hx hb dX6_passStop_9 rfl (lv_at hl 0 rfl) ?_
  refine lv_aload_n hx hb dX6_passStop_10 rfl (lv_at hl 0 rfl) ?_
  refine va_get (D := G) (ci := 6) (v := .ref pa) (C := RX6) (T := TX6) (N := 20) hx hb hT ku_6 hown hK hP 0 rfl rfl 19 (by decide) (hT _ kw_8_1) (fun _ h9 => h9) (fh_at hf 0 rfl) dX6_passStop_11 ?_
  refine va_get (D := G) (ci := 2) (v := .ref sa) (C := RX2) (T := TX2) (N := 19) hx hb hT ku_2 hown hK hP 1 rfl rfl 17 (by decide) (hT _ kw_40_15) (fun _ h9 => h9) (fh_at hp 3 rfl) dX6_passStop_14 ?_
  refine lv_aload_n hx hb dX6_passStop_17 rfl (lv_at hl 0 rfl) ?_
  refine va_get (D := G) (ci := 6) (v := .int 18) (C := RX6) (T := TX6) (N := 20) hx hb hT ku_6 hown hK hP 0 rfl rfl 0 (by decide) (hT _ kw_8_2) (fun _ h9 => h9) (fh_at hf 1 rfl) dX6_passStop_18 ?_
  refine va_iald (i := 18) hx hb hK hP 2 0 rfl rfl (tq_in (by decide)) dX6_passStop_21 ?_
  refine tq_i (w := 60) (hsec 18 (by decide)) ?_
  refine tq_ci (wr := [(sa, .inl (cA 0, 21, .inl fsec))]) hP hD hS hA [0, 1] [2] rfl rfl (by decide) (by decide) (va_runV (As := [.int 60]) (rest := []) ⟨hx, hb, hml, hown, hT⟩ (c_X6_takeDown l G cA H.size h0 60 fs pa ps (fh_sub hf [0] rfl) (fh_sub hp [0, 1, 2] rfl)) (cwV 1 hT (tq_gV kw_40_16 kw_40_17 kw_40_18 kw_1_23 kw_40_19) rfl rfl rfl (by decide +kernel) ⟨Nat.le_of_ble_eq_true rfl, Nat.le_of_ble_eq_true rfl⟩) ⟨(tq_pre (isC := [0, 1]) hP hD hK hN rfl (by decide)).1, va_recv hK hP (ci := 6) (q0 := 0) rfl rfl, (tq_pre (isC := [0, 1]) hP hD hK hN rfl (by decide)).2⟩ rfl rfl hl.1 rfl (lv_room (Nat.le_of_ble_eq_true rfl)) dX6_passStop_22 ⟨Nat.le_of_ble_eq_true rfl, Nat.le_of_ble_eq_true rfl⟩) (fun r102 u103 H locs hw104 hP hD hS => ?_)
  refine W.widen (k := 0) (n := 0) (Nat.le_of_ble_eq_true rfl) (Nat.le_of_ble_eq_true rfl) ?_
  have hr105 := hw104
  subst hr105
  have hP : va_P G vwCl [(sa, .inl (cA 0, 21, .inl fsec)), (h0, .inr (6, fs)), (pa, .inr (2, ps))] H := hP
  have hD : va_D A [(sa, .inl (cA 0, 21, .inl fsec)), (h0, .inr (6, fs)), (pa, .inr (2, ps))] := hD
  refine lv_pop hx hb dX6_passStop_25 rfl ?_
  refine lv_aload_n hx hb dX6_passStop_26 rfl (lv_at hl 0 rfl) ?_
  refine tq_cv (wr := [(sa, .inl (cA 0, 21, .inl fsec))]) hP hD hS hA [1, 2] [0] rfl rfl (by decide) (by decide) (va_runV (As := []) (rest := []) ⟨hx, hb, hml, hown, hT⟩ (c_X6_getIn l G cA H.size h0 fs pa ps (fh_sub hf [0] rfl) (fh_sub hp [0, 1, 2] rfl)) (cwV 0 hT (tq_gV kw_41_16 kw_41_17 kw_41_18 kw_1_23 kw_41_19) rfl rfl rfl (by decide +kernel) ⟨Nat.le_of_ble_eq_true rfl, Nat.le_of_ble_eq_true rfl⟩) ⟨(tq_pre (isC := [1, 2]) hP hD hK hN rfl (by decide)).1, va_recv hK hP (ci := 6) (q0 := 1) rfl rfl, (tq_pre (isC := [1, 2]) hP hD hK hN rfl (by decide)).2⟩ rfl rfl hl.1 rfl (lv_room (Nat.le_of_ble_eq_true rfl)) dX6_passStop_27 ⟨Nat.le_of_ble_eq_true rfl, Nat.le_of_ble_eq_true rfl⟩) (fun u106 H locs hw107 hP hD hS => ?_)
  refine W.widen (k := 0) (n := 0) (Nat.le_of_ble_eq_true rfl) (Nat.le_of_ble_eq_true rfl) ?_
  have hP : va_P G vwCl [(sa, .inl (cA 0, 21, .inl fsec)), (h0, .inr (6, fs)), (pa, .inr (2, ps))] H := hP
  have hD : va_D A [(sa, .inl (cA 0, 21, .inl fsec)), (h0, .inr (6, fs)), (pa, .inr (2, ps))] := hD
  refine lv_aload_n hx hb dX6_passStop_30 rfl (lv_at hl 0 rfl) ?_
  refine tq_cv (wr := [(sa, .inl (cA 0, 21, .inl fsec))]) hP hD hS hA [1, 2] [0] rfl rfl (by decide) (by decide) (va_runV (As := []) (rest := []) ⟨hx, hb, hml, hown, hT⟩ (c_X6_wayOn_18 l G cA H.size h0 fs pa ps (fh_sub hf [0, 1] rfl) (fh_sub hp [0, 1, 2] rfl)) (cwV 0 hT (tq_gV kw_42_7 kw_42_8 kw_42_9 kw_1_23 kw_42_10) rfl rfl rfl (by decide +kernel) ⟨Nat.le_of_ble_eq_true rfl, Nat.le_of_ble_eq_true rfl⟩) ⟨(tq_pre (isC := [1, 2]) hP hD hK hN rfl (by decide)).1, va_recv hK hP (ci := 6) (q0 := 1) rfl rfl, (tq_pre (isC := [1, 2]) hP hD hK hN rfl (by decide)).2⟩ rfl rfl hl.1 rfl (lv_room (Nat.le_of_ble_eq_true rfl)) dX6_passStop_31 ⟨Nat.le_of_ble_eq_true rfl, Nat.le_of_ble_eq_true rfl⟩) (fun u108 H locs hw109 hP hD hS => ?_)
  refine W.widen (k := 0) (n := 0) (Nat.le_of_ble_eq_true rfl) (Nat.le_of_ble_eq_true rfl) ?_
  obtain ⟨ho111, hf112⟩ := hw109
  have hf112 := fh_app (fo_fh (l' := [(19, .ref pa)]) hf ho111 rfl) hf112
  have ho113 := fo_mono (k2 := [0]) (fo_trans ho_hf ho111) (by decide)
  have hf112 : fh u108 20 [(19, .ref pa), (0, .int 19)] := hf112
  have hP : va_P G vwCl [(sa, .inl (cA 0, 21, .inl fsec)), (h0, .inr (6, u108)), (pa, .inr (2, ps))] H := hP
  have hD : va_D A [(sa, .inl (cA 0, 21, .inl fsec)), (h0, .inr (6, u108)), (pa, .inr (2, ps))] := hD
  have hP : va_P G vwCl [(h0, .inr (6, u108)), (pa, .inr (2, ps)), (sa, .inl (cA 0, 21, .inl fsec))] H := hP.sub [1, 2, 0] rfl
  have hD : va_D A [(h0, .inr (6, u108)), (pa, .inr (2, ps)), (sa, .inl (cA 0, 21, .inl fsec))] := hD.sub [1, 2, 0] (by decide) rfl
  have qho113 := fo_mono (k2 := [0]) ho113 (by decide)
  exact W.vret hx hb hr (fun t ht hW => ⟨⟨u108, rfl, ⟨qho113, fh_sub hf112 [1] rfl⟩, by rw [ht]; exact hP, hD⟩, hS.F ht⟩) hS.2.2 dX6_passStop_34

set_option maxHeartbeats 4000000 in
set_option maxRecDepth 100000 in
theorem c_X6_passStop_19 (l : Launch) (G : va_G) (cA : Nat → ClassId) (sz : Nat) (h0 : Nat) (fs : List Value) (pa : Nat) (ps : List Value) (sa : Nat) (fsec : Nat → Int32) (hf : fh fs 20 [(19, .ref pa), (0, .int 19)]) (hp : fh ps 19 [(0, .int 0), (1, .int 0), (2, .int 0), (17, .ref sa)]) (hsec : ∀ j, j < 21 → fsec j = 60) : Met l yX6_passStop (.code yX6_passStop cX6_passStop 1 none :: T0) ({ frames := 2, cells := 0, slots := 0, locals := 43 }) (tqP G cA [.ref h0] [(h0, .inr (6, fs)), (pa, .inr (2, ps)), (sa, .inl (cA 0, 21, .inl fsec))] sz) (tqQv G cA (fun (u : List Value) => fo fs u [0] ∧ fh u 20 [(0, .int 20)]) (fun (u : List Value) => [(h0, .inr (6, u)), (pa, .inr (2, ps)), (sa, .inl (cA 0, 21, .inl fsec))]) (va_A [(h0, .inr (6, fs)), (pa, .inr (2, ps)), (sa, .inl (cA 0, 21, .inl fsec))] sz)) 0 0 (va_A [(h0, .inr (6, fs)), (pa, .inr (2, ps)), (sa, .inl (cA 0, 21, .inl fsec))] sz) := by
  refine Met.ofW (cc := cX6_passStop) (maxL := 1) (ret := none) (by decide) rfl ?_
  intro p e s m args below meth c s₁ B hml hv
  obtain ⟨rfl, hsz, hP, hK, hD0, hN⟩ := hv
  have hx := B.exec
  have hb := B.bytes
  have hr := B.returns
  have hts := atoms_spec (ws := .code yX6_passStop cX6_passStop 1 none :: T0) B.pre
  have hT : ∀ w ∈ T0, w.before _ s = true := fun w h => hts w (List.mem_cons_of_mem _ h)
  have hown : s.vm.findClass RX6 = some m.cls := findClass_of_methodNamed B.named
  have hlocks := B.notSynchronized
  subst hsz
  have hD := hD0.self (sz := s.heap.size)
  generalize hAe : va_A [(h0, .inr (6, fs)), (pa, .inr (2, ps)), (sa, .inl (cA 0, 21, .inl fsec))] s.heap.size = A at hD ⊢
  have hA : ∀ q : Nat, s.heap.size ≤ q → A q := fun q h => by rw [← hAe]; exact Or.inr h
  have hS : va_S A s.heap s.heap [] := va_S.rf
  have hl := lv_entry ([.ref h0]) (n := 1) (Nat.le_of_ble_eq_true rfl)
  rw [lg_entry_eq]
  generalize (lg_sl ([.ref h0]) ++ List.replicate (1 - (lg_sl ([.ref h0])).length) Slot.unset).toArray = ls at hl ⊢
  have hl : lv_has ls 1 [(0, .ref h0)] := hl
  obtain ⟨H, hH⟩ : ∃ z, z = s.heap := ⟨_, rfl⟩
  rw [← hH] at hP
  have hS : va_S A s.heap H [] := by rw [hH]; exact hS
  suffices hgo : W p l e _ s m _ below meth c H [] 0 0 _ _ by rw [hH] at hgo; exact hgo
  have hO := hN.2.2.2.2
  have ho_hf := fo_refl fs
  have ho_hp := fo_refl ps
  refine lv_aload_n hx hb dX6_passStop_0 rfl (lv_at hl 0 rfl) ?_
  refine va_get (D := G) (ci := 6) (v := .int 19) (C := RX6) (T := TX6) (N := 20) hx hb hT ku_6 hown hK hP 0 rfl rfl 0 (by decide) (hT _ kw_8_2) (fun _ h9 => h9) (fh_at hf 1 rfl) dX6_passStop_1 ?_
  refine lv_bipush (v := 20) hx hb dX6_passStop_4 (by decide) ?_
  refine lv_icmp_gt (tgt := 34) hx hb dX6_passStop_6 (by decide) (fun c101 => absurd c101 (by decide)) (fun c101 => ?_)
  refine lv_aload_n hx hb dX6_passStop_9 rfl (lv_at hl 0 rfl) ?_
  refine lv_aload_n hx hb dX6_passStop_10 rfl (lv_at hl 0 rfl) ?_
  refine va_get (D := G) (ci := 6) (v := .ref pa) (C := RX6) (T := TX6) (N := 20) hx hb hT ku_6 hown hK hP 0 rfl rfl 19 (by decide) (hT _ kw_8_1) (fun _ h9 => h9) (fh_at hf 0 rfl) dX6_passStop_11 ?_
  refine va_get (D := G) (ci := 2) (v := .ref sa) (C := RX2) (T := TX2) (N := 19) hx hb hT ku_2 hown hK hP 1 rfl rfl 17 (by decide) (hT _ kw_40_15) (fun _ h9 => h9) (fh_at hp 3 rfl) dX6_passStop_14 ?_
  refine lv_aload_n hx hb dX6_passStop_17 rfl (lv_at hl 0 rfl) ?_
  refine va_get (D := G) (ci := 6) (v := .int 19) (C := RX6) (T := TX6) (N := 20) hx hb hT ku_6 hown hK hP 0 rfl rfl 0 (by decide) (hT _ kw_8_2) (fun _ h9 => h9) (fh_at hf 1 rfl) dX6_passStop_18 ?_
  refine va_iald (i := 19) hx hb hK hP 2 0 rfl rfl (tq_in (by decide)) dX6_passStop_21 ?_
  refine tq_i (w := 60) (hsec 19 (by decide)) ?_
  refine tq_ci (wr := [(sa, .inl (cA 0, 21, .inl fsec))]) hP hD hS hA [0, 1] [2] rfl rfl (by decide) (by decide) (va_runV (As := [.int 60]) (rest := []) ⟨hx, hb, hml, hown, hT⟩ (c_X6_takeDown l G cA H.size h0 60 fs pa ps (fh_sub hf [0] rfl) (fh_sub hp [0, 1, 2] rfl)) (cwV 1 hT (tq_gV kw_40_16 kw_40_17 kw_40_18 kw_1_23 kw_40_19) rfl rfl rfl (by decide +kernel) ⟨Nat.le_of_ble_eq_true rfl, Nat.le_of_ble_eq_true rfl⟩) ⟨(tq_pre (isC := [0, 1]) hP hD hK hN rfl (by decide)).1, va_recv hK hP (ci := 6) (q0 := 0) rfl rfl, (tq_pre (isC := [0, 1]) hP hD hK hN rfl (by decide)).2⟩ rfl rfl hl.1 rfl (lv_room (Nat.le_of_ble_eq_true rfl)) dX6_passStop_22 ⟨Nat.le_of_ble_eq_true rfl, Nat.le_of_ble_eq_true rfl⟩) (fun r102 u103 H locs hw104 hP hD hS => ?_)
  refine W.widen (k := 0) (n := 0) (Nat.le_of_ble_eq_true rfl) (Nat.le_of_ble_eq_true rfl) ?_
  have hr105 := hw104
  subst hr105
  have hP : va_P G vwCl [(sa, .inl (cA 0, 21, .inl fsec)), (h0, .inr (6, fs)), (pa, .inr (2, ps))] H := hP
  have hD : va_D A [(sa, .inl (cA 0, 21, .inl fsec)), (h0, .inr (6, fs)), (pa, .inr (2, ps))] := hD
  refine lv_pop hx hb dX6_passStop_25 rfl ?_
  refine lv_aload_n hx hb dX6_passStop_26 rfl (lv_at hl 0 rfl) ?_
  refine tq_cv (wr := [(sa, .inl (cA 0, 21, .inl fsec))]) hP hD hS hA [1, 2] [0] rfl rfl (by decide) (by decide) (va_runV (As := []) (rest := []) ⟨hx, hb, hml, hown, hT⟩ (c_X6_getIn l G cA H.size h0 fs pa ps (fh_sub hf [0] rfl) (fh_sub hp [0, 1, 2] rfl)) (cwV 0 hT (tq_gV kw_41_16 kw_41_17 kw_41_18 kw_1_23 kw_41_19) rfl rfl rfl (by decide +kernel) ⟨Nat.le_of_ble_eq_true rfl, Nat.le_of_ble_eq_true rfl⟩) ⟨(tq_pre (isC := [1, 2]) hP hD hK hN rfl (by decide)).1, va_recv hK hP (ci := 6) (q0 := 1) rfl rfl, (tq_pre (isC := [1, 2]) hP hD hK hN rfl (by decide)).2⟩ rfl rfl hl.1 rfl (lv_room (Nat.le_of_ble_eq_true rfl)) dX6_passStop_27 ⟨Nat.le_of_ble_eq_true rfl, Nat.le_of_ble_eq_true rfl⟩) (fun u106 H locs hw107 hP hD hS => ?_)
  refine W.widen (k := 0) (n := 0) (Nat.le_of_ble_eq_true rfl) (Nat.le_of_ble_eq_true rfl) ?_
  have hP : va_P G vwCl [(sa, .inl (cA 0, 21, .inl fsec)), (h0, .inr (6, fs)), (pa, .inr (2, ps))] H := hP
  have hD : va_D A [(sa, .inl (cA 0, 21, .inl fsec)), (h0, .inr (6, fs)), (pa, .inr (2, ps))] := hD
  refine lv_aload_n hx hb dX6_passStop_30 rfl (lv_at hl 0 rfl) ?_
  refine tq_cv (wr := [(sa, .inl (cA 0, 21, .inl fsec))]) hP hD hS hA [1, 2] [0] rfl rfl (by decide) (by decide) (va_runV (As := []) (rest := []) ⟨hx, hb, hml, hown, hT⟩ (c_X6_wayOn_19 l G cA H.size h0 fs pa ps (fh_sub hf [0, 1] rfl) (fh_sub hp [0, 1, 2] rfl)) (cwV 0 hT (tq_gV kw_42_7 kw_42_8 kw_42_9 kw_1_23 kw_42_10) rfl rfl rfl (by decide +kernel) ⟨Nat.le_of_ble_eq_true rfl, Nat.le_of_ble_eq_true rfl⟩) ⟨(tq_pre (isC := [1, 2]) hP hD hK hN rfl (by decide)).1, va_recv hK hP (ci := 6) (q0 := 1) rfl rfl, (tq_pre (isC := [1, 2]) hP hD hK hN rfl (by decide)).2⟩ rfl rfl hl.1 rfl (lv_room (Nat.le_of_ble_eq_true rfl)) dX6_passStop_31 ⟨Nat.le_of_ble_eq_true rfl, Nat.le_of_ble_eq_true rfl⟩) (fun u108 H locs hw109 hP hD hS => ?_)
  refine W.widen (k := 0) (n := 0) (Nat.le_of_ble_eq_true rfl) (Nat.le_of_ble_eq_true rfl) ?_
  obtain ⟨ho111, hf112⟩ := hw109
  have hf112 := fh_app (fo_fh (l' := [(19, .ref pa)]) hf ho111 rfl) hf112
  have ho113 := fo_mono (k2 := [0]) (fo_trans ho_hf ho111) (by decide)
  have hf112 : fh u108 20 [(19, .ref pa), (0, .int 20)] := hf112
  have hP : va_P G vwCl [(sa, .inl (cA 0, 21, .inl fsec)), (h0, .inr (6, u108)), (pa, .inr (2, ps))] H := hP
  have hD : va_D A [(sa, .inl (cA 0, 21, .inl fsec)), (h0, .inr (6, u108)), (pa, .inr (2, ps))] := hD
  have hP : va_P G vwCl [(h0, .inr (6, u108)), (pa, .inr (2, ps)), (sa, .inl (cA 0, 21, .inl fsec))] H := hP.sub [1, 2, 0] rfl
  have hD : va_D A [(h0, .inr (6, u108)), (pa, .inr (2, ps)), (sa, .inl (cA 0, 21, .inl fsec))] := hD.sub [1, 2, 0] (by decide) rfl
  have qho113 := fo_mono (k2 := [0]) ho113 (by decide)
  exact W.vret hx hb hr (fun t ht hW => ⟨⟨u108, rfl, ⟨qho113, fh_sub hf112 [1] rfl⟩, by rw [ht]; exact hP, hD⟩, hS.F ht⟩) hS.2.2 dX6_passStop_34

set_option maxHeartbeats 4000000 in
set_option maxRecDepth 100000 in
theorem c_X6_passStop_20 (l : Launch) (G : va_G) (cA : Nat → ClassId) (sz : Nat) (h0 : Nat) (fs : List Value) (pa : Nat) (ps : List Value) (sa : Nat) (fsec : Nat → Int32) (hf : fh fs 20 [(19, .ref pa), (0, .int 20)]) (hp : fh ps 19 [(0, .int 0), (1, .int 0), (2, .int 0), (17, .ref sa)]) (hsec : ∀ j, j < 21 → fsec j = 60) : Met l yX6_passStop (.code yX6_passStop cX6_passStop 1 none :: T0) ({ frames := 2, cells := 0, slots := 0, locals := 43 }) (tqP G cA [.ref h0] [(h0, .inr (6, fs)), (pa, .inr (2, ps)), (sa, .inl (cA 0, 21, .inl fsec))] sz) (tqQv G cA (fun (u : List Value) => fo fs u [0] ∧ fh u 20 [(0, .int 21)]) (fun (u : List Value) => [(h0, .inr (6, u)), (pa, .inr (2, ps)), (sa, .inl (cA 0, 21, .inl fsec))]) (va_A [(h0, .inr (6, fs)), (pa, .inr (2, ps)), (sa, .inl (cA 0, 21, .inl fsec))] sz)) 0 0 (va_A [(h0, .inr (6, fs)), (pa, .inr (2, ps)), (sa, .inl (cA 0, 21, .inl fsec))] sz) := by
  refine Met.ofW (cc := cX6_passStop) (maxL := 1) (ret := none) (by decide) rfl ?_
  intro p e s m args below meth c s₁ B hml hv
  obtain ⟨rfl, hsz, hP, hK, hD0, hN⟩ := hv
  have hx := B.exec
  have hb := B.bytes
  have hr := B.returns
  have hts := atoms_spec (ws := .code yX6_passStop cX6_passStop 1 none :: T0) B.pre
  have hT : ∀ w ∈ T0, w.before _ s = true := fun w h => hts w (List.mem_cons_of_mem _ h)
  have hown : s.vm.findClass RX6 = some m.cls := findClass_of_methodNamed B.named
  have hlocks := B.notSynchronized
  subst hsz
  have hD := hD0.self (sz := s.heap.size)
  generalize hAe : va_A [(h0, .inr (6, fs)), (pa, .inr (2, ps)), (sa, .inl (cA 0, 21, .inl fsec))] s.heap.size = A at hD ⊢
  have hA : ∀ q : Nat, s.heap.size ≤ q → A q := fun q h => by rw [← hAe]; exact Or.inr h
  have hS : va_S A s.heap s.heap [] := va_S.rf
  have hl := lv_entry ([.ref h0]) (n := 1) (Nat.le_of_ble_eq_true rfl)
  rw [lg_entry_eq]
  generalize (lg_sl ([.ref h0]) ++ List.replicate (1 - (lg_sl ([.ref h0])).length) Slot.unset).toArray = ls at hl ⊢
  have hl : lv_has ls 1 [(0, .ref h0)] := hl
  obtain ⟨H, hH⟩ : ∃ z, z = s.heap := ⟨_, rfl⟩
  rw [← hH] at hP
  have hS : va_S A s.heap H [] := by rw [hH]; exact hS
  suffices hgo : W p l e _ s m _ below meth c H [] 0 0 _ _ by rw [hH] at hgo; exact hgo
  have hO := hN.2.2.2.2
  have ho_hf := fo_refl fs
  have ho_hp := fo_refl ps
  refine lv_aload_n hx hb dX6_passStop_0 rfl (lv_at hl 0 rfl) ?_
  refine va_get (D := G) (ci := 6) (v := .int 20) (C := RX6) (T := TX6) (N := 20) hx hb hT ku_6 hown hK hP 0 rfl rfl 0 (by decide) (hT _ kw_8_2) (fun _ h9 => h9) (fh_at hf 1 rfl) dX6_passStop_1 ?_
  refine lv_bipush (v := 20) hx hb dX6_passStop_4 (by decide) ?_
  refine lv_icmp_gt (tgt := 34) hx hb dX6_passStop_6 (by decide) (fun c101 => absurd c101 (by decide)) (fun c101 => ?_)
  refine lv_aload_n hx hb dX6_passStop_9 rfl (lv_at hl 0 rfl) ?_
  refine lv_aload_n hx hb dX6_passStop_10 rfl (lv_at hl 0 rfl) ?_
  refine va_get (D := G) (ci := 6) (v := .ref pa) (C := RX6) (T := TX6) (N := 20) hx hb hT ku_6 hown hK hP 0 rfl rfl 19 (by decide) (hT _ kw_8_1) (fun _ h9 => h9) (fh_at hf 0 rfl) dX6_passStop_11 ?_
  refine va_get (D := G) (ci := 2) (v := .ref sa) (C := RX2) (T := TX2) (N := 19) hx hb hT ku_2 hown hK hP 1 rfl rfl 17 (by decide) (hT _ kw_40_15) (fun _ h9 => h9) (fh_at hp 3 rfl) dX6_passStop_14 ?_
  refine lv_aload_n hx hb dX6_passStop_17 rfl (lv_at hl 0 rfl) ?_
  refine va_get (D := G) (ci := 6) (v := .int 20) (C := RX6) (T := TX6) (N := 20) hx hb hT ku_6 hown hK hP 0 rfl rfl 0 (by decide) (hT _ kw_8_2) (fun _ h9 => h9) (fh_at hf 1 rfl) dX6_passStop_18 ?_
  refine va_iald (i := 20) hx hb hK hP 2 0 rfl rfl (tq_in (by decide)) dX6_passStop_21 ?_
  refine tq_i (w := 60) (hsec 20 (by decide)) ?_
  refine tq_ci (wr := [(sa, .inl (cA 0, 21, .inl fsec))]) hP hD hS hA [0, 1] [2] rfl rfl (by decide) (by decide) (va_runV (As := [.int 60]) (rest := []) ⟨hx, hb, hml, hown, hT⟩ (c_X6_takeDown l G cA H.size h0 60 fs pa ps (fh_sub hf [0] rfl) (fh_sub hp [0, 1, 2] rfl)) (cwV 1 hT (tq_gV kw_40_16 kw_40_17 kw_40_18 kw_1_23 kw_40_19) rfl rfl rfl (by decide +kernel) ⟨Nat.le_of_ble_eq_true rfl, Nat.le_of_ble_eq_true rfl⟩) ⟨(tq_pre (isC := [0, 1]) hP hD hK hN rfl (by decide)).1, va_recv hK hP (ci := 6) (q0 := 0) rfl rfl, (tq_pre (isC := [0, 1]) hP hD hK hN rfl (by decide)).2⟩ rfl rfl hl.1 rfl (lv_room (Nat.le_of_ble_eq_true rfl)) dX6_passStop_22 ⟨Nat.le_of_ble_eq_true rfl, Nat.le_of_ble_eq_true rfl⟩) (fun r102 u103 H locs hw104 hP hD hS => ?_)
  refine W.widen (k := 0) (n := 0) (Nat.le_of_ble_eq_true rfl) (Nat.le_of_ble_eq_true rfl) ?_
  have hr105 := hw104
  subst hr105
  have hP : va_P G vwCl [(sa, .inl (cA 0, 21, .inl fsec)), (h0, .inr (6, fs)), (pa, .inr (2, ps))] H := hP
  have hD : va_D A [(sa, .inl (cA 0, 21, .inl fsec)), (h0, .inr (6, fs)), (pa, .inr (2, ps))] := hD
  refine lv_pop hx hb dX6_passStop_25 rfl ?_
  refine lv_aload_n hx hb dX6_passStop_26 rfl (lv_at hl 0 rfl) ?_
  refine tq_cv (wr := [(sa, .inl (cA 0, 21, .inl fsec))]) hP hD hS hA [1, 2] [0] rfl rfl (by decide) (by decide) (va_runV (As := []) (rest := []) ⟨hx, hb, hml, hown, hT⟩ (c_X6_getIn l G cA H.size h0 fs pa ps (fh_sub hf [0] rfl) (fh_sub hp [0, 1, 2] rfl)) (cwV 0 hT (tq_gV kw_41_16 kw_41_17 kw_41_18 kw_1_23 kw_41_19) rfl rfl rfl (by decide +kernel) ⟨Nat.le_of_ble_eq_true rfl, Nat.le_of_ble_eq_true rfl⟩) ⟨(tq_pre (isC := [1, 2]) hP hD hK hN rfl (by decide)).1, va_recv hK hP (ci := 6) (q0 := 1) rfl rfl, (tq_pre (isC := [1, 2]) hP hD hK hN rfl (by decide)).2⟩ rfl rfl hl.1 rfl (lv_room (Nat.le_of_ble_eq_true rfl)) dX6_passStop_27 ⟨Nat.le_of_ble_eq_true rfl, Nat.le_of_ble_eq_true rfl⟩) (fun u106 H locs hw107 hP hD hS => ?_)
  refine W.widen (k := 0) (n := 0) (Nat.le_of_ble_eq_true rfl) (Nat.le_of_ble_eq_true rfl) ?_
  have hP : va_P G vwCl [(sa, .inl (cA 0, 21, .inl fsec)), (h0, .inr (6, fs)), (pa, .inr (2, ps))] H := hP
  have hD : va_D A [(sa, .inl (cA 0, 21, .inl fsec)), (h0, .inr (6, fs)), (pa, .inr (2, ps))] := hD
  refine lv_aload_n hx hb dX6_passStop_30 rfl (lv_at hl 0 rfl) ?_
  refine tq_cv (wr := [(sa, .inl (cA 0, 21, .inl fsec))]) hP hD hS hA [1, 2] [0] rfl rfl (by decide) (by decide) (va_runV (As := []) (rest := []) ⟨hx, hb, hml, hown, hT⟩ (c_X6_wayOn_20 l G cA H.size h0 fs pa ps (fh_sub hf [0, 1] rfl) (fh_sub hp [0, 1, 2] rfl)) (cwV 0 hT (tq_gV kw_42_7 kw_42_8 kw_42_9 kw_1_23 kw_42_10) rfl rfl rfl (by decide +kernel) ⟨Nat.le_of_ble_eq_true rfl, Nat.le_of_ble_eq_true rfl⟩) ⟨(tq_pre (isC := [1, 2]) hP hD hK hN rfl (by decide)).1, va_recv hK hP (ci := 6) (q0 := 1) rfl rfl, (tq_pre (isC := [1, 2]) hP hD hK hN rfl (by decide)).2⟩ rfl rfl hl.1 rfl (lv_room (Nat.le_of_ble_eq_true rfl)) dX6_passStop_31 ⟨Nat.le_of_ble_eq_true rfl, Nat.le_of_ble_eq_true rfl⟩) (fun u108 H locs hw109 hP hD hS => ?_)
  refine W.widen (k := 0) (n := 0) (Nat.le_of_ble_eq_true rfl) (Nat.le_of_ble_eq_true rfl) ?_
  obtain ⟨ho111, hf112⟩ := hw109
  have hf112 := fh_app (fo_fh (l' := [(19, .ref pa)]) hf ho111 rfl) hf112
  have ho113 := fo_mono (k2 := [0]) (fo_trans ho_hf ho111) (by decide)
  have hf112 : fh u108 20 [(19, .ref pa), (0, .int 21)] := hf112
  have hP : va_P G vwCl [(sa, .inl (cA 0, 21, .inl fsec)), (h0, .inr (6, u108)), (pa, .inr (2, ps))] H := hP
  have hD : va_D A [(sa, .inl (cA 0, 21, .inl fsec)), (h0, .inr (6, u108)), (pa, .inr (2, ps))] := hD
  have hP : va_P G vwCl [(h0, .inr (6, u108)), (pa, .inr (2, ps)), (sa, .inl (cA 0, 21, .inl fsec))] H := hP.sub [1, 2, 0] rfl
  have hD : va_D A [(h0, .inr (6, u108)), (pa, .inr (2, ps)), (sa, .inl (cA 0, 21, .inl fsec))] := hD.sub [1, 2, 0] (by decide) rfl
  have qho113 := fo_mono (k2 := [0]) ho113 (by decide)
  exact W.vret hx hb hr (fun t ht hW => ⟨⟨u108, rfl, ⟨qho113, fh_sub hf112 [1] rfl⟩, by rw [ht]; exact hP, hD⟩, hS.F ht⟩) hS.2.2 dX6_passStop_34

set_option maxHeartbeats 4000000 in
set_option maxRecDepth 100000 in
theorem c_X6_runToEnd_0 (l : Launch) (G : va_G) (cA : Nat → ClassId) (sz : Nat) (h0 : Nat) (fs : List Value) (pa : Nat) (ps : List Value) (hf : fh fs 20 [(19, .ref pa), (0, .int 0)]) (hp : fh ps 19 [(0, .int 0), (1, .int 0), (2, .int 0)]) : Met l yX6_runToEnd (.code yX6_runToEnd cX6_runToEnd 1 none :: T0) ({ frames := 1, cells := 0, slots := 0, locals := 21 }) (tqP G cA [.ref h0] [(h0, .inr (6, fs)), (pa, .inr (2, ps))] sz) (tqQv G cA (fun (u : Unit) => True) (fun (u : Unit) => [(h0, .inr (6, fs)), (pa, .inr (2, ps))]) (va_A [(h0, .inr (6, fs)), (pa, .inr (2, ps))] sz)) 0 0 (va_A [(h0, .inr (6, fs)), (pa, .inr (2, ps))] sz) := by
  refine Met.ofW (cc := cX6_runToEnd) (maxL := 1) (ret := none) (by decide) rfl ?_
  intro p e s m args below meth c s₁ B hml hv
  obtain ⟨rfl, hsz, hP, hK, hD0, hN⟩ := hv
  have hx := B.exec
  have hb := B.bytes
  have hr := B.returns
  have hts := atoms_spec (ws := .code yX6_runToEnd cX6_runToEnd 1 none :: T0) B.pre
  have hT : ∀ w ∈ T0, w.before _ s = true := fun w h => hts w (List.mem_cons_of_mem _ h)
  have hown : s.vm.findClass RX6 = some m.cls := findClass_of_methodNamed B.named
  have hlocks := B.notSynchronized
  subst hsz
  have hD := hD0.self (sz := s.heap.size)
  generalize hAe : va_A [(h0, .inr (6, fs)), (pa, .inr (2, ps))] s.heap.size = A at hD ⊢
  have hA : ∀ q : Nat, s.heap.size ≤ q → A q := fun q h => by rw [← hAe]; exact Or.inr h
  have hS : va_S A s.heap s.heap [] := va_S.rf
  have hl := lv_entry ([.ref h0]) (n := 1) (Nat.le_of_ble_eq_true rfl)
  rw [lg_entry_eq]
  generalize (lg_sl ([.ref h0]) ++ List.replicate (1 - (lg_sl ([.ref h0])).length) Slot.unset).toArray = ls at hl ⊢
  have hl : lv_has ls 1 [(0, .ref h0)] := hl
  obtain ⟨H, hH⟩ : ∃ z, z = s.heap := ⟨_, rfl⟩
  rw [← hH] at hP
  have hS : va_S A s.heap H [] := by rw [hH]; exact hS
  suffices hgo : W p l e _ s m _ below meth c H [] 0 0 _ _ by rw [hH] at hgo; exact hgo
  have hO := hN.2.2.2.2
  have ho_hf := fo_refl fs
  have ho_hp := fo_refl ps
  refine lv_aload_n hx hb dX6_runToEnd_0 rfl (lv_at hl 0 rfl) ?_
  refine va_get (D := G) (ci := 6) (v := .int 0) (C := RX6) (T := TX6) (N := 20) hx hb hT ku_6 hown hK hP 0 rfl rfl 0 (by decide) (hT _ kw_8_2) (fun _ h9 => h9) (fh_at hf 1 rfl) dX6_runToEnd_1 ?_
  refine lv_bipush (v := 20) hx hb dX6_runToEnd_4 (by decide) ?_
  refine lv_icmp_gt (tgt := 59) hx hb dX6_runToEnd_6 (by decide) (fun c101 => absurd c101 (by decide)) (fun c101 => ?_)
  refine lv_aload_n hx hb dX6_runToEnd_9 rfl (lv_at hl 0 rfl) ?_
  refine tq_ci (wr := []) hP hD hS hA [0, 1] [] rfl rfl (by decide) (by decide) (va_runV (As := []) (rest := []) ⟨hx, hb, hml, hown, hT⟩ (c_X6_isBusy l G cA H.size h0 fs pa ps (fh_sub hf [0] rfl) (fh_sub hp [0, 1, 2] rfl)) (cwV 0 hT (tq_gV kw_47_18 kw_47_19 kw_47_20 kw_1_23 kw_47_21) rfl rfl rfl (by decide +kernel) ⟨Nat.le_of_ble_eq_true rfl, Nat.le_of_ble_eq_true rfl⟩) ⟨(tq_pre (isC := [0, 1]) hP hD hK hN rfl (by decide)).1, va_recv hK hP (ci := 6) (q0 := 0) rfl rfl, (tq_pre (isC := [0, 1]) hP hD hK hN rfl (by decide)).2⟩ rfl rfl hl.1 rfl (lv_room (Nat.le_of_ble_eq_true rfl)) dX6_runToEnd_10 ⟨Nat.le_of_ble_eq_true rfl, Nat.le_of_ble_eq_true rfl⟩) (fun r102 u103 H locs hw104 hP hD hS => ?_)
  refine W.widen (k := 0) (n := 0) (Nat.le_of_ble_eq_true rfl) (Nat.le_of_ble_eq_true rfl) ?_
  have hr105 := hw104
  subst hr105
  have hP : va_P G vwCl [(h0, .inr (6, fs)), (pa, .inr (2, ps))] H := hP
  have hD : va_D A [(h0, .inr (6, fs)), (pa, .inr (2, ps))] := hD
  refine lv_if_eq (tgt := 59) hx hb dX6_runToEnd_13 (by decide) (fun c106 => ?_) (fun c106 => absurd (by decide) c106)
  exact W.vret hx hb hr (fun t ht hW => ⟨⟨(), rfl, trivial, by rw [ht]; exact hP, hD⟩, hS.F ht⟩) hS.2.2 dX6_runToEnd_59

set_option maxHeartbeats 4000000 in
set_option maxRecDepth 100000 in
theorem c_X6_runToEnd_1 (l : Launch) (G : va_G) (cA : Nat → ClassId) (sz : Nat) (h0 : Nat) (fs : List Value) (pa : Nat) (ps : List Value) (hf : fh fs 20 [(19, .ref pa), (0, .int 1)]) (hp : fh ps 19 [(0, .int 0), (1, .int 0), (2, .int 0)]) : Met l yX6_runToEnd (.code yX6_runToEnd cX6_runToEnd 1 none :: T0) ({ frames := 1, cells := 0, slots := 0, locals := 21 }) (tqP G cA [.ref h0] [(h0, .inr (6, fs)), (pa, .inr (2, ps))] sz) (tqQv G cA (fun (u : Unit) => True) (fun (u : Unit) => [(h0, .inr (6, fs)), (pa, .inr (2, ps))]) (va_A [(h0, .inr (6, fs)), (pa, .inr (2, ps))] sz)) 0 0 (va_A [(h0, .inr (6, fs)), (pa, .inr (2, ps))] sz) := by
  refine Met.ofW (cc := cX6_runToEnd) (maxL := 1) (ret := none) (by decide) rfl ?_
  intro p e s m args below meth c s₁ B hml hv
  obtain ⟨rfl, hsz, hP, hK, hD0, hN⟩ := hv
  have hx := B.exec
  have hb := B.bytes
  have hr := B.returns
  have hts := atoms_spec (ws := .code yX6_runToEnd cX6_runToEnd 1 none :: T0) B.pre
  have hT : ∀ w ∈ T0, w.before _ s = true := fun w h => hts w (List.mem_cons_of_mem _ h)
  have hown : s.vm.findClass RX6 = some m.cls := findClass_of_methodNamed B.named
  have hlocks := B.notSynchronized
  subst hsz
  have hD := hD0.self (sz := s.heap.size)
  generalize hAe : va_A [(h0, .inr (6, fs)), (pa, .inr (2, ps))] s.heap.size = A at hD ⊢
  have hA : ∀ q : Nat, s.heap.size ≤ q → A q := fun q h => by rw [← hAe]; exact Or.inr h
  have hS : va_S A s.heap s.heap [] := va_S.rf
  have hl := lv_entry ([.ref h0]) (n := 1) (Nat.le_of_ble_eq_true rfl)
  rw [lg_entry_eq]
  generalize (lg_sl ([.ref h0]) ++ List.replicate (1 - (lg_sl ([.ref h0])).length) Slot.unset).toArray = ls at hl ⊢
  have hl : lv_has ls 1 [(0, .ref h0)] := hl
  obtain ⟨H, hH⟩ : ∃ z, z = s.heap := ⟨_, rfl⟩
  rw [← hH] at hP
  have hS : va_S A s.heap H [] := by rw [hH]; exact hS
  suffices hgo : W p l e _ s m _ below meth c H [] 0 0 _ _ by rw [hH] at hgo; exact hgo
  have hO := hN.2.2.2.2
  have ho_hf := fo_refl fs
  have ho_hp := fo_refl ps
  refine lv_aload_n hx hb dX6_runToEnd_0 rfl (lv_at hl 0 rfl) ?_
  refine va_get (D := G) (ci := 6) (v := .int 1) (C := RX6) (T := TX6) (N := 20) hx hb hT ku_6 hown hK hP 0 rfl rfl 0 (by decide) (hT _ kw_8_2) (fun _ h9 => h9) (fh_at hf 1 rfl) dX6_runToEnd_1 ?_
  refine lv_bipush (v := 20) hx hb dX6_runToEnd_4 (by decide) ?_
  refine lv_icmp_gt (tgt := 59) hx hb dX6_runToEnd_6 (by decide) (fun c101 => absurd c101 (by decide)) (fun c101 => ?_)
  refine lv_aload_n hx hb dX6_runToEnd_9 rfl (lv_at hl 0 rfl) ?_
  refine tq_ci (wr := []) hP hD hS hA [0, 1] [] rfl rfl (by decide) (by decide) (va_runV (As := []) (rest := []) ⟨hx, hb, hml, hown, hT⟩ (c_X6_isBusy l G cA H.size h0 fs pa ps (fh_sub hf [0] rfl) (fh_sub hp [0, 1, 2] rfl)) (cwV 0 hT (tq_gV kw_47_18 kw_47_19 kw_47_20 kw_1_23 kw_47_21) rfl rfl rfl (by decide +kernel) ⟨Nat.le_of_ble_eq_true rfl, Nat.le_of_ble_eq_true rfl⟩) ⟨(tq_pre (isC := [0, 1]) hP hD hK hN rfl (by decide)).1, va_recv hK hP (ci := 6) (q0 := 0) rfl rfl, (tq_pre (isC := [0, 1]) hP hD hK hN rfl (by decide)).2⟩ rfl rfl hl.1 rfl (lv_room (Nat.le_of_ble_eq_true rfl)) dX6_runToEnd_10 ⟨Nat.le_of_ble_eq_true rfl, Nat.le_of_ble_eq_true rfl⟩) (fun r102 u103 H locs hw104 hP hD hS => ?_)
  refine W.widen (k := 0) (n := 0) (Nat.le_of_ble_eq_true rfl) (Nat.le_of_ble_eq_true rfl) ?_
  have hr105 := hw104
  subst hr105
  have hP : va_P G vwCl [(h0, .inr (6, fs)), (pa, .inr (2, ps))] H := hP
  have hD : va_D A [(h0, .inr (6, fs)), (pa, .inr (2, ps))] := hD
  refine lv_if_eq (tgt := 59) hx hb dX6_runToEnd_13 (by decide) (fun c106 => ?_) (fun c106 => absurd (by decide) c106)
  exact W.vret hx hb hr (fun t ht hW => ⟨⟨(), rfl, trivial, by rw [ht]; exact hP, hD⟩, hS.F ht⟩) hS.2.2 dX6_runToEnd_59

set_option maxHeartbeats 4000000 in
set_option maxRecDepth 100000 in
theorem c_X6_runToEnd_2 (l : Launch) (G : va_G) (cA : Nat → ClassId) (sz : Nat) (h0 : Nat) (fs : List Value) (pa : Nat) (ps : List Value) (hf : fh fs 20 [(19, .ref pa), (0, .int 2)]) (hp : fh ps 19 [(0, .int 0), (1, .int 0), (2, .int 0)]) : Met l yX6_runToEnd (.code yX6_runToEnd cX6_runToEnd 1 none :: T0) ({ frames := 1, cells := 0, slots := 0, locals := 21 }) (tqP G cA [.ref h0] [(h0, .inr (6, fs)), (pa, .inr (2, ps))] sz) (tqQv G cA (fun (u : Unit) => True) (fun (u : Unit) => [(h0, .inr (6, fs)), (pa, .inr (2, ps))]) (va_A [(h0, .inr (6, fs)), (pa, .inr (2, ps))] sz)) 0 0 (va_A [(h0, .inr (6, fs)), (pa, .inr (2, ps))] sz) := by
  refine Met.ofW (cc := cX6_runToEnd) (maxL := 1) (ret := none) (by decide) rfl ?_
  intro p e s m args below meth c s₁ B hml hv
  obtain ⟨rfl, hsz, hP, hK, hD0, hN⟩ := hv
  have hx := B.exec
  have hb := B.bytes
  have hr := B.returns
  have hts := atoms_spec (ws := .code yX6_runToEnd cX6_runToEnd 1 none :: T0) B.pre
  have hT : ∀ w ∈ T0, w.before _ s = true := fun w h => hts w (List.mem_cons_of_mem _ h)
  have hown : s.vm.findClass RX6 = some m.cls := findClass_of_methodNamed B.named
  have hlocks := B.notSynchronized
  subst hsz
  have hD := hD0.self (sz := s.heap.size)
  generalize hAe : va_A [(h0, .inr (6, fs)), (pa, .inr (2, ps))] s.heap.size = A at hD ⊢
  have hA : ∀ q : Nat, s.heap.size ≤ q → A q := fun q h => by rw [← hAe]; exact Or.inr h
  have hS : va_S A s.heap s.heap [] := va_S.rf
  have hl := lv_entry ([.ref h0]) (n := 1) (Nat.le_of_ble_eq_true rfl)
  rw [lg_entry_eq]
  generalize (lg_sl ([.ref h0]) ++ List.replicate (1 - (lg_sl ([.ref h0])).length) Slot.unset).toArray = ls at hl ⊢
  have hl : lv_has ls 1 [(0, .ref h0)] := hl
  obtain ⟨H, hH⟩ : ∃ z, z = s.heap := ⟨_, rfl⟩
  rw [← hH] at hP
  have hS : va_S A s.heap H [] := by rw [hH]; exact hS
  suffices hgo : W p l e _ s m _ below meth c H [] 0 0 _ _ by rw [hH] at hgo; exact hgo
  have hO := hN.2.2.2.2
  have ho_hf := fo_refl fs
  have ho_hp := fo_refl ps
  refine lv_aload_n hx hb dX6_runToEnd_0 rfl (lv_at hl 0 rfl) ?_
  refine va_get (D := G) (ci := 6) (v := .int 2) (C := RX6) (T := TX6) (N := 20) hx hb hT ku_6 hown hK hP 0 rfl rfl 0 (by decide) (hT _ kw_8_2) (fun _ h9 => h9) (fh_at hf 1 rfl) dX6_runToEnd_1 ?_
  refine lv_bipush (v := 20) hx hb dX6_runToEnd_4 (by decide) ?_
  refine lv_icmp_gt (tgt := 59) hx hb dX6_runToEnd_6 (by decide) (fun c101 => absurd c101 (by decide)) (fun c101 => ?_)
  refine lv_aload_n hx hb dX6_runToEnd_9 rfl (lv_at hl 0 rfl) ?_
  refine tq_ci (wr := []) hP hD hS hA [0, 1] [] rfl rfl (by decide) (by decide) (va_runV (As := []) (rest := []) ⟨hx, hb, hml, hown, hT⟩ (c_X6_isBusy l G cA H.size h0 fs pa ps (fh_sub hf [0] rfl) (fh_sub hp [0, 1, 2] rfl)) (cwV 0 hT (tq_gV kw_47_18 kw_47_19 kw_47_20 kw_1_23 kw_47_21) rfl rfl rfl (by decide +kernel) ⟨Nat.le_of_ble_eq_true rfl, Nat.le_of_ble_eq_true rfl⟩) ⟨(tq_pre (isC := [0, 1]) hP hD hK hN rfl (by decide)).1, va_recv hK hP (ci := 6) (q0 := 0) rfl rfl, (tq_pre (isC := [0, 1]) hP hD hK hN rfl (by decide)).2⟩ rfl rfl hl.1 rfl (lv_room (Nat.le_of_ble_eq_true rfl)) dX6_runToEnd_10 ⟨Nat.le_of_ble_eq_true rfl, Nat.le_of_ble_eq_true rfl⟩) (fun r102 u103 H locs hw104 hP hD hS => ?_)
  refine W.widen (k := 0) (n := 0) (Nat.le_of_ble_eq_true rfl) (Nat.le_of_ble_eq_true rfl) ?_
  have hr105 := hw104
  subst hr105
  have hP : va_P G vwCl [(h0, .inr (6, fs)), (pa, .inr (2, ps))] H := hP
  have hD : va_D A [(h0, .inr (6, fs)), (pa, .inr (2, ps))] := hD
  refine lv_if_eq (tgt := 59) hx hb dX6_runToEnd_13 (by decide) (fun c106 => ?_) (fun c106 => absurd (by decide) c106)
  exact W.vret hx hb hr (fun t ht hW => ⟨⟨(), rfl, trivial, by rw [ht]; exact hP, hD⟩, hS.F ht⟩) hS.2.2 dX6_runToEnd_59

set_option maxHeartbeats 4000000 in
set_option maxRecDepth 100000 in
theorem c_X6_runToEnd_3 (l : Launch) (G : va_G) (cA : Nat → ClassId) (sz : Nat) (h0 : Nat) (fs : List Value) (pa : Nat) (ps : List Value) (hf : fh fs 20 [(19, .ref pa), (0, .int 3)]) (hp : fh ps 19 [(0, .int 0), (1, .int 0), (2, .int 0)]) : Met l yX6_runToEnd (.code yX6_runToEnd cX6_runToEnd 1 none :: T0) ({ frames := 1, cells := 0, slots := 0, locals := 21 }) (tqP G cA [.ref h0] [(h0, .inr (6, fs)), (pa, .inr (2, ps))] sz) (tqQv G cA (fun (u : Unit) => True) (fun (u : Unit) => [(h0, .inr (6, fs)), (pa, .inr (2, ps))]) (va_A [(h0, .inr (6, fs)), (pa, .inr (2, ps))] sz)) 0 0 (va_A [(h0, .inr (6, fs)), (pa, .inr (2, ps))] sz) := by
  refine Met.ofW (cc := cX6_runToEnd) (maxL := 1) (ret := none) (by decide) rfl ?_
  intro p e s m args below meth c s₁ B hml hv
  obtain ⟨rfl, hsz, hP, hK, hD0, hN⟩ := hv
  have hx := B.exec
  have hb := B.bytes
  have hr := B.returns
  have hts := atoms_spec (ws := .code yX6_runToEnd cX6_runToEnd 1 none :: T0) B.pre
  have hT : ∀ w ∈ T0, w.before _ s = true := fun w h => hts w (List.mem_cons_of_mem _ h)
  have hown : s.vm.findClass RX6 = some m.cls := findClass_of_methodNamed B.named
  have hlocks := B.notSynchronized
  subst hsz
  have hD := hD0.self (sz := s.heap.size)
  generalize hAe : va_A [(h0, .inr (6, fs)), (pa, .inr (2, ps))] s.heap.size = A at hD ⊢
  have hA : ∀ q : Nat, s.heap.size ≤ q → A q := fun q h => by rw [← hAe]; exact Or.inr h
  have hS : va_S A s.heap s.heap [] := va_S.rf
  have hl := lv_entry ([.ref h0]) (n := 1) (Nat.le_of_ble_eq_true rfl)
  rw [lg_entry_eq]
  generalize (lg_sl ([.ref h0]) ++ List.replicate (1 - (lg_sl ([.ref h0])).length) Slot.unset).toArray = ls at hl ⊢
  have hl : lv_has ls 1 [(0, .ref h0)] := hl
  obtain ⟨H, hH⟩ : ∃ z, z = s.heap := ⟨_, rfl⟩
  rw [← hH] at hP
  have hS : va_S A s.heap H [] := by rw [hH]; exact hS
  suffices hgo : W p l e _ s m _ below meth c H [] 0 0 _ _ by rw [hH] at hgo; exact hgo
  have hO := hN.2.2.2.2
  have ho_hf := fo_refl fs
  have ho_hp := fo_refl ps
  refine lv_aload_n hx hb dX6_runToEnd_0 rfl (lv_at hl 0 rfl) ?_
  refine va_get (D := G) (ci := 6) (v := .int 3) (C := RX6) (T := TX6) (N := 20) hx hb hT ku_6 hown hK hP 0 rfl rfl 0 (by decide) (hT _ kw_8_2) (fun _ h9 => h9) (fh_at hf 1 rfl) dX6_runToEnd_1 ?_
  refine lv_bipush (v := 20) hx hb dX6_runToEnd_4 (by decide) ?_
  refine lv_icmp_gt (tgt := 59) hx hb dX6_runToEnd_6 (by decide) (fun c101 => absurd c101 (by decide)) (fun c101 => ?_)
  refine lv_aload_n hx hb dX6_runToEnd_9 rfl (lv_at hl 0 rfl) ?_
  refine tq_ci (wr := []) hP hD hS hA [0, 1] [] rfl rfl (by decide) (by decide) (va_runV (As := []) (rest := []) ⟨hx, hb, hml, hown, hT⟩ (c_X6_isBusy l G cA H.size h0 fs pa ps (fh_sub hf [0] rfl) (fh_sub hp [0, 1, 2] rfl)) (cwV 0 hT (tq_gV kw_47_18 kw_47_19 kw_47_20 kw_1_23 kw_47_21) rfl rfl rfl (by decide +kernel) ⟨Nat.le_of_ble_eq_true rfl, Nat.le_of_ble_eq_true rfl⟩) ⟨(tq_pre (isC := [0, 1]) hP hD hK hN rfl (by decide)).1, va_recv hK hP (ci := 6) (q0 := 0) rfl rfl, (tq_pre (isC := [0, 1]) hP hD hK hN rfl (by decide)).2⟩ rfl rfl hl.1 rfl (lv_room (Nat.le_of_ble_eq_true rfl)) dX6_runToEnd_10 ⟨Nat.le_of_ble_eq_true rfl, Nat.le_of_ble_eq_true rfl⟩) (fun r102 u103 H locs hw104 hP hD hS => ?_)
  refine W.widen (k := 0) (n := 0) (Nat.le_of_ble_eq_true rfl) (Nat.le_of_ble_eq_true rfl) ?_
  have hr105 := hw104
  subst hr105
  have hP : va_P G vwCl [(h0, .inr (6, fs)), (pa, .inr (2, ps))] H := hP
  have hD : va_D A [(h0, .inr (6, fs)), (pa, .inr (2, ps))] := hD
  refine lv_if_eq (tgt := 59) hx hb dX6_runToEnd_13 (by decide) (fun c106 => ?_) (fun c106 => absurd (by decide) c106)
  exact W.vret hx hb hr (fun t ht hW => ⟨⟨(), rfl, trivial, by rw [ht]; exact hP, hD⟩, hS.F ht⟩) hS.2.2 dX6_runToEnd_59

set_option maxHeartbeats 4000000 in
set_option maxRecDepth 100000 in
theorem c_X6_runToEnd_4 (l : Launch) (G : va_G) (cA : Nat → ClassId) (sz : Nat) (h0 : Nat) (fs : List Value) (pa : Nat) (ps : List Value) (hf : fh fs 20 [(19, .ref pa), (0, .int 4)]) (hp : fh ps 19 [(0, .int 0), (1, .int 0), (2, .int 0)]) : Met l yX6_runToEnd (.code yX6_runToEnd cX6_runToEnd 1 none :: T0) ({ frames := 1, cells := 0, slots := 0, locals := 21 }) (tqP G cA [.ref h0] [(h0, .inr (6, fs)), (pa, .inr (2, ps))] sz) (tqQv G cA (fun (u : Unit) => True) (fun (u : Unit) => [(h0, .inr (6, fs)), (pa, .inr (2, ps))]) (va_A [(h0, .inr (6, fs)), (pa, .inr (2, ps))] sz)) 0 0 (va_A [(h0, .inr (6, fs)), (pa, .inr (2, ps))] sz) := by
  refine Met.ofW (cc := cX6_runToEnd) (maxL := 1) (ret := none) (by decide) rfl ?_
  intro p e s m args below meth c s₁ B hml hv
  obtain ⟨rfl, hsz, hP, hK, hD0, hN⟩ := hv
  have hx := B.exec
  have hb := B.bytes
  have hr := B.returns
  have hts := atoms_spec (ws := .code yX6_runToEnd cX6_runToEnd 1 none :: T0) B.pre
  have hT : ∀ w ∈ T0, w.before _ s = true := fun w h => hts w (List.mem_cons_of_mem _ h)
  have hown : s.vm.findClass RX6 = some m.cls := findClass_of_methodNamed B.named
  have hlocks := B.notSynchronized
  subst hsz
  have hD := hD0.self (sz := s.heap.size)
  generalize hAe : va_A [(h0, .inr (6, fs)), (pa, .inr (2, ps))] s.heap.size = A at hD ⊢
  have hA : ∀ q : Nat, s.heap.size ≤ q → A q := fun q h => by rw [← hAe]; exact Or.inr h
  have hS : va_S A s.heap s.heap [] := va_S.rf
  have hl := lv_entry ([.ref h0]) (n := 1) (Nat.le_of_ble_eq_true rfl)
  rw [lg_entry_eq]
  generalize (lg_sl ([.ref h0]) ++ List.replicate (1 - (lg_sl ([.ref h0])).length) Slot.unset).toArray = ls at hl ⊢
  have hl : lv_has ls 1 [(0, .ref h0)] := hl
  obtain ⟨H, hH⟩ : ∃ z, z = s.heap := ⟨_, rfl⟩
  rw [← hH] at hP
  have hS : va_S A s.heap H [] := by rw [hH]; exact hS
  suffices hgo : W p l e _ s m _ below meth c H [] 0 0 _ _ by rw [hH] at hgo; exact hgo
  have hO := hN.2.2.2.2
  have ho_hf := fo_refl fs
  have ho_hp := fo_refl ps
  refine lv_aload_n hx hb dX6_runToEnd_0 rfl (lv_at hl 0 rfl) ?_
  refine va_get (D := G) (ci := 6) (v := .int 4) (C := RX6) (T := TX6) (N := 20) hx hb hT ku_6 hown hK hP 0 rfl rfl 0 (by decide) (hT _ kw_8_2) (fun _ h9 => h9) (fh_at hf 1 rfl) dX6_runToEnd_1 ?_
  refine lv_bipush (v := 20) hx hb dX6_runToEnd_4 (by decide) ?_
  refine lv_icmp_gt (tgt := 59) hx hb dX6_runToEnd_6 (by decide) (fun c101 => absurd c101 (by decide)) (fun c101 => ?_)
  refine lv_aload_n hx hb dX6_runToEnd_9 rfl (lv_at hl 0 rfl) ?_
  refine tq_ci (wr := []) hP hD hS hA [0, 1] [] rfl rfl (by decide) (by decide) (va_runV (As := []) (rest := []) ⟨hx, hb, hml, hown, hT⟩ (c_X6_isBusy l G cA H.size h0 fs pa ps (fh_sub hf [0] rfl) (fh_sub hp [0, 1, 2] rfl)) (cwV 0 hT (tq_gV kw_47_18 kw_47_19 kw_47_20 kw_1_23 kw_47_21) rfl rfl rfl (by decide +kernel) ⟨Nat.le_of_ble_eq_true rfl, Nat.le_of_ble_eq_true rfl⟩) ⟨(tq_pre (isC := [0, 1]) hP hD hK hN rfl (by decide)).1, va_recv hK hP (ci := 6) (q0 := 0) rfl rfl, (tq_pre (isC := [0, 1]) hP hD hK hN rfl (by decide)).2⟩ rfl rfl hl.1 rfl (lv_room (Nat.le_of_ble_eq_true rfl)) dX6_runToEnd_10 ⟨Nat.le_of_ble_eq_true rfl, Nat.le_of_ble_eq_true rfl⟩) (fun r102 u103 H locs hw104 hP hD hS => ?_)
  refine W.widen (k := 0) (n := 0) (Nat.le_of_ble_eq_true rfl) (Nat.le_of_ble_eq_true rfl) ?_
  have hr105 := hw104
  subst hr105
  have hP : va_P G vwCl [(h0, .inr (6, fs)), (pa, .inr (2, ps))] H := hP
  have hD : va_D A [(h0, .inr (6, fs)), (pa, .inr (2, ps))] := hD
  refine lv_if_eq (tgt := 59) hx hb dX6_runToEnd_13 (by decide) (fun c106 => ?_) (fun c106 => absurd (by decide) c106)
  exact W.vret hx hb hr (fun t ht hW => ⟨⟨(), rfl, trivial, by rw [ht]; exact hP, hD⟩, hS.F ht⟩) hS.2.2 dX6_runToEnd_59

set_option maxHeartbeats 4000000 in
set_option maxRecDepth 100000 in
theorem c_X6_runToEnd_5 (l : Launch) (G : va_G) (cA : Nat → ClassId) (sz : Nat) (h0 : Nat) (fs : List Value) (pa : Nat) (ps : List Value) (hf : fh fs 20 [(19, .ref pa), (0, .int 5)]) (hp : fh ps 19 [(0, .int 0), (1, .int 0), (2, .int 0)]) : Met l yX6_runToEnd (.code yX6_runToEnd cX6_runToEnd 1 none :: T0) ({ frames := 1, cells := 0, slots := 0, locals := 21 }) (tqP G cA [.ref h0] [(h0, .inr (6, fs)), (pa, .inr (2, ps))] sz) (tqQv G cA (fun (u : Unit) => True) (fun (u : Unit) => [(h0, .inr (6, fs)), (pa, .inr (2, ps))]) (va_A [(h0, .inr (6, fs)), (pa, .inr (2, ps))] sz)) 0 0 (va_A [(h0, .inr (6, fs)), (pa, .inr (2, ps))] sz) := by
  refine Met.ofW (cc := cX6_runToEnd) (maxL := 1) (ret := none) (by decide) rfl ?_
  intro p e s m args below meth c s₁ B hml hv
  obtain ⟨rfl, hsz, hP, hK, hD0, hN⟩ := hv
  have hx := B.exec
  have hb := B.bytes
  have hr := B.returns
  have hts := atoms_spec (ws := .code yX6_runToEnd cX6_runToEnd 1 none :: T0) B.pre
  have hT : ∀ w ∈ T0, w.before _ s = true := fun w h => hts w (List.mem_cons_of_mem _ h)
  have hown : s.vm.findClass RX6 = some m.cls := findClass_of_methodNamed B.named
  have hlocks := B.notSynchronized
  subst hsz
  have hD := hD0.self (sz := s.heap.size)
  generalize hAe : va_A [(h0, .inr (6, fs)), (pa, .inr (2, ps))] s.heap.size = A at hD ⊢
  have hA : ∀ q : Nat, s.heap.size ≤ q → A q := fun q h => by rw [← hAe]; exact Or.inr h
  have hS : va_S A s.heap s.heap [] := va_S.rf
  have hl := lv_entry ([.ref h0]) (n := 1) (Nat.le_of_ble_eq_true rfl)
  rw [lg_entry_eq]
  generalize (lg_sl ([.ref h0]) ++ List.replicate (1 - (lg_sl ([.ref h0])).length) Slot.unset).toArray = ls at hl ⊢
  have hl : lv_has ls 1 [(0, .ref h0)] := hl
  obtain ⟨H, hH⟩ : ∃ z, z = s.heap := ⟨_, rfl⟩
  rw [← hH] at hP
  have hS : va_S A s.heap H [] := by rw [hH]; exact hS
  suffices hgo : W p l e _ s m _ below meth c H [] 0 0 _ _ by rw [hH] at hgo; exact hgo
  have hO := hN.2.2.2.2
  have ho_hf := fo_refl fs
  have ho_hp := fo_refl ps
  refine lv_aload_n hx hb dX6_runToEnd_0 rfl (lv_at hl 0 rfl) ?_
  refine va_get (D := G) (ci := 6) (v := .int 5) (C := RX6) (T := TX6) (N := 20) hx hb hT ku_6 hown hK hP 0 rfl rfl 0 (by decide) (hT _ kw_8_2) (fun _ h9 => h9) (fh_at hf 1 rfl) dX6_runToEnd_1 ?_
  refine lv_bipush (v := 20) hx hb dX6_runToEnd_4 (by decide) ?_
  refine lv_icmp_gt (tgt := 59) hx hb dX6_runToEnd_6 (by decide) (fun c101 => absurd c101 (by decide)) (fun c101 => ?_)
  refine lv_aload_n hx hb dX6_runToEnd_9 rfl (lv_at hl 0 rfl) ?_
  refine tq_ci (wr := []) hP hD hS hA [0, 1] [] rfl rfl (by decide) (by decide) (va_runV (As := []) (rest := []) ⟨hx, hb, hml, hown, hT⟩ (c_X6_isBusy l G cA H.size h0 fs pa ps (fh_sub hf [0] rfl) (fh_sub hp [0, 1, 2] rfl)) (cwV 0 hT (tq_gV kw_47_18 kw_47_19 kw_47_20 kw_1_23 kw_47_21) rfl rfl rfl (by decide +kernel) ⟨Nat.le_of_ble_eq_true rfl, Nat.le_of_ble_eq_true rfl⟩) ⟨(tq_pre (isC := [0, 1]) hP hD hK hN rfl (by decide)).1, va_recv hK hP (ci := 6) (q0 := 0) rfl rfl, (tq_pre (isC := [0, 1]) hP hD hK hN rfl (by decide)).2⟩ rfl rfl hl.1 rfl (lv_room (Nat.le_of_ble_eq_true rfl)) dX6_runToEnd_10 ⟨Nat.le_of_ble_eq_true rfl, Nat.le_of_ble_eq_true rfl⟩) (fun r102 u103 H locs hw104 hP hD hS => ?_)
  refine W.widen (k := 0) (n := 0) (Nat.le_of_ble_eq_true rfl) (Nat.le_of_ble_eq_true rfl) ?_
  have hr105 := hw104
  subst hr105
  have hP : va_P G vwCl [(h0, .inr (6, fs)), (pa, .inr (2, ps))] H := hP
  have hD : va_D A [(h0, .inr (6, fs)), (pa, .inr (2, ps))] := hD
  refine lv_if_eq (tgt := 59) hx hb dX6_runToEnd_13 (by decide) (fun c106 => ?_) (fun c106 => absurd (by decide) c106)
  exact W.vret hx hb hr (fun t ht hW => ⟨⟨(), rfl, trivial, by rw [ht]; exact hP, hD⟩, hS.F ht⟩) hS.2.2 dX6_runToEnd_59

set_option maxHeartbeats 4000000 in
set_option maxRecDepth 100000 in
theorem c_X6_runToEnd_6 (l : Launch) (G : va_G) (cA : Nat → ClassId) (sz : Nat) (h0 : Nat) (fs : List Value) (pa : Nat) (ps : List Value) (hf : fh fs 20 [(19, .ref pa), (0, .int 6)]) (hp : fh ps 19 [(0, .int 0), (1, .int 0), (2, .int 0)]) : Met l yX6_runToEnd (.code yX6_runToEnd cX6_runToEnd 1 none :: T0) ({ frames := 1, cells := 0, slots := 0, locals := 21 }) (tqP G cA [.ref h0] [(h0, .inr (6, fs)), (pa, .inr (2, ps))] sz) (tqQv G cA (fun (u : Unit) => True) (fun (u : Unit) => [(h0, .inr (6, fs)), (pa, .inr (2, ps))]) (va_A [(h0, .inr (6, fs)), (pa, .inr (2, ps))] sz)) 0 0 (va_A [(h0, .inr (6, fs)), (pa, .inr (2, ps))] sz) := by
  refine Met.ofW (cc := cX6_runToEnd) (maxL := 1) (ret := none) (by decide) rfl ?_
  intro p e s m args below meth c s₁ B hml hv
  obtain ⟨rfl, hsz, hP, hK, hD0, hN⟩ := hv
  have hx := B.exec
  have hb := B.bytes
  have hr := B.returns
  have hts := atoms_spec (ws := .code yX6_runToEnd cX6_runToEnd 1 none :: T0) B.pre
  have hT : ∀ w ∈ T0, w.before _ s = true := fun w h => hts w (List.mem_cons_of_mem _ h)
  have hown : s.vm.findClass RX6 = some m.cls := findClass_of_methodNamed B.named
  have hlocks := B.notSynchronized
  subst hsz
  have hD := hD0.self (sz := s.heap.size)
  generalize hAe : va_A [(h0, .inr (6, fs)), (pa, .inr (2, ps))] s.heap.size = A at hD ⊢
  have hA : ∀ q : Nat, s.heap.size ≤ q → A q := fun q h => by rw [← hAe]; exact Or.inr h
  have hS : va_S A s.heap s.heap [] := va_S.rf
  have hl := lv_entry ([.ref h0]) (n := 1) (Nat.le_of_ble_eq_true rfl)
  rw [lg_entry_eq]
  generalize (lg_sl ([.ref h0]) ++ List.replicate (1 - (lg_sl ([.ref h0])).length) Slot.unset).toArray = ls at hl ⊢
  have hl : lv_has ls 1 [(0, .ref h0)] := hl
  obtain ⟨H, hH⟩ : ∃ z, z = s.heap := ⟨_, rfl⟩
  rw [← hH] at hP
  have hS : va_S A s.heap H [] := by rw [hH]; exact hS
  suffices hgo : W p l e _ s m _ below meth c H [] 0 0 _ _ by rw [hH] at hgo; exact hgo
  have hO := hN.2.2.2.2
  have ho_hf := fo_refl fs
  have ho_hp := fo_refl ps
  refine lv_aload_n hx hb dX6_runToEnd_0 rfl (lv_at hl 0 rfl) ?_
  refine va_get (D := G) (ci := 6) (v := .int 6) (C := RX6) (T := TX6) (N := 20) hx hb hT ku_6 hown hK hP 0 rfl rfl 0 (by decide) (hT _ kw_8_2) (fun _ h9 => h9) (fh_at hf 1 rfl) dX6_runToEnd_1 ?_
  refine lv_bipush (v := 20) hx hb dX6_runToEnd_4 (by decide) ?_
  refine lv_icmp_gt (tgt := 59) hx hb dX6_runToEnd_6 (by decide) (fun c101 => absurd c101 (by decide)) (fun c101 => ?_)
  refine lv_aload_n hx hb dX6_runToEnd_9 rfl (lv_at hl 0 rfl) ?_
  refine tq_ci (wr := []) hP hD hS hA [0, 1] [] rfl rfl (by decide) (by decide) (va_runV (As := []) (rest := []) ⟨hx, hb, hml, hown, hT⟩ (c_X6_isBusy l G cA H.size h0 fs pa ps (fh_sub hf [0] rfl) (fh_sub hp [0, 1, 2] rfl)) (cwV 0 hT (tq_gV kw_47_18 kw_47_19 kw_47_20 kw_1_23 kw_47_21) rfl rfl rfl (by decide +kernel) ⟨Nat.le_of_ble_eq_true rfl, Nat.le_of_ble_eq_true rfl⟩) ⟨(tq_pre (isC := [0, 1]) hP hD hK hN rfl (by decide)).1, va_recv hK hP (ci := 6) (q0 := 0) rfl rfl, (tq_pre (isC := [0, 1]) hP hD hK hN rfl (by decide)).2⟩ rfl rfl hl.1 rfl (lv_room (Nat.le_of_ble_eq_true rfl)) dX6_runToEnd_10 ⟨Nat.le_of_ble_eq_true rfl, Nat.le_of_ble_eq_true rfl⟩) (fun r102 u103 H locs hw104 hP hD hS => ?_)
  refine W.widen (k := 0) (n := 0) (Nat.le_of_ble_eq_true rfl) (Nat.le_of_ble_eq_true rfl) ?_
  have hr105 := hw104
  subst hr105
  have hP : va_P G vwCl [(h0, .inr (6, fs)), (pa, .inr (2, ps))] H := hP
  have hD : va_D A [(h0, .inr (6, fs)), (pa, .inr (2, ps))] := hD
  refine lv_if_eq (tgt := 59) hx hb dX6_runToEnd_13 (by decide) (fun c106 => ?_) (fun c106 => absurd (by decide) c106)
  exact W.vret hx hb hr (fun t ht hW => ⟨⟨(), rfl, trivial, by rw [ht]; exact hP, hD⟩, hS.F ht⟩) hS.2.2 dX6_runToEnd_59

set_option maxHeartbeats 4000000 in
set_option maxRecDepth 100000 in
theorem c_X6_runToEnd_7 (l : Launch) (G : va_G) (cA : Nat → ClassId) (sz : Nat) (h0 : Nat) (fs : List Value) (pa : Nat) (ps : List Value) (hf : fh fs 20 [(19, .ref pa), (0, .int 7)]) (hp : fh ps 19 [(0, .int 0), (1, .int 0), (2, .int 0)]) : Met l yX6_runToEnd (.code yX6_runToEnd cX6_runToEnd 1 none :: T0) ({ frames := 1, cells := 0, slots := 0, locals := 21 }) (tqP G cA [.ref h0] [(h0, .inr (6, fs)), (pa, .inr (2, ps))] sz) (tqQv G cA (fun (u : Unit) => True) (fun (u : Unit) => [(h0, .inr (6, fs)), (pa, .inr (2, ps))]) (va_A [(h0, .inr (6, fs)), (pa, .inr (2, ps))] sz)) 0 0 (va_A [(h0, .inr (6, fs)), (pa, .inr (2, ps))] sz) := by
  refine Met.ofW (cc := cX6_runToEnd) (maxL := 1) (ret := none) (by decide) rfl ?_
  intro p e s m args below meth c s₁ B hml hv
  obtain ⟨rfl, hsz, hP, hK, hD0, hN⟩ := hv
  have hx := B.exec
  have hb := B.bytes
  have hr := B.returns
  have hts := atoms_spec (ws := .code yX6_runToEnd cX6_runToEnd 1 none :: T0) B.pre
  have hT : ∀ w ∈ T0, w.before _ s = true := fun w h => hts w (List.mem_cons_of_mem _ h)
  have hown : s.vm.findClass RX6 = some m.cls := findClass_of_methodNamed B.named
  have hlocks := B.notSynchronized
  subst hsz
  have hD := hD0.self (sz := s.heap.size)
  generalize hAe : va_A [(h0, .inr (6, fs)), (pa, .inr (2, ps))] s.heap.size = A at hD ⊢
  have hA : ∀ q : Nat, s.heap.size ≤ q → A q := fun q h => by rw [← hAe]; exact Or.inr h
  have hS : va_S A s.heap s.heap [] := va_S.rf
  have hl := lv_entry ([.ref h0]) (n := 1) (Nat.le_of_ble_eq_true rfl)
  rw [lg_entry_eq]
  generalize (lg_sl ([.ref h0]) ++ List.replicate (1 - (lg_sl ([.ref h0])).length) Slot.unset).toArray = ls at hl ⊢
  have hl : lv_has ls 1 [(0, .ref h0)] := hl
  obtain ⟨H, hH⟩ : ∃ z, z = s.heap := ⟨_, rfl⟩
  rw [← hH] at hP
  have hS : va_S A s.heap H [] := by rw [hH]; exact hS
  suffices hgo : W p l e _ s m _ below meth c H [] 0 0 _ _ by rw [hH] at hgo; exact hgo
  have hO := hN.2.2.2.2
  have ho_hf := fo_refl fs
  have ho_hp := fo_refl ps
  refine lv_aload_n hx hb dX6_runToEnd_0 rfl (lv_at hl 0 rfl) ?_
  refine va_get (D := G) (ci := 6) (v := .int 7) (C := RX6) (T := TX6) (N := 20) hx hb hT ku_6 hown hK hP 0 rfl rfl 0 (by decide) (hT _ kw_8_2) (fun _ h9 => h9) (fh_at hf 1 rfl) dX6_runToEnd_1 ?_
  refine lv_bipush (v := 20) hx hb dX6_runToEnd_4 (by decide) ?_
  refine lv_icmp_gt (tgt := 59) hx hb dX6_runToEnd_6 (by decide) (fun c101 => absurd c101 (by decide)) (fun c101 => ?_)
  refine lv_aload_n hx hb dX6_runToEnd_9 rfl (lv_at hl 0 rfl) ?_
  refine tq_ci (wr := []) hP hD hS hA [0, 1] [] rfl rfl (by decide) (by decide) (va_runV (As := []) (rest := []) ⟨hx, hb, hml, hown, hT⟩ (c_X6_isBusy l G cA H.size h0 fs pa ps (fh_sub hf [0] rfl) (fh_sub hp [0, 1, 2] rfl)) (cwV 0 hT (tq_gV kw_47_18 kw_47_19 kw_47_20 kw_1_23 kw_47_21) rfl rfl rfl (by decide +kernel) ⟨Nat.le_of_ble_eq_true rfl, Nat.le_of_ble_eq_true rfl⟩) ⟨(tq_pre (isC := [0, 1]) hP hD hK hN rfl (by decide)).1, va_recv hK hP (ci := 6) (q0 := 0) rfl rfl, (tq_pre (isC := [0, 1]) hP hD hK hN rfl (by decide)).2⟩ rfl rfl hl.1 rfl (lv_room (Nat.le_of_ble_eq_true rfl)) dX6_runToEnd_10 ⟨Nat.le_of_ble_eq_true rfl, Nat.le_of_ble_eq_true rfl⟩) (fun r102 u103 H locs hw104 hP hD hS => ?_)
  refine W.widen (k := 0) (n := 0) (Nat.le_of_ble_eq_true rfl) (Nat.le_of_ble_eq_true rfl) ?_
  have hr105 := hw104
  subst hr105
  have hP : va_P G vwCl [(h0, .inr (6, fs)), (pa, .inr (2, ps))] H := hP
  have hD : va_D A [(h0, .inr (6, fs)), (pa, .inr (2, ps))] := hD
  refine lv_if_eq (tgt := 59) hx hb dX6_runToEnd_13 (by decide) (fun c106 => ?_) (fun c106 => absurd (by decide) c106)
  exact W.vret hx hb hr (fun t ht hW => ⟨⟨(), rfl, trivial, by rw [ht]; exact hP, hD⟩, hS.F ht⟩) hS.2.2 dX6_runToEnd_59

set_option maxHeartbeats 4000000 in
set_option maxRecDepth 100000 in
theorem c_X6_runToEnd_8 (l : Launch) (G : va_G) (cA : Nat → ClassId) (sz : Nat) (h0 : Nat) (fs : List Value) (pa : Nat) (ps : List Value) (hf : fh fs 20 [(19, .ref pa), (0, .int 8)]) (hp : fh ps 19 [(0, .int 0), (1, .int 0), (2, .int 0)]) : Met l yX6_runToEnd (.code yX6_runToEnd cX6_runToEnd 1 none :: T0) ({ frames := 1, cells := 0, slots := 0, locals := 21 }) (tqP G cA [.ref h0] [(h0, .inr (6, fs)), (pa, .inr (2, ps))] sz) (tqQv G cA (fun (u : Unit) => True) (fun (u : Unit) => [(h0, .inr (6, fs)), (pa, .inr (2, ps))]) (va_A [(h0, .inr (6, fs)), (pa, .inr (2, ps))] sz)) 0 0 (va_A [(h0, .inr (6, fs)), (pa, .inr (2, ps))] sz) := by
  refine Met.ofW (cc := cX6_runToEnd) (maxL := 1) (ret := none) (by decide) rfl ?_
  intro p e s m args below meth c s₁ B hml hv
  obtain ⟨rfl, hsz, hP, hK, hD0, hN⟩ := hv
  have hx := B.exec
  have hb := B.bytes
  have hr := B.returns
  have hts := atoms_spec (ws := .code yX6_runToEnd cX6_runToEnd 1 none :: T0) B.pre
  have hT : ∀ w ∈ T0, w.before _ s = true := fun w h => hts w (List.mem_cons_of_mem _ h)
  have hown : s.vm.findClass RX6 = some m.cls := findClass_of_methodNamed B.named
  have hlocks := B.notSynchronized
  subst hsz
  have hD := hD0.self (sz := s.heap.size)
  generalize hAe : va_A [(h0, .inr (6, fs)), (pa, .inr (2, ps))] s.heap.size = A at hD ⊢
  have hA : ∀ q : Nat, s.heap.size ≤ q → A q := fun q h => by rw [← hAe]; exact Or.inr h
  have hS : va_S A s.heap s.heap [] := va_S.rf
  have hl := lv_entry ([.ref h0]) (n := 1) (Nat.le_of_ble_eq_true rfl)
  rw [lg_entry_eq]
  generalize (lg_sl ([.ref h0]) ++ List.replicate (1 - (lg_sl ([.ref h0])).length) Slot.unset).toArray = ls at hl ⊢
  have hl : lv_has ls 1 [(0, .ref h0)] := hl
  obtain ⟨H, hH⟩ : ∃ z, z = s.heap := ⟨_, rfl⟩
  rw [← hH] at hP
  have hS : va_S A s.heap H [] := by rw [hH]; exact hS
  suffices hgo : W p l e _ s m _ below meth c H [] 0 0 _ _ by rw [hH] at hgo; exact hgo
  have hO := hN.2.2.2.2
  have ho_hf := fo_refl fs
  have ho_hp := fo_refl ps
  refine lv_aload_n hx hb dX6_runToEnd_0 rfl (lv_at hl 0 rfl) ?_
  refine va_get (D := G) (ci := 6) (v := .int 8) (C := RX6) (T := TX6) (N := 20) hx hb hT ku_6 hown hK hP 0 rfl rfl 0 (by decide) (hT _ kw_8_2) (fun _ h9 => h9) (fh_at hf 1 rfl) dX6_runToEnd_1 ?_
  refine lv_bipush (v := 20) hx hb dX6_runToEnd_4 (by decide) ?_
  refine lv_icmp_gt (tgt := 59) hx hb dX6_runToEnd_6 (by decide) (fun c101 => absurd c101 (by decide)) (fun c101 => ?_)
  refine lv_aload_n hx hb dX6_runToEnd_9 rfl (lv_at hl 0 rfl) ?_
  refine tq_ci (wr := []) hP hD hS hA [0, 1] [] rfl rfl (by decide) (by decide) (va_runV (As := []) (rest := []) ⟨hx, hb, hml, hown, hT⟩ (c_X6_isBusy l G cA H.size h0 fs pa ps (fh_sub hf [0] rfl) (fh_sub hp [0, 1, 2] rfl)) (cwV 0 hT (tq_gV kw_47_18 kw_47_19 kw_47_20 kw_1_23 kw_47_21) rfl rfl rfl (by decide +kernel) ⟨Nat.le_of_ble_eq_true rfl, Nat.le_of_ble_eq_true rfl⟩) ⟨(tq_pre (isC := [0, 1]) hP hD hK hN rfl (by decide)).1, va_recv hK hP (ci := 6) (q0 := 0) rfl rfl, (tq_pre (isC := [0, 1]) hP hD hK hN rfl (by decide)).2⟩ rfl rfl hl.1 rfl (lv_room (Nat.le_of_ble_eq_true rfl)) dX6_runToEnd_10 ⟨Nat.le_of_ble_eq_true rfl, Nat.le_of_ble_eq_true rfl⟩) (fun r102 u103 H locs hw104 hP hD hS => ?_)
  refine W.widen (k := 0) (n := 0) (Nat.le_of_ble_eq_true rfl) (Nat.le_of_ble_eq_true rfl) ?_
  have hr105 := hw104
  subst hr105
  have hP : va_P G vwCl [(h0, .inr (6, fs)), (pa, .inr (2, ps))] H := hP
  have hD : va_D A [(h0, .inr (6, fs)), (pa, .inr (2, ps))] := hD
  refine lv_if_eq (tgt := 59) hx hb dX6_runToEnd_13 (by decide) (fun c106 => ?_) (fun c106 => absurd (by decide) c106)
  exact W.vret hx hb hr (fun t ht hW => ⟨⟨(), rfl, trivial, by rw [ht]; exact hP, hD⟩, hS.F ht⟩) hS.2.2 dX6_runToEnd_59

set_option maxHeartbeats 4000000 in
set_option maxRecDepth 100000 in
theorem c_X6_runToEnd_9 (l : Launch) (G : va_G) (cA : Nat → ClassId) (sz : Nat) (h0 : Nat) (fs : List Value) (pa : Nat) (ps : List Value) (hf : fh fs 20 [(19, .ref pa), (0, .int 9)]) (hp : fh ps 19 [(0, .int 0), (1, .int 0), (2, .int 0)]) : Met l yX6_runToEnd (.code yX6_runToEnd cX6_runToEnd 1 none :: T0) ({ frames := 1, cells := 0, slots := 0, locals := 21 }) (tqP G cA [.ref h0] [(h0, .inr (6, fs)), (pa, .inr (2, ps))] sz) (tqQv G cA (fun (u : Unit) => True) (fun (u : Unit) => [(h0, .inr (6, fs)), (pa, .inr (2, ps))]) (va_A [(h0, .inr (6, fs)), (pa, .inr (2, ps))] sz)) 0 0 (va_A [(h0, .inr (6, fs)), (pa, .inr (2, ps))] sz) := by
  refine Met.ofW (cc := cX6_runToEnd) (maxL := 1) (ret := none) (by decide) rfl ?_
  intro p e s m args below meth c s₁ B hml hv
  obtain ⟨rfl, hsz, hP, hK, hD0, hN⟩ := hv
  have hx := B.exec
  have hb := B.bytes
  have hr := B.returns
  have hts := atoms_spec (ws := .code yX6_runToEnd cX6_runToEnd 1 none :: T0) B.pre
  have hT : ∀ w ∈ T0, w.before _ s = true := fun w h => hts w (List.mem_cons_of_mem _ h)
  have hown : s.vm.findClass RX6 = some m.cls := findClass_of_methodNamed B.named
  have hlocks := B.notSynchronized
  subst hsz
  have hD := hD0.self (sz := s.heap.size)
  generalize hAe : va_A [(h0, .inr (6, fs)), (pa, .inr (2, ps))] s.heap.size = A at hD ⊢
  have hA : ∀ q : Nat, s.heap.size ≤ q → A q := fun q h => by rw [← hAe]; exact Or.inr h
  have hS : va_S A s.heap s.heap [] := va_S.rf
  have hl := lv_entry ([.ref h0]) (n := 1) (Nat.le_of_ble_eq_true rfl)
  rw [lg_entry_eq]
  generalize (lg_sl ([.ref h0]) ++ List.replicate (1 - (lg_sl ([.ref h0])).length) Slot.unset).toArray = ls at hl ⊢
  have hl : lv_has ls 1 [(0, .ref h0)] := hl
  obtain ⟨H, hH⟩ : ∃ z, z = s.heap := ⟨_, rfl⟩
  rw [← hH] at hP
  have hS : va_S A s.heap H [] := by rw [hH]; exact hS
  suffices hgo : W p l e _ s m _ below meth c H [] 0 0 _ _ by rw [hH] at hgo; exact hgo
  have hO := hN.2.2.2.2
  have ho_hf := fo_refl fs
  have ho_hp := fo_refl ps
  refine lv_aload_n hx hb dX6_runToEnd_0 rfl (lv_at hl 0 rfl) ?_
  refine va_get (D := G) (ci := 6) (v := .int 9) (C := RX6) (T := TX6) (N := 20) hx hb hT ku_6 hown hK hP 0 rfl rfl 0 (by decide) (hT _ kw_8_2) (fun _ h9 => h9) (fh_at hf 1 rfl) dX6_runToEnd_1 ?_
  refine lv_bipush (v := 20) hx hb dX6_runToEnd_4 (by decide) ?_
  refine lv_icmp_gt (tgt := 59) hx hb dX6_runToEnd_6 (by decide) (fun c101 => absurd c101 (by decide)) (fun c101 => ?_)
  refine lv_aload_n hx hb dX6_runToEnd_9 rfl (lv_at hl 0 rfl) ?_
  refine tq_ci (wr := []) hP hD hS hA [0, 1] [] rfl rfl (by decide) (by decide) (va_runV (As := []) (rest := []) ⟨hx, hb, hml, hown, hT⟩ (c_X6_isBusy l G cA H.size h0 fs pa ps (fh_sub hf [0] rfl) (fh_sub hp [0, 1, 2] rfl)) (cwV 0 hT (tq_gV kw_47_18 kw_47_19 kw_47_20 kw_1_23 kw_47_21) rfl rfl rfl (by decide +kernel) ⟨Nat.le_of_ble_eq_true rfl, Nat.le_of_ble_eq_true rfl⟩) ⟨(tq_pre (isC := [0, 1]) hP hD hK hN rfl (by decide)).1, va_recv hK hP (ci := 6) (q0 := 0) rfl rfl, (tq_pre (isC := [0, 1]) hP hD hK hN rfl (by decide)).2⟩ rfl rfl hl.1 rfl (lv_room (Nat.le_of_ble_eq_true rfl)) dX6_runToEnd_10 ⟨Nat.le_of_ble_eq_true rfl, Nat.le_of_ble_eq_true rfl⟩) (fun r102 u103 H locs hw104 hP hD hS => ?_)
  refine W.widen (k := 0) (n := 0) (Nat.le_of_ble_eq_true rfl) (Nat.le_of_ble_eq_true rfl) ?_
  have hr105 := hw104
  subst hr105
  have hP : va_P G vwCl [(h0, .inr (6, fs)), (pa, .inr (2, ps))] H := hP
  have hD : va_D A [(h0, .inr (6, fs)), (pa, .inr (2, ps))] := hD
  refine lv_if_eq (tgt := 59) hx hb dX6_runToEnd_13 (by decide) (fun c106 => ?_) (fun c106 => absurd (by decide) c106)
  exact W.vret hx hb hr (fun t ht hW => ⟨⟨(), rfl, trivial, by rw [ht]; exact hP, hD⟩, hS.F ht⟩) hS.2.2 dX6_runToEnd_59

set_option maxHeartbeats 4000000 in
set_option maxRecDepth 100000 in
theorem c_X6_runToEnd_10 (l : Launch) (G : va_G) (cA : Nat → ClassId) (sz : Nat) (h0 : Nat) (fs : List Value) (pa : Nat) (ps : List Value) (hf : fh fs 20 [(19, .ref pa), (0, .int 10)]) (hp : fh ps 19 [(0, .int 0), (1, .int 0), (2, .int 0)]) : Met l yX6_runToEnd (.code yX6_runToEnd cX6_runToEnd 1 none :: T0) ({ frames := 1, cells := 0, slots := 0, locals := 21 }) (tqP G cA [.ref h0] [(h0, .inr (6, fs)), (pa, .inr (2, ps))] sz) (tqQv G cA (fun (u : Unit) => True) (fun (u : Unit) => [(h0, .inr (6, fs)), (pa, .inr (2, ps))]) (va_A [(h0, .inr (6, fs)), (pa, .inr (2, ps))] sz)) 0 0 (va_A [(h0, .inr (6, fs)), (pa, .inr (2, ps))] sz) := by
  refine Met.ofW (cc := cX6_runToEnd) (maxL := 1) (ret := none) (by decide) rfl ?_
  intro p e s m args below meth c s₁ B hml hv
  obtain ⟨rfl, hsz, hP, hK, hD0, hN⟩ := hv
  have hx := B.exec
  have hb := B.bytes
  have hr := B.returns
  have hts := atoms_spec (ws := .code yX6_runToEnd cX6_runToEnd 1 none :: T0) B.pre
  have hT : ∀ w ∈ T0, w.before _ s = true := fun w h => hts w (List.mem_cons_of_mem _ h)
  have hown : s.vm.findClass RX6 = some m.cls := findClass_of_methodNamed B.named
  have hlocks := B.notSynchronized
  subst hsz
  have hD := hD0.self (sz := s.heap.size)
  generalize hAe : va_A [(h0, .inr (6, fs)), (pa, .inr (2, ps))] s.heap.size = A at hD ⊢
  have hA : ∀ q : Nat, s.heap.size ≤ q → A q := fun q h => by rw [← hAe]; exact Or.inr h
  have hS : va_S A s.heap s.heap [] := va_S.rf
  have hl := lv_entry ([.ref h0]) (n := 1) (Nat.le_of_ble_eq_true rfl)
  rw [lg_entry_eq]
  generalize (lg_sl ([.ref h0]) ++ List.replicate (1 - (lg_sl ([.ref h0])).length) Slot.unset).toArray = ls at hl ⊢
  have hl : lv_has ls 1 [(0, .ref h0)] := hl
  obtain ⟨H, hH⟩ : ∃ z, z = s.heap := ⟨_, rfl⟩
  rw [← hH] at hP
  have hS : va_S A s.heap H [] := by rw [hH]; exact hS
  suffices hgo : W p l e _ s m _ below meth c H [] 0 0 _ _ by rw [hH] at hgo; exact hgo
  have hO := hN.2.2.2.2
  have ho_hf := fo_refl fs
  have ho_hp := fo_refl ps
  refine lv_aload_n hx hb dX6_runToEnd_0 rfl (lv_at hl 0 rfl) ?_
  refine va_get (D := G) (ci := 6) (v := .int 10) (C := RX6) (T := TX6) (N := 20) hx hb hT ku_6 hown hK hP 0 rfl rfl 0 (by decide) (hT _ kw_8_2) (fun _ h9 => h9) (fh_at hf 1 rfl) dX6_runToEnd_1 ?_
  refine lv_bipush (v := 20) hx hb dX6_runToEnd_4 (by decide) ?_
  refine lv_icmp_gt (tgt := 59) hx hb dX6_runToEnd_6 (by decide) (fun c101 => absurd c101 (by decide)) (fun c101 => ?_)
  refine lv_aload_n hx hb dX6_runToEnd_9 rfl (lv_at hl 0 rfl) ?_
  refine tq_ci (wr := []) hP hD hS hA [0, 1] [] rfl rfl (by decide) (by decide) (va_runV (As := []) (rest := []) ⟨hx, hb, hml, hown, hT⟩ (c_X6_isBusy l G cA H.size h0 fs pa ps (fh_sub hf [0] rfl) (fh_sub hp [0, 1, 2] rfl)) (cwV 0 hT (tq_gV kw_47_18 kw_47_19 kw_47_20 kw_1_23 kw_47_21) rfl rfl rfl (by decide +kernel) ⟨Nat.le_of_ble_eq_true rfl, Nat.le_of_ble_eq_true rfl⟩) ⟨(tq_pre (isC := [0, 1]) hP hD hK hN rfl (by decide)).1, va_recv hK hP (ci := 6) (q0 := 0) rfl rfl, (tq_pre (isC := [0, 1]) hP hD hK hN rfl (by decide)).2⟩ rfl rfl hl.1 rfl (lv_room (Nat.le_of_ble_eq_true rfl)) dX6_runToEnd_10 ⟨Nat.le_of_ble_eq_true rfl, Nat.le_of_ble_eq_true rfl⟩) (fun r102 u103 H locs hw104 hP hD hS => ?_)
  refine W.widen (k := 0) (n := 0) (Nat.le_of_ble_eq_true rfl) (Nat.le_of_ble_eq_true rfl) ?_
  have hr105 := hw104
  subst hr105
  have hP : va_P G vwCl [(h0, .inr (6, fs)), (pa, .inr (2, ps))] H := hP
  have hD : va_D A [(h0, .inr (6, fs)), (pa, .inr (2, ps))] := hD
  refine lv_if_eq (tgt := 59) hx hb dX6_runToEnd_13 (by decide) (fun c106 => ?_) (fun c106 => absurd (by decide) c106)
  exact W.vret hx hb hr (fun t ht hW => ⟨⟨(), rfl, trivial, by rw [ht]; exact hP, hD⟩, hS.F ht⟩) hS.2.2 dX6_runToEnd_59

set_option maxHeartbeats 4000000 in
set_option maxRecDepth 100000 in
theorem c_X6_runToEnd_11 (l : Launch) (G : va_G) (cA : Nat → ClassId) (sz : Nat) (h0 : Nat) (fs : List Value) (pa : Nat) (ps : List Value) (hf : fh fs 20 [(19, .ref pa), (0, .int 11)]) (hp : fh ps 19 [(0, .int 0), (1, .int 0), (2, .int 0)]) : Met l yX6_runToEnd (.code yX6_runToEnd cX6_runToEnd 1 none :: T0) ({ frames := 1, cells := 0, slots := 0, locals := 21 }) (tqP G cA [.ref h0] [(h0, .inr (6, fs)), (pa, .inr (2, ps))] sz) (tqQv G cA (fun (u : Unit) => True) (fun (u : Unit) => [(h0, .inr (6, fs)), (pa, .inr (2, ps))]) (va_A [(h0, .inr (6, fs)), (pa, .inr (2, ps))] sz)) 0 0 (va_A [(h0, .inr (6, fs)), (pa, .inr (2, ps))] sz) := by
  refine Met.ofW (cc := cX6_runToEnd) (maxL := 1) (ret := none) (by decide) rfl ?_
  intro p e s m args below meth c s₁ B hml hv
  obtain ⟨rfl, hsz, hP, hK, hD0, hN⟩ := hv
  have hx := B.exec
  have hb := B.bytes
  have hr := B.returns
  have hts := atoms_spec (ws := .code yX6_runToEnd cX6_runToEnd 1 none :: T0) B.pre
  have hT : ∀ w ∈ T0, w.before _ s = true := fun w h => hts w (List.mem_cons_of_mem _ h)
  have hown : s.vm.findClass RX6 = some m.cls := findClass_of_methodNamed B.named
  have hlocks := B.notSynchronized
  subst hsz
  have hD := hD0.self (sz := s.heap.size)
  generalize hAe : va_A [(h0, .inr (6, fs)), (pa, .inr (2, ps))] s.heap.size = A at hD ⊢
  have hA : ∀ q : Nat, s.heap.size ≤ q → A q := fun q h => by rw [← hAe]; exact Or.inr h
  have hS : va_S A s.heap s.heap [] := va_S.rf
  have hl := lv_entry ([.ref h0]) (n := 1) (Nat.le_of_ble_eq_true rfl)
  rw [lg_entry_eq]
  generalize (lg_sl ([.ref h0]) ++ List.replicate (1 - (lg_sl ([.ref h0])).length) Slot.unset).toArray = ls at hl ⊢
  have hl : lv_has ls 1 [(0, .ref h0)] := hl
  obtain ⟨H, hH⟩ : ∃ z, z = s.heap := ⟨_, rfl⟩
  rw [← hH] at hP
  have hS : va_S A s.heap H [] := by rw [hH]; exact hS
  suffices hgo : W p l e _ s m _ below meth c H [] 0 0 _ _ by rw [hH] at hgo; exact hgo
  have hO := hN.2.2.2.2
  have ho_hf := fo_refl fs
  have ho_hp := fo_refl ps
  refine lv_aload_n hx hb dX6_runToEnd_0 rfl (lv_at hl 0 rfl) ?_
  refine va_get (D := G) (ci := 6) (v := .int 11) (C := RX6) (T := TX6) (N := 20) hx hb hT ku_6 hown hK hP 0 rfl rfl 0 (by decide) (hT _ kw_8_2) (fun _ h9 => h9) (fh_at hf 1 rfl) dX6_runToEnd_1 ?_
  refine lv_bipush (v := 20) hx hb dX6_runToEnd_4 (by decide) ?_
  refine lv_icmp_gt (tgt := 59) hx hb dX6_runToEnd_6 (by decide) (fun c101 => absurd c101 (by decide)) (fun c101 => ?_)
  refine lv_aload_n hx hb dX6_runToEnd_9 rfl (lv_at hl 0 rfl) ?_
  refine tq_ci (wr := []) hP hD hS hA [0, 1] [] rfl rfl (by decide) (by decide) (va_runV (As := []) (rest := []) ⟨hx, hb, hml, hown, hT⟩ (c_X6_isBusy l G cA H.size h0 fs pa ps (fh_sub hf [0] rfl) (fh_sub hp [0, 1, 2] rfl)) (cwV 0 hT (tq_gV kw_47_18 kw_47_19 kw_47_20 kw_1_23 kw_47_21) rfl rfl rfl (by decide +kernel) ⟨Nat.le_of_ble_eq_true rfl, Nat.le_of_ble_eq_true rfl⟩) ⟨(tq_pre (isC := [0, 1]) hP hD hK hN rfl (by decide)).1, va_recv hK hP (ci := 6) (q0 := 0) rfl rfl, (tq_pre (isC := [0, 1]) hP hD hK hN rfl (by decide)).2⟩ rfl rfl hl.1 rfl (lv_room (Nat.le_of_ble_eq_true rfl)) dX6_runToEnd_10 ⟨Nat.le_of_ble_eq_true rfl, Nat.le_of_ble_eq_true rfl⟩) (fun r102 u103 H locs hw104 hP hD hS => ?_)
  refine W.widen (k := 0) (n := 0) (Nat.le_of_ble_eq_true rfl) (Nat.le_of_ble_eq_true rfl) ?_
  have hr105 := hw104
  subst hr105
  have hP : va_P G vwCl [(h0, .inr (6, fs)), (pa, .inr (2, ps))] H := hP
  have hD : va_D A [(h0, .inr (6, fs)), (pa, .inr (2, ps))] := hD
  refine lv_if_eq (tgt := 59) hx hb dX6_runToEnd_13 (by decide) (fun c106 => ?_) (fun c106 => absurd (by decide) c106)
  exact W.vret hx hb hr (fun t ht hW => ⟨⟨(), rfl, trivial, by rw [ht]; exact hP, hD⟩, hS.F ht⟩) hS.2.2 dX6_runToEnd_59

set_option maxHeartbeats 4000000 in
set_option maxRecDepth 100000 in
theorem c_X6_runToEnd_12 (l : Launch) (G : va_G) (cA : Nat → ClassId) (sz : Nat) (h0 : Nat) (fs : List Value) (pa : Nat) (ps : List Value) (hf : fh fs 20 [(19, .ref pa), (0, .int 12)]) (hp : fh ps 19 [(0, .int 0), (1, .int 0), (2, .int 0)]) : Met l yX6_runToEnd (.code yX6_runToEnd cX6_runToEnd 1 none :: T0) ({ frames := 1, cells := 0, slots := 0, locals := 21 }) (tqP G cA [.ref h0] [(h0, .inr (6, fs)), (pa, .inr (2, ps))] sz) (tqQv G cA (fun (u : Unit) => True) (fun (u : Unit) => [(h0, .inr (6, fs)), (pa, .inr (2, ps))]) (va_A [(h0, .inr (6, fs)), (pa, .inr (2, ps))] sz)) 0 0 (va_A [(h0, .inr (6, fs)), (pa, .inr (2, ps))] sz) := by
  refine Met.ofW (cc := cX6_runToEnd) (maxL := 1) (ret := none) (by decide) rfl ?_
  intro p e s m args below meth c s₁ B hml hv
  obtain ⟨rfl, hsz, hP, hK, hD0, hN⟩ := hv
  have hx := B.exec
  have hb := B.bytes
  have hr := B.returns
  have hts := atoms_spec (ws := .code yX6_runToEnd cX6_runToEnd 1 none :: T0) B.pre
  have hT : ∀ w ∈ T0, w.before _ s = true := fun w h => hts w (List.mem_cons_of_mem _ h)
  have hown : s.vm.findClass RX6 = some m.cls := findClass_of_methodNamed B.named
  have hlocks := B.notSynchronized
  subst hsz
  have hD := hD0.self (sz := s.heap.size)
  generalize hAe : va_A [(h0, .inr (6, fs)), (pa, .inr (2, ps))] s.heap.size = A at hD ⊢
  have hA : ∀ q : Nat, s.heap.size ≤ q → A q := fun q h => by rw [← hAe]; exact Or.inr h
  have hS : va_S A s.heap s.heap [] := va_S.rf
  have hl := lv_entry ([.ref h0]) (n := 1) (Nat.le_of_ble_eq_true rfl)
  rw [lg_entry_eq]
  generalize (lg_sl ([.ref h0]) ++ List.replicate (1 - (lg_sl ([.ref h0])).length) Slot.unset).toArray = ls at hl ⊢
  have hl : lv_has ls 1 [(0, .ref h0)] := hl
  obtain ⟨H, hH⟩ : ∃ z, z = s.heap := ⟨_, rfl⟩
  rw [← hH] at hP
  have hS : va_S A s.heap H [] := by rw [hH]; exact hS
  suffices hgo : W p l e _ s m _ below meth c H [] 0 0 _ _ by rw [hH] at hgo; exact hgo
  have hO := hN.2.2.2.2
  have ho_hf := fo_refl fs
  have ho_hp := fo_refl ps
  refine lv_aload_n hx hb dX6_runToEnd_0 rfl (lv_at hl 0 rfl) ?_
  refine va_get (D := G) (ci := 6) (v := .int 12) (C := RX6) (T := TX6) (N := 20) hx hb hT ku_6 hown hK hP 0 rfl rfl 0 (by decide) (hT _ kw_8_2) (fun _ h9 => h9) (fh_at hf 1 rfl) dX6_runToEnd_1 ?_
  refine lv_bipush (v := 20) hx hb dX6_runToEnd_4 (by decide) ?_
  refine lv_icmp_gt (tgt := 59) hx hb dX6_runToEnd_6 (by decide) (fun c101 => absurd c101 (by decide)) (fun c101 => ?_)
  refine lv_aload_n hx hb dX6_runToEnd_9 rfl (lv_at hl 0 rfl) ?_
  refine tq_ci (wr := []) hP hD hS hA [0, 1] [] rfl rfl (by decide) (by decide) (va_runV (As := []) (rest := []) ⟨hx, hb, hml, hown, hT⟩ (c_X6_isBusy l G cA H.size h0 fs pa ps (fh_sub hf [0] rfl) (fh_sub hp [0, 1, 2] rfl)) (cwV 0 hT (tq_gV kw_47_18 kw_47_19 kw_47_20 kw_1_23 kw_47_21) rfl rfl rfl (by decide +kernel) ⟨Nat.le_of_ble_eq_true rfl, Nat.le_of_ble_eq_true rfl⟩) ⟨(tq_pre (isC := [0, 1]) hP hD hK hN rfl (by decide)).1, va_recv hK hP (ci := 6) (q0 := 0) rfl rfl, (tq_pre (isC := [0, 1]) hP hD hK hN rfl (by decide)).2⟩ rfl rfl hl.1 rfl (lv_room (Nat.le_of_ble_eq_true rfl)) dX6_runToEnd_10 ⟨Nat.le_of_ble_eq_true rfl, Nat.le_of_ble_eq_true rfl⟩) (fun r102 u103 H locs hw104 hP hD hS => ?_)
  refine W.widen (k := 0) (n := 0) (Nat.le_of_ble_eq_true rfl) (Nat.le_of_ble_eq_true rfl) ?_
  have hr105 := hw104
  subst hr105
  have hP : va_P G vwCl [(h0, .inr (6, fs)), (pa, .inr (2, ps))] H := hP
  have hD : va_D A [(h0, .inr (6, fs)), (pa, .inr (2, ps))] := hD
  refine lv_if_eq (tgt := 59) hx hb dX6_runToEnd_13 (by decide) (fun c106 => ?_) (fun c106 => absurd (by decide) c106)
  exact W.vret hx hb hr (fun t ht hW => ⟨⟨(), rfl, trivial, by rw [ht]; exact hP, hD⟩, hS.F ht⟩) hS.2.2 dX6_runToEnd_59

set_option maxHeartbeats 4000000 in
set_option maxRecDepth 100000 in
theorem c_X6_runToEnd_13 (l : Launch) (G : va_G) (cA : Nat → ClassId) (sz : Nat) (h0 : Nat) (fs : List Value) (pa : Nat) (ps : List Value) (hf : fh fs 20 [(19, .ref pa), (0, .int 13)]) (hp : fh ps 19 [(0, .int 0), (1, .int 0), (2, .int 0)]) : Met l yX6_runToEnd (.code yX6_runToEnd cX6_runToEnd 1 none :: T0) ({ frames := 1, cells := 0, slots := 0, locals := 21 }) (tqP G cA [.ref h0] [(h0, .inr (6, fs)), (pa, .inr (2, ps))] sz) (tqQv G cA (fun (u : Unit) => True) (fun (u : Unit) => [(h0, .inr (6, fs)), (pa, .inr (2, ps))]) (va_A [(h0, .inr (6, fs)), (pa, .inr (2, ps))] sz)) 0 0 (va_A [(h0, .inr (6, fs)), (pa, .inr (2, ps))] sz) := by
  refine Met.ofW (cc := cX6_runToEnd) (maxL := 1) (ret := none) (by decide) rfl ?_
  intro p e s m args below meth c s₁ B hml hv
  obtain ⟨rfl, hsz, hP, hK, hD0, hN⟩ := hv
  have hx := B.exec
  have hb := B.bytes
  have hr := B.returns
  have hts := atoms_spec (ws := .code yX6_runToEnd cX6_runToEnd 1 none :: T0) B.pre
  have hT : ∀ w ∈ T0, w.before _ s = true := fun w h => hts w (List.mem_cons_of_mem _ h)
  have hown : s.vm.findClass RX6 = some m.cls := findClass_of_methodNamed B.named
  have hlocks := B.notSynchronized
  subst hsz
  have hD := hD0.self (sz := s.heap.size)
  generalize hAe : va_A [(h0, .inr (6, fs)), (pa, .inr (2, ps))] s.heap.size = A at hD ⊢
  have hA : ∀ q : Nat, s.heap.size ≤ q → A q := fun q h => by rw [← hAe]; exact Or.inr h
  have hS : va_S A s.heap s.heap [] := va_S.rf
  have hl := lv_entry ([.ref h0]) (n := 1) (Nat.le_of_ble_eq_true rfl)
  rw [lg_entry_eq]
  generalize (lg_sl ([.ref h0]) ++ List.replicate (1 - (lg_sl ([.ref h0])).length) Slot.unset).toArray = ls at hl ⊢
  have hl : lv_has ls 1 [(0, .ref h0)] := hl
  obtain ⟨H, hH⟩ : ∃ z, z = s.heap := ⟨_, rfl⟩
  rw [← hH] at hP
  have hS : va_S A s.heap H [] := by rw [hH]; exact hS
  suffices hgo : W p l e _ s m _ below meth c H [] 0 0 _ _ by rw [hH] at hgo; exact hgo
  have hO := hN.2.2.2.2
  have ho_hf := fo_refl fs
  have ho_hp := fo_refl ps
  refine lv_aload_n hx hb dX6_runToEnd_0 rfl (lv_at hl 0 rfl) ?_
  refine va_get (D := G) (ci := 6) (v := .int 13) (C := RX6) (T := TX6) (N := 20) hx hb hT ku_6 hown hK hP 0 rfl rfl 0 (by decide) (hT _ kw_8_2) (fun _ h9 => h9) (fh_at hf 1 rfl) dX6_runToEnd_1 ?_
  refine lv_bipush (v := 20) hx hb dX6_runToEnd_4 (by decide) ?_
  refine lv_icmp_gt (tgt := 59) hx hb dX6_runToEnd_6 (by decide) (fun c101 => absurd c101 (by decide)) (fun c101 => ?_)
  refine lv_aload_n hx hb dX6_runToEnd_9 rfl (lv_at hl 0 rfl) ?_
  refine tq_ci (wr := []) hP hD hS hA [0, 1] [] rfl rfl (by decide) (by decide) (va_runV (As := []) (rest := []) ⟨hx, hb, hml, hown, hT⟩ (c_X6_isBusy l G cA H.size h0 fs pa ps (fh_sub hf [0] rfl) (fh_sub hp [0, 1, 2] rfl)) (cwV 0 hT (tq_gV kw_47_18 kw_47_19 kw_47_20 kw_1_23 kw_47_21) rfl rfl rfl (by decide +kernel) ⟨Nat.le_of_ble_eq_true rfl, Nat.le_of_ble_eq_true rfl⟩) ⟨(tq_pre (isC := [0, 1]) hP hD hK hN rfl (by decide)).1, va_recv hK hP (ci := 6) (q0 := 0) rfl rfl, (tq_pre (isC := [0, 1]) hP hD hK hN rfl (by decide)).2⟩ rfl rfl hl.1 rfl (lv_room (Nat.le_of_ble_eq_true rfl)) dX6_runToEnd_10 ⟨Nat.le_of_ble_eq_true rfl, Nat.le_of_ble_eq_true rfl⟩) (fun r102 u103 H locs hw104 hP hD hS => ?_)
  refine W.widen (k := 0) (n := 0) (Nat.le_of_ble_eq_true rfl) (Nat.le_of_ble_eq_true rfl) ?_
  have hr105 := hw104
  subst hr105
  have hP : va_P G vwCl [(h0, .inr (6, fs)), (pa, .inr (2, ps))] H := hP
  have hD : va_D A [(h0, .inr (6, fs)), (pa, .inr (2, ps))] := hD
  refine lv_if_eq (tgt := 59) hx hb dX6_runToEnd_13 (by decide) (fun c106 => ?_) (fun c106 => absurd (by decide) c106)
  exact W.vret hx hb hr (fun t ht hW => ⟨⟨(), rfl, trivial, by rw [ht]; exact hP, hD⟩, hS.F ht⟩) hS.2.2 dX6_runToEnd_59

set_option maxHeartbeats 4000000 in
set_option maxRecDepth 100000 in
theorem c_X6_runToEnd_14 (l : Launch) (G : va_G) (cA : Nat → ClassId) (sz : Nat) (h0 : Nat) (fs : List Value) (pa : Nat) (ps : List Value) (hf : fh fs 20 [(19, .ref pa), (0, .int 14)]) (hp : fh ps 19 [(0, .int 0), (1, .int 0), (2, .int 0)]) : Met l yX6_runToEnd (.code yX6_runToEnd cX6_runToEnd 1 none :: T0) ({ frames := 1, cells := 0, slots := 0, locals := 21 }) (tqP G cA [.ref h0] [(h0, .inr (6, fs)), (pa, .inr (2, ps))] sz) (tqQv G cA (fun (u : Unit) => True) (fun (u : Unit) => [(h0, .inr (6, fs)), (pa, .inr (2, ps))]) (va_A [(h0, .inr (6, fs)), (pa, .inr (2, ps))] sz)) 0 0 (va_A [(h0, .inr (6, fs)), (pa, .inr (2, ps))] sz) := by
  refine Met.ofW (cc := cX6_runToEnd) (maxL := 1) (ret := none) (by decide) rfl ?_
  intro p e s m args below meth c s₁ B hml hv
  obtain ⟨rfl, hsz, hP, hK, hD0, hN⟩ := hv
  have hx := B.exec
  have hb := B.bytes
  have hr := B.returns
  have hts := atoms_spec (ws := .code yX6_runToEnd cX6_runToEnd 1 none :: T0) B.pre
  have hT : ∀ w ∈ T0, w.before _ s = true := fun w h => hts w (List.mem_cons_of_mem _ h)
  have hown : s.vm.findClass RX6 = some m.cls := findClass_of_methodNamed B.named
  have hlocks := B.notSynchronized
  subst hsz
  have hD := hD0.self (sz := s.heap.size)
  generalize hAe : va_A [(h0, .inr (6, fs)), (pa, .inr (2, ps))] s.heap.size = A at hD ⊢
  have hA : ∀ q : Nat, s.heap.size ≤ q → A q := fun q h => by rw [← hAe]; exact Or.inr h
  have hS : va_S A s.heap s.heap [] := va_S.rf
  have hl := lv_entry ([.ref h0]) (n := 1) (Nat.le_of_ble_eq_true rfl)
  rw [lg_entry_eq]
  generalize (lg_sl ([.ref h0]) ++ List.replicate (1 - (lg_sl ([.ref h0])).length) Slot.unset).toArray = ls at hl ⊢
  have hl : lv_has ls 1 [(0, .ref h0)] := hl
  obtain ⟨H, hH⟩ : ∃ z, z = s.heap := ⟨_, rfl⟩
  rw [← hH] at hP
  have hS : va_S A s.heap H [] := by rw [hH]; exact hS
  suffices hgo : W p l e _ s m _ below meth c H [] 0 0 _ _ by rw [hH] at hgo; exact hgo
  have hO := hN.2.2.2.2
  have ho_hf := fo_refl fs
  have ho_hp := fo_refl ps
  refine lv_aload_n hx hb dX6_runToEnd_0 rfl (lv_at hl 0 rfl) ?_
  refine va_get (D := G) (ci := 6) (v := .int 14) (C := RX6) (T := TX6) (N := 20) hx hb hT ku_6 hown hK hP 0 rfl rfl 0 (by decide) (hT _ kw_8_2) (fun _ h9 => h9) (fh_at hf 1 rfl) dX6_runToEnd_1 ?_
  refine lv_bipush (v := 20) hx hb dX6_runToEnd_4 (by decide) ?_
  refine lv_icmp_gt (tgt := 59) hx hb dX6_runToEnd_6 (by decide) (fun c101 => absurd c101 (by decide)) (fun c101 => ?_)
  refine lv_aload_n hx hb dX6_runToEnd_9 rfl (lv_at hl 0 rfl) ?_
  refine tq_ci (wr := []) hP hD hS hA [0, 1] [] rfl rfl (by decide) (by decide) (va_runV (As := []) (rest := []) ⟨hx, hb, hml, hown, hT⟩ (c_X6_isBusy l G cA H.size h0 fs pa ps (fh_sub hf [0] rfl) (fh_sub hp [0, 1, 2] rfl)) (cwV 0 hT (tq_gV kw_47_18 kw_47_19 kw_47_20 kw_1_23 kw_47_21) rfl rfl rfl (by decide +kernel) ⟨Nat.le_of_ble_eq_true rfl, Nat.le_of_ble_eq_true rfl⟩) ⟨(tq_pre (isC := [0, 1]) hP hD hK hN rfl (by decide)).1, va_recv hK hP (ci := 6) (q0 := 0) rfl rfl, (tq_pre (isC := [0, 1]) hP hD hK hN rfl (by decide)).2⟩ rfl rfl hl.1 rfl (lv_room (Nat.le_of_ble_eq_true rfl)) dX6_runToEnd_10 ⟨Nat.le_of_ble_eq_true rfl, Nat.le_of_ble_eq_true rfl⟩) (fun r102 u103 H locs hw104 hP hD hS => ?_)
  refine W.widen (k := 0) (n := 0) (Nat.le_of_ble_eq_true rfl) (Nat.le_of_ble_eq_true rfl) ?_
  have hr105 := hw104
  subst hr105
  have hP : va_P G vwCl [(h0, .inr (6, fs)), (pa, .inr (2, ps))] H := hP
  have hD : va_D A [(h0, .inr (6, fs)), (pa, .inr (2, ps))] := hD
  refine lv_if_eq (tgt := 59) hx hb dX6_runToEnd_13 (by decide) (fun c106 => ?_) (fun c106 => absurd (by decide) c106)
  exact W.vret hx hb hr (fun t ht hW => ⟨⟨(), rfl, trivial, by rw [ht]; exact hP, hD⟩, hS.F ht⟩) hS.2.2 dX6_runToEnd_59

set_option maxHeartbeats 4000000 in
set_option maxRecDepth 100000 in
theorem c_X6_runToEnd_15 (l : Launch) (G : va_G) (cA : Nat → ClassId) (sz : Nat) (h0 : Nat) (fs : List Value) (pa : Nat) (ps : List Value) (hf : fh fs 20 [(19, .ref pa), (0, .int 15)]) (hp : fh ps 19 [(0, .int 0), (1, .int 0), (2, .int 0)]) : Met l yX6_runToEnd (.code yX6_runToEnd cX6_runToEnd 1 none :: T0) ({ frames := 1, cells := 0, slots := 0, locals := 21 }) (tqP G cA [.ref h0] [(h0, .inr (6, fs)), (pa, .inr (2, ps))] sz) (tqQv G cA (fun (u : Unit) => True) (fun (u : Unit) => [(h0, .inr (6, fs)), (pa, .inr (2, ps))]) (va_A [(h0, .inr (6, fs)), (pa, .inr (2, ps))] sz)) 0 0 (va_A [(h0, .inr (6, fs)), (pa, .inr (2, ps))] sz) := by
  refine Met.ofW (cc := cX6_runToEnd) (maxL := 1) (ret := none) (by decide) rfl ?_
  intro p e s m args below meth c s₁ B hml hv
  obtain ⟨rfl, hsz, hP, hK, hD0, hN⟩ := hv
  have hx := B.exec
  have hb := B.bytes
  have hr := B.returns
  have hts := atoms_spec (ws := .code yX6_runToEnd cX6_runToEnd 1 none :: T0) B.pre
  have hT : ∀ w ∈ T0, w.before _ s = true := fun w h => hts w (List.mem_cons_of_mem _ h)
  have hown : s.vm.findClass RX6 = some m.cls := findClass_of_methodNamed B.named
  have hlocks := B.notSynchronized
  subst hsz
  have hD := hD0.self (sz := s.heap.size)
  generalize hAe : va_A [(h0, .inr (6, fs)), (pa, .inr (2, ps))] s.heap.size = A at hD ⊢
  have hA : ∀ q : Nat, s.heap.size ≤ q → A q := fun q h => by rw [← hAe]; exact Or.inr h
  have hS : va_S A s.heap s.heap [] := va_S.rf
  have hl := lv_entry ([.ref h0]) (n := 1) (Nat.le_of_ble_eq_true rfl)
  rw [lg_entry_eq]
  generalize (lg_sl ([.ref h0]) ++ List.replicate (1 - (lg_sl ([.ref h0])).length) Slot.unset).toArray = ls at hl ⊢
  have hl : lv_has ls 1 [(0, .ref h0)] := hl
  obtain ⟨H, hH⟩ : ∃ z, z = s.heap := ⟨_, rfl⟩
  rw [← hH] at hP
  have hS : va_S A s.heap H [] := by rw [hH]; exact hS
  suffices hgo : W p l e _ s m _ below meth c H [] 0 0 _ _ by rw [hH] at hgo; exact hgo
  have hO := hN.2.2.2.2
  have ho_hf := fo_refl fs
  have ho_hp := fo_refl ps
  refine lv_aload_n hx hb dX6_runToEnd_0 rfl (lv_at hl 0 rfl) ?_
  refine va_get (D := G) (ci := 6) (v := .int 15) (C := RX6) (T := TX6) (N := 20) hx hb hT ku_6 hown hK hP 0 rfl rfl 0 (by decide) (hT _ kw_8_2) (fun _ h9 => h9) (fh_at hf 1 rfl) dX6_runToEnd_1 ?_
  refine lv_bipush (v := 20) hx hb dX6_runToEnd_4 (by decide) ?_
  refine lv_icmp_gt (tgt := 59) hx hb dX6_runToEnd_6 (by decide) (fun c101 => absurd c101 (by decide)) (fun c101 => ?_)
  refine lv_aload_n hx hb dX6_runToEnd_9 rfl (lv_at hl 0 rfl) ?_
  refine tq_ci (wr := []) hP hD hS hA [0, 1] [] rfl rfl (by decide) (by decide) (va_runV (As := []) (rest := []) ⟨hx, hb, hml, hown, hT⟩ (c_X6_isBusy l G cA H.size h0 fs pa ps (fh_sub hf [0] rfl) (fh_sub hp [0, 1, 2] rfl)) (cwV 0 hT (tq_gV kw_47_18 kw_47_19 kw_47_20 kw_1_23 kw_47_21) rfl rfl rfl (by decide +kernel) ⟨Nat.le_of_ble_eq_true rfl, Nat.le_of_ble_eq_true rfl⟩) ⟨(tq_pre (isC := [0, 1]) hP hD hK hN rfl (by decide)).1, va_recv hK hP (ci := 6) (q0 := 0) rfl rfl, (tq_pre (isC := [0, 1]) hP hD hK hN rfl (by decide)).2⟩ rfl rfl hl.1 rfl (lv_room (Nat.le_of_ble_eq_true rfl)) dX6_runToEnd_10 ⟨Nat.le_of_ble_eq_true rfl, Nat.le_of_ble_eq_true rfl⟩) (fun r102 u103 H locs hw104 hP hD hS => ?_)
  refine W.widen (k := 0) (n := 0) (Nat.le_of_ble_eq_true rfl) (Nat.le_of_ble_eq_true rfl) ?_
  have hr105 := hw104
  subst hr105
  have hP : va_P G vwCl [(h0, .inr (6, fs)), (pa, .inr (2, ps))] H := hP
  have hD : va_D A [(h0, .inr (6, fs)), (pa, .inr (2, ps))] := hD
  refine lv_if_eq (tgt := 59) hx hb dX6_runToEnd_13 (by decide) (fun c106 => ?_) (fun c106 => absurd (by decide) c106)
  exact W.vret hx hb hr (fun t ht hW => ⟨⟨(), rfl, trivial, by rw [ht]; exact hP, hD⟩, hS.F ht⟩) hS.2.2 dX6_runToEnd_59

set_option maxHeartbeats 4000000 in
set_option maxRecDepth 100000 in
theorem c_X6_runToEnd_16 (l : Launch) (G : va_G) (cA : Nat → ClassId) (sz : Nat) (h0 : Nat) (fs : List Value) (pa : Nat) (ps : List Value) (hf : fh fs 20 [(19, .ref pa), (0, .int 16)]) (hp : fh ps 19 [(0, .int 0), (1, .int 0), (2, .int 0)]) : Met l yX6_runToEnd (.code yX6_runToEnd cX6_runToEnd 1 none :: T0) ({ frames := 1, cells := 0, slots := 0, locals := 21 }) (tqP G cA [.ref h0] [(h0, .inr (6, fs)), (pa, .inr (2, ps))] sz) (tqQv G cA (fun (u : Unit) => True) (fun (u : Unit) => [(h0, .inr (6, fs)), (pa, .inr (2, ps))]) (va_A [(h0, .inr (6, fs)), (pa, .inr (2, ps))] sz)) 0 0 (va_A [(h0, .inr (6, fs)), (pa, .inr (2, ps))] sz) := by
  refine Met.ofW (cc := cX6_runToEnd) (maxL := 1) (ret := none) (by decide) rfl ?_
  intro p e s m args below meth c s₁ B hml hv
  obtain ⟨rfl, hsz, hP, hK, hD0, hN⟩ := hv
  have hx := B.exec
  have hb := B.bytes
  have hr := B.returns
  have hts := atoms_spec (ws := .code yX6_runToEnd cX6_runToEnd 1 none :: T0) B.pre
  have hT : ∀ w ∈ T0, w.before _ s = true := fun w h => hts w (List.mem_cons_of_mem _ h)
  have hown : s.vm.findClass RX6 = some m.cls := findClass_of_methodNamed B.named
  have hlocks := B.notSynchronized
  subst hsz
  have hD := hD0.self (sz := s.heap.size)
  generalize hAe : va_A [(h0, .inr (6, fs)), (pa, .inr (2, ps))] s.heap.size = A at hD ⊢
  have hA : ∀ q : Nat, s.heap.size ≤ q → A q := fun q h => by rw [← hAe]; exact Or.inr h
  have hS : va_S A s.heap s.heap [] := va_S.rf
  have hl := lv_entry ([.ref h0]) (n := 1) (Nat.le_of_ble_eq_true rfl)
  rw [lg_entry_eq]
  generalize (lg_sl ([.ref h0]) ++ List.replicate (1 - (lg_sl ([.ref h0])).length) Slot.unset).toArray = ls at hl ⊢
  have hl : lv_has ls 1 [(0, .ref h0)] := hl
  obtain ⟨H, hH⟩ : ∃ z, z = s.heap := ⟨_, rfl⟩
  rw [← hH] at hP
  have hS : va_S A s.heap H [] := by rw [hH]; exact hS
  suffices hgo : W p l e _ s m _ below meth c H [] 0 0 _ _ by rw [hH] at hgo; exact hgo
  have hO := hN.2.2.2.2
  have ho_hf := fo_refl fs
  have ho_hp := fo_refl ps
  refine lv_aload_n hx hb dX6_runToEnd_0 rfl (lv_at hl 0 rfl) ?_
  refine va_get (D := G) (ci := 6) (v := .int 16) (C := RX6) (T := TX6) (N := 20) hx hb hT ku_6 hown hK hP 0 rfl rfl 0 (by decide) (hT _ kw_8_2) (fun _ h9 => h9) (fh_at hf 1 rfl) dX6_runToEnd_1 ?_
  refine lv_bipush (v := 20) hx hb dX6_runToEnd_4 (by decide) ?_
  refine lv_icmp_gt (tgt := 59) hx hb dX6_runToEnd_6 (by decide) (fun c101 => absurd c101 (by decide)) (fun c101 => ?_)
  refine lv_aload_n hx hb dX6_runToEnd_9 rfl (lv_at hl 0 rfl) ?_
  refine tq_ci (wr := []) hP hD hS hA [0, 1] [] rfl rfl (by decide) (by decide) (va_runV (As := []) (rest := []) ⟨hx, hb, hml, hown, hT⟩ (c_X6_isBusy l G cA H.size h0 fs pa ps (fh_sub hf [0] rfl) (fh_sub hp [0, 1, 2] rfl)) (cwV 0 hT (tq_gV kw_47_18 kw_47_19 kw_47_20 kw_1_23 kw_47_21) rfl rfl rfl (by decide +kernel) ⟨Nat.le_of_ble_eq_true rfl, Nat.le_of_ble_eq_true rfl⟩) ⟨(tq_pre (isC := [0, 1]) hP hD hK hN rfl (by decide)).1, va_recv hK hP (ci := 6) (q0 := 0) rfl rfl, (tq_pre (isC := [0, 1]) hP hD hK hN rfl (by decide)).2⟩ rfl rfl hl.1 rfl (lv_room (Nat.le_of_ble_eq_true rfl)) dX6_runToEnd_10 ⟨Nat.le_of_ble_eq_true rfl, Nat.le_of_ble_eq_true rfl⟩) (fun r102 u103 H locs hw104 hP hD hS => ?_)
  refine W.widen (k := 0) (n := 0) (Nat.le_of_ble_eq_true rfl) (Nat.le_of_ble_eq_true rfl) ?_
  have hr105 := hw104
  subst hr105
  have hP : va_P G vwCl [(h0, .inr (6, fs)), (pa, .inr (2, ps))] H := hP
  have hD : va_D A [(h0, .inr (6, fs)), (pa, .inr (2, ps))] := hD
  refine lv_if_eq (tgt := 59) hx hb dX6_runToEnd_13 (by decide) (fun c106 => ?_) (fun c106 => absurd (by decide) c106)
  exact W.vret hx hb hr (fun t ht hW => ⟨⟨(), rfl, trivial, by rw [ht]; exact hP, hD⟩, hS.F ht⟩) hS.2.2 dX6_runToEnd_59

set_option maxHeartbeats 4000000 in
set_option maxRecDepth 100000 in
theorem c_X6_runToEnd_17 (l : Launch) (G : va_G) (cA : Nat → ClassId) (sz : Nat) (h0 : Nat) (fs : List Value) (pa : Nat) (ps : List Value) (hf : fh fs 20 [(19, .ref pa), (0, .int 17)]) (hp : fh ps 19 [(0, .int 0), (1, .int 0), (2, .int 0)]) : Met l yX6_runToEnd (.code yX6_runToEnd cX6_runToEnd 1 none :: T0) ({ frames := 1, cells := 0, slots := 0, locals := 21 }) (tqP G cA [.ref h0] [(h0, .inr (6, fs)), (pa, .inr (2, ps))] sz) (tqQv G cA (fun (u : Unit) => True) (fun (u : Unit) => [(h0, .inr (6, fs)), (pa, .inr (2, ps))]) (va_A [(h0, .inr (6, fs)), (pa, .inr (2, ps))] sz)) 0 0 (va_A [(h0, .inr (6, fs)), (pa, .inr (2, ps))] sz) := by
  refine Met.ofW (cc := cX6_runToEnd) (maxL := 1) (ret := none) (by decide) rfl ?_
  intro p e s m args below meth c s₁ B hml hv
  obtain ⟨rfl, hsz, hP, hK, hD0, hN⟩ := hv
  have hx := B.exec
  have hb := B.bytes
  have hr := B.returns
  have hts := atoms_spec (ws := .code yX6_runToEnd cX6_runToEnd 1 none :: T0) B.pre
  have hT : ∀ w ∈ T0, w.before _ s = true := fun w h => hts w (List.mem_cons_of_mem _ h)
  have hown : s.vm.findClass RX6 = some m.cls := findClass_of_methodNamed B.named
  have hlocks := B.notSynchronized
  subst hsz
  have hD := hD0.self (sz := s.heap.size)
  generalize hAe : va_A [(h0, .inr (6, fs)), (pa, .inr (2, ps))] s.heap.size = A at hD ⊢
  have hA : ∀ q : Nat, s.heap.size ≤ q → A q := fun q h => by rw [← hAe]; exact Or.inr h
  have hS : va_S A s.heap s.heap [] := va_S.rf
  have hl := lv_entry ([.ref h0]) (n := 1) (Nat.le_of_ble_eq_true rfl)
  rw [lg_entry_eq]
  generalize (lg_sl ([.ref h0]) ++ List.replicate (1 - (lg_sl ([.ref h0])).length) Slot.unset).toArray = ls at hl ⊢
  have hl : lv_has ls 1 [(0, .ref h0)] := hl
  obtain ⟨H, hH⟩ : ∃ z, z = s.heap := ⟨_, rfl⟩
  rw [← hH] at hP
  have hS : va_S A s.heap H [] := by rw [hH]; exact hS
  suffices hgo : W p l e _ s m _ below meth c H [] 0 0 _ _ by rw [hH] at hgo; exact hgo
  have hO := hN.2.2.2.2
  have ho_hf := fo_refl fs
  have ho_hp := fo_refl ps
  refine lv_aload_n hx hb dX6_runToEnd_0 rfl (lv_at hl 0 rfl) ?_
  refine va_get (D := G) (ci := 6) (v := .int 17) (C := RX6) (T := TX6) (N := 20) hx hb hT ku_6 hown hK hP 0 rfl rfl 0 (by decide) (hT _ kw_8_2) (fun _ h9 => h9) (fh_at hf 1 rfl) dX6_runToEnd_1 ?_
  refine lv_bipush (v := 20) hx hb dX6_runToEnd_4 (by decide) ?_
  refine lv_icmp_gt (tgt := 59) hx hb dX6_runToEnd_6 (by decide) (fun c101 => absurd c101 (by decide)) (fun c101 => ?_)
  refine lv_aload_n hx hb dX6_runToEnd_9 rfl (lv_at hl 0 rfl) ?_
  refine tq_ci (wr := []) hP hD hS hA [0, 1] [] rfl rfl (by decide) (by decide) (va_runV (As := []) (rest := []) ⟨hx, hb, hml, hown, hT⟩ (c_X6_isBusy l G cA H.size h0 fs pa ps (fh_sub hf [0] rfl) (fh_sub hp [0, 1, 2] rfl)) (cwV 0 hT (tq_gV kw_47_18 kw_47_19 kw_47_20 kw_1_23 kw_47_21) rfl rfl rfl (by decide +kernel) ⟨Nat.le_of_ble_eq_true rfl, Nat.le_of_ble_eq_true rfl⟩) ⟨(tq_pre (isC := [0, 1]) hP hD hK hN rfl (by decide)).1, va_recv hK hP (ci := 6) (q0 := 0) rfl rfl, (tq_pre (isC := [0, 1]) hP hD hK hN rfl (by decide)).2⟩ rfl rfl hl.1 rfl (lv_room (Nat.le_of_ble_eq_true rfl)) dX6_runToEnd_10 ⟨Nat.le_of_ble_eq_true rfl, Nat.le_of_ble_eq_true rfl⟩) (fun r102 u103 H locs hw104 hP hD hS => ?_)
  refine W.widen (k := 0) (n := 0) (Nat.le_of_ble_eq_true rfl) (Nat.le_of_ble_eq_true rfl) ?_
  have hr105 := hw104
  subst hr105
  have hP : va_P G vwCl [(h0, .inr (6, fs)), (pa, .inr (2, ps))] H := hP
  have hD : va_D A [(h0, .inr (6, fs)), (pa, .inr (2, ps))] := hD
  refine lv_if_eq (tgt := 59) hx hb dX6_runToEnd_13 (by decide) (fun c106 => ?_) (fun c106 => absurd (by decide) c106)
  exact W.vret hx hb hr (fun t ht hW => ⟨⟨(), rfl, trivial, by rw [ht]; exact hP, hD⟩, hS.F ht⟩) hS.2.2 dX6_runToEnd_59

set_option maxHeartbeats 4000000 in
set_option maxRecDepth 100000 in
theorem c_X6_runToEnd_18 (l : Launch) (G : va_G) (cA : Nat → ClassId) (sz : Nat) (h0 : Nat) (fs : List Value) (pa : Nat) (ps : List Value) (hf : fh fs 20 [(19, .ref pa), (0, .int 18)]) (hp : fh ps 19 [(0, .int 0), (1, .int 0), (2, .int 0)]) : Met l yX6_runToEnd (.code yX6_runToEnd cX6_runToEnd 1 none :: T0) ({ frames := 1, cells := 0, slots := 0, locals := 21 }) (tqP G cA [.ref h0] [(h0, .inr (6, fs)), (pa, .inr (2, ps))] sz) (tqQv G cA (fun (u : Unit) => True) (fun (u : Unit) => [(h0, .inr (6, fs)), (pa, .inr (2, ps))]) (va_A [(h0, .inr (6, fs)), (pa, .inr (2, ps))] sz)) 0 0 (va_A [(h0, .inr (6, fs)), (pa, .inr (2, ps))] sz) := by
  refine Met.ofW (cc := cX6_runToEnd) (maxL := 1) (ret := none) (by decide) rfl ?_
  intro p e s m args below meth c s₁ B hml hv
  obtain ⟨rfl, hsz, hP, hK, hD0, hN⟩ := hv
  have hx := B.exec
  have hb := B.bytes
  have hr := B.returns
  have hts := atoms_spec (ws := .code yX6_runToEnd cX6_runToEnd 1 none :: T0) B.pre
  have hT : ∀ w ∈ T0, w.before _ s = true := fun w h => hts w (List.mem_cons_of_mem _ h)
  have hown : s.vm.findClass RX6 = some m.cls := findClass_of_methodNamed B.named
  have hlocks := B.notSynchronized
  subst hsz
  have hD := hD0.self (sz := s.heap.size)
  generalize hAe : va_A [(h0, .inr (6, fs)), (pa, .inr (2, ps))] s.heap.size = A at hD ⊢
  have hA : ∀ q : Nat, s.heap.size ≤ q → A q := fun q h => by rw [← hAe]; exact Or.inr h
  have hS : va_S A s.heap s.heap [] := va_S.rf
  have hl := lv_entry ([.ref h0]) (n := 1) (Nat.le_of_ble_eq_true rfl)
  rw [lg_entry_eq]
  generalize (lg_sl ([.ref h0]) ++ List.replicate (1 - (lg_sl ([.ref h0])).length) Slot.unset).toArray = ls at hl ⊢
  have hl : lv_has ls 1 [(0, .ref h0)] := hl
  obtain ⟨H, hH⟩ : ∃ z, z = s.heap := ⟨_, rfl⟩
  rw [← hH] at hP
  have hS : va_S A s.heap H [] := by rw [hH]; exact hS
  suffices hgo : W p l e _ s m _ below meth c H [] 0 0 _ _ by rw [hH] at hgo; exact hgo
  have hO := hN.2.2.2.2
  have ho_hf := fo_refl fs
  have ho_hp := fo_refl ps
  refine lv_aload_n hx hb dX6_runToEnd_0 rfl (lv_at hl 0 rfl) ?_
  refine va_get (D := G) (ci := 6) (v := .int 18) (C := RX6) (T := TX6) (N := 20) hx hb hT ku_6 hown hK hP 0 rfl rfl 0 (by decide) (hT _ kw_8_2) (fun _ h9 => h9) (fh_at hf 1 rfl) dX6_runToEnd_1 ?_
  refine lv_bipush (v := 20) hx hb dX6_runToEnd_4 (by decide) ?_
  refine lv_icmp_gt (tgt := 59) hx hb dX6_runToEnd_6 (by decide) (fun c101 => absurd c101 (by decide)) (fun c101 => ?_)
  refine lv_aload_n hx hb dX6_runToEnd_9 rfl (lv_at hl 0 rfl) ?_
  refine tq_ci (wr := []) hP hD hS hA [0, 1] [] rfl rfl (by decide) (by decide) (va_runV (As := []) (rest := []) ⟨hx, hb, hml, hown, hT⟩ (c_X6_isBusy l G cA H.size h0 fs pa ps (fh_sub hf [0] rfl) (fh_sub hp [0, 1, 2] rfl)) (cwV 0 hT (tq_gV kw_47_18 kw_47_19 kw_47_20 kw_1_23 kw_47_21) rfl rfl rfl (by decide +kernel) ⟨Nat.le_of_ble_eq_true rfl, Nat.le_of_ble_eq_true rfl⟩) ⟨(tq_pre (isC := [0, 1]) hP hD hK hN rfl (by decide)).1, va_recv hK hP (ci := 6) (q0 := 0) rfl rfl, (tq_pre (isC := [0, 1]) hP hD hK hN rfl (by decide)).2⟩ rfl rfl hl.1 rfl (lv_room (Nat.le_of_ble_eq_true rfl)) dX6_runToEnd_10 ⟨Nat.le_of_ble_eq_true rfl, Nat.le_of_ble_eq_true rfl⟩) (fun r102 u103 H locs hw104 hP hD hS => ?_)
  refine W.widen (k := 0) (n := 0) (Nat.le_of_ble_eq_true rfl) (Nat.le_of_ble_eq_true rfl) ?_
  have hr105 := hw104
  subst hr105
  have hP : va_P G vwCl [(h0, .inr (6, fs)), (pa, .inr (2, ps))] H := hP
  have hD : va_D A [(h0, .inr (6, fs)), (pa, .inr (2, ps))] := hD
  refine lv_if_eq (tgt := 59) hx hb dX6_runToEnd_13 (by decide) (fun c106 => ?_) (fun c106 => absurd (by decide) c106)
  exact W.vret hx hb hr (fun t ht hW => ⟨⟨(), rfl, trivial, by rw [ht]; exact hP, hD⟩, hS.F ht⟩) hS.2.2 dX6_runToEnd_59

set_option maxHeartbeats 4000000 in
set_option maxRecDepth 100000 in
theorem c_X6_runToEnd_19 (l : Launch) (G : va_G) (cA : Nat → ClassId) (sz : Nat) (h0 : Nat) (fs : List Value) (pa : Nat) (ps : List Value) (hf : fh fs 20 [(19, .ref pa), (0, .int 19)]) (hp : fh ps 19 [(0, .int 0), (1, .int 0), (2, .int 0)]) : Met l yX6_runToEnd (.code yX6_runToEnd cX6_runToEnd 1 none :: T0) ({ frames := 1, cells := 0, slots := 0, locals := 21 }) (tqP G cA [.ref h0] [(h0, .inr (6, fs)), (pa, .inr (2, ps))] sz) (tqQv G cA (fun (u : Unit) => True) (fun (u : Unit) => [(h0, .inr (6, fs)), (pa, .inr (2, ps))]) (va_A [(h0, .inr (6, fs)), (pa, .inr (2, ps))] sz)) 0 0 (va_A [(h0, .inr (6, fs)), (pa, .inr (2, ps))] sz) := by
  refine Met.ofW (cc := cX6_runToEnd) (maxL := 1) (ret := none) (by decide) rfl ?_
  intro p e s m args below meth c s₁ B hml hv
  obtain ⟨rfl, hsz, hP, hK, hD0, hN⟩ := hv
  have hx := B.exec
  have hb := B.bytes
  have hr := B.returns
  have hts := atoms_spec (ws := .code yX6_runToEnd cX6_runToEnd 1 none :: T0) B.pre
  have hT : ∀ w ∈ T0, w.before _ s = true := fun w h => hts w (List.mem_cons_of_mem _ h)
  have hown : s.vm.findClass RX6 = some m.cls := findClass_of_methodNamed B.named
  have hlocks := B.notSynchronized
  subst hsz
  have hD := hD0.self (sz := s.heap.size)
  generalize hAe : va_A [(h0, .inr (6, fs)), (pa, .inr (2, ps))] s.heap.size = A at hD ⊢
  have hA : ∀ q : Nat, s.heap.size ≤ q → A q := fun q h => by rw [← hAe]; exact Or.inr h
  have hS : va_S A s.heap s.heap [] := va_S.rf
  have hl := lv_entry ([.ref h0]) (n := 1) (Nat.le_of_ble_eq_true rfl)
  rw [lg_entry_eq]
  generalize (lg_sl ([.ref h0]) ++ List.replicate (1 - (lg_sl ([.ref h0])).length) Slot.unset).toArray = ls at hl ⊢
  have hl : lv_has ls 1 [(0, .ref h0)] := hl
  obtain ⟨H, hH⟩ : ∃ z, z = s.heap := ⟨_, rfl⟩
  rw [← hH] at hP
  have hS : va_S A s.heap H [] := by rw [hH]; exact hS
  suffices hgo : W p l e _ s m _ below meth c H [] 0 0 _ _ by rw [hH] at hgo; exact hgo
  have hO := hN.2.2.2.2
  have ho_hf := fo_refl fs
  have ho_hp := fo_refl ps
  refine lv_aload_n hx hb dX6_runToEnd_0 rfl (lv_at hl 0 rfl) ?_
  refine va_get (D := G) (ci := 6) (v := .int 19) (C := RX6) (T := TX6) (N := 20) hx hb hT ku_6 hown hK hP 0 rfl rfl 0 (by decide) (hT _ kw_8_2) (fun _ h9 => h9) (fh_at hf 1 rfl) dX6_runToEnd_1 ?_
  refine lv_bipush (v := 20) hx hb dX6_runToEnd_4 (by decide) ?_
  refine lv_icmp_gt (tgt := 59) hx hb dX6_runToEnd_6 (by decide) (fun c101 => absurd c101 (by decide)) (fun c101 => ?_)
  refine lv_aload_n hx hb dX6_runToEnd_9 rfl (lv_at hl 0 rfl) ?_
  refine tq_ci (wr := []) hP hD hS hA [0, 1] [] rfl rfl (by decide) (by decide) (va_runV (As := []) (rest := []) ⟨hx, hb, hml, hown, hT⟩ (c_X6_isBusy l G cA H.size h0 fs pa ps (fh_sub hf [0] rfl) (fh_sub hp [0, 1, 2] rfl)) (cwV 0 hT (tq_gV kw_47_18 kw_47_19 kw_47_20 kw_1_23 kw_47_21) rfl rfl rfl (by decide +kernel) ⟨Nat.le_of_ble_eq_true rfl, Nat.le_of_ble_eq_true rfl⟩) ⟨(tq_pre (isC := [0, 1]) hP hD hK hN rfl (by decide)).1, va_recv hK hP (ci := 6) (q0 := 0) rfl rfl, (tq_pre (isC := [0, 1]) hP hD hK hN rfl (by decide)).2⟩ rfl rfl hl.1 rfl (lv_room (Nat.le_of_ble_eq_true rfl)) dX6_runToEnd_10 ⟨Nat.le_of_ble_eq_true rfl, Nat.le_of_ble_eq_true rfl⟩) (fun r102 u103 H locs hw104 hP hD hS => ?_)
  refine W.widen (k := 0) (n := 0) (Nat.le_of_ble_eq_true rfl) (Nat.le_of_ble_eq_true rfl) ?_
  have hr105 := hw104
  subst hr105
  have hP : va_P G vwCl [(h0, .inr (6, fs)), (pa, .inr (2, ps))] H := hP
  have hD : va_D A [(h0, .inr (6, fs)), (pa, .inr (2, ps))] := hD
  refine lv_if_eq (tgt := 59) hx hb dX6_runToEnd_13 (by decide) (fun c106 => ?_) (fun c106 => absurd (by decide) c106)
  exact W.vret hx hb hr (fun t ht hW => ⟨⟨(), rfl, trivial, by rw [ht]; exact hP, hD⟩, hS.F ht⟩) hS.2.2 dX6_runToEnd_59

set_option maxHeartbeats 4000000 in
set_option maxRecDepth 100000 in
theorem c_X6_runToEnd_20 (l : Launch) (G : va_G) (cA : Nat → ClassId) (sz : Nat) (h0 : Nat) (fs : List Value) (pa : Nat) (ps : List Value) (hf : fh fs 20 [(19, .ref pa), (0, .int 20)]) (hp : fh ps 19 [(0, .int 0), (1, .int 0), (2, .int 0)]) : Met l yX6_runToEnd (.code yX6_runToEnd cX6_runToEnd 1 none :: T0) ({ frames := 1, cells := 0, slots := 0, locals := 21 }) (tqP G cA [.ref h0] [(h0, .inr (6, fs)), (pa, .inr (2, ps))] sz) (tqQv G cA (fun (u : Unit) => True) (fun (u : Unit) => [(h0, .inr (6, fs)), (pa, .inr (2, ps))]) (va_A [(h0, .inr (6, fs)), (pa, .inr (2, ps))] sz)) 0 0 (va_A [(h0, .inr (6, fs)), (pa, .inr (2, ps))] sz) := by
  refine Met.ofW (cc := cX6_runToEnd) (maxL := 1) (ret := none) (by decide) rfl ?_
  intro p e s m args below meth c s₁ B hml hv
  obtain ⟨rfl, hsz, hP, hK, hD0, hN⟩ := hv
  have hx := B.exec
  have hb := B.bytes
  have hr := B.returns
  have hts := atoms_spec (ws := .code yX6_runToEnd cX6_runToEnd 1 none :: T0) B.pre
  have hT : ∀ w ∈ T0, w.before _ s = true := fun w h => hts w (List.mem_cons_of_mem _ h)
  have hown : s.vm.findClass RX6 = some m.cls := findClass_of_methodNamed B.named
  have hlocks := B.notSynchronized
  subst hsz
  have hD := hD0.self (sz := s.heap.size)
  generalize hAe : va_A [(h0, .inr (6, fs)), (pa, .inr (2, ps))] s.heap.size = A at hD ⊢
  have hA : ∀ q : Nat, s.heap.size ≤ q → A q := fun q h => by rw [← hAe]; exact Or.inr h
  have hS : va_S A s.heap s.heap [] := va_S.rf
  have hl := lv_entry ([.ref h0]) (n := 1) (Nat.le_of_ble_eq_true rfl)
  rw [lg_entry_eq]
  generalize (lg_sl ([.ref h0]) ++ List.replicate (1 - (lg_sl ([.ref h0])).length) Slot.unset).toArray = ls at hl ⊢
  have hl : lv_has ls 1 [(0, .ref h0)] := hl
  obtain ⟨H, hH⟩ : ∃ z, z = s.heap := ⟨_, rfl⟩
  rw [← hH] at hP
  have hS : va_S A s.heap H [] := by rw [hH]; exact hS
  suffices hgo : W p l e _ s m _ below meth c H [] 0 0 _ _ by rw [hH] at hgo; exact hgo
  have hO := hN.2.2.2.2
  have ho_hf := fo_refl fs
  have ho_hp := fo_refl ps
  refine lv_aload_n hx hb dX6_runToEnd_0 rfl (lv_at hl 0 rfl) ?_
  refine va_get (D := G) (ci := 6) (v := .int 20) (C := RX6) (T := TX6) (N := 20) hx hb hT ku_6 hown hK hP 0 rfl rfl 0 (by decide) (hT _ kw_8_2) (fun _ h9 => h9) (fh_at hf 1 rfl) dX6_runToEnd_1 ?_
  refine lv_bipush (v := 20) hx hb dX6_runToEnd_4 (by decide) ?_
  refine lv_icmp_gt (tgt := 59) hx hb dX6_runToEnd_6 (by decide) (fun c101 => absurd c101 (by decide)) (fun c101 => ?_)
  refine lv_aload_n hx hb dX6_runToEnd_9 rfl (lv_at hl 0 rfl) ?_
  refine tq_ci (wr := []) hP hD hS hA [0, 1] [] rfl rfl (by decide) (by decide) (va_runV (As := []) (rest := []) ⟨hx, hb, hml, hown, hT⟩ (c_X6_isBusy l G cA H.size h0 fs pa ps (fh_sub hf [0] rfl) (fh_sub hp [0, 1, 2] rfl)) (cwV 0 hT (tq_gV kw_47_18 kw_47_19 kw_47_20 kw_1_23 kw_47_21) rfl rfl rfl (by decide +kernel) ⟨Nat.le_of_ble_eq_true rfl, Nat.le_of_ble_eq_true rfl⟩) ⟨(tq_pre (isC := [0, 1]) hP hD hK hN rfl (by decide)).1, va_recv hK hP (ci := 6) (q0 := 0) rfl rfl, (tq_pre (isC := [0, 1]) hP hD hK hN rfl (by decide)).2⟩ rfl rfl hl.1 rfl (lv_room (Nat.le_of_ble_eq_true rfl)) dX6_runToEnd_10 ⟨Nat.le_of_ble_eq_true rfl, Nat.le_of_ble_eq_true rfl⟩) (fun r102 u103 H locs hw104 hP hD hS => ?_)
  refine W.widen (k := 0) (n := 0) (Nat.le_of_ble_eq_true rfl) (Nat.le_of_ble_eq_true rfl) ?_
  have hr105 := hw104
  subst hr105
  have hP : va_P G vwCl [(h0, .inr (6, fs)), (pa, .inr (2, ps))] H := hP
  have hD : va_D A [(h0, .inr (6, fs)), (pa, .inr (2, ps))] := hD
  refine lv_if_eq (tgt := 59) hx hb dX6_runToEnd_13 (by decide) (fun c106 => ?_) (fun c106 => absurd (by decide) c106)
  exact W.vret hx hb hr (fun t ht hW => ⟨⟨(), rfl, trivial, by rw [ht]; exact hP, hD⟩, hS.F ht⟩) hS.2.2 dX6_runToEnd_59

set_option maxHeartbeats 4000000 in
set_option maxRecDepth 100000 in
theorem c_X6_runToEnd_21 (l : Launch) (G : va_G) (cA : Nat → ClassId) (sz : Nat) (h0 : Nat) (fs : List Value) (pa : Nat) (ps : List Value) (hf : fh fs 20 [(19, .ref pa), (0, .int 21)]) (hp : fh ps 19 [(0, .int 0), (1, .int 0), (2, .int 0)]) : Met l yX6_runToEnd (.code yX6_runToEnd cX6_runToEnd 1 none :: T0) ({ frames := 0, cells := 0, slots := 0, locals := 0 }) (tqP G cA [.ref h0] [(h0, .inr (6, fs)), (pa, .inr (2, ps))] sz) (tqQv G cA (fun (u : Unit) => True) (fun (u : Unit) => [(h0, .inr (6, fs)), (pa, .inr (2, ps))]) (va_A [(h0, .inr (6, fs)), (pa, .inr (2, ps))] sz)) 0 0 (va_A [(h0, .inr (6, fs)), (pa, .inr (2, ps))] sz) := by
  refine Met.ofW (cc := cX6_runToEnd) (maxL := 1) (ret := none) (by decide) rfl ?_
  intro p e s m args below meth c s₁ B hml hv
  obtain ⟨rfl, hsz, hP, hK, hD0, hN⟩ := hv
  have hx := B.exec
  have hb := B.bytes
  have hr := B.returns
  have hts := atoms_spec (ws := .code yX6_runToEnd cX6_runToEnd 1 none :: T0) B.pre
  have hT : ∀ w ∈ T0, w.before _ s = true := fun w h => hts w (List.mem_cons_of_mem _ h)
  have hown : s.vm.findClass RX6 = some m.cls := findClass_of_methodNamed B.named
  have hlocks := B.notSynchronized
  subst hsz
  have hD := hD0.self (sz := s.heap.size)
  generalize hAe : va_A [(h0, .inr (6, fs)), (pa, .inr (2, ps))] s.heap.size = A at hD ⊢
  have hA : ∀ q : Nat, s.heap.size ≤ q → A q := fun q h => by rw [← hAe]; exact Or.inr h
  have hS : va_S A s.heap s.heap [] := va_S.rf
  have hl := lv_entry ([.ref h0]) (n := 1) (Nat.le_of_ble_eq_true rfl)
  rw [lg_entry_eq]
  generalize (lg_sl ([.ref h0]) ++ List.replicate (1 - (lg_sl ([.ref h0])).length) Slot.unset).toArray = ls at hl ⊢
  have hl : lv_has ls 1 [(0, .ref h0)] := hl
  obtain ⟨H, hH⟩ : ∃ z, z = s.heap := ⟨_, rfl⟩
  rw [← hH] at hP
  have hS : va_S A s.heap H [] := by rw [hH]; exact hS
  suffices hgo : W p l e _ s m _ below meth c H [] 0 0 _ _ by rw [hH] at hgo; exact hgo
  have hO := hN.2.2.2.2
  have ho_hf := fo_refl fs
  have ho_hp := fo_refl ps
  refine lv_aload_n hx hb dX6_runToEnd_0 rfl (lv_at hl 0 rfl) ?_
  refine va_get (D := G) (ci := 6) (v := .int 21) (C := RX6) (T := TX6) (N := 20) hx hb hT ku_6 hown hK hP 0 rfl rfl 0 (by decide) (hT _ kw_8_2) (fun _ h9 => h9) (fh_at hf 1 rfl) dX6_runToEnd_1 ?_
  refine lv_bipush (v := 20) hx hb dX6_runToEnd_4 (by decide) ?_
  refine lv_icmp_gt (tgt := 59) hx hb dX6_runToEnd_6 (by decide) (fun c101 => ?_) (fun c101 => absurd (by decide) c101)
  exact W.vret hx hb hr (fun t ht hW => ⟨⟨(), rfl, trivial, by rw [ht]; exact hP, hD⟩, hS.F ht⟩) hS.2.2 dX6_runToEnd_59
