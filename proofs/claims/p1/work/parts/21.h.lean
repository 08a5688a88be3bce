set_option maxHeartbeats 4000000 in
set_option maxRecDepth 100000 in
theorem c_X8_plain (l : Launch) (G : va_G) (cA : Nat → ClassId) (sz : Nat) (h0 : Nat) (fs : List Value) (m21 : Nat) (m22 : Nat) (m33 : Nat) (m34 : Nat) (m35 : Nat) (mf21 : Nat → Int32) (mf22 : Nat → Int32) (mf33 : Nat → Int32) (mf34 : Nat → Int32) (mf35 : Nat → Int32) (hf : fh fs 91 [(21, .ref m21), (22, .ref m22), (33, .ref m33), (34, .ref m34), (35, .ref m35)]) : Met l yX8_plain (.code yX8_plain cX8_plain 2 none :: T0) ({ frames := 0, cells := 0, slots := 0, locals := 0 }) (tqP G cA [.ref h0] [(h0, .inr (8, fs)), (m21, .inl (cA 1, 3, .inl mf21)), (m22, .inl (cA 0, 6, .inl mf22)), (m33, .inl (cA 0, 42, .inl mf33)), (m34, .inl (cA 1, 21, .inl mf34)), (m35, .inl (cA 1, 6, .inl mf35))] sz) (tqQv G cA (fun (u : List Value × (Nat → Int32) × (Nat → Int32) × (Nat → Int32) × (Nat → Int32) × (Nat → Int32)) => fo fs u.1 [46, 20, 19, 18, 17, 16] ∧ fh u.1 91 [(46, .int 0), (20, .int 0), (19, .int 0), (18, .int 0), (17, .int 0), (16, .int 0)] ∧ u.2.2.1 3 = 0 ∧ u.2.2.1 4 = 0 ∧ u.2.2.1 5 = 0 ∧ u.2.2.2.1 21 = 60 ∧ u.2.2.2.1 22 = 60 ∧ u.2.2.2.1 23 = 60 ∧ u.2.2.2.1 24 = 60 ∧ u.2.2.2.1 25 = 60 ∧ u.2.2.2.1 26 = 60 ∧ u.2.2.2.1 27 = 60 ∧ u.2.2.2.1 28 = 60 ∧ u.2.2.2.1 29 = 60 ∧ u.2.2.2.1 30 = 60 ∧ u.2.2.2.1 31 = 60 ∧ u.2.2.2.1 32 = 60 ∧ u.2.2.2.1 33 = 60 ∧ u.2.2.2.1 34 = 60 ∧ u.2.2.2.1 35 = 60 ∧ u.2.2.2.1 36 = 60 ∧ u.2.2.2.1 37 = 60 ∧ u.2.2.2.1 38 = 60 ∧ u.2.2.2.1 39 = 60 ∧ u.2.2.2.1 40 = 60 ∧ u.2.2.2.1 41 = 60) (fun (u : List Value × (Nat → Int32) × (Nat → Int32) × (Nat → Int32) × (Nat → Int32) × (Nat → Int32)) => [(h0, .inr (8, u.1)), (m21, .inl (cA 1, 3, .inl u.2.1)), (m22, .inl (cA 0, 6, .inl u.2.2.1)), (m33, .inl (cA 0, 42, .inl u.2.2.2.1)), (m34, .inl (cA 1, 21, .inl u.2.2.2.2.1)), (m35, .inl (cA 1, 6, .inl u.2.2.2.2.2))]) (va_A [(h0, .inr (8, fs)), (m21, .inl (cA 1, 3, .inl mf21)), (m22, .inl (cA 0, 6, .inl mf22)), (m33, .inl (cA 0, 42, .inl mf33)), (m34, .inl (cA 1, 21, .inl mf34)), (m35, .inl (cA 1, 6, .inl mf35))] sz)) 0 0 (va_A [(h0, .inr (8, fs)), (m21, .inl (cA 1, 3, .inl mf21)), (m22, .inl (cA 0, 6, .inl mf22)), (m33, .inl (cA 0, 42, .inl mf33)), (m34, .inl (cA 1, 21, .inl mf34)), (m35, .inl (cA 1, 6, .inl mf35))] sz) := by
  refine Met.ofW (cc := cX8_plain) (maxL := 2) (ret := none) (by decide) rfl ?_
  intro p e s m args below meth c s₁ B hml hv
  obtain ⟨rfl, hsz, hP, hK, hD0, hN⟩ := hv
  have hx := B.exec
  have hb := B.bytes
  have hr := B.returns
  have hts := atoms_spec (ws := .code yX8_plain cX8_plain 2 none :: T0) B.pre
  have hT : ∀ w ∈ T0, w.before _ s = true := fun w h => hts w (List.mem_cons_of_mem _ h)
  have hown : s.vm.findClass RX8 = some m.cls := findClass_of_methodNamed B.named
  have hlocks := B.notSynchronized
  subst hsz
  have hD := hD0.self (sz := s.heap.size)
  generalize hAe : va_A [(h0, .inr (8, fs)), (m21, .inl (cA 1, 3, .inl mf21)), (m22, .inl (cA 0, 6, .inl mf22)), (m33, .inl (cA 0, 42, .inl mf33)), (m34, .inl (cA 1, 21, .inl mf34)), (m35, .inl (cA 1, 6, .inl mf35))] s.heap.size = A at hD ⊢
  have hA : ∀ q : Nat, s.heap.size ≤ q → A q := fun q h => by rw [← hAe]; exact Or.inr h
  have hS : va_S A s.heap s.heap [] := va_S.rf
  have hl := lv_entry ([.ref h0]) (n := 2) (Nat.le_of_ble_eq_true rfl)
  rw [lg_entry_eq]
  generalize (lg_sl ([.ref h0]) ++ List.replicate (2 - (lg_sl ([.ref h0])).length) Slot.unset).toArray = ls at hl ⊢
  have hl : lv_has ls 2 [(0, .ref h0)] := hl
  obtain ⟨H, hH⟩ : ∃ z, z = s.heap := ⟨_, rfl⟩
  rw [← hH] at hP
  have hS : va_S A s.heap H [] := by rw [hH]; exact hS
  suffices hgo : W p l e _ s m _ below meth c H [] 0 0 _ _ by rw [hH] at hgo; exact hgo
  have hO := hN.2.2.2.2
  have ho_hf := fo_refl fs
  refine lv_aload_n hx hb dX8_plain_0 rfl (lv_at hl 0 rfl) ?_
  refine lv_iconst (v := 0) hx hb dX8_plain_1 (by decide) ?_
  refine va_put (D := G) (ci := 8) (v := .int 0) (ty := .int) (C := RX8) (T := TX8) (N := 91) hx hb hT ku_8 tyX8 tyX8_ok nmX8 hown hK hP hD hS 0 rfl rfl 16 (by decide) (hT _ kw_11_17) (fun _ h9 => h9) rfl (by decide +kernel) rfl rfl (fh_lt hf (by decide)) dX8_plain_2 (fun H locs hP hD hS => ?_)
  have hP : va_P G vwCl [(h0, .inr (8, (fs.set 16 (.int 0)))), (m21, .inl (cA 1, 3, .inl mf21)), (m22, .inl (cA 0, 6, .inl mf22)), (m33, .inl (cA 0, 42, .inl mf33)), (m34, .inl (cA 1, 21, .inl mf34)), (m35, .inl (cA 1, 6, .inl mf35))] H := hP
  have hD : va_D A [(h0, .inr (8, (fs.set 16 (.int 0)))), (m21, .inl (cA 1, 3, .inl mf21)), (m22, .inl (cA 0, 6, .inl mf22)), (m33, .inl (cA 0, 42, .inl mf33)), (m34, .inl (cA 1, 21, .inl mf34)), (m35, .inl (cA 1, 6, .inl mf35))] := hD
  have hf := fh_set (l' := [(16, .int 0), (21, .ref m21), (22, .ref m22), (33, .ref m33), (34, .ref m34), (35, .ref m35)]) hf 16 (.int 0) (by decide) rfl
  have ho102 := fo_set ho_hf 16 (.int 0)
  generalize (fs.set 16 (.int 0)) = fs101 at hP hD hf ho102
  refine lv_aload_n hx hb dX8_plain_5 rfl (lv_at hl 0 rfl) ?_
  refine lv_iconst (v := 0) hx hb dX8_plain_6 (by decide) ?_
  refine va_put (D := G) (ci := 8) (v := .int 0) (ty := .int) (C := RX8) (T := TX8) (N := 91) hx hb hT ku_8 tyX8 tyX8_ok nmX8 hown hK hP hD hS 0 rfl rfl 17 (by decide) (hT _ kw_11_18) (fun _ h9 => h9) rfl (by decide +kernel) rfl rfl (fh_lt hf (by decide)) dX8_plain_7 (fun H locs hP hD hS => ?_)
  have hP : va_P G vwCl [(h0, .inr (8, (fs101.set 17 (.int 0)))), (m21, .inl (cA 1, 3, .inl mf21)), (m22, .inl (cA 0, 6, .inl mf22)), (m33, .inl (cA 0, 42, .inl mf33)), (m34, .inl (cA 1, 21, .inl mf34)), (m35, .inl (cA 1, 6, .inl mf35))] H := hP
  have hD : va_D A [(h0, .inr (8, (fs101.set 17 (.int 0)))), (m21, .inl (cA 1, 3, .inl mf21)), (m22, .inl (cA 0, 6, .inl mf22)), (m33, .inl (cA 0, 42, .inl mf33)), (m34, .inl (cA 1, 21, .inl mf34)), (m35, .inl (cA 1, 6, .inl mf35))] := hD
  have hf := fh_set (l' := [(17, .int 0), (16, .int 0), (21, .ref m21), (22, .ref m22), (33, .ref m33), (34, .ref m34), (35, .ref m35)]) hf 17 (.int 0) (by decide) rfl
  have ho104 := fo_set ho102 17 (.int 0)
  generalize (fs101.set 17 (.int 0)) = fs103 at hP hD hf ho104
  refine lv_aload_n hx hb dX8_plain_10 rfl (lv_at hl 0 rfl) ?_
  refine lv_iconst (v := 0) hx hb dX8_plain_11 (by decide) ?_
  refine va_put (D := G) (ci := 8) (v := .int 0) (ty := .int) (C := RX8) (T := TX8) (N := 91) hx hb hT ku_8 tyX8 tyX8_ok nmX8 hown hK hP hD hS 0 rfl rfl 18 (by decide) (hT _ kw_11_19) (fun _ h9 => h9) rfl (by decide +kernel) rfl rfl (fh_lt hf (by decide)) dX8_plain_12 (fun H locs hP hD hS => ?_)
  have hP : va_P G vwCl [(h0, .inr (8, (fs103.set 18 (.int 0)))), (m21, .inl (cA 1, 3, .inl mf21)), (m22, .inl (cA 0, 6, .inl mf22)), (m33, .inl (cA 0, 42, .inl mf33)), (m34, .inl (cA 1, 21, .inl mf34)), (m35, .inl (cA 1, 6, .inl mf35))] H := hP
  have hD : va_D A [(h0, .inr (8, (fs103.set 18 (.int 0)))), (m21, .inl (cA 1, 3, .inl mf21)), (m22, .inl (cA 0, 6, .inl mf22)), (m33, .inl (cA 0, 42, .inl mf33)), (m34, .inl (cA 1, 21, .inl mf34)), (m35, .inl (cA 1, 6, .inl mf35))] := hD
  have hf := fh_set (l' := [(18, .int 0), (17, .int 0), (16, .int 0), (21, .ref m21), (22, .ref m22), (33, .ref m33), (34, .ref m34), (35, .ref m35)]) hf 18 (.int 0) (by decide) rfl
  have ho106 := fo_set ho104 18 (.int 0)
  generalize (fs103.set 18 (.int 0)) = fs105 at hP hD hf ho106
  refine lv_aload_n hx hb dX8_plain_15 rfl (lv_at hl 0 rfl) ?_
  refine lv_iconst (v := 0) hx hb dX8_plain_16 (by decide) ?_
  refine va_put (D := G) (ci := 8) (v := .int 0) (ty := .int) (C := RX8) (T := TX8) (N := 91) hx hb hT ku_8 tyX8 tyX8_ok nmX8 hown hK hP hD hS 0 rfl rfl 19 (by decide) (hT _ kw_11_20) (fun _ h9 => h9) rfl (by decide +kernel) rfl rfl (fh_lt hf (by decide)) dX8_plain_17 (fun H locs hP hD hS => ?_)
  have hP : va_P G vwCl [(h0, .inr (8, (fs105.set 19 (.int 0)))), (m21, .inl (cA 1, 3, .inl mf21)), (m22, .inl (cA 0, 6, .inl mf22)), (m33, .inl (cA 0, 42, .inl mf33)), (m34, .inl (cA 1, 21, .inl mf34)), (m35, .inl (cA 1, 6, .inl mf35))] H := hP
  have hD : va_D A [(h0, .inr (8, (fs105.set 19 (.int 0)))), (m21, .inl (cA 1, 3, .inl mf21)), (m22, .inl (cA 0, 6, .inl mf22)), (m33, .inl (cA 0, 42, .inl mf33)), (m34, .inl (cA 1, 21, .inl mf34)), (m35, .inl (cA 1, 6, .inl mf35))] := hD
  have hf := fh_set (l' := [(19, .int 0), (18, .int 0), (17, .int 0), (16, .int 0), (21, .ref m21), (22, .ref m22), (33, .ref m33), (34, .ref m34), (35, .ref m35)]) hf 19 (.int 0) (by decide) rfl
  have ho108 := fo_set ho106 19 (.int 0)
  generalize (fs105.set 19 (.int 0)) = fs107 at hP hD hf ho108
  refine lv_aload_n hx hb dX8_plain_20 rfl (lv_at hl 0 rfl) ?_
  refine lv_iconst (v := 0) hx hb dX8_plain_21 (by decide) ?_
  refine va_put (D := G) (ci := 8) (v := .int 0) (ty := .int) (C := RX8) (T := TX8) (N := 91) hx hb hT ku_8 tyX8 tyX8_ok nmX8 hown hK hP hD hS 0 rfl rfl 20 (by decide) (hT _ kw_11_21) (fun _ h9 => h9) rfl (by decide +kernel) rfl rfl (fh_lt hf (by decide)) dX8_plain_22 (fun H locs hP hD hS => ?_)
  have hP : va_P G vwCl [(h0, .inr (8, (fs107.set 20 (.int 0)))), (m21, .inl (cA 1, 3, .inl mf21)), (m22, .inl (cA 0, 6, .inl mf22)), (m33, .inl (cA 0, 42, .inl mf33)), (m34, .inl (cA 1, 21, .inl mf34)), (m35, .inl (cA 1, 6, .inl mf35))] H := hP
  have hD : va_D A [(h0, .inr (8, (fs107.set 20 (.int 0)))), (m21, .inl (cA 1, 3, .inl mf21)), (m22, .inl (cA 0, 6, .inl mf22)), (m33, .inl (cA 0, 42, .inl mf33)), (m34, .inl (cA 1, 21, .inl mf34)), (m35, .inl (cA 1, 6, .inl mf35))] := hD
  have hf := fh_set (l' := [(20, .int 0), (19, .int 0), (18, .int 0), (17, .int 0), (16, .int 0), (21, .ref m21), (22, .ref m22), (33, .ref m33), (34, .ref m34), (35, .ref m35)]) hf 20 (.int 0) (by decide) rfl
  have ho110 := fo_set ho108 20 (.int 0)
  generalize (fs107.set 20 (.int 0)) = fs109 at hP hD hf ho110
  refine lv_aload_n hx hb dX8_plain_25 rfl (lv_at hl 0 rfl) ?_
  refine lv_iconst (v := 0) hx hb dX8_plain_26 (by decide) ?_
  refine va_put (D := G) (ci := 8) (v := .int 0) (ty := .int) (C := RX8) (T := TX8) (N := 91) hx hb hT ku_8 tyX8 tyX8_ok nmX8 hown hK hP hD hS 0 rfl rfl 46 (by decide) (hT _ kw_11_22) (fun _ h9 => h9) rfl (by decide +kernel) rfl rfl (fh_lt hf (by decide)) dX8_plain_27 (fun H locs hP hD hS => ?_)
  have hP : va_P G vwCl [(h0, .inr (8, (fs109.set 46 (.int 0)))), (m21, .inl (cA 1, 3, .inl mf21)), (m22, .inl (cA 0, 6, .inl mf22)), (m33, .inl (cA 0, 42, .inl mf33)), (m34, .inl (cA 1, 21, .inl mf34)), (m35, .inl (cA 1, 6, .inl mf35))] H := hP
  have hD : va_D A [(h0, .inr (8, (fs109.set 46 (.int 0)))), (m21, .inl (cA 1, 3, .inl mf21)), (m22, .inl (cA 0, 6, .inl mf22)), (m33, .inl (cA 0, 42, .inl mf33)), (m34, .inl (cA 1, 21, .inl mf34)), (m35, .inl (cA 1, 6, .inl mf35))] := hD
  have hf := fh_set (l' := [(46, .int 0), (20, .int 0), (19, .int 0), (18, .int 0), (17, .int 0), (16, .int 0), (21, .ref m21), (22, .ref m22), (33, .ref m33), (34, .ref m34), (35, .ref m35)]) hf 46 (.int 0) (by decide) rfl
  have ho112 := fo_set ho110 46 (.int 0)
  generalize (fs109.set 46 (.int 0)) = fs111 at hP hD hf ho112
  refine lv_iconst (v := 0) hx hb dX8_plain_30 (by decide) ?_
  refine lv_istore_n (lv' := [(1, .int 0), (0, .ref h0)]) hx hb dX8_plain_31 rfl hl (by decide) rfl (fun ls hl => ?_)
  refine lv_iload_n hx hb dX8_plain_32 rfl (lv_at hl 0 rfl) ?_
  refine lv_iconst (v := 3) hx hb dX8_plain_33 (by decide) ?_
  refine lv_icmp_ge (tgt := 68) hx hb dX8_plain_34 (by decide) (fun c113 => absurd c113 (by decide)) (fun c113 => ?_)
  refine lv_aload_n hx hb dX8_plain_37 rfl (lv_at hl 1 rfl) ?_
  refine va_get (D := G) (ci := 8) (v := .ref m21) (C := RX8) (T := TX8) (N := 91) hx hb hT ku_8 hown hK hP 0 rfl rfl 21 (by decide) (hT _ kw_9_13) (fun _ h9 => h9) (fh_at hf 6 rfl) dX8_plain_38 ?_
  refine lv_iload_n hx hb dX8_plain_41 rfl (lv_at hl 0 rfl) ?_
  refine lv_iconst (v := 0) hx hb dX8_plain_42 (by decide) ?_
  refine va_zast (i := 0) hx hb hK hP hD hS 1 1 rfl rfl (tq_in (by decide)) dX8_plain_43 (fun H locs hP hD hS => ?_)
  have hP : va_P G vwCl [(h0, .inr (8, fs111)), (m21, .inl (cA 1, 3, .inl ((upd mf21 (0 : Int32).toNatClampNeg (vp_nar .boolean 0))))), (m22, .inl (cA 0, 6, .inl mf22)), (m33, .inl (cA 0, 42, .inl mf33)), (m34, .inl (cA 1, 21, .inl mf34)), (m35, .inl (cA 1, 6, .inl mf35))] H := hP
  have hD : va_D A [(h0, .inr (8, fs111)), (m21, .inl (cA 1, 3, .inl ((upd mf21 (0 : Int32).toNatClampNeg (vp_nar .boolean 0))))), (m22, .inl (cA 0, 6, .inl mf22)), (m33, .inl (cA 0, 42, .inl mf33)), (m34, .inl (cA 1, 21, .inl mf34)), (m35, .inl (cA 1, 6, .inl mf35))] := hD
  generalize (upd mf21 (0 : Int32).toNatClampNeg (vp_nar .boolean 0)) = f114 at hP hD
  refine lv_aload_n hx hb dX8_plain_44 rfl (lv_at hl 1 rfl) ?_
  refine va_get (D := G) (ci := 8) (v := .ref m22) (C := RX8) (T := TX8) (N := 91) hx hb hT ku_8 hown hK hP 0 rfl rfl 22 (by decide) (hT _ kw_9_14) (fun _ h9 => h9) (fh_at hf 7 rfl) dX8_plain_45 ?_
  refine lv_iconst (v := 3) hx hb dX8_plain_48 (by decide) ?_
  refine lv_iload_n hx hb dX8_plain_49 rfl (lv_at hl 0 rfl) ?_
  refine lv_iadd hx hb dX8_plain_50 ?_
  refine tq_i (w := 3) (by decide) ?_
  refine lv_iconst (v := 0) hx hb dX8_plain_51 (by decide) ?_
  refine va_iast (i := 3) hx hb hK hP hD hS 2 0 rfl rfl (tq_in (by decide)) dX8_plain_52 (fun H locs hP hD hS => ?_)
  have hP : va_P G vwCl [(h0, .inr (8, fs111)), (m21, .inl (cA 1, 3, .inl f114)), (m22, .inl (cA 0, 6, .inl ((upd mf22 (3 : Int32).toNatClampNeg 0)))), (m33, .inl (cA 0, 42, .inl mf33)), (m34, .inl (cA 1, 21, .inl mf34)), (m35, .inl (cA 1, 6, .inl mf35))] H := hP
  have hD : va_D A [(h0, .inr (8, fs111)), (m21, .inl (cA 1, 3, .inl f114)), (m22, .inl (cA 0, 6, .inl ((upd mf22 (3 : Int32).toNatClampNeg 0)))), (m33, .inl (cA 0, 42, .inl mf33)), (m34, .inl (cA 1, 21, .inl mf34)), (m35, .inl (cA 1, 6, .inl mf35))] := hD
  have hE116 : (upd mf22 (3 : Int32).toNatClampNeg 0) 3 = 0 := rfl
  generalize (upd mf22 (3 : Int32).toNatClampNeg 0) = f115 at hP hD hE116
  refine lv_aload_n hx hb dX8_plain_53 rfl (lv_at hl 1 rfl) ?_
  refine va_get (D := G) (ci := 8) (v := .ref m35) (C := RX8) (T := TX8) (N := 91) hx hb hT ku_8 hown hK hP 0 rfl rfl 35 (by decide) (hT _ kw_10_3) (fun _ h9 => h9) (fh_at hf 10 rfl) dX8_plain_54 ?_
  refine lv_iconst (v := 3) hx hb dX8_plain_57 (by decide) ?_
  refine lv_iload_n hx hb dX8_plain_58 rfl (lv_at hl 0 rfl) ?_
  refine lv_iadd hx hb dX8_plain_59 ?_
  refine tq_i (w := 3) (by decide) ?_
  refine lv_iconst (v := 0) hx hb dX8_plain_60 (by decide) ?_
  refine va_zast (i := 3) hx hb hK hP hD hS 5 1 rfl rfl (tq_in (by decide)) dX8_plain_61 (fun H locs hP hD hS => ?_)
  have hP : va_P G vwCl [(h0, .inr (8, fs111)), (m21, .inl (cA 1, 3, .inl f114)), (m22, .inl (cA 0, 6, .inl f115)), (m33, .inl (cA 0, 42, .inl mf33)), (m34, .inl (cA 1, 21, .inl mf34)), (m35, .inl (cA 1, 6, .inl ((upd mf35 (3 : Int32).toNatClampNeg (vp_nar .boolean 0)))))] H := hP
  have hD : va_D A [(h0, .inr (8, fs111)), (m21, .inl (cA 1, 3, .inl f114)), (m22, .inl (cA 0, 6, .inl f115)), (m33, .inl (cA 0, 42, .inl mf33)), (m34, .inl (cA 1, 21, .inl mf34)), (m35, .inl (cA 1, 6, .inl ((upd mf35 (3 : Int32).toNatClampNeg (vp_nar .boolean 0)))))] := hD
  generalize (upd mf35 (3 : Int32).toNatClampNeg (vp_nar .boolean 0)) = f117 at hP hD
  refine lv_iinc (v := 1) (lv' := [(1, .int 1), (0, .ref h0)]) hx hb dX8_plain_62 hl (k := 0) rfl (by decide) (by decide) rfl (fun ls hl => ?_)
  refine lv_goto (tgt := 32) hx hb dX8_plain_65 (by decide) ?_
  refine lv_iload_n hx hb dX8_plain_32 rfl (lv_at hl 0 rfl) ?_
  refine lv_iconst (v := 3) hx hb dX8_plain_33 (by decide) ?_
  refine lv_icmp_ge (tgt := 68) hx hb dX8_plain_34 (by decide) (fun c118 => absurd c118 (by decide)) (fun c118 => ?_)
  refine lv_aload_n hx hb dX8_plain_37 rfl (lv_at hl 1 rfl) ?_
  refine va_get (D := G) (ci := 8) (v := .ref m21) (C := RX8) (T := TX8) (N := 91) hx hb hT ku_8 hown hK hP 0 rfl rfl 21 (by decide) (hT _ kw_9_13) (fun _ h9 => h9) (fh_at hf 6 rfl) dX8_plain_38 ?_
  refine lv_iload_n hx hb dX8_plain_41 rfl (lv_at hl 0 rfl) ?_
  refine lv_iconst (v := 0) hx hb dX8_plain_42 (by decide) ?_
  refine va_zast (i := 1) hx hb hK hP hD hS 1 1 rfl rfl (tq_in (by decide)) dX8_plain_43 (fun H locs hP hD hS => ?_)
  have hP : va_P G vwCl [(h0, .inr (8, fs111)), (m21, .inl (cA 1, 3, .inl ((upd f114 (1 : Int32).toNatClampNeg (vp_nar .boolean 0))))), (m22, .inl (cA 0, 6, .inl f115)), (m33, .inl (cA 0, 42, .inl mf33)), (m34, .inl (cA 1, 21, .inl mf34)), (m35, .inl (cA 1, 6, .inl f117))] H := hP
  have hD : va_D A [(h0, .inr (8, fs111)), (m21, .inl (cA 1, 3, .inl ((upd f114 (1 : Int32).toNatClampNeg (vp_nar .boolean 0))))), (m22, .inl (cA 0, 6, .inl f115)), (m33, .inl (cA 0, 42, .inl mf33)), (m34, .inl (cA 1, 21, .inl mf34)), (m35, .inl (cA 1, 6, .inl f117))] := hD
  generalize (upd f114 (1 : Int32).toNatClampNeg (vp_nar .boolean 0)) = f119 at hP hD
  refine lv_aload_n hx hb dX8_plain_44 rfl (lv_at hl 1 rfl) ?_
  refine va_get (D := G) (ci := 8) (v := .ref m22) (C := RX8) (T := TX8) (N := 91) hx hb hT ku_8 hown hK hP 0 rfl rfl 22 (by decide) (hT _ kw_9_14) (fun _ h9 => h9) (fh_at hf 7 rfl) dX8_plain_45 ?_
  refine lv_iconst (v := 3) hx hb dX8_plain_48 (by decide) ?_
  refine lv_iload_n hx hb dX8_plain_49 rfl (lv_at hl 0 rfl) ?_
  refine lv_iadd hx hb dX8_plain_50 ?_
  refine tq_i (w := 4) (by decide) ?_
  refine lv_iconst (v := 0) hx hb dX8_plain_51 (by decide) ?_
  refine va_iast (i := 4) hx hb hK hP hD hS 2 0 rfl rfl (tq_in (by decide)) dX8_plain_52 (fun H locs hP hD hS => ?_)
  have hP : va_P G vwCl [(h0, .inr (8, fs111)), (m21, .inl (cA 1, 3, .inl f119)), (m22, .inl (cA 0, 6, .inl ((upd f115 (4 : Int32).toNatClampNeg 0)))), (m33, .inl (cA 0, 42, .inl mf33)), (m34, .inl (cA 1, 21, .inl mf34)), (m35, .inl (cA 1, 6, .inl f117))] H := hP
  have hD : va_D A [(h0, .inr (8, fs111)), (m21, .inl (cA 1, 3, .inl f119)), (m22, .inl (cA 0, 6, .inl ((upd f115 (4 : Int32).toNatClampNeg 0)))), (m33, .inl (cA 0, 42, .inl mf33)), (m34, .inl (cA 1, 21, .inl mf34)), (m35, .inl (cA 1, 6, .inl f117))] := hD
  have hE121 : (upd f115 (4 : Int32).toNatClampNeg 0) 3 = 0 := hE116
  have hE122 : (upd f115 (4 : Int32).toNatClampNeg 0) 4 = 0 := rfl
  generalize (upd f115 (4 : Int32).toNatClampNeg 0) = f120 at hP hD hE121 hE122
  refine lv_aload_n hx hb dX8_plain_53 rfl (lv_at hl 1 rfl) ?_
  refine va_get (D := G) (ci := 8) (v := .ref m35) (C := RX8) (T := TX8) (N := 91) hx hb hT ku_8 hown hK hP 0 rfl rfl 35 (by decide) (hT _ kw_10_3) (fun _ h9 => h9) (fh_at hf 10 rfl) dX8_plain_54 ?_
  refine lv_iconst (v := 3) hx hb dX8_plain_57 (by decide) ?_
  refine lv_iload_n hx hb dX8_plain_58 rfl (lv_at hl 0 rfl) ?_
  refine lv_iadd hx hb dX8_plain_59 ?_
  refine tq_i (w := 4) (by decide) ?_
  refine lv_iconst (v := 0) hx hb dX8_plain_60 (by decide) ?_
  refine va_zast (i := 4) hx hb hK hP hD hS 5 1 rfl rfl (tq_in (by decide)) dX8_plain_61 (fun H locs hP hD hS => ?_)
  have hP : va_P G vwCl [(h0, .inr (8, fs111)), (m21, .inl (cA 1, 3, .inl f119)), (m22, .inl (cA 0, 6, .inl f120)), (m33, .inl (cA 0, 42, .inl mf33)), (m34, .inl (cA 1, 21, .inl mf34)), (m35, .inl (cA 1, 6, .inl ((upd f117 (4 : Int32).toNatClampNeg (vp_nar .boolean 0)))))] H := hP
  have hD : va_D A [(h0, .inr (8, fs111)), (m21, .inl (cA 1, 3, .inl f119)), (m22, .inl (cA 0, 6, .inl f120)), (m33, .inl (cA 0, 42, .inl mf33)), (m34, .inl (cA 1, 21, .inl mf34)), (m35, .inl (cA 1, 6, .inl ((upd f117 (4 : Int32).toNatClampNeg (vp_nar .boolean 0)))))] := hD
  generalize (upd f117 (4 : Int32).toNatClampNeg (vp_nar .boolean 0)) = f123 at hP hD
  refine lv_iinc (v := 2) (lv' := [(1, .int 2), (0, .ref h0)]) hx hb dX8_plain_62 hl (k := 0) rfl (by decide) (by decide) rfl (fun ls hl => ?_)
  refine lv_goto (tgt := 32) hx hb dX8_plain_65 (by decide) ?_
  refine lv_iload_n hx hb dX8_plain_32 rfl (lv_at hl 0 rfl) ?_
  refine lv_iconst (v := 3) hx hb dX8_plain_33 (by decide) ?_
  refine lv_icmp_ge (tgt := 68) hx hb dX8_plain_34 (by decide) (fun c124 => absurd c124 (by decide)) (fun c124 => ?_)
  refine lv_aload_n hx hb dX8_plain_37 rfl (lv_at hl 1 rfl) ?_
  refine va_get (D := G) (ci := 8) (v := .ref m21) (C := RX8) (T := TX8) (N := 91) hx hb hT ku_8 hown hK hP 0 rfl rfl 21 (by decide) (hT _ kw_9_13) (fun _ h9 => h9) (fh_at hf 6 rfl) dX8_plain_38 ?_
  refine lv_iload_n hx hb dX8_plain_41 rfl (lv_at hl 0 rfl) ?_
  refine lv_iconst (v := 0) hx hb dX8_plain_42 (by decide) ?_
  refine va_zast (i := 2) hx hb hK hP hD hS 1 1 rfl rfl (tq_in (by decide)) dX8_plain_43 (fun H locs hP hD hS => ?_)
  have hP : va_P G vwCl [(h0, .inr (8, fs111)), (m21, .inl (cA 1, 3, .inl ((upd f119 (2 : Int32).toNatClampNeg (vp_nar .boolean 0))))), (m22, .inl (cA 0, 6, .inl f120)), (m33, .inl (cA 0, 42, .inl mf33)), (m34, .inl (cA 1, 21, .inl mf34)), (m35, .inl (cA 1, 6, .inl f123))] H := hP
  have hD : va_D A [(h0, .inr (8, fs111)), (m21, .inl (cA 1, 3, .inl ((upd f119 (2 : Int32).toNatClampNeg (vp_nar .boolean 0))))), (m22, .inl (cA 0, 6, .inl f120)), (m33, .inl (cA 0, 42, .inl mf33)), (m34, .inl (cA 1, 21, .inl mf34)), (m35, .inl (cA 1, 6, .inl f123))] := hD
  generalize (upd f119 (2 : Int32).toNatClampNeg (vp_nar .boolean 0)) = f125 at hP hD
  refine lv_aload_n hx hb dX8_plain_44 rfl (lv_at hl 1 rfl) ?_
  refine va_get (D := G) (ci := 8) (v := .ref m22) (C := RX8) (T := TX8) (N := 91) hx hb hT ku_8 hown hK hP 0 rfl rfl 22 (by decide) (hT _ kw_9_14) (fun _ h9 => h9) (fh_at hf 7 rfl) dX8_plain_45 ?_
  refine lv_iconst (v := 3) hx hb dX8_plain_48 (by decide) ?_
  refine lv_iload_n hx hb dX8_plain_49 rfl (lv_at hl 0 rfl) ?_
  refine lv_iadd hx hb dX8_plain_50 ?_
  refine tq_i (w := 5) (by decide) ?_
  refine lv_iconst (v := 0) hx hb dX8_plain_51 (by decide) ?_
  refine va_iast (i := 5) hx hb hK hP hD hS 2 0 rfl rfl (tq_in (by decide)) dX8_plain_52 (fun H locs hP hD hS => ?_)
  have hP : va_P G vwCl [(h0, .inr (8, fs111)), (m21, .inl (cA 1, 3, .inl f125)), (m22, .inl (cA 0, 6, .inl ((upd f120 (5 : Int32).toNatClampNeg 0)))), (m33, .inl (cA 0, 42, .inl mf33)), (m34, .inl (cA 1, 21, .inl mf34)), (m35, .inl (cA 1, 6, .inl f123))] H := hP
  have hD : va_D A [(h0, .inr (8, fs111)), (m21, .inl (cA 1, 3, .inl f125)), (m22, .inl (cA 0, 6, .inl ((upd f120 (5 : Int32).toNatClampNeg 0)))), (m33, .inl (cA 0, 42, .inl mf33)), (m34, .inl (cA 1, 21, .inl mf34)), (m35, .inl (cA 1, 6, .inl f123))] := hD
  have hE127 : (upd f120 (5 : Int32).toNatClampNeg 0) 3 = 0 := hE121
  have hE128 : (upd f120 (5 : Int32).toNatClampNeg 0) 4 = 0 := hE122
  have hE129 : (upd f120 (5 : Int32).toNatClampNeg 0) 5 = 0 := rfl
  generalize (upd f120 (5 : Int32).toNatClampNeg 0) = f126 at hP hD hE127 hE128 hE129
  refine lv_aload_n hx hb dX8_plain_53 rfl (lv_at hl 1 rfl) ?_
  refine va_get (D := G) (ci := 8) (v := .ref m35) (C := RX8) (T := TX8) (N := 91) hx hb hT ku_8 hown hK hP 0 rfl rfl 35 (by decide) (hT _ kw_10_3) (fun _ h9 => h9) (fh_at hf 10 rfl) dX8_plain_54 ?_
  refine lv_iconst (v := 3) hx hb dX8_plain_57 (by decide) ?_
  refine lv_iload_n hx hb dX8_plain_58 rfl (lv_at hl 0 rfl) ?_
  refine lv_iadd hx hb dX8_plain_59 ?_
  refine tq_i (w := 5) (by decide) ?_
  refine lv_iconst (v := 0) hx hb dX8_plain_60 (by decide) ?_
  refine va_zast (i := 5) hx hb hK hP hD hS 5 1 rfl rfl (tq_in (by decide)) dX8_plain_61 (fun H locs hP hD hS => ?_)
  have hP : va_P G vwCl [(h0, .inr (8, fs111)), (m21, .inl (cA 1, 3, .inl f125)), (m22, .inl (cA 0, 6, .inl f126)), (m33, .inl (cA 0, 42, .inl mf33)), (m34, .inl (cA 1, 21, .inl mf34)), (m35, .inl (cA 1, 6, .inl ((upd f123 (5 : Int32).toNatClampNeg (vp_nar .boolean 0)))))] H := hP
  have hD : va_D A [(h0, .inr (8, fs111)), (m21, .inl (cA 1, 3, .inl f125)), (m22, .inl (cA 0, 6, .inl f126)), (m33, .inl (cA 0, 42, .inl mf33)), (m34, .inl (cA 1, 21, .inl mf34)), (m35, .inl (cA 1, 6, .inl ((upd f123 (5 : Int32).toNatClampNeg (vp_nar .boolean 0)))))] := hD
  generalize (upd f123 (5 : Int32).toNatClampNeg (vp_nar .boolean 0)) = f130 at hP hD
  refine lv_iinc (v := 3) (lv' := [(1, .int 3), (0, .ref h0)]) hx hb dX8_plain_62 hl (k := 0) rfl (by decide) (by decide) rfl (fun ls hl => ?_)
  refine lv_goto (tgt := 32) hx hb dX8_plain_65 (by decide) ?_
  refine lv_iload_n hx hb dX8_plain_32 rfl (lv_at hl 0 rfl) ?_
  refine lv_iconst (v := 3) hx hb dX8_plain_33 (by decide) ?_
  refine lv_icmp_ge (tgt := 68) hx hb dX8_plain_34 (by decide) (fun c131 => ?_) (fun c131 => absurd (by decide) c131)
  refine lv_iconst (v := 0) hx hb dX8_plain_68 (by decide) ?_
  refine lv_istore_n (lv' := [(1, .int 0), (0, .ref h0)]) hx hb dX8_plain_69 rfl hl (by decide) rfl (fun ls hl => ?_)
  refine lv_iload_n hx hb dX8_plain_70 rfl (lv_at hl 0 rfl) ?_
  refine lv_bipush (v := 21) hx hb dX8_plain_71 (by decide) ?_
  refine lv_icmp_ge (tgt := 100) hx hb dX8_plain_73 (by decide) (fun c132 => absurd c132 (by decide)) (fun c132 => ?_)
  refine lv_aload_n hx hb dX8_plain_76 rfl (lv_at hl 1 rfl) ?_
  refine va_get (D := G) (ci := 8) (v := .ref m33) (C := RX8) (T := TX8) (N := 91) hx hb hT ku_8 hown hK hP 0 rfl rfl 33 (by decide) (hT _ kw_10_1) (fun _ h9 => h9) (fh_at hf 8 rfl) dX8_plain_77 ?_
  refine lv_bipush (v := 21) hx hb dX8_plain_80 (by decide) ?_
  refine lv_iload_n hx hb dX8_plain_82 rfl (lv_at hl 0 rfl) ?_
  refine lv_iadd hx hb dX8_plain_83 ?_
  refine tq_i (w := 21) (by decide) ?_
  refine lv_bipush (v := 60) hx hb dX8_plain_84 (by decide) ?_
  refine va_iast (i := 21) hx hb hK hP hD hS 3 0 rfl rfl (tq_in (by decide)) dX8_plain_86 (fun H locs hP hD hS => ?_)
  have hP : va_P G vwCl [(h0, .inr (8, fs111)), (m21, .inl (cA 1, 3, .inl f125)), (m22, .inl (cA 0, 6, .inl f126)), (m33, .inl (cA 0, 42, .inl ((upd mf33 (21 : Int32).toNatClampNeg 60)))), (m34, .inl (cA 1, 21, .inl mf34)), (m35, .inl (cA 1, 6, .inl f130))] H := hP
  have hD : va_D A [(h0, .inr (8, fs111)), (m21, .inl (cA 1, 3, .inl f125)), (m22, .inl (cA 0, 6, .inl f126)), (m33, .inl (cA 0, 42, .inl ((upd mf33 (21 : Int32).toNatClampNeg 60)))), (m34, .inl (cA 1, 21, .inl mf34)), (m35, .inl (cA 1, 6, .inl f130))] := hD
  have hE134 : (upd mf33 (21 : Int32).toNatClampNeg 60) 21 = 60 := rfl
  generalize (upd mf33 (21 : Int32).toNatClampNeg 60) = f133 at hP hD hE134
  refine lv_aload_n hx hb dX8_plain_87 rfl (lv_at hl 1 rfl) ?_
  refine va_get (D := G) (ci := 8) (v := .ref m34) (C := RX8) (T := TX8) (N := 91) hx hb hT ku_8 hown hK hP 0 rfl rfl 34 (by decide) (hT _ kw_10_2) (fun _ h9 => h9) (fh_at hf 9 rfl) dX8_plain_88 ?_
  refine lv_iload_n hx hb dX8_plain_91 rfl (lv_at hl 0 rfl) ?_
  refine lv_iconst (v := 0) hx hb dX8_plain_92 (by decide) ?_
  refine va_zast (i := 0) hx hb hK hP hD hS 4 1 rfl rfl (tq_in (by decide)) dX8_plain_93 (fun H locs hP hD hS => ?_)
  have hP : va_P G vwCl [(h0, .inr (8, fs111)), (m21, .inl (cA 1, 3, .inl f125)), (m22, .inl (cA 0, 6, .inl f126)), (m33, .inl (cA 0, 42, .inl f133)), (m34, .inl (cA 1, 21, .inl ((upd mf34 (0 : Int32).toNatClampNeg (vp_nar .boolean 0))))), (m35, .inl (cA 1, 6, .inl f130))] H := hP
  have hD : va_D A [(h0, .inr (8, fs111)), (m21, .inl (cA 1, 3, .inl f125)), (m22, .inl (cA 0, 6, .inl f126)), (m33, .inl (cA 0, 42, .inl f133)), (m34, .inl (cA 1, 21, .inl ((upd mf34 (0 : Int32).toNatClampNeg (vp_nar .boolean 0))))), (m35, .inl (cA 1, 6, .inl f130))] := hD
  generalize (upd mf34 (0 : Int32).toNatClampNeg (vp_nar .boolean 0)) = f135 at hP hD
  refine lv_iinc (v := 1) (lv' := [(1, .int 1), (0, .ref h0)]) hx hb dX8_plain_94 hl (k := 0) rfl (by decide) (by decide) rfl (fun ls hl => ?_)
  refine lv_goto (tgt := 70) hx hb dX8_plain_97 (by decide) ?_
  refine lv_iload_n hx hb dX8_plain_70 rfl (lv_at hl 0 rfl) ?_
  refine lv_bipush (v := 21) hx hb dX8_plain_71 (by decide) ?_
  refine lv_icmp_ge (tgt := 100) hx hb dX8_plain_73 (by decide) (fun c136 => absurd c136 (by decide)) (fun c136 => ?_)
  refine lv_aload_n hx hb dX8_plain_76 rfl (lv_at hl 1 rfl) ?_
  refine va_get (D := G) (ci := 8) (v := .ref m33) (C := RX8) (T := TX8) (N := 91) hx hb hT ku_8 hown hK hP 0 rfl rfl 33 (by decide) (hT _ kw_10_1) (fun _ h9 => h9) (fh_at hf 8 rfl) dX8_plain_77 ?_
  refine lv_bipush (v := 21) hx hb dX8_plain_80 (by decide) ?_
  refine lv_iload_n hx hb dX8_plain_82 rfl (lv_at hl 0 rfl) ?_
  refine lv_iadd hx hb dX8_plain_83 ?_
  refine tq_i (w := 22) (by decide) ?_
  refine lv_bipush (v := 60) hx hb dX8_plain_84 (by decide) ?_
  refine va_iast (i := 22) hx hb hK hP hD hS 3 0 rfl rfl (tq_in (by decide)) dX8_plain_86 (fun H locs hP hD hS => ?_)
  have hP : va_P G vwCl [(h0, .inr (8, fs111)), (m21, .inl (cA 1, 3, .inl f125)), (m22, .inl (cA 0, 6, .inl f126)), (m33, .inl (cA 0, 42, .inl ((upd f133 (22 : Int32).toNatClampNeg 60)))), (m34, .inl (cA 1, 21, .inl f135)), (m35, .inl (cA 1, 6, .inl f130))] H := hP
  have hD : va_D A [(h0, .inr (8, fs111)), (m21, .inl (cA 1, 3, .inl f125)), (m22, .inl (cA 0, 6, .inl f126)), (m33, .inl (cA 0, 42, .inl ((upd f133 (22 : Int32).toNatClampNeg 60)))), (m34, .inl (cA 1, 21, .inl f135)), (m35, .inl (cA 1, 6, .inl f130))] := hD
  have hE138 : (upd f133 (22 : Int32).toNatClampNeg 60) 21 = 60 := hE134
  have hE139 : (upd f133 (22 : Int32).toNatClampNeg 60) 22 = 60 := rfl
  generalize (upd f133 (22 : Int32).toNatClampNeg 60) = f137 at hP hD hE138 hE139
  refine lv_aload_n hx hb dX8_plain_87 rfl (lv_at hl 1 rfl) ?_
  refine va_get (D := G) (ci := 8) (v := .ref m34) (C := RX8) (T := TX8) (N := 91) hx hb hT ku_8 hown hK hP 0 rfl rfl 34 (by decide) (hT _ kw_10_2) (fun _ h9 => h9) (fh_at hf 9 rfl) dX8_plain_88 ?_
  refine lv_iload_n hx hb dX8_plain_91 rfl (lv_at hl 0 rfl) ?_
  refine lv_iconst (v := 0) hx hb dX8_plain_92 (by decide) ?_
  refine va_zast (i := 1) hx hb hK hP hD hS 4 1 rfl rfl (tq_in (by decide)) dX8_plain_93 (fun H locs hP hD hS => ?_)
  have hP : va_P G vwCl [(h0, .inr (8, fs111)), (m21, .inl (cA 1, 3, .inl f125)), (m22, .inl (cA 0, 6, .inl f126)), (m33, .inl (cA 0, 42, .inl f137)), (m34, .inl (cA 1, 21, .inl ((upd f135 (1 : Int32).toNatClampNeg (vp_nar .boolean 0))))), (m35, .inl (cA 1, 6, .inl f130))] H := hP
  have hD : va_D A [(h0, .inr (8, fs111)), (m21, .inl (cA 1, 3, .inl f125)), (m22, .inl (cA 0, 6, .inl f126)), (m33, .inl (cA 0, 42, .inl f137)), (m34, .inl (cA 1, 21, .inl ((upd f135 (1 : Int32).toNatClampNeg (vp_nar .boolean 0))))), (m35, .inl (cA 1, 6, .inl f130))] := hD
  generalize (upd f135 (1 : Int32).toNatClampNeg (vp_nar .boolean 0)) = f140 at hP hD
  refine lv_iinc (v := 2) (lv' := [(1, .int 2), (0, .ref h0)]) hx hb dX8_plain_94 hl (k := 0) rfl (by decide) (by decide) rfl (fun ls hl => ?_)
  refine lv_goto (tgt := 70) hx hb dX8_plain_97 (by decide) ?_
  refine lv_iload_n hx hb dX8_plain_70 rfl (lv_at hl 0 rfl) ?_
  refine lv_bipush (v := 21) hx hb dX8_plain_71 (by decide) ?_
  refine lv_icmp_ge (tgt := 100) hx hb dX8_plain_73 (by decide) (fun c141 => absurd c141 (by decide)) (fun c141 => ?_)
  refine lv_aload_n hx hb dX8_plain_76 rfl (lv_at hl 1 rfl) ?_
  refine va_get (D := G) (ci := 8) (v := .ref m33) (C := RX8) (T := TX8) (N := 91) hx hb hT ku_8 hown hK hP 0 rfl rfl 33 (by decide) (hT _ kw_10_1) (fun _ h9 => h9) (fh_at hf 8 rfl) dX8_plain_77 ?_
  refine lv_bipush (v := 21) hx hb dX8_plain_80 (by decide) ?_
  refine lv_iload_n hx hb dX8_plain_82 rfl (lv_at hl 0 rfl) ?_
  refine lv_iadd hx hb dX8_plain_83 ?_
  refine tq_i (w := 23) (by decide) ?_
  refine lv_bipush (v := 60) hx hb dX8_plain_84 (by decide) ?_
  refine va_iast (i := 23) hx hb hK hP hD hS 3 0 rfl rfl (tq_in (by decide)) dX8_plain_86 (fun H locs hP hD hS => ?_)
  have hP : va_P G vwCl [(h0, .inr (8, fs111)), (m21, .inl (cA 1, 3, .inl f125)), (m22, .inl (cA 0, 6, .inl f126)), (m33, .inl (cA 0, 42, .inl ((upd f137 (23 : Int32).toNatClampNeg 60)))), (m34, .inl (cA 1, 21, .inl f140)), (m35, .inl (cA 1, 6, .inl f130))] H := hP
  have hD : va_D A [(h0, .inr (8, fs111)), (m21, .inl (cA 1, 3, .inl f125)), (m22, .inl (cA 0, 6, .inl f126)), (m33, .inl (cA 0, 42, .inl ((upd f137 (23 : Int32).toNatClampNeg 60)))), (m34, .inl (cA 1, 21, .inl f140)), (m35, .inl (cA 1, 6, .inl f130))] := hD
  have hE143 : (upd f137 (23 : Int32).toNatClampNeg 60) 21 = 60 := hE138
  have hE144 : (upd f137 (23 : Int32).toNatClampNeg 60) 22 = 60 := hE139
  have hE145 : (upd f137 (23 : Int32).toNatClampNeg 60) 23 = 60 := rfl
  generalize (upd f137 (23 : Int32).toNatClampNeg 60) = f142 at hP hD hE143 hE144 hE145
  refine lv_aload_n hx hb dX8_plain_87 rfl (lv_at hl 1 rfl) ?_
  refine va_get (D := G) (ci := 8) (v := .ref m34) (C := RX8) (T := TX8) (N := 91) hx hb hT ku_8 hown hK hP 0 rfl rfl 34 (by decide) (hT _ kw_10_2) (fun _ h9 => h9) (fh_at hf 9 rfl) dX8_plain_88 ?_
  refine lv_iload_n hx hb dX8_plain_91 rfl (lv_at hl 0 rfl) ?_
  refine lv_iconst (v := 0) hx hb dX8_plain_92 (by decide) ?_
  refine va_zast (i := 2) hx hb hK hP hD hS 4 1 rfl rfl (tq_in (by decide)) dX8_plain_93 (fun H locs hP hD hS => ?_)
  have hP : va_P G vwCl [(h0, .inr (8, fs111)), (m21, .inl (cA 1, 3, .inl f125)), (m22, .inl (cA 0, 6, .inl f126)), (m33, .inl (cA 0, 42, .inl f142)), (m34, .inl (cA 1, 21, .inl ((upd f140 (2 : Int32).toNatClampNeg (vp_nar .boolean 0))))), (m35, .inl (cA 1, 6, .inl f130))] H := hP
  have hD : va_D A [(h0, .inr (8, fs111)), (m21, .inl (cA 1, 3, .inl f125)), (m22, .inl (cA 0, 6, .inl f126)), (m33, .inl (cA 0, 42, .inl f142)), (m34, .inl (cA 1, 21, .inl ((upd f140 (2 : Int32).toNatClampNeg (vp_nar .boolean 0))))), (m35, .inl (cA 1, 6, .inl f130))] := hD
  generalize (upd f140 (2 : Int32).toNatClampNeg (vp_nar .boolean 0)) = f146 at hP hD
  refine lv_iinc (v := 3) (lv' := [(1, .int 3), (0, .ref h0)]) hx hb dX8_plain_94 hl (k := 0) rfl (by decide) (by decide) rfl (fun ls hl => ?_)
  refine lv_goto (tgt := 70) hx hb dX8_plain_97 (by decide) ?_
  refine lv_iload_n hx hb dX8_plain_70 rfl (lv_at hl 0 rfl) ?_
  refine lv_bipush (v := 21) hx hb dX8_plain_71 (by decide) ?_
  refine lv_icmp_ge (tgt := 100) hx hb dX8_plain_73 (by decide) (fun c147 => absurd c147 (by decide)) (fun c147 => ?_)
  refine lv_aload_n hx hb dX8_plain_76 rfl (lv_at hl 1 rfl) ?_
  refine va_get (D := G) (ci := 8) (v := .ref m33) (C := RX8) (T := TX8) (N := 91) hx hb hT ku_8 hown hK hP 0 rfl rfl 33 (by decide) (hT _ kw_10_1) (fun _ h9 => h9) (fh_at hf 8 rfl) dX8_plain_77 ?_
  refine lv_bipush (v := 21) hx hb dX8_plain_80 (by decide) ?_
  refine lv_iload_n hx hb dX8_plain_82 rfl (lv_at hl 0 rfl) ?_
  refine lv_iadd hx hb dX8_plain_83 ?_
  refine tq_i (w := 24) (by decide) ?_
  refine lv_bipush (v := 60) hx hb dX8_plain_84 (by decide) ?_
  refine va_iast (i := 24) hx hb hK hP hD hS 3 0 rfl rfl (tq_in (by decide)) dX8_plain_86 (fun H locs hP hD hS => ?_)
  have hP : va_P G vwCl [(h0, .inr (8, fs111)), (m21, .inl (cA 1, 3, .inl f125)), (m22, .inl (cA 0, 6, .inl f126)), (m33, .inl (cA 0, 42, .inl ((upd f142 (24 : Int32).toNatClampNeg 60)))), (m34, .inl (cA 1, 21, .inl f146)), (m35, .inl (cA 1, 6, .inl f130))] H := hP
  have hD : va_D A [(h0, .inr (8, fs111)), (m21, .inl (cA 1, 3, .inl f125)), (m22, .inl (cA 0, 6, .inl f126)), (m33, .inl (cA 0, 42, .inl ((upd f142 (24 : Int32).toNatClampNeg 60)))), (m34, .inl (cA 1, 21, .inl f146)), (m35, .inl (cA 1, 6, .inl f130))] := hD
  have hE149 : (upd f142 (24 : Int32).toNatClampNeg 60) 21 = 60 := hE143
  have hE150 : (upd f142 (24 : Int32).toNatClampNeg 60) 22 = 60 := hE144
  have hE151 : (upd f142 (24 : Int32).toNatClampNeg 60) 23 = 60 := hE145
  have hE152 : (upd f142 (24 : Int32).toNatClampNeg 60) 24 = 60 := rfl
  generalize (upd f142 (24 : Int32).toNatClampNeg 60) = f148 at hP hD hE149 hE150 hE151 hE152
  refine lv_aload_n hx hb dX8_plain_87 rfl (lv_at hl 1 rfl) ?_
  refine va_get (D := G) (ci := 8) (v := .ref m34) (C := RX8) (T := TX8) (N := 91) hx hb hT ku_8 hown hK hP 0 rfl rfl 34 (by decide) (hT _ kw_10_2) (fun _ h9 => h9) (fh_at hf 9 rfl) dX8_plain_88 ?_
  refine lv_iload_n hx hb dX8_plain_91 rfl (lv_at hl 0 rfl) ?_
  refine lv_iconst (v := 0) hx hb dX8_plain_92 (by decide) ?_
  refine va_zast (i := 3) hx hb hK hP hD hS 4 1 rfl rfl (tq_in (by decide)) dX8_plain_93 (fun H locs hP hD hS => ?_)
  have hP : va_P G vwCl [(h0, .inr (8, fs111)), (m21, .inl (cA 1, 3, .inl f125)), (m22, .inl (cA 0, 6, .inl f126)), (m33, .inl (cA 0, 42, .inl f148)), (m34, .inl (cA 1, 21, .inl ((upd f146 (3 : Int32).toNatClampNeg (vp_nar .boolean 0))))), (m35, .inl (cA 1, 6, .inl f130))] H := hP
  have hD : va_D A [(h0, .inr (8, fs111)), (m21, .inl (cA 1, 3, .inl f125)), (m22, .inl (cA 0, 6, .inl f126)), (m33, .inl (cA 0, 42, .inl f148)), (m34, .inl (cA 1, 21, .inl ((upd f146 (3 : Int32).toNatClampNeg (vp_nar .boolean 0))))), (m35, .inl (cA 1, 6, .inl f130))] := hD
  generalize (upd f146 (3 : Int32).toNatClampNeg (vp_nar .boolean 0)) = f153 at hP hD
  refine lv_iinc (v := 4) (lv' := [(1, .int 4), (0, .ref h0)]) hx hb dX8_plain_94 hl (k := 0) rfl (by decide) (by decide) rfl (fun ls hl => ?_)
  refine lv_goto (tgt := 70) hx hb dX8_plain_97 (by decide) ?_
  refine lv_iload_n hx hb dX8_plain_70 rfl (lv_at hl 0 rfl) ?_
  refine lv_bipush (v := 21) hx hb dX8_plain_71 (by decide) ?_
  refine lv_icmp_ge (tgt := 100) hx hb dX8_plain_73 (by decide) (fun c154 => absurd c154 (by decide)) (fun c154 => ?_)
  refine lv_aload_n hx hb dX8_plain_76 rfl (lv_at hl 1 rfl) ?_
  refine va_get (D := G) (ci := 8) (v := .ref m33) (C := RX8) (T := TX8) (N := 91) hx hb hT ku_8 hown hK hP 0 rfl rfl 33 (by decide) (hT _ kw_10_1) (fun _ h9 => h9) (fh_at hf 8 rfl) dX8_plain_77 ?_
  refine lv_bipush (v := 21) hx hb dX8_plain_80 (by decide) ?_
  refine lv_iload_n hx hb dX8_plain_82 rfl (lv_at hl 0 rfl) ?_
  refine lv_iadd hx hb dX8_plain_83 ?_
  refine tq_i (w := 25) (by decide) ?_
  refine lv_bipush (v := 60) hx hb dX8_plain_84 (by decide) ?_
  refine va_iast (i := 25) hx hb hK hP hD hS 3 0 rfl rfl (tq_in (by decide)) dX8_plain_86 (fun H locs hP hD hS => ?_)
  have hP : va_P G vwCl [(h0, .inr (8, fs111)), (m21, .inl (cA 1, 3, .inl f125)), (m22, .inl (cA 0, 6, .inl f126)), (m33, .inl (cA 0, 42, .inl ((upd f148 (25 : Int32).toNatClampNeg 60)))), (m34, .inl (cA 1, 21, .inl f153)), (m35, .inl (cA 1, 6, .inl f130))] H := hP
  have hD : va_D A [(h0, .inr (8, fs111)), (m21, .inl (cA 1, 3, .inl f125)), (m22, .inl (cA 0, 6, .inl f126)), (m33, .inl (cA 0, 42, .inl ((upd f148 (25 : Int32).toNatClampNeg 60)))), (m34, .inl (cA 1, 21, .inl f153)), (m35, .inl (cA 1, 6, .inl f130))] := hD
  have hE156 : (upd f148 (25 : Int32).toNatClampNeg 60) 21 = 60 := hE149
  have hE157 : (upd f148 (25 : Int32).toNatClampNeg 60) 22 = 60 := hE150
  have hE158 : (upd f148 (25 : Int32).toNatClampNeg 60) 23 = 60 := hE151
  have hE159 : (upd f148 (25 : Int32).toNatClampNeg 60) 24 = 60 := hE152
  have hE160 : (upd f148 (25 : Int32).toNatClampNeg 60) 25 = 60 := rfl
  generalize (upd f148 (25 : Int32).toNatClampNeg 60) = f155 at hP hD hE156 hE157 hE158 hE159 hE160
  refine lv_aload_n hx hb dX8_plain_87 rfl (lv_at hl 1 rfl) ?_
  refine va_get (D := G) (ci := 8) (v := .ref m34) (C := RX8) (T := TX8) (N := 91) hx hb hT ku_8 hown hK hP 0 rfl rfl 34 (by decide) (hT _ kw_10_2) (fun _ h9 => h9) (fh_at hf 9 rfl) dX8_plain_88 ?_
  refine lv_iload_n hx hb dX8_plain_91 rfl (lv_at hl 0 rfl) ?_
  refine lv_iconst (v := 0) hx hb dX8_plain_92 (by decide) ?_
  refine va_zast (i := 4) hx hb hK hP hD hS 4 1 rfl rfl (tq_in (by decide)) dX8_plain_93 (fun H locs hP hD hS => ?_)
  have hP : va_P G vwCl [(h0, .inr (8, fs111)), (m21, .inl (cA 1, 3, .inl f125)), (m22, .inl (cA 0, 6, .inl f126)), (m33, .inl (cA 0, 42, .inl f155)), (m34, .inl (cA 1, 21, .inl ((upd f153 (4 : Int32).toNatClampNeg (vp_nar .boolean 0))))), (m35, .inl (cA 1, 6, .inl f130))] H := hP
  have hD : va_D A [(h0, .inr (8, fs111)), (m21, .inl (cA 1, 3, .inl f125)), (m22, .inl (cA 0, 6, .inl f126)), (m33, .inl (cA 0, 42, .inl f155)), (m34, .inl (cA 1, 21, .inl ((upd f153 (4 : Int32).toNatClampNeg (vp_nar .boolean 0))))), (m35, .inl (cA 1, 6, .inl f130))] := hD
  generalize (upd f153 (4 : Int32).toNatClampNeg (vp_nar .boolean 0)) = f161 at hP hD
  refine lv_iinc (v := 5) (lv' := [(1, .int 5), (0, .ref h0)]) hx hb dX8_plain_94 hl (k := 0) rfl (by decide) (by decide) rfl (fun ls hl => ?_)
  refine lv_goto (tgt := 70) hx hb dX8_plain_97 (by decide) ?_
  refine lv_iload_n hx hb dX8_plain_70 rfl (lv_at hl 0 rfl) ?_
  refine lv_bipush (v := 21) hx hb dX8_plain_71 (by decide) ?_
  refine lv_icmp_ge (tgt := 100) hx hb dX8_plain_73 (by decide) (fun c162 => absurd c162 (by decide)) (fun c162 => ?_)
  refine lv_aload_n hx hb dX8_plain_76 rfl (lv_at hl 1 rfl) ?_
  refine va_get (D := G) (ci := 8) (v := .ref m33) (C := RX8) (T := TX8) (N := 91) hx hb hT ku_8 hown hK hP 0 rfl rfl 33 (by decide) (hT _ kw_10_1) (fun _ h9 => h9) (fh_at hf 8 rfl) dX8_plain_77 ?_
  refine lv_bipush (v := 21) hx hb dX8_plain_80 (by decide) ?_
  refine lv_iload_n hx hb dX8_plain_82 rfl (lv_at hl 0 rfl) ?_
  refine lv_iadd hx hb dX8_plain_83 ?_
  refine tq_i (w := 26) (by decide) ?_
  refine lv_bipush (v := 60) hx hb dX8_plain_84 (by decide) ?_
  refine va_iast (i := 26) hx hb hK hP hD hS 3 0 rfl rfl (tq_in (by decide)) dX8_plain_86 (fun H locs hP hD hS => ?_)
  have hP : va_P G vwCl [(h0, .inr (8, fs111)), (m21, .inl (cA 1, 3, .inl f125)), (m22, .inl (cA 0, 6, .inl f126)), (m33, .inl (cA 0, 42, .inl ((upd f155 (26 : Int32).toNatClampNeg 60)))), (m34, .inl (cA 1, 21, .inl f161)), (m35, .inl (cA 1, 6, .inl f130))] H := hP
  have hD : va_D A [(h0, .inr (8, fs111)), (m21, .inl (cA 1, 3, .inl f125)), (m22, .inl (cA 0, 6, .inl f126)), (m33, .inl (cA 0, 42, .inl ((upd f155 (26 : Int32).toNatClampNeg 60)))), (m34, .inl (cA 1, 21, .inl f161)), (m35, .inl (cA 1, 6, .inl f130))] := hD
  have hE164 : (upd f155 (26 : Int32).toNatClampNeg 60) 21 = 60 := hE156
  have hE165 : (upd f155 (26 : Int32).toNatClampNeg 60) 22 = 60 := hE157
  have hE166 : (upd f155 (26 : Int32).toNatClampNeg 60) 23 = 60 := hE158
  have hE167 : (upd f155 (26 : Int32).toNatClampNeg 60) 24 = 60 := hE159
  have hE168 : (upd f155 (26 : Int32).toNatClampNeg 60) 25 = 60 := hE160
  have hE169 : (upd f155 (26 : Int32).toNatClampNeg 60) 26 = 60 := rfl
  generalize (upd f155 (26 : Int32).toNatClampNeg 60) = f163 at hP hD hE164 hE165 hE166 hE167 hE168 hE169
  refine lv_aload_n hx hb dX8_plain_87 rfl (lv_at hl 1 rfl) ?_
  refine va_get (D := G) (ci := 8) (v := .ref m34) (C := RX8) (T := TX8) (N := 91) hx hb hT ku_8 hown hK hP 0 rfl rfl 34 (by decide) (hT _ kw_10_2) (fun _ h9 => h9) (fh_at hf 9 rfl) dX8_plain_88 ?_
  refine lv_iload_n hx hb dX8_plain_91 rfl (lv_at hl 0 rfl) ?_
  refine lv_iconst (v := 0) hx hb dX8_plain_92 (by decide) ?_
  refine va_zast (i := 5) hx hb hK hP hD hS 4 1 rfl rfl (tq_in (by decide)) dX8_plain_93 (fun H locs hP hD hS => ?_)
  have hP : va_P G vwCl [(h0, .inr (8, fs111)), (m21, .inl (cA 1, 3, .inl f125)), (m22, .inl (cA 0, 6, .inl f126)), (m33, .inl (cA 0, 42, .inl f163)), (m34, .inl (cA 1, 21, .inl ((upd f161 (5 : Int32).toNatClampNeg (vp_nar .boolean 0))))), (m35, .inl (cA 1, 6, .inl f130))] H := hP
  have hD : va_D A [(h0, .inr (8, fs111)), (m21, .inl (cA 1, 3, .inl f125)), (m22, .inl (cA 0, 6, .inl f126)), (m33, .inl (cA 0, 42, .inl f163)), (m34, .inl (cA 1, 21, .inl ((upd f161 (5 : Int32).toNatClampNeg (vp_nar .boolean 0))))), (m35, .inl (cA 1, 6, .inl f130))] := hD
  generalize (upd f161 (5 : Int32).toNatClampNeg (vp_nar .boolean 0)) = f170 at hP hD
  refine lv_iinc (v := 6) (lv' := [(1, .int 6), (0, .ref h0)]) hx hb dX8_plain_94 hl (k := 0) rfl (by decide) (by decide) rfl (fun ls hl => ?_)
  refine lv_goto (tgt := 70) hx hb dX8_plain_97 (by decide) ?_
  refine lv_iload_n hx hb dX8_plain_70 rfl (lv_at hl 0 rfl) ?_
  refine lv_bipush (v := 21) hx hb dX8_plain_71 (by decide) ?_
  refine lv_icmp_ge (tgt := 100) hx hb dX8_plain_73 (by decide) (fun c171 => absurd c171 (by decide)) (fun c171 => ?_)
  refine lv_aload_n hx hb dX8_plain_76 rfl (lv_at hl 1 rfl) ?_
  refine va_get (D := G) (ci := 8) (v := .ref m33) (C := RX8) (T := TX8) (N := 91) hx hb hT ku_8 hown hK hP 0 rfl rfl 33 (by decide) (hT _ kw_10_1) (fun _ h9 => h9) (fh_at hf 8 rfl) dX8_plain_77 ?_
  refine lv_bipush (v := 21) hx hb dX8_plain_80 (by decide) ?_
  refine lv_iload_n hx hb dX8_plain_82 rfl (lv_at hl 0 rfl) ?_
  refine lv_iadd hx hb dX8_plain_83 ?_
  refine tq_i (w := 27) (by decide) ?_
  refine lv_bipush (v := 60) hx hb dX8_plain_84 (by decide) ?_
  refine va_iast (i := 27) hx hb hK hP hD hS 3 0 rfl rfl (tq_in (by decide)) dX8_plain_86 (fun H locs hP hD hS => ?_)
  have hP : va_P G vwCl [(h0, .inr (8, fs111)), (m21, .inl (cA 1, 3, .inl f125)), (m22, .inl (cA 0, 6, .inl f126)), (m33, .inl (cA 0, 42, .inl ((upd f163 (27 : Int32).toNatClampNeg 60)))), (m34, .inl (cA 1, 21, .inl f170)), (m35, .inl (cA 1, 6, .inl f130))] H := hP
  have hD : va_D A [(h0, .inr (8, fs111)), (m21, .inl (cA 1, 3, .inl f125)), (m22, .inl (cA 0, 6, .inl f126)), (m33, .inl (cA 0, 42, .inl ((upd f163 (27 : Int32).toNatClampNeg 60)))), (m34, .inl (cA 1, 21, .inl f170)), (m35, .inl (cA 1, 6, .inl f130))] := hD
  have hE173 : (upd f163 (27 : Int32).toNatClampNeg 60) 21 = 60 := hE164
  have hE174 : (upd f163 (27 : Int32).toNatClampNeg 60) 22 = 60 := hE165
  have hE175 : (upd f163 (27 : Int32).toNatClampNeg 60) 23 = 60 := hE166
  have hE176 : (upd f163 (27 : Int32).toNatClampNeg 60) 24 = 60 := hE167
  have hE177 : (upd f163 (27 : Int32).toNatClampNeg 60) 25 = 60 := hE168
  have hE178 : (upd f163 (27 : Int32).toNatClampNeg 60) 26 = 60 := hE169
  have hE179 : (upd f163 (27 : Int32).toNatClampNeg 60) 27 = 60 := rfl
  generalize (upd f163 (27 : Int32).toNatClampNeg 60) = f172 at hP hD hE173 hE174 hE175 hE176 hE177 hE178 hE179
  refine lv_aload_n hx hb dX8_plain_87 rfl (lv_at hl 1 rfl) ?_
  refine va_get (D := G) (ci := 8) (v := .ref m34) (C := RX8) (T := TX8) (N := 91) hx hb hT ku_8 hown hK hP 0 rfl rfl 34 (by decide) (hT _ kw_10_2) (fun _ h9 => h9) (fh_at hf 9 rfl) dX8_plain_88 ?_
  refine lv_iload_n hx hb dX8_plain_91 rfl (lv_at hl 0 rfl) ?_
  refine lv_iconst (v := 0) hx hb dX8_plain_92 (by decide) ?_
  refine va_zast (i := 6) hx hb hK hP hD hS 4 1 rfl rfl (tq_in (by decide)) dX8_plain_93 (fun H locs hP hD hS => ?_)
  have hP : va_P G vwCl [(h0, .inr (8, fs111)), (m21, .inl (cA 1, 3, .inl f125)), (m22, .inl (cA 0, 6, .inl f126)), (m33, .inl (cA 0, 42, .inl f172)), (m34, .inl (cA 1, 21, .inl ((upd f170 (6 : Int32).toNatClampNeg (vp_nar .boolean 0))))), (m35, .inl (cA 1, 6, .inl f130))] H := hP
  have hD : va_D A [(h0, .inr (8, fs111)), (m21, .inl (cA 1, 3, .inl f125)), (m22, .inl (cA 0, 6, .inl f126)), (m33, .inl (cA 0, 42, .inl f172)), (m34, .inl (cA 1, 21, .inl ((upd f170 (6 : Int32).toNatClampNeg (vp_nar .boolean 0))))), (m35, .inl (cA 1, 6, .inl f130))] := hD
  generalize (upd f170 (6 : Int32).toNatClampNeg (vp_nar .boolean 0)) = f180 at hP hD
  refine lv_iinc (v := 7) (lv' := [(1, .int 7), (0, .ref h0)]) hx hb dX8_plain_94 hl (k := 0) rfl (by decide) (by decide) rfl (fun ls hl => ?_)
  refine lv_goto (tgt := 70) hx hb dX8_plain_97 (by decide) ?_
  refine lv_iload_n hx hb dX8_plain_70 rfl (lv_at hl 0 rfl) ?_
  refine lv_bipush (v := 21) hx hb dX8_plain_71 (by decide) ?_
  refine lv_icmp_ge (tgt := 100) hx hb dX8_plain_73 (by decide) (fun c181 => absurd c181 (by decide)) (fun c181 => ?_)
  refine lv_aload_n hx hb dX8_plain_76 rfl (lv_at hl 1 rfl) ?_
  refine va_get (D := G) (ci := 8) (v := .ref m33) (C := RX8) (T := TX8) (N := 91) hx hb hT ku_8 hown hK hP 0 rfl rfl 33 (by decide) (hT _ kw_10_1) (fun _ h9 => h9) (fh_at hf 8 rfl) dX8_plain_77 ?_
  refine lv_bipush (v := 21) hx hb dX8_plain_80 (by decide) ?_
  refine lv_iload_n hx hb dX8_plain_82 rfl (lv_at hl 0 rfl) ?_
  refine lv_iadd hx hb dX8_plain_83 ?_
  refine tq_i (w := 28) (by decide) ?_
  refine lv_bipush (v := 60) hx hb dX8_plain_84 (by decide) ?_
  refine va_iast (i := 28) hx hb hK hP hD hS 3 0 rfl rfl (tq_in (by decide)) dX8_plain_86 (fun H locs hP hD hS => ?_)
  have hP : va_P G vwCl [(h0, .inr (8, fs111)), (m21, .inl (cA 1, 3, .inl f125)), (m22, .inl (cA 0, 6, .inl f126)), (m33, .inl (cA 0, 42, .inl ((upd f172 (28 : Int32).toNatClampNeg 60)))), (m34, .inl (cA 1, 21, .inl f180)), (m35, .inl (cA 1, 6, .inl f130))] H := hP
  have hD : va_D A [(h0, .inr (8, fs111)), (m21, .inl (cA 1, 3, .inl f125)), (m22, .inl (cA 0, 6, .inl f126)), (m33, .inl (cA 0, 42, .inl ((upd f172 (28 : Int32).toNatClampNeg 60)))), (m34, .inl (cA 1, 21, .inl f180)), (m35, .inl (cA 1, 6, .inl f130))] := hD
  have hE183 : (upd f172 (28 : Int32).toNatClampNeg 60) 21 = 60 := hE173
  have hE184 : (upd f172 (28 : Int32).toNatClampNeg 60) 22 = 60 := hE174
  have hE185 : (upd f172 (28 : Int32).toNatClampNeg 60) 23 = 60 := hE175
  have hE186 : (upd f172 (28 : Int32).toNatClampNeg 60) 24 = 60 := hE176
  have hE187 : (upd f172 (28 : Int32).toNatClampNeg 60) 25 = 60 := hE177
  have hE188 : (upd f172 (28 : Int32).toNatClampNeg 60) 26 = 60 := hE178
  have hE189 : (upd f172 (28 : Int32).toNatClampNeg 60) 27 = 60 := hE179
  have hE190 : (upd f172 (28 : Int32).toNatClampNeg 60) 28 = 60 := rfl
  generalize (upd f172 (28 : Int32).toNatClampNeg 60) = f182 at hP hD hE183 hE184 hE185 hE186 hE187 hE188 hE189 hE190
  refine lv_aload_n hx hb dX8_plain_87 rfl (lv_at hl 1 rfl) ?_
  refine va_get (D := G) (ci := 8) (v := .ref m34) (C := RX8) (T := TX8) (N := 91) hx hb hT ku_8 hown hK hP 0 rfl rfl 34 (by decide) (hT _ kw_10_2) (fun _ h9 => h9) (fh_at hf 9 rfl) dX8_plain_88 ?_
  refine lv_iload_n hx hb dX8_plain_91 rfl (lv_at hl 0 rfl) ?_
  refine lv_iconst (v := 0) hx hb dX8_plain_92 (by decide) ?_
  refine va_zast (i := 7) hx hb hK hP hD hS 4 1 rfl rfl (tq_in (by decide)) dX8_plain_93 (fun H locs hP hD hS => ?_)
  have hP : va_P G vwCl [(h0, .inr (8, fs111)), (m21, .inl (cA 1, 3, .inl f125)), (m22, .inl (cA 0, 6, .inl f126)), (m33, .inl (cA 0, 42, .inl f182)), (m34, .inl (cA 1, 21, .inl ((upd f180 (7 : Int32).toNatClampNeg (vp_nar .boolean 0))))), (m35, .inl (cA 1, 6, .inl f130))] H := hP
  have hD : va_D A [(h0, .inr (8, fs111)), (m21, .inl (cA 1, 3, .inl f125)), (m22, .inl (cA 0, 6, .inl f126)), (m33, .inl (cA 0, 42, .inl f182)), (m34, .inl (cA 1, 21, .inl ((upd f180 (7 : Int32).toNatClampNeg (vp_nar .boolean 0))))), (m35, .inl (cA 1, 6, .inl f130))] := hD
  generalize (upd f180 (7 : Int32).toNatClampNeg (vp_nar .boolean 0)) = f191 at hP hD
  refine lv_iinc (v := 8) (lv' := [(1, .int 8), (0, .ref h0)]) hx hb dX8_plain_94 hl (k := 0) rfl (by decide) (by decide) rfl (fun ls hl => ?_)
  refine lv_goto (tgt := 70) hx hb dX8_plain_97 (by decide) ?_
  refine lv_iload_n hx hb dX8_plain_70 rfl (lv_at hl 0 rfl) ?_
  refine lv_bipush (v := 21) hx hb dX8_plain_71 (by decide) ?_
  refine lv_icmp_ge (tgt := 100) hx hb dX8_plain_73 (by decide) (fun c192 => absurd c192 (by decide)) (fun c192 => ?_)
  refine lv_aload_n hx hb dX8_plain_76 rfl (lv_at hl 1 rfl) ?_
  refine va_get (D := G) (ci := 8) (v := .ref m33) (C := RX8) (T := TX8) (N := 91) hx hb hT ku_8 hown hK hP 0 rfl rfl 33 (by decide) (hT _ kw_10_1) (fun _ h9 => h9) (fh_at hf 8 rfl) dX8_plain_77 ?_
  refine lv_bipush (v := 21) hx hb dX8_plain_80 (by decide) ?_
  refine lv_iload_n hx hb dX8_plain_82 rfl (lv_at hl 0 rfl) ?_
  refine lv_iadd hx hb dX8_plain_83 ?_
  refine tq_i (w := 29) (by decide) ?_
  refine lv_bipush (v := 60) hx hb dX8_plain_84 (by decide) ?_
  refine va_iast (i := 29) hx hb hK hP hD hS 3 0 rfl rfl (tq_in (by decide)) dX8_plain_86 (fun H locs hP hD hS => ?_)
  have hP : va_P G vwCl [(h0, .inr (8, fs111)), (m21, .inl (cA 1, 3, .inl f125)), (m22, .inl (cA 0, 6, .inl f126)), (m33, .inl (cA 0, 42, .inl ((upd f182 (29 : Int32).toNatClampNeg 60)))), (m34, .inl (cA 1, 21, .inl f191)), (m35, .inl (cA 1, 6, .inl f130))] H := hP
  have hD : va_D A [(h0, .inr (8, fs111)), (m21, .inl (cA 1, 3, .inl f125)), (m22, .inl (cA 0, 6, .inl f126)), (m33, .inl (cA 0, 42, .inl ((upd f182 (29 : Int32).toNatClampNeg 60)))), (m34, .inl (cA 1, 21, .inl f191)), (m35, .inl (cA 1, 6, .inl f130))] := hD
  have hE194 : (upd f182 (29 : Int32).toNatClampNeg 60) 21 = 60 := hE183
  have hE195 : (upd f182 (29 : Int32).toNatClampNeg 60) 22 = 60 := hE184
  have hE196 : (upd f182 (29 : Int32).toNatClampNeg 60) 23 = 60 := hE185
  have hE197 : (upd f182 (29 : Int32).toNatClampNeg 60) 24 = 60 := hE186
  have hE198 : (upd f182 (29 : Int32).toNatClampNeg 60) 25 = 60 := hE187
  have hE199 : (upd f182 (29 : Int32).toNatClampNeg 60) 26 = 60 := hE188
  have hE200 : (upd f182 (29 : Int32).toNatClampNeg 60) 27 = 60 := hE189
  have hE201 : (upd f182 (29 : Int32).toNatClampNeg 60) 28 = 60 := hE190
  have hE202 : (upd f182 (29 : Int32).toNatClampNeg 60) 29 = 60 := rfl
  generalize (upd f182 (29 : Int32).toNatClampNeg 60) = f193 at hP hD hE194 hE195 hE196 hE197 hE198 hE199 hE200 hE201 hE202
  refine lv_aload_n hx hb dX8_plain_87 rfl (lv_at hl 1 rfl) ?_
  refine va_get (D := G) (ci := 8) (v := .ref m34) (C := RX8) (T := TX8) (N := 91) hx hb hT ku_8 hown hK hP 0 rfl rfl 34 (by decide) (hT _ kw_10_2) (fun _ h9 => h9) (fh_at hf 9 rfl) dX8_plain_88 ?_
  refine lv_iload_n hx hb dX8_plain_91 rfl (lv_at hl 0 rfl) ?_
  refine lv_iconst (v := 0) hx hb dX8_plain_92 (by decide) ?_
  refine va_zast (i := 8) hx hb hK hP hD hS 4 1 rfl rfl (tq_in (by decide)) dX8_plain_93 (fun H locs hP hD hS => ?_)
  have hP : va_P G vwCl [(h0, .inr (8, fs111)), (m21, .inl (cA 1, 3, .inl f125)), (m22, .inl (cA 0, 6, .inl f126)), (m33, .inl (cA 0, 42, .inl f193)), (m34, .inl (cA 1, 21, .inl ((upd f191 (8 : Int32).toNatClampNeg (vp_nar .boolean 0))))), (m35, .inl (cA 1, 6, .inl f130))] H := hP
  have hD : va_D A [(h0, .inr (8, fs111)), (m21, .inl (cA 1, 3, .inl f125)), (m22, .inl (cA 0, 6, .inl f126)), (m33, .inl (cA 0, 42, .inl f193)), (m34, .inl (cA 1, 21, .inl ((upd f191 (8 : Int32).toNatClampNeg (vp_nar .boolean 0))))), (m35, .inl (cA 1, 6, .inl f130))] := hD
  generalize (upd f191 (8 : Int32).toNatClampNeg (vp_nar .boolean 0)) = f203 at hP hD
  refine lv_iinc (v := 9) (lv' := [(1, .int 9), (0, .ref h0)]) hx hb dX8_plain_94 hl (k := 0) rfl (by decide) (by decide) rfl (fun ls hl => ?_)
  refine lv_goto (tgt := 70) hx hb dX8_plain_97 (by decide) ?_
  refine lv_iload_n hx hb dX8_plain_70 rfl (lv_at hl 0 rfl) ?_
  refine lv_bipush (v := 21) hx hb dX8_plain_71 (by decide) ?_
  refine lv_icmp_ge (tgt := 100) hx hb dX8_plain_73 (by decide) (fun c204 => absurd c204 (by decide)) (fun c204 => ?_)
  refine lv_aload_n hx hb dX8_plain_76 rfl (lv_at hl 1 rfl) ?_
  refine va_get (D := G) (ci := 8) (v := .ref m33) (C := RX8) (T := TX8) (N := 91) hx hb hT ku_8 hown hK hP 0 rfl rfl 33 (by decide) (hT _ kw_10_1) (fun _ h9 => h9) (fh_at hf 8 rfl) dX8_plain_77 ?_
  refine lv_bipush (v := 21) hx hb dX8_plain_80 (by decide) ?_
  refine lv_iload_n hx hb dX8_plain_82 rfl (lv_at hl 0 rfl) ?_
  refine lv_iadd hx hb dX8_plain_83 ?_
  refine tq_i (w := 30) (by decide) ?_
  refine lv_bipush (v := 60) hx hb dX8_plain_84 (by decide) ?_
  refine va_iast (i := 30) hx hb hK hP hD hS 3 0 rfl rfl (tq_in (by decide)) dX8_plain_86 (fun H locs hP hD hS => ?_)
  have hP : va_P G vwCl [(h0, .inr (8, fs111)), (m21, .inl (cA 1, 3, .inl f125)), (m22, .inl (cA 0, 6, .inl f126)), (m33, .inl (cA 0, 42, .inl ((upd f193 (30 : Int32).toNatClampNeg 60)))), (m34, .inl (cA 1, 21, .inl f203)), (m35, .inl (cA 1, 6, .inl f130))] H := hP
  have hD : va_D A [(h0, .inr (8, fs111)), (m21, .inl (cA 1, 3, .inl f125)), (m22, .inl (cA 0, 6, .inl f126)), (m33, .inl (cA 0, 42, .inl ((upd f193 (30 : Int32).toNatClampNeg 60)))), (m34, .inl (cA 1, 21, .inl f203)), (m35, .inl (cA 1, 6, .inl f130))] := hD
  have hE206 : (upd f193 (30 : Int32).toNatClampNeg 60) 21 = 60 := hE194
  have hE207 : (upd f193 (30 : Int32).toNatClampNeg 60) 22 = 60 := hE195
  have hE208 : (upd f193 (30 : Int32).toNatClampNeg 60) 23 = 60 := hE196
  have hE209 : (upd f193 (30 : Int32).toNatClampNeg 60) 24 = 60 := hE197
  have hE210 : (upd f193 (30 : Int32).toNatClampNeg 60) 25 = 60 := hE198
  have hE211 : (upd f193 (30 : Int32).toNatClampNeg 60) 26 = 60 := hE199
  have hE212 : (upd f193 (30 : Int32).toNatClampNeg 60) 27 = 60 := hE200
  have hE213 : (upd f193 (30 : Int32).toNatClampNeg 60) 28 = 60 := hE201
  have hE214 : (upd f193 (30 : Int32).toNatClampNeg 60) 29 = 60 := hE202
  have hE215 : (upd f193 (30 : Int32).toNatClampNeg 60) 30 = 60 := rfl
  generalize (upd f193 (30 : Int32).toNatClampNeg 60) = f205 at hP hD hE206 hE207 hE208 hE209 hE210 hE211 hE212 hE213 hE214 hE215
  refine lv_aload_n hx hb dX8_plain_87 rfl (lv_at hl 1 rfl) ?_
  refine va_get (D := G) (ci := 8) (v := .ref m34) (C := RX8) (T := TX8) (N := 91) hx hb hT ku_8 hown hK hP 0 rfl rfl 34 (by decide) (hT _ kw_10_2) (fun _ h9 => h9) (fh_at hf 9 rfl) dX8_plain_88 ?_
  refine lv_iload_n hx hb dX8_plain_91 rfl (lv_at hl 0 rfl) ?_
  refine lv_iconst (v := 0) hx hb dX8_plain_92 (by decide) ?_
  refine va_zast (i := 9) hx hb hK hP hD hS 4 1 rfl rfl (tq_in (by decide)) dX8_plain_93 (fun H locs hP hD hS => ?_)
  have hP : va_P G vwCl [(h0, .inr (8, fs111)), (m21, .inl (cA 1, 3, .inl f125)), (m22, .inl (cA 0, 6, .inl f126)), (m33, .inl (cA 0, 42, .inl f205)), (m34, .inl (cA 1, 21, .inl ((upd f203 (9 : Int32).toNatClampNeg (vp_nar .boolean 0))))), (m35, .inl (cA 1, 6, .inl f130))] H := hP
  have hD : va_D A [(h0, .inr (8, fs111)), (m21, .inl (cA 1, 3, .inl f125)), (m22, .inl (cA 0, 6, .inl f126)), (m33, .inl (cA 0, 42, .inl f205)), (m34, .inl (cA 1, 21, .inl ((upd f203 (9 : Int32).toNatClampNeg (vp_nar .boolean 0))))), (m35, .inl (cA 1, 6, .inl f130))] := hD
  generalize (upd f203 (9 : Int32).toNatClampNeg (vp_nar .boolean 0)) = f216 at hP hD
  refine lv_iinc (v := 10) (lv' := [(1, .int 10), (0, .ref h0)]) hx hb dX8_plain_94 hl (k := 0) rfl (by decide) (by decide) rfl (fun ls hl => ?_)
  refine lv_goto (tgt := 70) hx hb dX8_plain_97 (by decide) ?_
  refine lv_iload_n hx hb dX8_plain_70 rfl (lv_at hl 0 rfl) ?_
  refine lv_bipush (v := 21) hx hb dX8_plain_71 (by decide) ?_
  refine lv_icmp_ge (tgt := 100) hx hb dX8_plain_73 (by decide) (fun c217 => absurd c217 (by decide)) (fun c217 => ?_)
  refine lv_aload_n hx hb dX8_plain_76 rfl (lv_at hl 1 rfl) ?_
  refine va_get (D := G) (ci := 8) (v := .ref m33) (C := RX8) (T := TX8) (N := 91) hx hb hT ku_8 hown hK hP 0 rfl rfl 33 (by decide) (hT _ kw_10_1) (fun _ h9 => h9) (fh_at hf 8 rfl) dX8_plain_77 ?_
  refine lv_bipush (v := 21) hx hb dX8_plain_80 (by decide) ?_
  refine lv_iload_n hx hb dX8_plain_82 rfl (lv_at hl 0 rfl) ?_
  refine lv_iadd hx hb dX8_plain_83 ?_
  refine tq_i (w := 31) (by decide) ?_
  refine lv_bipush (v := 60) hx hb dX8_plain_84 (by decide) ?_
  refine va_iast (i := 31) hx hb hK hP hD hS 3 0 rfl rfl (tq_in (by decide)) dX8_plain_86 (fun H locs hP hD hS => ?_)
  have hP : va_P G vwCl [(h0, .inr (8, fs111)), (m21, .inl (cA 1, 3, .inl f125)), (m22, .inl (cA 0, 6, .inl f126)), (m33, .inl (cA 0, 42, .inl ((upd f205 (31 : Int32).toNatClampNeg 60)))), (m34, .inl (cA 1, 21, .inl f216)), (m35, .inl (cA 1, 6, .inl f130))] H := hP
  have hD : va_D A [(h0, .inr (8, fs111)), (m21, .inl (cA 1, 3, .inl f125)), (m22, .inl (cA 0, 6, .inl f126)), (m33, .inl (cA 0, 42, .inl ((upd f205 (31 : Int32).toNatClampNeg 60)))), (m34, .inl (cA 1, 21, .inl f216)), (m35, .inl (cA 1, 6, .inl f130))] := hD
  have hE219 : (upd f205 (31 : Int32).toNatClampNeg 60) 21 = 60 := hE206
  have hE220 : (upd f205 (31 : Int32).toNatClampNeg 60) 22 = 60 := hE207
  have hE221 : (upd f205 (31 : Int32).toNatClampNeg 60) 23 = 60 := hE208
  have hE222 : (upd f205 (31 : Int32).toNatClampNeg 60) 24 = 60 := hE209
  have hE223 : (upd f205 (31 : Int32).toNatClampNeg 60) 25 = 60 := hE210
  have hE224 : (upd f205 (31 : Int32).toNatClampNeg 60) 26 = 60 := hE211
  have hE225 : (upd f205 (31 : Int32).toNatClampNeg 60) 27 = 60 := hE212
  have hE226 : (upd f205 (31 : Int32).toNatClampNeg 60) 28 = 60 := hE213
  have hE227 : (upd f205 (31 : Int32).toNatClampNeg 60) 29 = 60 := hE214
  have hE228 : (upd f205 (31 : Int32).toNatClampNeg 60) 30 = 60 := hE215
  have hE229 : (upd f205 (31 : Int32).toNatClampNeg 60) 31 = 60 := rfl
  generalize (upd f205 (31 : Int32).toNatClampNeg 60) = f218 at hP hD hE219 hE220 hE221 hE222 hE223 hE224 hE225 hE226 hE227 hE228 hE229
  refine lv_aload_n hx hb dX8_plain_87 rfl (lv_at hl 1 rfl) ?_
  refine va_get (D := G) (ci := 8) (v := .ref m34) (C := RX8) (T := TX8) (N := 91) hx hb hT ku_8 hown hK hP 0 rfl rfl 34 (by decide) (hT _ kw_10_2) (fun _ h9 => h9) (fh_at hf 9 rfl) dX8_plain_88 ?_
  refine lv_iload_n hx hb dX8_plain_91 rfl (lv_at hl 0 rfl) ?_
  refine lv_iconst (v := 0) hx hb dX8_plain_92 (by decide) ?_
  refine va_zast (i := 10) hx hb hK hP hD hS 4 1 rfl rfl (tq_in (by decide)) dX8_plain_93 (fun H locs hP hD hS => ?_)
  have hP : va_P G vwCl [(h0, .inr (8, fs111)), (m21, .inl (cA 1, 3, .inl f125)), (m22, .inl (cA 0, 6, .inl f126)), (m33, .inl (cA 0, 42, .inl f218)), (m34, .inl (cA 1, 21, .inl ((upd f216 (10 : Int32).toNatClampNeg (vp_nar .boolean 0))))), (m35, .inl (cA 1, 6, .inl f130))] H := hP
  have hD : va_D A [(h0, .inr (8, fs111)), (m21, .inl (cA 1, 3, .inl f125)), (m22, .inl (cA 0, 6, .inl f126)), (m33, .inl (cA 0, 42, .inl f218)), (m34, .inl (cA 1, 21, .inl ((upd f216 (10 : Int32).toNatClampNeg (vp_nar .boolean 0))))), (m35, .inl (cA 1, 6, .inl f130))] := hD
  generalize (upd f216 (10 : Int32).toNatClampNeg (vp_nar .boolean 0)) = f230 at hP hD
  refine lv_iinc (v := 11) (lv' := [(1, .int 11), (0, .ref h0)]) hx hb dX8_plain_94 hl (k := 0) rfl (by decide) (by decide) rfl (fun ls hl => ?_)
  refine lv_goto (tgt := 70) hx hb dX8_plain_97 (by decide) ?_
  refine lv_iload_n hx hb dX8_plain_70 rfl (lv_at hl 0 rfl) ?_
  refine lv_bipush (v := 21) hx hb dX8_plain_71 (by decide) ?_
  refine lv_icmp_ge (tgt := 100) hx hb dX8_plain_73 (by decide) (fun c231 => absurd c231 (by decide)) (fun c231 => ?_)
  refine lv_aload_n hx hb dX8_plain_76 rfl (lv_at hl 1 rfl) ?_
  refine va_get (D := G) (ci := 8) (v := .ref m33) (C := RX8) (T := TX8) (N := 91) hx hb hT ku_8 hown hK hP 0 rfl rfl 33 (by decide) (hT _ kw_10_1) (fun _ h9 => h9) (fh_at hf 8 rfl) dX8_plain_77 ?_
  refine lv_bipush (v := 21) hx hb dX8_plain_80 (by decide) ?_
  refine lv_iload_n hx hb dX8_plain_82 rfl (lv_at hl 0 rfl) ?_
  refine lv_iadd hx hb dX8_plain_83 ?_
  refine tq_i (w := 32) (by decide) ?_
  refine lv_bipush (v := 60) hx hb dX8_plain_84 (by decide) ?_
  refine va_iast (i := 32) hx hb hK hP hD hS 3 0 rfl rfl (tq_in (by decide)) dX8_plain_86 (fun H locs hP hD hS => ?_)
  have hP : va_P G vwCl [(h0, .inr (8, fs111)), (m21, .inl (cA 1, 3, .inl f125)), (m22, .inl (cA 0, 6, .inl f126)), (m33, .inl (cA 0, 42, .inl ((upd f218 (32 : Int32).toNatClampNeg 60)))), (m34, .inl (cA 1, 21, .inl f230)), (m35, .inl (cA 1, 6, .inl f130))] H := hP
  have hD : va_D A [(h0, .inr (8, fs111)), (m21, .inl (cA 1, 3, .inl f125)), (m22, .inl (cA 0, 6, .inl f126)), (m33, .inl (cA 0, 42, .inl ((upd f218 (32 : Int32).toNatClampNeg 60)))), (m34, .inl (cA 1, 21, .inl f230)), (m35, .inl (cA 1, 6, .inl f130))] := hD
  have hE233 : (upd f218 (32 : Int32).toNatClampNeg 60) 21 = 60 := hE219
  have hE234 : (upd f218 (32 : Int32).toNatClampNeg 60) 22 = 60 := hE220
  have hE235 : (upd f218 (32 : Int32).toNatClampNeg 60) 23 = 60 := hE221
  have hE236 : (upd f218 (32 : Int32).toNatClampNeg 60) 24 = 60 := hE222
  have hE237 : (upd f218 (32 : Int32).toNatClampNeg 60) 25 = 60 := hE223
  have hE238 : (upd f218 (32 : Int32).toNatClampNeg 60) 26 = 60 := hE224
  have hE239 : (upd f218 (32 : Int32).toNatClampNeg 60) 27 = 60 := hE225
  have hE240 : (upd f218 (32 : Int32).toNatClampNeg 60) 28 = 60 := hE226
  have hE241 : (upd f218 (32 : Int32).toNatClampNeg 60) 29 = 60 := hE227
  have hE242 : (upd f218 (32 : Int32).toNatClampNeg 60) 30 = 60 := hE228
  have hE243 : (upd f218 (32 : Int32).toNatClampNeg 60) 31 = 60 := hE229
  have hE244 : (upd f218 (32 : Int32).toNatClampNeg 60) 32 = 60 := rfl
  generalize (upd f218 (32 : Int32).toNatClampNeg 60) = f232 at hP hD hE233 hE234 hE235 hE236 hE237 hE238 hE239 hE240 hE241 hE242 hE243 hE244
  refine lv_aload_n hx hb dX8_plain_87 rfl (lv_at hl 1 rfl) ?_
  refine va_get (D := G) (ci := 8) (v := .ref m34) (C := RX8) (T := TX8) (N := 91) hx hb hT ku_8 hown hK hP 0 rfl rfl 34 (by decide) (hT _ kw_10_2) (fun _ h9 => h9) (fh_at hf 9 rfl) dX8_plain_88 ?_
  refine lv_iload_n hx hb dX8_plain_91 rfl (lv_at hl 0 rfl) ?_
  refine lv_iconst (v := 0) hx hb dX8_plain_92 (by decide) ?_
  refine va_zast (i := 11) hx hb hK hP hD hS 4 1 rfl rfl (tq_in (by decide)) dX8_plain_93 (fun H locs hP hD hS => ?_)
  have hP : va_P G vwCl [(h0, .inr (8, fs111)), (m21, .inl (cA 1, 3, .inl f125)), (m22, .inl (cA 0, 6, .inl f126)), (m33, .inl (cA 0, 42, .inl f232)), (m34, .inl (cA 1, 21, .inl ((upd f230 (11 : Int32).toNatClampNeg (vp_nar .boolean 0))))), (m35, .inl (cA 1, 6, .inl f130))] H := hP
  have hD : va_D A [(h0, .inr (8, fs111)), (m21, .inl (cA 1, 3, .inl f125)), (m22, .inl (cA 0, 6, .inl f126)), (m33, .inl (cA 0, 42, .inl f232)), (m34, .inl (cA 1, 21, .inl ((upd f230 (11 : Int32).toNatClampNeg (vp_nar .boolean 0))))), (m35, .inl (cA 1, 6, .inl f130))] := hD
  generalize (upd f230 (11 : Int32).toNatClampNeg (vp_nar .boolean 0)) = f245 at hP hD
  refine lv_iinc (v := 12) (lv' := [(1, .int 12), (0, .ref h0)]) hx hb dX8_plain_94 hl (k := 0) rfl (by decide) (by decide) rfl (fun ls hl => ?_)
  refine lv_goto (tgt := 70) hx hb dX8_plain_97 (by decide) ?_
  refine lv_iload_n hx hb dX8_plain_70 rfl (lv_at hl 0 rfl) ?_
  refine lv_bipush (v := 21) hx hb dX8_plain_71 (by decide) ?_
  refine lv_icmp_ge (tgt := 100) hx hb dX8_plain_73 (by decide) (fun c246 => absurd c246 (by decide)) (fun c246 => ?_)
  refine lv_aload_n hx hb dX8_plain_76 rfl (lv_at hl 1 rfl) ?_
  refine va_get (D := G) (ci := 8) (v := .ref m33) (C := RX8) (T := TX8) (N := 91) hx hb hT ku_8 hown hK hP 0 rfl rfl 33 (by decide) (hT _ kw_10_1) (fun _ h9 => h9) (fh_at hf 8 rfl) dX8_plain_77 ?_
  refine lv_bipush (v := 21) hx hb dX8_plain_80 (by decide) ?_
  refine lv_iload_n hx hb dX8_plain_82 rfl (lv_at hl 0 rfl) ?_
  refine lv_iadd hx hb dX8_plain_83 ?_
  refine tq_i (w := 33) (by decide) ?_
  refine lv_bipush (v := 60) hx hb dX8_plain_84 (by decide) ?_
  refine va_iast (i := 33) hx hb hK hP hD hS 3 0 rfl rfl (tq_in (by decide)) dX8_plain_86 (fun H locs hP hD hS => ?_)
  have hP : va_P G vwCl [(h0, .inr (8, fs111)), (m21, .inl (cA 1, 3, .inl f125)), (m22, .inl (cA 0, 6, .inl f126)), (m33, .inl (cA 0, 42, .inl ((upd f232 (33 : Int32).toNatClampNeg 60)))), (m34, .inl (cA 1, 21, .inl f245)), (m35, .inl (cA 1, 6, .inl f130))] H := hP
  have hD : va_D A [(h0, .inr (8, fs111)), (m21, .inl (cA 1, 3, .inl f125)), (m22, .inl (cA 0, 6, .inl f126)), (m33, .inl (cA 0, 42, .inl ((upd f232 (33 : Int32).toNatClampNeg 60)))), (m34, .inl (cA 1, 21, .inl f245)), (m35, .inl (cA 1, 6, .inl f130))] := hD
  have hE248 : (upd f232 (33 : Int32).toNatClampNeg 60) 21 = 60 := hE233
  have hE249 : (upd f232 (33 : Int32).toNatClampNeg 60) 22 = 60 := hE234
  have hE250 : (upd f232 (33 : Int32).toNatClampNeg 60) 23 = 60 := hE235
  have hE251 : (upd f232 (33 : Int32).toNatClampNeg 60) 24 = 60 := hE236
  have hE252 : (upd f232 (33 : Int32).toNatClampNeg 60) 25 = 60 := hE237
  have hE253 : (upd f232 (33 : Int32).toNatClampNeg 60) 26 = 60 := hE238
  have hE254 : (upd f232 (33 : Int32).toNatClampNeg 60) 27 = 60 := hE239
  have hE255 : (upd f232 (33 : Int32).toNatClampNeg 60) 28 = 60 := hE240
  have hE256 : (upd f232 (33 : Int32).toNatClampNeg 60) 29 = 60 := hE241
  have hE257 : (upd f232 (33 : Int32).toNatClampNeg 60) 30 = 60 := hE242
  have hE258 : (upd f232 (33 : Int32).toNatClampNeg 60) 31 = 60 := hE243
  have hE259 : (upd f232 (33 : Int32).toNatClampNeg 60) 32 = 60 := hE244
  have hE260 : (upd f232 (33 : Int32).toNatClampNeg 60) 33 = 60 := rfl
  generalize (upd f232 (33 : Int32).toNatClampNeg 60) = f247 at hP hD hE248 hE249 hE250 hE251 hE252 hE253 hE254 hE255 hE256 hE257 hE258 hE259 hE260
  refine lv_aload_n hx hb dX8_plain_87 rfl (lv_at hl 1 rfl) ?_
  refine va_get (D := G) (ci := 8) (v := .ref m34) (C := RX8) (T := TX8) (N := 91) hx hb hT ku_8 hown hK hP 0 rfl rfl 34 (by decide) (hT _ kw_10_2) (fun _ h9 => h9) (fh_at hf 9 rfl) dX8_plain_88 ?_
  refine lv_iload_n hx hb dX8_plain_91 rfl (lv_at hl 0 rfl) ?_
  refine lv_iconst (v := 0) hx hb dX8_plain_92 (by decide) ?_
  refine va_zast (i := 12) hx hb hK hP hD hS 4 1 rfl rfl (tq_in (by decide)) dX8_plain_93 (fun H locs hP hD hS => ?_)
  have hP : va_P G vwCl [(h0, .inr (8, fs111)), (m21, .inl (cA 1, 3, .inl f125)), (m22, .inl (cA 0, 6, .inl f126)), (m33, .inl (cA 0, 42, .inl f247)), (m34, .inl (cA 1, 21, .inl ((upd f245 (12 : Int32).toNatClampNeg (vp_nar .boolean 0))))), (m35, .inl (cA 1, 6, .inl f130))] H := hP
  have hD : va_D A [(h0, .inr (8, fs111)), (m21, .inl (cA 1, 3, .inl f125)), (m22, .inl (cA 0, 6, .inl f126)), (m33, .inl (cA 0, 42, .inl f247)), (m34, .inl (cA 1, 21, .inl ((upd f245 (12 : Int32).toNatClampNeg (vp_nar .boolean 0))))), (m35, .inl (cA 1, 6, .inl f130))] := hD
  generalize (upd f245 (12 : Int32).toNatClampNeg (vp_nar .boolean 0)) = f261 at hP hD
  refine lv_iinc (v := 13) (lv' := [(1, .int 13), (0, .ref h0)]) hx hb dX8_plain_94 hl (k := 0) rfl (by decide) (by decide) rfl (fun ls hl => ?_)
  refine lv_goto (tgt := 70) hx hb dX8_plain_97 (by decide) ?_
  refine lv_iload_n hx hb dX8_plain_70 rfl (lv_at hl 0 rfl) ?_
  refine lv_bipush (v := 21) hx hb dX8_plain_71 (by decide) ?_
  refine lv_icmp_ge (tgt := 100) hx hb dX8_plain_73 (by decide) (fun c262 => absurd c262 (by decide)) (fun c262 => ?_)
  refine lv_aload_n hx hb dX8_plain_76 rfl (lv_at hl 1 rfl) ?_
  refine va_get (D := G) (ci := 8) (v := .ref m33) (C := RX8) (T := TX8) (N := 91) hx hb hT ku_8 hown hK hP 0 rfl rfl 33 (by decide) (hT _ kw_10_1) (fun _ h9 => h9) (fh_at hf 8 rfl) dX8_plain_77 ?_
  refine lv_bipush (v := 21) hx hb dX8_plain_80 (by decide) ?_
  refine lv_iload_n hx hb dX8_plain_82 rfl (lv_at hl 0 rfl) ?_
  refine lv_iadd hx hb dX8_plain_83 ?_
  refine tq_i (w := 34) (by decide) ?_
  refine lv_bipush (v := 60) hx hb dX8_plain_84 (by decide) ?_
  refine va_iast (i := 34) hx hb hK hP hD hS 3 0 rfl rfl (tq_in (by decide)) dX8_plain_86 (fun H locs hP hD hS => ?_)
  have hP : va_P G vwCl [(h0, .inr (8, fs111)), (m21, .inl (cA 1, 3, .inl f125)), (m22, .inl (cA 0, 6, .inl f126)), (m33, .inl (cA 0, 42, .inl ((upd f247 (34 : Int32).toNatClampNeg 60)))), (m34, .inl (cA 1, 21, .inl f261)), (m35, .inl (cA 1, 6, .inl f130))] H := hP
  have hD : va_D A [(h0, .inr (8, fs111)), (m21, .inl (cA 1, 3, .inl f125)), (m22, .inl (cA 0, 6, .inl f126)), (m33, .inl (cA 0, 42, .inl ((upd f247 (34 : Int32).toNatClampNeg 60)))), (m34, .inl (cA 1, 21, .inl f261)), (m35, .inl (cA 1, 6, .inl f130))] := hD
  have hE264 : (upd f247 (34 : Int32).toNatClampNeg 60) 21 = 60 := hE248
  have hE265 : (upd f247 (34 : Int32).toNatClampNeg 60) 22 = 60 := hE249
  have hE266 : (upd f247 (34 : Int32).toNatClampNeg 60) 23 = 60 := hE250
  have hE267 : (upd f247 (34 : Int32).toNatClampNeg 60) 24 = 60 := hE251
  have hE268 : (upd f247 (34 : Int32).toNatClampNeg 60) 25 = 60 := hE252
  have hE269 : (upd f247 (34 : Int32).toNatClampNeg 60) 26 = 60 := hE253
  have hE270 : (upd f247 (34 : Int32).toNatClampNeg 60) 27 = 60 := hE254
  have hE271 : (upd f247 (34 : Int32).toNatClampNeg 60) 28 = 60 := hE255
  have hE272 : (upd f247 (34 : Int32).toNatClampNeg 60) 29 = 60 := hE256
  have hE273 : (upd f247 (34 : Int32).toNatClampNeg 60) 30 = 60 := hE257
  have hE274 : (upd f247 (34 : Int32).toNatClampNeg 60) 31 = 60 := hE258
  have hE275 : (upd f247 (34 : Int32).toNatClampNeg 60) 32 = 60 := hE259
  have hE276 : (upd f247 (34 : Int32).toNatClampNeg 60) 33 = 60 := hE260
  have hE277 : (upd f247 (34 : Int32).toNatClampNeg 60) 34 = 60 := rfl
  generalize (upd f247 (34 : Int32).toNatClampNeg 60) = f263 at hP hD hE264 hE265 hE266 hE267 hE268 hE269 hE270 hE271 hE272 hE273 hE274 hE275 hE276 hE277
  refine lv_aload_n hx hb dX8_plain_87 rfl (lv_at hl 1 rfl) ?_
  refine va_get (D := G) (ci := 8) (v := .ref m34) (C := RX8) (T := TX8) (N := 91) hx hb hT ku_8 hown hK hP 0 rfl rfl 34 (by decide) (hT _ kw_10_2) (fun _ h9 => h9) (fh_at hf 9 rfl) dX8_plain_88 ?_
  refine lv_iload_n hx hb dX8_plain_91 rfl (lv_at hl 0 rfl) ?_
  refine lv_iconst (v := 0) hx hb dX8_plain_92 (by decide) ?_
  refine va_zast (i := 13) hx hb hK hP hD hS 4 1 rfl rfl (tq_in (by decide)) dX8_plain_93 (fun H locs hP hD hS => ?_)
  have hP : va_P G vwCl [(h0, .inr (8, fs111)), (m21, .inl (cA 1, 3, .inl f125)), (m22, .inl (cA 0, 6, .inl f126)), (m33, .inl (cA 0, 42, .inl f263)), (m34, .inl (cA 1, 21, .inl ((upd f261 (13 : Int32).toNatClampNeg (vp_nar .boolean 0))))), (m35, .inl (cA 1, 6, .inl f130))] H := hP
  have hD : va_D A [(h0, .inr (8, fs111)), (m21, .inl (cA 1, 3, .inl f125)), (m22, .inl (cA 0, 6, .inl f126)), (m33, .inl (cA 0, 42, .inl f263)), (m34, .inl (cA 1, 21, .inl ((upd f261 (13 : Int32).toNatClampNeg (vp_nar .boolean 0))))), (m35, .inl (cA 1, 6, .inl f130))] := hD
  generalize (upd f261 (13 : Int32).toNatClampNeg (vp_nar .boolean 0)) = f278 at hP hD
  refine lv_iinc (v := 14) (lv' := [(1, .int 14), (0, .ref h0)]) hx hb dX8_plain_94 hl (k := 0) rfl (by decide) (by decide) rfl (fun ls hl => ?_)
  refine lv_goto (tgt := 70) hx hb dX8_plain_97 (by decide) ?_
  refine lv_iload_n hx hb dX8_plain_70 rfl (lv_at hl 0 rfl) ?_
  refine lv_bipush (v := 21) hx hb dX8_plain_71 (by decide) ?_
  refine lv_icmp_ge (tgt := 100) hx hb dX8_plain_73 (by decide) (fun c279 => absurd c279 (by decide)) (fun c279 => ?_)
  refine lv_aload_n hx hb dX8_plain_76 rfl (lv_at hl 1 rfl) ?_
  refine va_get (D := G) (ci := 8) (v := .ref m33) (C := RX8) (T := TX8) (N := 91) hx hb hT ku_8 hown hK hP 0 rfl rfl 33 (by decide) (hT _ kw_10_1) (fun _ h9 => h9) (fh_at hf 8 rfl) dX8_plain_77 ?_
  refine lv_bipush (v := 21) hx hb dX8_plain_80 (by decide) ?_
  refine lv_iload_n hx hb dX8_plain_82 rfl (lv_at hl 0 rfl) ?_
  refine lv_iadd hx hb dX8_plain_83 ?_
  refine tq_i (w := 35) (by decide) ?_
  refine lv_bipush (v := 60) hx hb dX8_plain_84 (by decide) ?_
  refine va_iast (i := 35) hx hb hK hP hD hS 3 0 rfl rfl (tq_in (by decide)) dX8_plain_86 (fun H locs hP hD hS => ?_)
  have hP : va_P G vwCl [(h0, .inr (8, fs111)), (m21, .inl (cA 1, 3, .inl f125)), (m22, .inl (cA 0, 6, .inl f126)), (m33, .inl (cA 0, 42, .inl ((upd f263 (35 : Int32).toNatClampNeg 60)))), (m34, .inl (cA 1, 21, .inl f278)), (m35, .inl (cA 1, 6, .inl f130))] H := hP
  have hD : va_D A [(h0, .inr (8, fs111)), (m21, .inl (cA 1, 3, .inl f125)), (m22, .inl (cA 0, 6, .inl f126)), (m33, .inl (cA 0, 42, .inl ((upd f263 (35 : Int32).toNatClampNeg 60)))), (m34, .inl (cA 1, 21, .inl f278)), (m35, .inl (cA 1, 6, .inl f130))] := hD
  have hE281 : (upd f263 (35 : Int32).toNatClampNeg 60) 21 = 60 := hE264
  have hE282 : (upd f263 (35 : Int32).toNatClampNeg 60) 22 = 60 := hE265
  have hE283 : (upd f263 (35 : Int32).toNatClampNeg 60) 23 = 60 := hE266
  have hE284 : (upd f263 (35 : Int32).toNatClampNeg 60) 24 = 60 := hE267
  have hE285 : (upd f263 (35 : Int32).toNatClampNeg 60) 25 = 60 := hE268
  have hE286 : (upd f263 (35 : Int32).toNatClampNeg 60) 26 = 60 := hE269
  have hE287 : (upd f263 (35 : Int32).toNatClampNeg 60) 27 = 60 := hE270
  have hE288 : (upd f263 (35 : Int32).toNatClampNeg 60) 28 = 60 := hE271
  have hE289 : (upd f263 (35 : Int32).toNatClampNeg 60) 29 = 60 := hE272
  have hE290 : (upd f263 (35 : Int32).toNatClampNeg 60) 30 = 60 := hE273
  have hE291 : (upd f263 (35 : Int32).toNatClampNeg 60) 31 = 60 := hE274
  have hE292 : (upd f263 (35 : Int32).toNatClampNeg 60) 32 = 60 := hE275
  have hE293 : (upd f263 (35 : Int32).toNatClampNeg 60) 33 = 60 := hE276
  have hE294 : (upd f263 (35 : Int32).toNatClampNeg 60) 34 = 60 := hE277
  have hE295 : (upd f263 (35 : Int32).toNatClampNeg 60) 35 = 60 := rfl
  generalize (upd f263 (35 : Int32).toNatClampNeg 60) = f280 at hP hD hE281 hE282 hE283 hE284 hE285 hE286 hE287 hE288 hE289 hE290 hE291 hE292 hE293 hE294 hE295
  refine lv_aload_n hx hb dX8_plain_87 rfl (lv_at hl 1 rfl) ?_
  refine va_get (D := G) (ci := 8) (v := .ref m34) (C := RX8) (T := TX8) (N := 91) hx hb hT ku_8 hown hK hP 0 rfl rfl 34 (by decide) (hT _ kw_10_2) (fun _ h9 => h9) (fh_at hf 9 rfl) dX8_plain_88 ?_
  refine lv_iload_n hx hb dX8_plain_91 rfl (lv_at hl 0 rfl) ?_
  refine lv_iconst (v := 0) hx hb dX8_plain_92 (by decide) ?_
  refine va_zast (i := 14) hx hb hK hP hD hS 4 1 rfl rfl (tq_in (by decide)) dX8_plain_93 (fun H locs hP hD hS => ?_)
  have hP : va_P G vwCl [(h0, .inr (8, fs111)), (m21, .inl (cA 1, 3, .inl f125)), (m22, .inl (cA 0, 6, .inl f126)), (m33, .inl (cA 0, 42, .inl f280)), (m34, .inl (cA 1, 21, .inl ((upd f278 (14 : Int32).toNatClampNeg (vp_nar .boolean 0))))), (m35, .inl (cA 1, 6, .inl f130))] H := hP
  have hD : va_D A [(h0, .inr (8, fs111)), (m21, .inl (cA 1, 3, .inl f125)), (m22, .inl (cA 0, 6, .inl f126)), (m33, .inl (cA 0, 42, .inl f280)), (m34, .inl (cA 1, 21, .inl ((upd f278 (14 : Int32).toNatClampNeg (vp_nar .boolean 0))))), (m35, .inl (cA 1, 6, .inl f130))] := hD
  generalize (upd f278 (14 : Int32).toNatClampNeg (vp_nar .boolean 0)) = f296 at hP hD
  refine lv_iinc (v := 15) (lv' := [(1, .int 15), (0, .ref h0)]) hx hb dX8_plain_94 hl (k := 0) rfl (by decide) (by decide) rfl (fun ls hl => ?_)
  refine lv_goto (tgt := 70) hx hb dX8_plain_97 (by decide) ?_
  refine lv_iload_n hx hb dX8_plain_70 rfl (lv_at hl 0 rfl) ?_
  refine lv_bipush (v := 21) hx hb dX8_plain_71 (by decide) ?_
  refine lv_icmp_ge (tgt := 100) hx hb dX8_plain_73 (by decide) (fun c297 => absurd c297 (by decide)) (fun c297 => ?_)
  refine lv_aload_n hx hb dX8_plain_76 rfl (lv_at hl 1 rfl) ?_
  refine va_get (D := G) (ci := 8) (v := .ref m33) (C := RX8) (T := TX8) (N := 91) hx hb hT ku_8 hown hK hP 0 rfl rfl 33 (by decide) (hT _ kw_10_1) (fun _ h9 => h9) (fh_at hf 8 rfl) dX8_plain_77 ?_
  refine lv_bipush (v := 21) hx hb dX8_plain_80 (by decide) ?_
  refine lv_iload_n hx hb dX8_plain_82 rfl (lv_at hl 0 rfl) ?_
  refine lv_iadd hx hb dX8_plain_83 ?_
  refine tq_i (w := 36) (by decide) ?_
  refine lv_bipush (v := 60) hx hb dX8_plain_84 (by decide) ?_
  refine va_iast (i := 36) hx hb hK hP hD hS 3 0 rfl rfl (tq_in (by decide)) dX8_plain_86 (fun H locs hP hD hS => ?_)
  have hP : va_P G vwCl [(h0, .inr (8, fs111)), (m21, .inl (cA 1, 3, .inl f125)), (m22, .inl (cA 0, 6, .inl f126)), (m33, .inl (cA 0, 42, .inl ((upd f280 (36 : Int32).toNatClampNeg 60)))), (m34, .inl (cA 1, 21, .inl f296)), (m35, .inl (cA 1, 6, .inl f130))] H := hP
  have hD : va_D A [(h0, .inr (8, fs111)), (m21, .inl (cA 1, 3, .inl f125)), (m22, .inl (cA 0, 6, .inl f126)), (m33, .inl (cA 0, 42, .inl ((upd f280 (36 : Int32).toNatClampNeg 60)))), (m34, .inl (cA 1, 21, .inl f296)), (m35, .inl (cA 1, 6, .inl f130))] := hD
  have hE299 : (upd f280 (36 : Int32).toNatClampNeg 60) 21 = 60 := hE281
  have hE300 : (upd f280 (36 : Int32).toNatClampNeg 60) 22 = 60 := hE282
  have hE301 : (upd f280 (36 : Int32).toNatClampNeg 60) 23 = 60 := hE283
  have hE302 : (upd f280 (36 : Int32).toNatClampNeg 60) 24 = 60 := hE284
  have hE303 : (upd f280 (36 : Int32).toNatClampNeg 60) 25 = 60 := hE285
  have hE304 : (upd f280 (36 : Int32).toNatClampNeg 60) 26 = 60 := hE286
  have hE305 : (upd f280 (36 : Int32).toNatClampNeg 60) 27 = 60 := hE287
  have hE306 : (upd f280 (36 : Int32).toNatClampNeg 60) 28 = 60 := hE288
  have hE307 : (upd f280 (36 : Int32).toNatClampNeg 60) 29 = 60 := hE289
  have hE308 : (upd f280 (36 : Int32).toNatClampNeg 60) 30 = 60 := hE290
  have hE309 : (upd f280 (36 : Int32).toNatClampNeg 60) 31 = 60 := hE291
  have hE310 : (upd f280 (36 : Int32).toNatClampNeg 60) 32 = 60 := hE292
  have hE311 : (upd f280 (36 : Int32).toNatClampNeg 60) 33 = 60 := hE293
  have hE312 : (upd f280 (36 : Int32).toNatClampNeg 60) 34 = 60 := hE294
  have hE313 : (upd f280 (36 : Int32).toNatClampNeg 60) 35 = 60 := hE295
  have hE314 : (upd f280 (36 : Int32).toNatClampNeg 60) 36 = 60 := rfl
  generalize (upd f280 (36 : Int32).toNatClampNeg 60) = f298 at hP hD hE299 hE300 hE301 hE302 hE303 hE304 hE305 hE306 hE307 hE308 hE309 hE310 hE311 hE312 hE313 hE314
  refine lv_aload_n hx hb dX8_plain_87 rfl (lv_at hl 1 rfl) ?_
  refine va_get (D := G) (ci := 8) (v := .ref m34) (C := RX8) (T := TX8) (N := 91) hx hb hT ku_8 hown hK hP 0 rfl rfl 34 (by decide) (hT _ kw_10_2) (fun _ h9 => h9) (fh_at hf 9 rfl) dX8_plain_88 ?_
  refine lv_iload_n hx hb dX8_plain_91 rfl (lv_at hl 0 rfl) ?_
  refine lv_iconst (v := 0) hx hb dX8_plain_92 (by decide) ?_
  refine va_zast (i := 15) hx hb hK hP hD hS 4 1 rfl rfl (tq_in (by decide)) dX8_plain_93 (fun H locs hP hD hS => ?_)
  have hP : va_P G vwCl [(h0, .inr (8, fs111)), (m21, .inl (cA 1, 3, .inl f125)), (m22, .inl (cA 0, 6, .inl f126)), (m33, .inl (cA 0, 42, .inl f298)), (m34, .inl (cA 1, 21, .inl ((upd f296 (15 : Int32).toNatClampNeg (vp_nar .boolean 0))))), (m35, .inl (cA 1, 6, .inl f130))] H := hP
  have hD : va_D A [(h0, .inr (8, fs111)), (m21, .inl (cA 1, 3, .inl f125)), (m22, .inl (cA 0, 6, .inl f126)), (m33, .inl (cA 0, 42, .inl f298)), (m34, .inl (cA 1, 21, .inl ((upd f296 (15 : Int32).toNatClampNeg (vp_nar .boolean 0))))), (m35, .inl (cA 1, 6, .inl f130))] := hD
  generalize (upd f296 (15 : Int32).toNatClampNeg (vp_nar .boolean 0)) = f315 at hP hD
  refine lv_iinc (v := 16) (lv' := [(1, .int 16), (0, .ref h0)]) hx hb dX8_plain_94 hl (k := 0) rfl (by decide) (by decide) rfl (fun ls hl => ?_)
  refine lv_goto (tgt := 70) hx hb dX8_plain_97 (by decide) ?_
  refine lv_iload_n hx hb dX8_plain_70 rfl (lv_at hl 0 rfl) ?_
  refine lv_bipush (v := 21) hx hb dX8_plain_71 (by decide) ?_
  refine lv_icmp_ge (tgt := 100) hx hb dX8_plain_73 (by decide) (fun c316 => absurd c316 (by decide)) (fun c316 => ?_)
  refine lv_aload_n hx hb dX8_plain_76 rfl (lv_at hl 1 rfl) ?_
  refine va_get (D := G) (ci := 8) (v := .ref m33) (C := RX8) (T := TX8) (N := 91) hx hb hT ku_8 hown hK hP 0 rfl rfl 33 (by decide) (hT _ kw_10_1) (fun _ h9 => h9) (fh_at hf 8 rfl) dX8_plain_77 ?_
  refine lv_bipush (v := 21) hx hb dX8_plain_80 (by decide) ?_
  refine lv_iload_n hx hb dX8_plain_82 rfl (lv_at hl 0 rfl) ?_
  refine lv_iadd hx hb dX8_plain_83 ?_
  refine tq_i (w := 37) (by decide) ?_
  refine lv_bipush (v := 60) hx hb dX8_plain_84 (by decide) ?_
  refine va_iast (i := 37) hx hb hK hP hD hS 3 0 rfl rfl (tq_in (by decide)) dX8_plain_86 (fun H locs hP hD hS => ?_)
  have hP : va_P G vwCl [(h0, .inr (8, fs111)), (m21, .inl (cA 1, 3, .inl f125)), (m22, .inl (cA 0, 6, .inl f126)), (m33, .inl (cA 0, 42, .inl ((upd f298 (37 : Int32).toNatClampNeg 60)))), (m34, .inl (cA 1, 21, .inl f315)), (m35, .inl (cA 1, 6, .inl f130))] H := hP
  have hD : va_D A [(h0, .inr (8, fs111)), (m21, .inl (cA 1, 3, .inl f125)), (m22, .inl (cA 0, 6, .inl f126)), (m33, .inl (cA 0, 42, .inl ((upd f298 (37 : Int32).toNatClampNeg 60)))), (m34, .inl (cA 1, 21, .inl f315)), (m35, .inl (cA 1, 6, .inl f130))] := hD
  have hE318 : (upd f298 (37 : Int32).toNatClampNeg 60) 21 = 60 := hE299
  have hE319 : (upd f298 (37 : Int32).toNatClampNeg 60) 22 = 60 := hE300
  have hE320 : (upd f298 (37 : Int32).toNatClampNeg 60) 23 = 60 := hE301
  have hE321 : (upd f298 (37 : Int32).toNatClampNeg 60) 24 = 60 := hE302
  have hE322 : (upd f298 (37 : Int32).toNatClampNeg 60) 25 = 60 := hE303
  have hE323 : (upd f298 (37 : Int32).toNatClampNeg 60) 26 = 60 := hE304
  have hE324 : (upd f298 (37 : Int32).toNatClampNeg 60) 27 = 60 := hE305
  have hE325 : (upd f298 (37 : Int32).toNatClampNeg 60) 28 = 60 := hE306
  have hE326 : (upd f298 (37 : Int32).toNatClampNeg 60) 29 = 60 := hE307
  have hE327 : (upd f298 (37 : Int32).toNatClampNeg 60) 30 = 60 := hE308
  have hE328 : (upd f298 (37 : Int32).toNatClampNeg 60) 31 = 60 := hE309
  have hE329 : (upd f298 (37 : Int32).toNatClampNeg 60) 32 = 60 := hE310
  have hE330 : (upd f298 (37 : Int32).toNatClampNeg 60) 33 = 60 := hE311
  have hE331 : (upd f298 (37 : Int32).toNatClampNeg 60) 34 = 60 := hE312
  have hE332 : (upd f298 (37 : Int32).toNatClampNeg 60) 35 = 60 := hE313
  have hE333 : (upd f298 (37 : Int32).toNatClampNeg 60) 36 = 60 := hE314
  have hE334 : (upd f298 (37 : Int32).toNatClampNeg 60) 37 = 60 := rfl
  generalize (upd f298 (37 : Int32).toNatClampNeg 60) = f317 at hP hD hE318 hE319 hE320 hE321 hE322 hE323 hE324 hE325 hE326 hE327 hE328 hE329 hE330 hE331 hE332 hE333 hE334
  refine lv_aload_n hx hb dX8_plain_87 rfl (lv_at hl 1 rfl) ?_
  refine va_get (D := G) (ci := 8) (v := .ref m34) (C := RX8) (T := TX8) (N := 91) hx hb hT ku_8 hown hK hP 0 rfl rfl 34 (by decide) (hT _ kw_10_2) (fun _ h9 => h9) (fh_at hf 9 rfl) dX8_plain_88 ?_
  refine lv_iload_n hx hb dX8_plain_91 rfl (lv_at hl 0 rfl) ?_
  refine lv_iconst (v := 0) hx hb dX8_plain_92 (by decide) ?_
  refine va_zast (i := 16) hx hb hK hP hD hS 4 1 rfl rfl (tq_in (by decide)) dX8_plain_93 (fun H locs hP hD hS => ?_)
  have hP : va_P G vwCl [(h0, .inr (8, fs111)), (m21, .inl (cA 1, 3, .inl f125)), (m22, .inl (cA 0, 6, .inl f126)), (m33, .inl (cA 0, 42, .inl f317)), (m34, .inl (cA 1, 21, .inl ((upd f315 (16 : Int32).toNatClampNeg (vp_nar .boolean 0))))), (m35, .inl (cA 1, 6, .inl f130))] H := hP
  have hD : va_D A [(h0, .inr (8, fs111)), (m21, .inl (cA 1, 3, .inl f125)), (m22, .inl (cA 0, 6, .inl f126)), (m33, .inl (cA 0, 42, .inl f317)), (m34, .inl (cA 1, 21, .inl ((upd f315 (16 : Int32).toNatClampNeg (vp_nar .boolean 0))))), (m35, .inl (cA 1, 6, .inl f130))] := hD
  generalize (upd f315 (16 : Int32).toNatClampNeg (vp_nar .boolean 0)) = f335 at hP hD
  refine lv_iinc (v := 17) (lv' := [(1, .int 17), (0, .ref h0)]) hx hb dX8_plain_94 hl (k := 0) rfl (by decide) (by decide) rfl (fun ls hl => ?_)
  refine lv_goto (tgt := 70) hx hb dX8_plain_97 (by decide) ?_
  refine lv_iload_n hx hb dX8_plain_70 rfl (lv_at hl 0 rfl) ?_
  refine lv_bipush (v := 21) hx hb dX8_plain_71 (by decide) ?_
  refine lv_icmp_ge (tgt := 100) hx hb dX8_plain_73 (by decide) (fun c336 => absurd c336 (by decide)) (fun c336 => ?_)
  refine lv_aload_n hx hb dX8_plain_76 rfl (lv_at hl 1 rfl) ?_
  refine va_get (D := G) (ci := 8) (v := .ref m33) (C := RX8) (T := TX8) (N := 91) hx hb hT ku_8 hown hK hP 0 rfl rfl 33 (by decide) (hT _ kw_10_1) (fun _ h9 => h9) (fh_at hf 8 rfl) dX8_plain_77 ?_
  refine lv_bipush (v := 21) hx hb dX8_plain_80 (by decide) ?_
  refine lv_iload_n hx hb dX8_plain_82 rfl (lv_at hl 0 rfl) ?_
  refine lv_iadd hx hb dX8_plain_83 ?_
  refine tq_i (w := 38) (by decide) ?_
  refine lv_bipush (v := 60) hx hb dX8_plain_84 (by decide) ?_
  refine va_iast (i := 38) hx hb hK hP hD hS 3 0 rfl rfl (tq_in (by decide)) dX8_plain_86 (fun H locs hP hD hS => ?_)
  have hP : va_P G vwCl [(h0, .inr (8, fs111)), (m21, .inl (cA 1, 3, .inl f125)), (m22, .inl (cA 0, 6, .inl f126)), (m33, .inl (cA 0, 42, .inl ((upd f317 (38 : Int32).toNatClampNeg 60)))), (m34, .inl (cA 1, 21, .inl f335)), (m35, .inl (cA 1, 6, .inl f130))] H := hP
  have hD : va_D A [(h0, .inr (8, fs111)), (m21, .inl (cA 1, 3, .inl f125)), (m22, .inl (cA 0, 6, .inl f126)), (m33, .inl (cA 0, 42, .inl ((upd f317 (38 : Int32).toNatClampNeg 60)))), (m34, .inl (cA 1, 21, .inl f335)), (m35, .inl (cA 1, 6, .inl f130))] := hD
  have hE338 : (upd f317 (38 : Int32).toNatClampNeg 60) 21 = 60 := hE318
  have hE339 : (upd f317 (38 : Int32).toNatClampNeg 60) 22 = 60 := hE319
  have hE340 : (upd f317 (38 : Int32).toNatClampNeg 60) 23 = 60 := hE320
  have hE341 : (upd f317 (38 : Int32).toNatClampNeg 60) 24 = 60 := hE321
  have hE342 : (upd f317 (38 : Int32).toNatClampNeg 60) 25 = 60 := hE322
  have hE343 : (upd f317 (38 : Int32).toNatClampNeg 60) 26 = 60 := hE323
  have hE344 : (upd f317 (38 : Int32).toNatClampNeg 60) 27 = 60 := hE324
  have hE345 : (upd f317 (38 : Int32).toNatClampNeg 60) 28 = 60 := hE325
  have hE346 : (upd f317 (38 : Int32).toNatClampNeg 60) 29 = 60 := hE326
  have hE347 : (upd f317 (38 : Int32).toNatClampNeg 60) 30 = 60 := hE327
  have hE348 : (upd f317 (38 : Int32).toNatClampNeg 60) 31 = 60 := hE328
  have hE349 : (upd f317 (38 : Int32).toNatClampNeg 60) 32 = 60 := hE329
  have hE350 : (upd f317 (38 : Int32).toNatClampNeg 60) 33 = 60 := hE330
  have hE351 : (upd f317 (38 : Int32).toNatClampNeg 60) 34 = 60 := hE331
  have hE352 : (upd f317 (38 : Int32).toNatClampNeg 60) 35 = 60 := hE332
  have hE353 : (upd f317 (38 : Int32).toNatClampNeg 60) 36 = 60 := hE333
  have hE354 : (upd f317 (38 : Int32).toNatClampNeg 60) 37 = 60 := hE334
  have hE355 : (upd f317 (38 : Int32).toNatClampNeg 60) 38 = 60 := rfl
  generalize (upd f317 (38 : Int32).toNatClampNeg 60) = f337 at hP hD hE338 hE339 hE340 hE341 hE342 hE343 hE344 hE345 hE346 hE347 hE348 hE349 hE350 hE351 hE352 hE353 hE354 hE355
  refine lv_aload_n hx hb dX8_plain_87 rfl (lv_at hl 1 rfl) ?_
  refine va_get (D := G) (ci := 8) (v := .ref m34) (C := RX8) (T := TX8) (N := 91) hx hb hT ku_8 hown hK hP 0 rfl rfl 34 (by decide) (hT _ kw_10_2) (fun _ h9 => h9) (fh_at hf 9 rfl) dX8_plain_88 ?_
  refine lv_iload_n hx hb dX8_plain_91 rfl (lv_at hl 0 rfl) ?_
  refine lv_iconst (v := 0) hx hb dX8_plain_92 (by decide) ?_
  refine va_zast (i := 17) hx hb hK hP hD hS 4 1 rfl rfl (tq_in (by decide)) dX8_plain_93 (fun H locs hP hD hS => ?_)
  have hP : va_P G vwCl [(h0, .inr (8, fs111)), (m21, .inl (cA 1, 3, .inl f125)), (m22, .inl (cA 0, 6, .inl f126)), (m33, .inl (cA 0, 42, .inl f337)), (m34, .inl (cA 1, 21, .inl ((upd f335 (17 : Int32).toNatClampNeg (vp_nar .boolean 0))))), (m35, .inl (cA 1, 6, .inl f130))] H := hP
  have hD : va_D A [(h0, .inr (8, fs111)), (m21, .inl (cA 1, 3, .inl f125)), (m22, .inl (cA 0, 6, .inl f126)), (m33, .inl (cA 0, 42, .inl f337)), (m34, .inl (cA 1, 21, .inl ((upd f335 (17 : Int32).toNatClampNeg (vp_nar .boolean 0))))), (m35, .inl (cA 1, 6, .inl f130))] := hD
  generalize (upd f335 (17 : Int32).toNatClampNeg (vp_nar .boolean 0)) = f356 at hP hD
  refine lv_iinc (v := 18) (lv' := [(1, .int 18), (0, .ref h0)]) hx hb dX8_plain_94 hl (k := 0) rfl (by decide) (by decide) rfl (fun ls hl => ?_)
  refine lv_goto (tgt := 70) hx hb dX8_plain_97 (by decide) ?_
  refine lv_iload_n hx hb dX8_plain_70 rfl (lv_at hl 0 rfl) ?_
  refine lv_bipush (v := 21) hx hb dX8_plain_71 (by decide) ?_
  refine lv_icmp_ge (tgt := 100) hx hb dX8_plain_73 (by decide) (fun c357 => absurd c357 (by decide)) (fun c357 => ?_)
  refine lv_aload_n hx hb dX8_plain_76 rfl (lv_at hl 1 rfl) ?_
  refine va_get (D := G) (ci := 8) (v := .ref m33) (C := RX8) (T := TX8) (N := 91) hx hb hT ku_8 hown hK hP 0 rfl rfl 33 (by decide) (hT _ kw_10_1) (fun _ h9 => h9) (fh_at hf 8 rfl) dX8_plain_77 ?_
  refine lv_bipush (v := 21) hx hb dX8_plain_80 (by decide) ?_
  refine lv_iload_n hx hb dX8_plain_82 rfl (lv_at hl 0 rfl) ?_
  refine lv_iadd hx hb dX8_plain_83 ?_
  refine tq_i (w := 39) (by decide) ?_
  refine lv_bipush (v := 60) hx hb dX8_plain_84 (by decide) ?_
  refine va_iast (i := 39) hx hb hK hP hD hS 3 0 rfl rfl (tq_in (by decide)) dX8_plain_86 (fun H locs hP hD hS => ?_)
  have hP : va_P G vwCl [(h0, .inr (8, fs111)), (m21, .inl (cA 1, 3, .inl f125)), (m22, .inl (cA 0, 6, .inl f126)), (m33, .inl (cA 0, 42, .inl ((upd f337 (39 : Int32).toNatClampNeg 60)))), (m34, .inl (cA 1, 21, .inl f356)), (m35, .inl (cA 1, 6, .inl f130))] H := hP
  have hD : va_D A [(h0, .inr (8, fs111)), (m21, .inl (cA 1, 3, .inl f125)), (m22, .inl (cA 0, 6, .inl f126)), (m33, .inl (cA 0, 42, .inl ((upd f337 (39 : Int32).toNatClampNeg 60)))), (m34, .inl (cA 1, 21, .inl f356)), (m35, .inl (cA 1, 6, .inl f130))] := hD
  have hE359 : (upd f337 (39 : Int32).toNatClampNeg 60) 21 = 60 := hE338
  have hE360 : (upd f337 (39 : Int32).toNatClampNeg 60) 22 = 60 := hE339
  have hE361 : (upd f337 (39 : Int32).toNatClampNeg 60) 23 = 60 := hE340
  have hE362 : (upd f337 (39 : Int32).toNatClampNeg 60) 24 = 60 := hE341
  have hE363 : (upd f337 (39 : Int32).toNatClampNeg 60) 25 = 60 := hE342
  have hE364 : (upd f337 (39 : Int32).toNatClampNeg 60) 26 = 60 := hE343
  have hE365 : (upd f337 (39 : Int32).toNatClampNeg 60) 27 = 60 := hE344
  have hE366 : (upd f337 (39 : Int32).toNatClampNeg 60) 28 = 60 := hE345
  have hE367 : (upd f337 (39 : Int32).toNatClampNeg 60) 29 = 60 := hE346
  have hE368 : (upd f337 (39 : Int32).toNatClampNeg 60) 30 = 60 := hE347
  have hE369 : (upd f337 (39 : Int32).toNatClampNeg 60) 31 = 60 := hE348
  have hE370 : (upd f337 (39 : Int32).toNatClampNeg 60) 32 = 60 := hE349
  have hE371 : (upd f337 (39 : Int32).toNatClampNeg 60) 33 = 60 := hE350
  have hE372 : (upd f337 (39 : Int32).toNatClampNeg 60) 34 = 60 := hE351
  have hE373 : (upd f337 (39 : Int32).toNatClampNeg 60) 35 = 60 := hE352
  have hE374 : (upd f337 (39 : Int32).toNatClampNeg 60) 36 = 60 := hE353
  have hE375 : (upd f337 (39 : Int32).toNatClampNeg 60) 37 = 60 := hE354
  have hE376 : (upd f337 (39 : Int32).toNatClampNeg 60) 38 = 60 := hE355
  have hE377 : (upd f337 (39 : Int32).toNatClampNeg 60) 39 = 60 := rfl
  generalize (upd f337 (39 : Int32).toNatClampNeg 60) = f358 at hP hD hE359 hE360 hE361 hE362 hE363 hE364 hE365 hE366 hE367 hE368 hE369 hE370 hE371 hE372 hE373 hE374 hE375 hE376 hE377
  refine lv_aload_n hx hb dX8_plain_87 rfl (lv_at hl 1 rfl) ?_
  refine va_get (D := G) (ci := 8) (v := .ref m34) (C := RX8) (T := TX8) (N := 91) hx hb hT ku_8 hown hK hP 0 rfl rfl 34 (by decide) (hT _ kw_10_2) (fun _ h9 => h9) (fh_at hf 9 rfl) dX8_plain_88 ?_
  refine lv_iload_n hx hb dX8_plain_91 rfl (lv_at hl 0 rfl) ?_
  refine lv_iconst (v := 0) hx hb dX8_plain_92 (by decide) ?_
  refine va_zast (i := 18) hx hb hK hP hD hS 4 1 rfl rfl (tq_in (by decide)) dX8_plain_93 (fun H locs hP hD hS => ?_)
  have hP : va_P G vwCl [(h0, .inr (8, fs111)), (m21, .inl (cA 1, 3, .inl f125)), (m22, .inl (cA 0, 6, .inl f126)), (m33, .inl (cA 0, 42, .inl f358)), (m34, .inl (cA 1, 21, .inl ((upd f356 (18 : Int32).toNatClampNeg (vp_nar .boolean 0))))), (m35, .inl (cA 1, 6, .inl f130))] H := hP
  have hD : va_D A [(h0, .inr (8, fs111)), (m21, .inl (cA 1, 3, .inl f125)), (m22, .inl (cA 0, 6, .inl f126)), (m33, .inl (cA 0, 42, .inl f358)), (m34, .inl (cA 1, 21, .inl ((upd f356 (18 : Int32).toNatClampNeg (vp_nar .boolean 0))))), (m35, .inl (cA 1, 6, .inl f130))] := hD
  generalize (upd f356 (18 : Int32).toNatClampNeg (vp_nar .boolean 0)) = f378 at hP hD
  refine lv_iinc (v := 19) (lv' := [(1, .int 19), (0, .ref h0)]) hx hb dX8_plain_94 hl (k := 0) rfl (by decide) (by decide) rfl (fun ls hl => ?_)
  refine lv_goto (tgt := 70) hx hb dX8_plain_97 (by decide) ?_
  refine lv_iload_n hx hb dX8_plain_70 rfl (lv_at hl 0 rfl) ?_
  refine lv_bipush (v := 21) hx hb dX8_plain_71 (by decide) ?_
  refine lv_icmp_ge (tgt := 100) hx hb dX8_plain_73 (by decide) (fun c379 => absurd c379 (by decide)) (fun c379 => ?_)
  refine lv_aload_n hx hb dX8_plain_76 rfl (lv_at hl 1 rfl) ?_
  refine va_get (D := G) (ci := 8) (v := .ref m33) (C := RX8) (T := TX8) (N := 91) hx hb hT ku_8 hown hK hP 0 rfl rfl 33 (by decide) (hT _ kw_10_1) (fun _ h9 => h9) (fh_at hf 8 rfl) dX8_plain_77 ?_
  refine lv_bipush (v := 21) hx hb dX8_plain_80 (by decide) ?_
  refine lv_iload_n hx hb dX8_plain_82 rfl (lv_at hl 0 rfl) ?_
  refine lv_iadd hx hb dX8_plain_83 ?_
  refine tq_i (w := 40) (by decide) ?_
  refine lv_bipush (v := 60) hx hb dX8_plain_84 (by decide) ?_
  refine va_iast (i := 40) hx hb hK hP hD hS 3 0 rfl rfl (tq_in (by decide)) dX8_plain_86 (fun H locs hP hD hS => ?_)
  have hP : va_P G vwCl [(h0, .inr (8, fs111)), (m21, .inl (cA 1, 3, .inl f125)), (m22, .inl (cA 0, 6, .inl f126)), (m33, .inl (cA 0, 42, .inl ((upd f358 (40 : Int32).toNatClampNeg 60)))), (m34, .inl (cA 1, 21, .inl f378)), (m35, .inl (cA 1, 6, .inl f130))] H := hP
  have hD : va_D A [(h0, .inr (8, fs111)), (m21, .inl (cA 1, 3, .inl f125)), (m22, .inl (cA 0, 6, .inl f126)), (m33, .inl (cA 0, 42, .inl ((upd f358 (40 : Int32).toNatClampNeg 60)))), (m34, .inl (cA 1, 21, .inl f378)), (m35, .inl (cA 1, 6, .inl f130))] := hD
  have hE381 : (upd f358 (40 : Int32).toNatClampNeg 60) 21 = 60 := hE359
  have hE382 : (upd f358 (40 : Int32).toNatClampNeg 60) 22 = 60 := hE360
  have hE383 : (upd f358 (40 : Int32).toNatClampNeg 60) 23 = 60 := hE361
  have hE384 : (upd f358 (40 : Int32).toNatClampNeg 60) 24 = 60 := hE362
  have hE385 : (upd f358 (40 : Int32).toNatClampNeg 60) 25 = 60 := hE363
  have hE386 : (upd f358 (40 : Int32).toNatClampNeg 60) 26 = 60 := hE364
  have hE387 : (upd f358 (40 : Int32).toNatClampNeg 60) 27 = 60 := hE365
  have hE388 : (upd f358 (40 : Int32).toNatClampNeg 60) 28 = 60 := hE366
  have hE389 : (upd f358 (40 : Int32).toNatClampNeg 60) 29 = 60 := hE367
  have hE390 : (upd f358 (40 : Int32).toNatClampNeg 60) 30 = 60 := hE368
  have hE391 : (upd f358 (40 : Int32).toNatClampNeg 60) 31 = 60 := hE369
  have hE392 : (upd f358 (40 : Int32).toNatClampNeg 60) 32 = 60 := hE370
  have hE393 : (upd f358 (40 : Int32).toNatClampNeg 60) 33 = 60 := hE371
  have hE394 : (upd f358 (40 : Int32).toNatClampNeg 60) 34 = 60 := hE372
  have hE395 : (upd f358 (40 : Int32).toNatClampNeg 60) 35 = 60 := hE373
  have hE396 : (upd f358 (40 : Int32).toNatClampNeg 60) 36 = 60 := hE374
  have hE397 : (upd f358 (40 : Int32).toNatClampNeg 60) 37 = 60 := hE375
  have hE398 : (upd f358 (40 : Int32).toNatClampNeg 60) 38 = 60 := hE376
  have hE399 : (upd f358 (40 : Int32).toNatClampNeg 60) 39 = 60 := hE377
  have hE400 : (upd f358 (40 : Int32).toNatClampNeg 60) 40 = 60 := rfl
  generalize (upd f358 (40 : Int32).toNatClampNeg 60) = f380 at hP hD hE381 hE382 hE383 hE384 hE385 hE386 hE387 hE388 hE389 hE390 hE391 hE392 hE393 hE394 hE395 hE396 hE397 hE398 hE399 hE400
  refine lv_aload_n hx hb dX8_plain_87 rfl (lv_at hl 1 rfl) ?_
  refine va_get (D := G) (ci := 8) (v := .ref m34) (C := RX8) (T := TX8) (N := 91) hx hb hT ku_8 hown hK hP 0 rfl rfl 34 (by decide) (hT _ kw_10_2) (fun _ h9 => h9) (fh_at hf 9 rfl) dX8_plain_88 ?_
  refine lv_iload_n hx hb dX8_plain_91 rfl (lv_at hl 0 rfl) ?_
  refine lv_iconst (v := 0) hx hb dX8_plain_92 (by decide) ?_
  refine va_zast (i := 19) hx hb hK hP hD hS 4 1 rfl rfl (tq_in (by decide)) dX8_plain_93 (fun H locs hP hD hS => ?_)
  have hP : va_P G vwCl [(h0, .inr (8, fs111)), (m21, .inl (cA 1, 3, .inl f125)), (m22, .inl (cA 0, 6, .inl f126)), (m33, .inl (cA 0, 42, .inl f380)), (m34, .inl (cA 1, 21, .inl ((upd f378 (19 : Int32).toNatClampNeg (vp_nar .boolean 0))))), (m35, .inl (cA 1, 6, .inl f130))] H := hP
  have hD : va_D A [(h0, .inr (8, fs111)), (m21, .inl (cA 1, 3, .inl f125)), (m22, .inl (cA 0, 6, .inl f126)), (m33, .inl (cA 0, 42, .inl f380)), (m34, .inl (cA 1, 21, .inl ((upd f378 (19 : Int32).toNatClampNeg (vp_nar .boolean 0))))), (m35, .inl (cA 1, 6, .inl f130))] := hD
  generalize (upd f378 (19 : Int32).toNatClampNeg (vp_nar .boolean 0)) = f401 at hP hD
  refine lv_iinc (v := 20) (lv' := [(1, .int 20), (0, .ref h0)]) hx hb dX8_plain_94 hl (k := 0) rfl (by decide) (by decide) rfl (fun ls hl => ?_)
  refine lv_goto (tgt := 70) hx hb dX8_plain_97 (by decide) ?_
  refine lv_iload_n hx hb dX8_plain_70 rfl (lv_at hl 0 rfl) ?_
  refine lv_bipush (v := 21) hx hb dX8_plain_71 (by decide) ?_
  refine lv_icmp_ge (tgt := 100) hx hb dX8_plain_73 (by decide) (fun c402 => absurd c402 (by decide)) (fun c402 => ?_)
  refine lv_aload_n hx hb dX8_plain_76 rfl (lv_at hl 1 rfl) ?_
  refine va_get (D := G) (ci := 8) (v := .ref m33) (C := RX8) (T := TX8) (N := 91) hx hb hT ku_8 hown hK hP 0 rfl rfl 33 (by decide) (hT _ kw_10_1) (fun _ h9 => h9) (fh_at hf 8 rfl) dX8_plain_77 ?_
  refine lv_bipush (v := 21) hx hb dX8_plain_80 (by decide) ?_
  refine lv_iload_n hx hb dX8_plain_82 rfl (lv_at hl 0 rfl) ?_
  refine lv_iadd hx hb dX8_plain_83 ?_
  refine tq_i (w := 41) (by decide) ?_
  refine lv_bipush (v := 60) hx hb dX8_plain_84 (by decide) ?_
  refine va_iast (i := 41) hx hb hK hP hD hS 3 0 rfl rfl (tq_in (by decide)) dX8_plain_86 (fun H locs hP hD hS => ?_)
  have hP : va_P G vwCl [(h0, .inr (8, fs111)), (m21, .inl (cA 1, 3, .inl f125)), (m22, .inl (cA 0, 6, .inl f126)), (m33, .inl (cA 0, 42, .inl ((upd f380 (41 : Int32).toNatClampNeg 60)))), (m34, .inl (cA 1, 21, .inl f401)), (m35, .inl (cA 1, 6, .inl f130))] H := hP
  have hD : va_D A [(h0, .inr (8, fs111)), (m21, .inl (cA 1, 3, .inl f125)), (m22, .inl (cA 0, 6, .inl f126)), (m33, .inl (cA 0, 42, .inl ((upd f380 (41 : Int32).toNatClampNeg 60)))), (m34, .inl (cA 1, 21, .inl f401)), (m35, .inl (cA 1, 6, .inl f130))] := hD
  have hE404 : (upd f380 (41 : Int32).toNatClampNeg 60) 21 = 60 := hE381
  have hE405 : (upd f380 (41 : Int32).toNatClampNeg 60) 22 = 60 := hE382
  have hE406 : (upd f380 (41 : Int32).toNatClampNeg 60) 23 = 60 := hE383
  have hE407 : (upd f380 (41 : Int32).toNatClampNeg 60) 24 = 60 := hE384
  have hE408 : (upd f380 (41 : Int32).toNatClampNeg 60) 25 = 60 := hE385
  have hE409 : (upd f380 (41 : Int32).toNatClampNeg 60) 26 = 60 := hE386
  have hE410 : (upd f380 (41 : Int32).toNatClampNeg 60) 27 = 60 := hE387
  have hE411 : (upd f380 (41 : Int32).toNatClampNeg 60) 28 = 60 := hE388
  have hE412 : (upd f380 (41 : Int32).toNatClampNeg 60) 29 = 60 := hE389
  have hE413 : (upd f380 (41 : Int32).toNatClampNeg 60) 30 = 60 := hE390
  have hE414 : (upd f380 (41 : Int32).toNatClampNeg 60) 31 = 60 := hE391
  have hE415 : (upd f380 (41 : Int32).toNatClampNeg 60) 32 = 60 := hE392
  have hE416 : (upd f380 (41 : Int32).toNatClampNeg 60) 33 = 60 := hE393
  have hE417 : (upd f380 (41 : Int32).toNatClampNeg 60) 34 = 60 := hE394
  have hE418 : (upd f380 (41 : Int32).toNatClampNeg 60) 35 = 60 := hE395
  have hE419 : (upd f380 (41 : Int32).toNatClampNeg 60) 36 = 60 := hE396
  have hE420 : (upd f380 (41 : Int32).toNatClampNeg 60) 37 = 60 := hE397
  have hE421 : (upd f380 (41 : Int32).toNatClampNeg 60) 38 = 60 := hE398
  have hE422 : (upd f380 (41 : Int32).toNatClampNeg 60) 39 = 60 := hE399
  have hE423 : (upd f380 (41 : Int32).toNatClampNeg 60) 40 = 60 := hE400
  have hE424 : (upd f380 (41 : Int32).toNatClampNeg 60) 41 = 60 := rfl
  generalize (upd f380 (41 : Int32).toNatClampNeg 60) = f403 at hP hD hE404 hE405 hE406 hE407 hE408 hE409 hE410 hE411 hE412 hE413 hE414 hE415 hE416 hE417 hE418 hE419 hE420 hE421 hE422 hE423 hE424
  refine lv_aload_n hx hb dX8_plain_87 rfl (lv_at hl 1 rfl) ?_
  refine va_get (D := G) (ci := 8) (v := .ref m34) (C := RX8) (T := TX8) (N := 91) hx hb hT ku_8 hown hK hP 0 rfl rfl 34 (by decide) (hT _ kw_10_2) (fun _ h9 => h9) (fh_at hf 9 rfl) dX8_plain_88 ?_
  refine lv_iload_n hx hb dX8_plain_91 rfl (lv_at hl 0 rfl) ?_
  refine lv_iconst (v := 0) hx hb dX8_plain_92 (by decide) ?_
  refine va_zast (i := 20) hx hb hK hP hD hS 4 1 rfl rfl (tq_in (by decide)) dX8_plain_93 (fun H locs hP hD hS => ?_)
  have hP : va_P G vwCl [(h0, .inr (8, fs111)), (m21, .inl (cA 1, 3, .inl f125)), (m22, .inl (cA 0, 6, .inl f126)), (m33, .inl (cA 0, 42, .inl f403)), (m34, .inl (cA 1, 21, .inl ((upd f401 (20 : Int32).toNatClampNeg (vp_nar .boolean 0))))), (m35, .inl (cA 1, 6, .inl f130))] H := hP
  have hD : va_D A [(h0, .inr (8, fs111)), (m21, .inl (cA 1, 3, .inl f125)), (m22, .inl (cA 0, 6, .inl f126)), (m33, .inl (cA 0, 42, .inl f403)), (m34, .inl (cA 1, 21, .inl ((upd f401 (20 : Int32).toNatClampNeg (vp_nar .boolean 0))))), (m35, .inl (cA 1, 6, .inl f130))] := hD
  generalize (upd f401 (20 : Int32).toNatClampNeg (vp_nar .boolean 0)) = f425 at hP hD
  refine lv_iinc (v := 21) (lv' := [(1, .int 21), (0, .ref h0)]) hx hb dX8_plain_94 hl (k := 0) rfl (by decide) (by decide) rfl (fun ls hl => ?_)
  refine lv_goto (tgt := 70) hx hb dX8_plain_97 (by decide) ?_
  refine lv_iload_n hx hb dX8_plain_70 rfl (lv_at hl 0 rfl) ?_
  refine lv_bipush (v := 21) hx hb dX8_plain_71 (by decide) ?_
  refine lv_icmp_ge (tgt := 100) hx hb dX8_plain_73 (by decide) (fun c426 => ?_) (fun c426 => absurd (by decide) c426)
  have qho112 := fo_mono (k2 := [46, 20, 19, 18, 17, 16]) ho112 (by decide)
  exact W.vret hx hb hr (fun t ht hW => ⟨⟨(fs111, f125, f126, f403, f425, f130), rfl, ⟨qho112, fh_sub hf [0, 1, 2, 3, 4, 5] rfl, hE127, hE128, hE129, hE404, hE405, hE406, hE407, hE408, hE409, hE410, hE411, hE412, hE413, hE414, hE415, hE416, hE417, hE418, hE419, hE420, hE421, hE422, hE423, hE424⟩, by rw [ht]; exact hP, hD⟩, hS.F ht⟩) hS.2.2 dX8_plain_100

set_option maxHeartbeats 4000000 in
set_option maxRecDepth 100000 in
theorem c_X8_plainTried (l : Launch) (G : va_G) (cA : Nat → ClassId) (sz : Nat) (h0 : Nat) (fs : List Value) (m22 : Nat) (m71 : Nat) (mf22 : Nat → Int32) (mf71 : Nat → Int32) (hf : fh fs 91 [(22, .ref m22), (71, .ref m71)]) : Met l yX8_plainTried (.code yX8_plainTried cX8_plainTried 2 none :: T0) ({ frames := 0, cells := 0, slots := 0, locals := 0 }) (tqP G cA [.ref h0] [(h0, .inr (8, fs)), (m22, .inl (cA 0, 6, .inl mf22)), (m71, .inl (cA 0, 10, .inl mf71))] sz) (tqQv G cA (fun (u : List Value × (Nat → Int32)) => fo fs u.1 [70, 69, 68, 67, 66, 65, 64] ∧ fh u.1 91 [(70, .int 0), (69, .int 0), (68, .int 0), (67, .int 0), (66, .int 0), (65, .int 0)]) (fun (u : List Value × (Nat → Int32)) => [(h0, .inr (8, u.1)), (m22, .inl (cA 0, 6, .inl mf22)), (m71, .inl (cA 0, 10, .inl u.2))]) (va_A [(h0, .inr (8, fs)), (m22, .inl (cA 0, 6, .inl mf22)), (m71, .inl (cA 0, 10, .inl mf71))] sz)) 0 0 (va_A [(h0, .inr (8, fs)), (m22, .inl (cA 0, 6, .inl mf22)), (m71, .inl (cA 0, 10, .inl mf71))] sz) := by
  refine Met.ofW (cc := cX8_plainTried) (maxL := 2) (ret := none) (by decide) rfl ?_
  intro p e s m args below meth c s₁ B hml hv
  obtain ⟨rfl, hsz, hP, hK, hD0, hN⟩ := hv
  have hx := B.exec
  have hb := B.bytes
  have hr := B.returns
  have hts := atoms_spec (ws := .code yX8_plainTried cX8_plainTried 2 none :: T0) B.pre
  have hT : ∀ w ∈ T0, w.before _ s = true := fun w h => hts w (List.mem_cons_of_mem _ h)
  have hown : s.vm.findClass RX8 = some m.cls := findClass_of_methodNamed B.named
  have hlocks := B.notSynchronized
  subst hsz
  have hD := hD0.self (sz := s.heap.size)
  generalize hAe : va_A [(h0, .inr (8, fs)), (m22, .inl (cA 0, 6, .inl mf22)), (m71, .inl (cA 0, 10, .inl mf71))] s.heap.size = A at hD ⊢
  have hA : ∀ q : Nat, s.heap.size ≤ q → A q := fun q h => by rw [← hAe]; exact Or.inr h
  have hS : va_S A s.heap s.heap [] := va_S.rf
  have hl := lv_entry ([.ref h0]) (n := 2) (Nat.le_of_ble_eq_true rfl)
  rw [lg_entry_eq]
  generalize (lg_sl ([.ref h0]) ++ List.replicate (2 - (lg_sl ([.ref h0])).length) Slot.unset).toArray = ls at hl ⊢
  have hl : lv_has ls 2 [(0, .ref h0)] := hl
  obtain ⟨H, hH⟩ : ∃ z, z = s.heap := ⟨_, rfl⟩
  rw [← hH] at hP
  have hS : va_S A s.heap H [] := by rw [hH]; exact hS
  suffices hgo : W p l e _ s m _ below meth c H [] 0 0 _ _ by rw [hH] at hgo; exact hgo
  have hO := hN.2.2.2.2
  have ho_hf := fo_refl fs
  refine lv_aload_n hx hb dX8_plainTried_0 rfl (lv_at hl 0 rfl) ?_
  refine lv_aload_n hx hb dX8_plainTried_1 rfl (lv_at hl 0 rfl) ?_
  refine va_get (D := G) (ci := 8) (v := .ref m22) (C := RX8) (T := TX8) (N := 91) hx hb hT ku_8 hown hK hP 0 rfl rfl 22 (by decide) (hT _ kw_9_14) (fun _ h9 => h9) (fh_at hf 0 rfl) dX8_plainTried_2 ?_
  refine lv_iconst (v := 0) hx hb dX8_plainTried_5 (by decide) ?_
  refine va_iald (i := 0) hx hb hK hP 1 0 rfl rfl (tq_in (by decide)) dX8_plainTried_6 ?_
  refine lv_topi (fun x101 ex101 => ?_)
  refine va_put (D := G) (ci := 8) (v := .int x101) (ty := .int) (C := RX8) (T := TX8) (N := 91) hx hb hT ku_8 tyX8 tyX8_ok nmX8 hown hK hP hD hS 0 rfl rfl 64 (by decide) (hT _ kw_13_2) (fun _ h9 => h9) rfl (by decide +kernel) rfl rfl (fh_lt hf (by decide)) dX8_plainTried_7 (fun H locs hP hD hS => ?_)
  have hP : va_P G vwCl [(h0, .inr (8, (fs.set 64 (.int x101)))), (m22, .inl (cA 0, 6, .inl mf22)), (m71, .inl (cA 0, 10, .inl mf71))] H := hP
  have hD : va_D A [(h0, .inr (8, (fs.set 64 (.int x101)))), (m22, .inl (cA 0, 6, .inl mf22)), (m71, .inl (cA 0, 10, .inl mf71))] := hD
  have hf := fh_set (l' := [(64, .int x101), (22, .ref m22), (71, .ref m71)]) hf 64 (.int x101) (by decide) rfl
  have ho103 := fo_set ho_hf 64 (.int x101)
  generalize (fs.set 64 (.int x101)) = fs102 at hP hD hf ho103
  refine lv_aload_n hx hb dX8_plainTried_10 rfl (lv_at hl 0 rfl) ?_
  refine lv_iconst (v := 0) hx hb dX8_plainTried_11 (by decide) ?_
  refine va_put (D := G) (ci := 8) (v := .int 0) (ty := .boolean) (C := RX8) (T := TX8) (N := 91) hx hb hT ku_8 tyX8 tyX8_ok nmX8 hown hK hP hD hS 0 rfl rfl 65 (by decide) (hT _ kw_13_3) (fun _ h9 => h9) rfl (by decide +kernel) rfl rfl (fh_lt hf (by decide)) dX8_plainTried_12 (fun H locs hP hD hS => ?_)
  have hP : va_P G vwCl [(h0, .inr (8, (fs102.set 65 (.int 0)))), (m22, .inl (cA 0, 6, .inl mf22)), (m71, .inl (cA 0, 10, .inl mf71))] H := hP
  have hD : va_D A [(h0, .inr (8, (fs102.set 65 (.int 0)))), (m22, .inl (cA 0, 6, .inl mf22)), (m71, .inl (cA 0, 10, .inl mf71))] := hD
  have hf := fh_set (l' := [(65, .int 0), (64, .int x101), (22, .ref m22), (71, .ref m71)]) hf 65 (.int 0) (by decide) rfl
  have ho105 := fo_set ho103 65 (.int 0)
  generalize (fs102.set 65 (.int 0)) = fs104 at hP hD hf ho105
  refine lv_aload_n hx hb dX8_plainTried_15 rfl (lv_at hl 0 rfl) ?_
  refine lv_iconst (v := 0) hx hb dX8_plainTried_16 (by decide) ?_
  refine va_put (D := G) (ci := 8) (v := .int 0) (ty := .boolean) (C := RX8) (T := TX8) (N := 91) hx hb hT ku_8 tyX8 tyX8_ok nmX8 hown hK hP hD hS 0 rfl rfl 66 (by decide) (hT _ kw_13_4) (fun _ h9 => h9) rfl (by decide +kernel) rfl rfl (fh_lt hf (by decide)) dX8_plainTried_17 (fun H locs hP hD hS => ?_)
  have hP : va_P G vwCl [(h0, .inr (8, (fs104.set 66 (.int 0)))), (m22, .inl (cA 0, 6, .inl mf22)), (m71, .inl (cA 0, 10, .inl mf71))] H := hP
  have hD : va_D A [(h0, .inr (8, (fs104.set 66 (.int 0)))), (m22, .inl (cA 0, 6, .inl mf22)), (m71, .inl (cA 0, 10, .inl mf71))] := hD
  have hf := fh_set (l' := [(66, .int 0), (65, .int 0), (64, .int x101), (22, .ref m22), (71, .ref m71)]) hf 66 (.int 0) (by decide) rfl
  have ho107 := fo_set ho105 66 (.int 0)
  generalize (fs104.set 66 (.int 0)) = fs106 at hP hD hf ho107
  refine lv_aload_n hx hb dX8_plainTried_20 rfl (lv_at hl 0 rfl) ?_
  refine lv_iconst (v := 0) hx hb dX8_plainTried_21 (by decide) ?_
  refine va_put (D := G) (ci := 8) (v := .int 0) (ty := .boolean) (C := RX8) (T := TX8) (N := 91) hx hb hT ku_8 tyX8 tyX8_ok nmX8 hown hK hP hD hS 0 rfl rfl 67 (by decide) (hT _ kw_13_5) (fun _ h9 => h9) rfl (by decide +kernel) rfl rfl (fh_lt hf (by decide)) dX8_plainTried_22 (fun H locs hP hD hS => ?_)
  have hP : va_P G vwCl [(h0, .inr (8, (fs106.set 67 (.int 0)))), (m22, .inl (cA 0, 6, .inl mf22)), (m71, .inl (cA 0, 10, .inl mf71))] H := hP
  have hD : va_D A [(h0, .inr (8, (fs106.set 67 (.int 0)))), (m22, .inl (cA 0, 6, .inl mf22)), (m71, .inl (cA 0, 10, .inl mf71))] := hD
  have hf := fh_set (l' := [(67, .int 0), (66, .int 0), (65, .int 0), (64, .int x101), (22, .ref m22), (71, .ref m71)]) hf 67 (.int 0) (by decide) rfl
  have ho109 := fo_set ho107 67 (.int 0)
  generalize (fs106.set 67 (.int 0)) = fs108 at hP hD hf ho109
  refine lv_aload_n hx hb dX8_plainTried_25 rfl (lv_at hl 0 rfl) ?_
  refine lv_iconst (v := 0) hx hb dX8_plainTried_26 (by decide) ?_
  refine va_put (D := G) (ci := 8) (v := .int 0) (ty := .boolean) (C := RX8) (T := TX8) (N := 91) hx hb hT ku_8 tyX8 tyX8_ok nmX8 hown hK hP hD hS 0 rfl rfl 68 (by decide) (hT _ kw_13_6) (fun _ h9 => h9) rfl (by decide +kernel) rfl rfl (fh_lt hf (by decide)) dX8_plainTried_27 (fun H locs hP hD hS => ?_)
  have hP : va_P G vwCl [(h0, .inr (8, (fs108.set 68 (.int 0)))), (m22, .inl (cA 0, 6, .inl mf22)), (m71, .inl (cA 0, 10, .inl mf71))] H := hP
  have hD : va_D A [(h0, .inr (8, (fs108.set 68 (.int 0)))), (m22, .inl (cA 0, 6, .inl mf22)), (m71, .inl (cA 0, 10, .inl mf71))] := hD
  have hf := fh_set (l' := [(68, .int 0), (67, .int 0), (66, .int 0), (65, .int 0), (64, .int x101), (22, .ref m22), (71, .ref m71)]) hf 68 (.int 0) (by decide) rfl
  have ho111 := fo_set ho109 68 (.int 0)
  generalize (fs108.set 68 (.int 0)) = fs110 at hP hD hf ho111
  refine lv_aload_n hx hb dX8_plainTried_30 rfl (lv_at hl 0 rfl) ?_
  refine lv_iconst (v := 0) hx hb dX8_plainTried_31 (by decide) ?_
  refine va_put (D := G) (ci := 8) (v := .int 0) (ty := .boolean) (C := RX8) (T := TX8) (N := 91) hx hb hT ku_8 tyX8 tyX8_ok nmX8 hown hK hP hD hS 0 rfl rfl 69 (by decide) (hT _ kw_13_7) (fun _ h9 => h9) rfl (by decide +kernel) rfl rfl (fh_lt hf (by decide)) dX8_plainTried_32 (fun H locs hP hD hS => ?_)
  have hP : va_P G vwCl [(h0, .inr (8, (fs110.set 69 (.int 0)))), (m22, .inl (cA 0, 6, .inl mf22)), (m71, .inl (cA 0, 10, .inl mf71))] H := hP
  have hD : va_D A [(h0, .inr (8, (fs110.set 69 (.int 0)))), (m22, .inl (cA 0, 6, .inl mf22)), (m71, .inl (cA 0, 10, .inl mf71))] := hD
  have hf := fh_set (l' := [(69, .int 0), (68, .int 0), (67, .int 0), (66, .int 0), (65, .int 0), (64, .int x101), (22, .ref m22), (71, .ref m71)]) hf 69 (.int 0) (by decide) rfl
  have ho113 := fo_set ho111 69 (.int 0)
  generalize (fs110.set 69 (.int 0)) = fs112 at hP hD hf ho113
  refine lv_aload_n hx hb dX8_plainTried_35 rfl (lv_at hl 0 rfl) ?_
  refine lv_iconst (v := 0) hx hb dX8_plainTried_36 (by decide) ?_
  refine va_put (D := G) (ci := 8) (v := .int 0) (ty := .boolean) (C := RX8) (T := TX8) (N := 91) hx hb hT ku_8 tyX8 tyX8_ok nmX8 hown hK hP hD hS 0 rfl rfl 70 (by decide) (hT _ kw_13_8) (fun _ h9 => h9) rfl (by decide +kernel) rfl rfl (fh_lt hf (by decide)) dX8_plainTried_37 (fun H locs hP hD hS => ?_)
  have hP : va_P G vwCl [(h0, .inr (8, (fs112.set 70 (.int 0)))), (m22, .inl (cA 0, 6, .inl mf22)), (m71, .inl (cA 0, 10, .inl mf71))] H := hP
  have hD : va_D A [(h0, .inr (8, (fs112.set 70 (.int 0)))), (m22, .inl (cA 0, 6, .inl mf22)), (m71, .inl (cA 0, 10, .inl mf71))] := hD
  have hf := fh_set (l' := [(70, .int 0), (69, .int 0), (68, .int 0), (67, .int 0), (66, .int 0), (65, .int 0), (64, .int x101), (22, .ref m22), (71, .ref m71)]) hf 70 (.int 0) (by decide) rfl
  have ho115 := fo_set ho113 70 (.int 0)
  generalize (fs112.set 70 (.int 0)) = fs114 at hP hD hf ho115
  refine lv_iconst (v := 0) hx hb dX8_plainTried_40 (by decide) ?_
  refine lv_istore_n (lv' := [(1, .int 0), (0, .ref h0)]) hx hb dX8_plainTried_41 rfl hl (by decide) rfl (fun ls hl => ?_)
  refine lv_iload_n hx hb dX8_plainTried_42 rfl (lv_at hl 0 rfl) ?_
  refine lv_bipush (v := 10) hx hb dX8_plainTried_43 (by decide) ?_
  refine lv_icmp_ge (tgt := 61) hx hb dX8_plainTried_45 (by decide) (fun c116 => absurd c116 (by decide)) (fun c116 => ?_)
  refine lv_aload_n hx hb dX8_plainTried_48 rfl (lv_at hl 1 rfl) ?_
  refine va_get (D := G) (ci := 8) (v := .ref m71) (C := RX8) (T := TX8) (N := 91) hx hb hT ku_8 hown hK hP 0 rfl rfl 71 (by decide) (hT _ kw_11_0) (fun _ h9 => h9) (fh_at hf 8 rfl) dX8_plainTried_49 ?_
  refine lv_iload_n hx hb dX8_plainTried_52 rfl (lv_at hl 0 rfl) ?_
  refine lv_iconst (v := (-1)) hx hb dX8_plainTried_53 (by decide) ?_
  refine va_iast (i := 0) hx hb hK hP hD hS 2 0 rfl rfl (tq_in (by decide)) dX8_plainTried_54 (fun H locs hP hD hS => ?_)
  have hP : va_P G vwCl [(h0, .inr (8, fs114)), (m22, .inl (cA 0, 6, .inl mf22)), (m71, .inl (cA 0, 10, .inl ((upd mf71 (0 : Int32).toNatClampNeg (-1)))))] H := hP
  have hD : va_D A [(h0, .inr (8, fs114)), (m22, .inl (cA 0, 6, .inl mf22)), (m71, .inl (cA 0, 10, .inl ((upd mf71 (0 : Int32).toNatClampNeg (-1)))))] := hD
  generalize (upd mf71 (0 : Int32).toNatClampNeg (-1)) = f117 at hP hD
  refine lv_iinc (v := 1) (lv' := [(1, .int 1), (0, .ref h0)]) hx hb dX8_plainTried_55 hl (k := 0) rfl (by decide) (by decide) rfl (fun ls hl => ?_)
  refine lv_goto (tgt := 42) hx hb dX8_plainTried_58 (by decide) ?_
  refine lv_iload_n hx hb dX8_plainTried_42 rfl (lv_at hl 0 rfl) ?_
  refine lv_bipush (v := 10) hx hb dX8_plainTried_43 (by decide) ?_
  refine lv_icmp_ge (tgt := 61) hx hb dX8_plainTried_45 (by decide) (fun c118 => absurd c118 (by decide)) (fun c118 => ?_)
  refine lv_aload_n hx hb dX8_plainTried_48 rfl (lv_at hl 1 rfl) ?_
  refine va_get (D := G) (ci := 8) (v := .ref m71) (C := RX8) (T := TX8) (N := 91) hx hb hT ku_8 hown hK hP 0 rfl rfl 71 (by decide) (hT _ kw_11_0) (fun _ h9 => h9) (fh_at hf 8 rfl) dX8_plainTried_49 ?_
  refine lv_iload_n hx hb dX8_plainTried_52 rfl (lv_at hl 0 rfl) ?_
  refine lv_iconst (v := (-1)) hx hb dX8_plainTried_53 (by decide) ?_
  refine va_iast (i := 1) hx hb hK hP hD hS 2 0 rfl rfl (tq_in (by decide)) dX8_plainTried_54 (fun H locs hP hD hS => ?_)
  have hP : va_P G vwCl [(h0, .inr (8, fs114)), (m22, .inl (cA 0, 6, .inl mf22)), (m71, .inl (cA 0, 10, .inl ((upd f117 (1 : Int32).toNatClampNeg (-1)))))] H := hP
  have hD : va_D A [(h0, .inr (8, fs114)), (m22, .inl (cA 0, 6, .inl mf22)), (m71, .inl (cA 0, 10, .inl ((upd f117 (1 : Int32).toNatClampNeg (-1)))))] := hD
  generalize (upd f117 (1 : Int32).toNatClampNeg (-1)) = f119 at hP hD
  refine lv_iinc (v := 2) (lv' := [(1, .int 2), (0, .ref h0)]) hx hb dX8_plainTried_55 hl (k := 0) rfl (by decide) (by decide) rfl (fun ls hl => ?_)
  refine lv_goto (tgt := 42) hx hb dX8_plainTried_58 (by decide) ?_
  refine lv_iload_n hx hb dX8_plainTried_42 rfl (lv_at hl 0 rfl) ?_
  refine lv_bipush (v := 10) hx hb dX8_plainTried_43 (by decide) ?_
  refine lv_icmp_ge (tgt := 61) hx hb dX8_plainTried_45 (by decide) (fun c120 => absurd c120 (by decide)) (fun c120 => ?_)
  refine lv_aload_n hx hb dX8_plainTried_48 rfl (lv_at hl 1 rfl) ?_
  refine va_get (D := G) (ci := 8) (v := .ref m71) (C := RX8) (T := TX8) (N := 91) hx hb hT ku_8 hown hK hP 0 rfl rfl 71 (by decide) (hT _ kw_11_0) (fun _ h9 => h9) (fh_at hf 8 rfl) dX8_plainTried_49 ?_
  refine lv_iload_n hx hb dX8_plainTried_52 rfl (lv_at hl 0 rfl) ?_
  refine lv_iconst (v := (-1)) hx hb dX8_plainTried_53 (by decide) ?_
  refine va_iast (i := 2) hx hb hK hP hD hS 2 0 rfl rfl (tq_in (by decide)) dX8_plainTried_54 (fun H locs hP hD hS => ?_)
  have hP : va_P G vwCl [(h0, .inr (8, fs114)), (m22, .inl (cA 0, 6, .inl mf22)), (m71, .inl (cA 0, 10, .inl ((upd f119 (2 : Int32).toNatClampNeg (-1)))))] H := hP
  have hD : va_D A [(h0, .inr (8, fs114)), (m22, .inl (cA 0, 6, .inl mf22)), (m71, .inl (cA 0, 10, .inl ((upd f119 (2 : Int32).toNatClampNeg (-1)))))] := hD
  generalize (upd f119 (2 : Int32).toNatClampNeg (-1)) = f121 at hP hD
  refine lv_iinc (v := 3) (lv' := [(1, .int 3), (0, .ref h0)]) hx hb dX8_plainTried_55 hl (k := 0) rfl (by decide) (by decide) rfl (fun ls hl => ?_)
  refine lv_goto (tgt := 42) hx hb dX8_plainTried_58 (by decide) ?_
  refine lv_iload_n hx hb dX8_plainTried_42 rfl (lv_at hl 0 rfl) ?_
  refine lv_bipush (v := 10) hx hb dX8_plainTried_43 (by decide) ?_
  refine lv_icmp_ge (tgt := 61) hx hb dX8_plainTried_45 (by decide) (fun c122 => absurd c122 (by decide)) (fun c122 => ?_)
  refine lv_aload_n hx hb dX8_plainTried_48 rfl (lv_at hl 1 rfl) ?_
  refine va_get (D := G) (ci := 8) (v := .ref m71) (C := RX8) (T := TX8) (N := 91) hx hb hT ku_8 hown hK hP 0 rfl rfl 71 (by decide) (hT _ kw_11_0) (fun _ h9 => h9) (fh_at hf 8 rfl) dX8_plainTried_49 ?_
  refine lv_iload_n hx hb dX8_plainTried_52 rfl (lv_at hl 0 rfl) ?_
  refine lv_iconst (v := (-1)) hx hb dX8_plainTried_53 (by decide) ?_
  refine va_iast (i := 3) hx hb hK hP hD hS 2 0 rfl rfl (tq_in (by decide)) dX8_plainTried_54 (fun H locs hP hD hS => ?_)
  have hP : va_P G vwCl [(h0, .inr (8, fs114)), (m22, .inl (cA 0, 6, .inl mf22)), (m71, .inl (cA 0, 10, .inl ((upd f121 (3 : Int32).toNatClampNeg (-1)))))] H := hP
  have hD : va_D A [(h0, .inr (8, fs114)), (m22, .inl (cA 0, 6, .inl mf22)), (m71, .inl (cA 0, 10, .inl ((upd f121 (3 : Int32).toNatClampNeg (-1)))))] := hD
  generalize (upd f121 (3 : Int32).toNatClampNeg (-1)) = f123 at hP hD
  refine lv_iinc (v := 4) (lv' := [(1, .int 4), (0, .ref h0)]) hx hb dX8_plainTried_55 hl (k := 0) rfl (by decide) (by decide) rfl (fun ls hl => ?_)
  refine lv_goto (tgt := 42) hx hb dX8_plainTried_58 (by decide) ?_
  refine lv_iload_n hx hb dX8_plainTried_42 rfl (lv_at hl 0 rfl) ?_
  refine lv_bipush (v := 10) hx hb dX8_plainTried_43 (by decide) ?_
  refine lv_icmp_ge (tgt := 61) hx hb dX8_plainTried_45 (by decide) (fun c124 => absurd c124 (by decide)) (fun c124 => ?_)
  refine lv_aload_n hx hb dX8_plainTried_48 rfl (lv_at hl 1 rfl) ?_
  refine va_get (D := G) (ci := 8) (v := .ref m71) (C := RX8) (T := TX8) (N := 91) hx hb hT ku_8 hown hK hP 0 rfl rfl 71 (by decide) (hT _ kw_11_0) (fun _ h9 => h9) (fh_at hf 8 rfl) dX8_plainTried_49 ?_
  refine lv_iload_n hx hb dX8_plainTried_52 rfl (lv_at hl 0 rfl) ?_
  refine lv_iconst (v := (-1)) hx hb dX8_plainTried_53 (by decide) ?_
  refine va_iast (i := 4) hx hb hK hP hD hS 2 0 rfl rfl (tq_in (by decide)) dX8_plainTried_54 (fun H locs hP hD hS => ?_)
  have hP : va_P G vwCl [(h0, .inr (8, fs114)), (m22, .inl (cA 0, 6, .inl mf22)), (m71, .inl (cA 0, 10, .inl ((upd f123 (4 : Int32).toNatClampNeg (-1)))))] H := hP
  have hD : va_D A [(h0, .inr (8, fs114)), (m22, .inl (cA 0, 6, .inl mf22)), (m71, .inl (cA 0, 10, .inl ((upd f123 (4 : Int32).toNatClampNeg (-1)))))] := hD
  generalize (upd f123 (4 : Int32).toNatClampNeg (-1)) = f125 at hP hD
  refine lv_iinc (v := 5) (lv' := [(1, .int 5), (0, .ref h0)]) hx hb dX8_plainTried_55 hl (k := 0) rfl (by decide) (by decide) rfl (fun ls hl => ?_)
  refine lv_goto (tgt := 42) hx hb dX8_plainTried_58 (by decide) ?_
  refine lv_iload_n hx hb dX8_plainTried_42 rfl (lv_at hl 0 rfl) ?_
  refine lv_bipush (v := 10) hx hb dX8_plainTried_43 (by decide) ?_
  refine lv_icmp_ge (tgt := 61) hx hb dX8_plainTried_45 (by decide) (fun c126 => absurd c126 (by decide)) (fun c126 => ?_)
  refine lv_aload_n hx hb dX8_plainTried_48 rfl (lv_at hl 1 rfl) ?_
  refine va_get (D := G) (ci := 8) (v := .ref m71) (C := RX8) (T := TX8) (N := 91) hx hb hT ku_8 hown hK hP 0 rfl rfl 71 (by decide) (hT _ kw_11_0) (fun _ h9 => h9) (fh_at hf 8 rfl) dX8_plainTried_49 ?_
  refine lv_iload_n hx hb dX8_plainTried_52 rfl (lv_at hl 0 rfl) ?_
  refine lv_iconst (v := (-1)) hx hb dX8_plainTried_53 (by decide) ?_
  refine va_iast (i := 5) hx hb hK hP hD hS 2 0 rfl rfl (tq_in (by decide)) dX8_plainTried_54 (fun H locs hP hD hS => ?_)
  have hP : va_P G vwCl [(h0, .inr (8, fs114)), (m22, .inl (cA 0, 6, .inl mf22)), (m71, .inl (cA 0, 10, .inl ((upd f125 (5 : Int32).toNatClampNeg (-1)))))] H := hP
  have hD : va_D A [(h0, .inr (8, fs114)), (m22, .inl (cA 0, 6, .inl mf22)), (m71, .inl (cA 0, 10, .inl ((upd f125 (5 : Int32).toNatClampNeg (-1)))))] := hD
  generalize (upd f125 (5 : Int32).toNatClampNeg (-1)) = f127 at hP hD
  refine lv_iinc (v := 6) (lv' := [(1, .int 6), (0, .ref h0)]) hx hb dX8_plainTried_55 hl (k := 0) rfl (by decide) (by decide) rfl (fun ls hl => ?_)
  refine lv_goto (tgt := 42) hx hb dX8_plainTried_58 (by decide) ?_
  refine lv_iload_n hx hb dX8_plainTried_42 rfl (lv_at hl 0 rfl) ?_
  refine lv_bipush (v := 10) hx hb dX8_plainTried_43 (by decide) ?_
  refine lv_icmp_ge (tgt := 61) hx hb dX8_plainTried_45 (by decide) (fun c128 => absurd c128 (by decide)) (fun c128 => ?_)
  refine lv_aload_n hx hb dX8_plainTried_48 rfl (lv_at hl 1 rfl) ?_
  refine va_get (D := G) (ci := 8) (v := .ref m71) (C := RX8) (T := TX8) (N := 91) hx hb hT ku_8 hown hK hP 0 rfl rfl 71 (by decide) (hT _ kw_11_0) (fun _ h9 => h9) (fh_at hf 8 rfl) dX8_plainTried_49 ?_
  refine lv_iload_n hx hb dX8_plainTried_52 rfl (lv_at hl 0 rfl) ?_
  refine lv_iconst (v := (-1)) hx hb dX8_plainTried_53 (by decide) ?_
  refine va_iast (i := 6) hx hb hK hP hD hS 2 0 rfl rfl (tq_in (by decide)) dX8_plainTried_54 (fun H locs hP hD hS => ?_)
  have hP : va_P G vwCl [(h0, .inr (8, fs114)), (m22, .inl (cA 0, 6, .inl mf22)), (m71, .inl (cA 0, 10, .inl ((upd f127 (6 : Int32).toNatClampNeg (-1)))))] H := hP
  have hD : va_D A [(h0, .inr (8, fs114)), (m22, .inl (cA 0, 6, .inl mf22)), (m71, .inl (cA 0, 10, .inl ((upd f127 (6 : Int32).toNatClampNeg (-1)))))] := hD
  generalize (upd f127 (6 : Int32).toNatClampNeg (-1)) = f129 at hP hD
  refine lv_iinc (v := 7) (lv' := [(1, .int 7), (0, .ref h0)]) hx hb dX8_plainTried_55 hl (k := 0) rfl (by decide) (by decide) rfl (fun ls hl => ?_)
  refine lv_goto (tgt := 42) hx hb dX8_plainTried_58 (by decide) ?_
  refine lv_iload_n hx hb dX8_plainTried_42 rfl (lv_at hl 0 rfl) ?_
  refine lv_bipush (v := 10) hx hb dX8_plainTried_43 (by decide) ?_
  refine lv_icmp_ge (tgt := 61) hx hb dX8_plainTried_45 (by decide) (fun c130 => absurd c130 (by decide)) (fun c130 => ?_)
  refine lv_aload_n hx hb dX8_plainTried_48 rfl (lv_at hl 1 rfl) ?_
  refine va_get (D := G) (ci := 8) (v := .ref m71) (C := RX8) (T := TX8) (N := 91) hx hb hT ku_8 hown hK hP 0 rfl rfl 71 (by decide) (hT _ kw_11_0) (fun _ h9 => h9) (fh_at hf 8 rfl) dX8_plainTried_49 ?_
  refine lv_iload_n hx hb dX8_plainTried_52 rfl (lv_at hl 0 rfl) ?_
  refine lv_iconst (v := (-1)) hx hb dX8_plainTried_53 (by decide) ?_
  refine va_iast (i := 7) hx hb hK hP hD hS 2 0 rfl rfl (tq_in (by decide)) dX8_plainTried_54 (fun H locs hP hD hS => ?_)
  have hP : va_P G vwCl [(h0, .inr (8, fs114)), (m22, .inl (cA 0, 6, .inl mf22)), (m71, .inl (cA 0, 10, .inl ((upd f129 (7 : Int32).toNatClampNeg (-1)))))] H := hP
  have hD : va_D A [(h0, .inr (8, fs114)), (m22, .inl (cA 0, 6, .inl mf22)), (m71, .inl (cA 0, 10, .inl ((upd f129 (7 : Int32).toNatClampNeg (-1)))))] := hD
  generalize (upd f129 (7 : Int32).toNatClampNeg (-1)) = f131 at hP hD
  refine lv_iinc (v := 8) (lv' := [(1, .int 8), (0, .ref h0)]) hx hb dX8_plainTried_55 hl (k := 0) rfl (by decide) (by decide) rfl (fun ls hl => ?_)
  refine lv_goto (tgt := 42) hx hb dX8_plainTried_58 (by decide) ?_
  refine lv_iload_n hx hb dX8_plainTried_42 rfl (lv_at hl 0 rfl) ?_
  refine lv_bipush (v := 10) hx hb dX8_plainTried_43 (by decide) ?_
  refine lv_icmp_ge (tgt := 61) hx hb dX8_plainTried_45 (by decide) (fun c132 => absurd c132 (by decide)) (fun c132 => ?_)
  refine lv_aload_n hx hb dX8_plainTried_48 rfl (lv_at hl 1 rfl) ?_
  refine va_get (D := G) (ci := 8) (v := .ref m71) (C := RX8) (T := TX8) (N := 91) hx hb hT ku_8 hown hK hP 0 rfl rfl 71 (by decide) (hT _ kw_11_0) (fun _ h9 => h9) (fh_at hf 8 rfl) dX8_plainTried_49 ?_
  refine lv_iload_n hx hb dX8_plainTried_52 rfl (lv_at hl 0 rfl) ?_
  refine lv_iconst (v := (-1)) hx hb dX8_plainTried_53 (by decide) ?_
  refine va_iast (i := 8) hx hb hK hP hD hS 2 0 rfl rfl (tq_in (by decide)) dX8_plainTried_54 (fun H locs hP hD hS => ?_)
  have hP : va_P G vwCl [(h0, .inr (8, fs114)), (m22, .inl (cA 0, 6, .inl mf22)), (m71, .inl (cA 0, 10, .inl ((upd f131 (8 : Int32).toNatClampNeg (-1)))))] H := hP
  have hD : va_D A [(h0, .inr (8, fs114)), (m22, .inl (cA 0, 6, .inl mf22)), (m71, .inl (cA 0, 10, .inl ((upd f131 (8 : Int32).toNatClampNeg (-1)))))] := hD
  generalize (upd f131 (8 : Int32).toNatClampNeg (-1)) = f133 at hP hD
  refine lv_iinc (v := 9) (lv' := [(1, .int 9), (0, .ref h0)]) hx hb dX8_plainTried_55 hl (k := 0) rfl (by decide) (by decide) rfl (fun ls hl => ?_)
  refine lv_goto (tgt := 42) hx hb dX8_plainTried_58 (by decide) ?_
  refine lv_iload_n hx hb dX8_plainTried_42 rfl (lv_at hl 0 rfl) ?_
  refine lv_bipush (v := 10) hx hb dX8_plainTried_43 (by decide) ?_
  refine lv_icmp_ge (tgt := 61) hx hb dX8_plainTried_45 (by decide) (fun c134 => absurd c134 (by decide)) (fun c134 => ?_)
  refine lv_aload_n hx hb dX8_plainTried_48 rfl (lv_at hl 1 rfl) ?_
  refine va_get (D := G) (ci := 8) (v := .ref m71) (C := RX8) (T := TX8) (N := 91) hx hb hT ku_8 hown hK hP 0 rfl rfl 71 (by decide) (hT _ kw_11_0) (fun _ h9 => h9) (fh_at hf 8 rfl) dX8_plainTried_49 ?_
  refine lv_iload_n hx hb dX8_plainTried_52 rfl (lv_at hl 0 rfl) ?_
  refine lv_iconst (v := (-1)) hx hb dX8_plainTried_53 (by decide) ?_
  refine va_iast (i := 9) hx hb hK hP hD hS 2 0 rfl rfl (tq_in (by decide)) dX8_plainTried_54 (fun H locs hP hD hS => ?_)
  have hP : va_P G vwCl [(h0, .inr (8, fs114)), (m22, .inl (cA 0, 6, .inl mf22)), (m71, .inl (cA 0, 10, .inl ((upd f133 (9 : Int32).toNatClampNeg (-1)))))] H := hP
  have hD : va_D A [(h0, .inr (8, fs114)), (m22, .inl (cA 0, 6, .inl mf22)), (m71, .inl (cA 0, 10, .inl ((upd f133 (9 : Int32).toNatClampNeg (-1)))))] := hD
  generalize (upd f133 (9 : Int32).toNatClampNeg (-1)) = f135 at hP hD
  refine lv_iinc (v := 10) (lv' := [(1, .int 10), (0, .ref h0)]) hx hb dX8_plainTried_55 hl (k := 0) rfl (by decide) (by decide) rfl (fun ls hl => ?_)
  refine lv_goto (tgt := 42) hx hb dX8_plainTried_58 (by decide) ?_
  refine lv_iload_n hx hb dX8_plainTried_42 rfl (lv_at hl 0 rfl) ?_
  refine lv_bipush (v := 10) hx hb dX8_plainTried_43 (by decide) ?_
  refine lv_icmp_ge (tgt := 61) hx hb dX8_plainTried_45 (by decide) (fun c136 => ?_) (fun c136 => absurd (by decide) c136)
  have qho115 := fo_mono (k2 := [70, 69, 68, 67, 66, 65, 64]) ho115 (by decide)
  exact W.vret hx hb hr (fun t ht hW => ⟨⟨(fs114, f135), rfl, ⟨qho115, fh_sub hf [0, 1, 2, 3, 4, 5] rfl⟩, by rw [ht]; exact hP, hD⟩, hS.F ht⟩) hS.2.2 dX8_plainTried_61

set_option maxHeartbeats 4000000 in
set_option maxRecDepth 100000 in
theorem c_X8_atFirst (l : Launch) (G : va_G) (cA : Nat → ClassId) (sz : Nat) (h0 : Nat) (fs : List Value) (m26 : Nat) (m28 : Nat) (m52 : Nat) (m53 : Nat) (m55 : Nat) (m56 : Nat) (m57 : Nat) (m58 : Nat) (m59 : Nat) (m60 : Nat) (m61 : Nat) (m62 : Nat) (mf26 : Nat → Int32) (mf28 : Nat → Int32) (mf52 : Nat → Int32) (mf53 : Nat → Int32) (mf55 : Nat → Int32) (mf56 : Nat → Int32) (mf57 : Nat → Int32) (mf58 : Nat → Int32) (mf59 : Nat → Int32) (mf60 : Nat → Int32) (mf61 : Nat → Int32) (mf62 : Nat → Int32) (hf : fh fs 91 [(26, .ref m26), (28, .ref m28), (52, .ref m52), (53, .ref m53), (55, .ref m55), (56, .ref m56), (57, .ref m57), (58, .ref m58), (59, .ref m59), (60, .ref m60), (61, .ref m61), (62, .ref m62)]) : Met l yX8_atFirst (.code yX8_atFirst cX8_atFirst 3 none :: T0) ({ frames := 0, cells := 0, slots := 0, locals := 0 }) (tqP G cA [.ref h0, .int 0] [(h0, .inr (8, fs)), (m26, .inl (cA 0, 12, .inl mf26)), (m28, .inl (cA 0, 12, .inl mf28)), (m52, .inl (cA 0, 20, .inl mf52)), (m53, .inl (cA 0, 20, .inl mf53)), (m55, .inl (cA 0, 10, .inl mf55)), (m56, .inl (cA 0, 12, .inl mf56)), (m57, .inl (cA 0, 12, .inl mf57)), (m58, .inl (cA 0, 12, .inl mf58)), (m59, .inl (cA 0, 12, .inl mf59)), (m60, .inl (cA 0, 2, .inl mf60)), (m61, .inl (cA 0, 2, .inl mf61)), (m62, .inl (cA 0, 2, .inl mf62))] sz) (tqQv G cA (fun (u : (Nat → Int32) × (Nat → Int32) × (Nat → Int32) × (Nat → Int32) × (Nat → Int32) × (Nat → Int32) × (Nat → Int32) × (Nat → Int32) × (Nat → Int32) × (Nat → Int32)) => u.2.2.2.2.2.2.2.1 0 = 0 ∧ u.2.2.2.2.2.2.2.2.1 0 = 0) (fun (u : (Nat → Int32) × (Nat → Int32) × (Nat → Int32) × (Nat → Int32) × (Nat → Int32) × (Nat → Int32) × (Nat → Int32) × (Nat → Int32) × (Nat → Int32) × (Nat → Int32)) => [(h0, .inr (8, fs)), (m26, .inl (cA 0, 12, .inl mf26)), (m28, .inl (cA 0, 12, .inl mf28)), (m52, .inl (cA 0, 20, .inl u.1)), (m53, .inl (cA 0, 20, .inl u.2.1)), (m55, .inl (cA 0, 10, .inl u.2.2.1)), (m56, .inl (cA 0, 12, .inl u.2.2.2.1)), (m57, .inl (cA 0, 12, .inl u.2.2.2.2.1)), (m58, .inl (cA 0, 12, .inl u.2.2.2.2.2.1)), (m59, .inl (cA 0, 12, .inl u.2.2.2.2.2.2.1)), (m60, .inl (cA 0, 2, .inl u.2.2.2.2.2.2.2.1)), (m61, .inl (cA 0, 2, .inl u.2.2.2.2.2.2.2.2.1)), (m62, .inl (cA 0, 2, .inl u.2.2.2.2.2.2.2.2.2))]) (va_A [(h0, .inr (8, fs)), (m26, .inl (cA 0, 12, .inl mf26)), (m28, .inl (cA 0, 12, .inl mf28)), (m52, .inl (cA 0, 20, .inl mf52)), (m53, .inl (cA 0, 20, .inl mf53)), (m55, .inl (cA 0, 10, .inl mf55)), (m56, .inl (cA 0, 12, .inl mf56)), (m57, .inl (cA 0, 12, .inl mf57)), (m58, .inl (cA 0, 12, .inl mf58)), (m59, .inl (cA 0, 12, .inl mf59)), (m60, .inl (cA 0, 2, .inl mf60)), (m61, .inl (cA 0, 2, .inl mf61)), (m62, .inl (cA 0, 2, .inl mf62))] sz)) 0 0 (va_A [(h0, .inr (8, fs)), (m26, .inl (cA 0, 12, .inl mf26)), (m28, .inl (cA 0, 12, .inl mf28)), (m52, .inl (cA 0, 20, .inl mf52)), (m53, .inl (cA 0, 20, .inl mf53)), (m55, .inl (cA 0, 10, .inl mf55)), (m56, .inl (cA 0, 12, .inl mf56)), (m57, .inl (cA 0, 12, .inl mf57)), (m58, .inl (cA 0, 12, .inl mf58)), (m59, .inl (cA 0, 12, .inl mf59)), (m60, .inl (cA 0, 2, .inl mf60)), (m61, .inl (cA 0, 2, .inl mf61)), (m62, .inl (cA 0, 2, .inl mf62))] sz) := by
  refine Met.ofW (cc := cX8_atFirst) (maxL := 3) (ret := none) (by decide) rfl ?_
  intro p e s m args below meth c s₁ B hml hv
  obtain ⟨rfl, hsz, hP, hK, hD0, hN⟩ := hv
  have hx := B.exec
  have hb := B.bytes
  have hr := B.returns
  have hts := atoms_spec (ws := .code yX8_atFirst cX8_atFirst 3 none :: T0) B.pre
  have hT : ∀ w ∈ T0, w.before _ s = true := fun w h => hts w (List.mem_cons_of_mem _ h)
  have hown : s.vm.findClass RX8 = some m.cls := findClass_of_methodNamed B.named
  have hlocks := B.notSynchronized
  subst hsz
  have hD := hD0.self (sz := s.heap.size)
  generalize hAe : va_A [(h0, .inr (8, fs)), (m26, .inl (cA 0, 12, .inl mf26)), (m28, .inl (cA 0, 12, .inl mf28)), (m52, .inl (cA 0, 20, .inl mf52)), (m53, .inl (cA 0, 20, .inl mf53)), (m55, .inl (cA 0, 10, .inl mf55)), (m56, .inl (cA 0, 12, .inl mf56)), (m57, .inl (cA 0, 12, .inl mf57)), (m58, .inl (cA 0, 12, .inl mf58)), (m59, .inl (cA 0, 12, .inl mf59)), (m60, .inl (cA 0, 2, .inl mf60)), (m61, .inl (cA 0, 2, .inl mf61)), (m62, .inl (cA 0, 2, .inl mf62))] s.heap.size = A at hD ⊢
  have hA : ∀ q : Nat, s.heap.size ≤ q → A q := fun q h => by rw [← hAe]; exact Or.inr h
  have hS : va_S A s.heap s.heap [] := va_S.rf
  have hl := lv_entry ([.ref h0, .int 0]) (n := 3) (Nat.le_of_ble_eq_true rfl)
  rw [lg_entry_eq]
  generalize (lg_sl ([.ref h0, .int 0]) ++ List.replicate (3 - (lg_sl ([.ref h0, .int 0])).length) Slot.unset).toArray = ls at hl ⊢
  have hl : lv_has ls 3 [(0, .ref h0), (1, .int 0)] := hl
  obtain ⟨H, hH⟩ : ∃ z, z = s.heap := ⟨_, rfl⟩
  rw [← hH] at hP
  have hS : va_S A s.heap H [] := by rw [hH]; exact hS
  suffices hgo : W p l e _ s m _ below meth c H [] 0 0 _ _ by rw [hH] at hgo; exact hgo
  have hO := hN.2.2.2.2
  have ho_hf := fo_refl fs
  refine lv_iconst (v := 0) hx hb dX8_atFirst_0 (by decide) ?_
  refine lv_istore_n (lv' := [(2, .int 0), (0, .ref h0), (1, .int 0)]) hx hb dX8_atFirst_1 rfl hl (by decide) rfl (fun ls hl => ?_)
  refine lv_iload_n hx hb dX8_atFirst_2 rfl (lv_at hl 0 rfl) ?_
  refine lv_bipush (v := 10) hx hb dX8_atFirst_3 (by decide) ?_
  refine lv_icmp_ge (tgt := 38) hx hb dX8_atFirst_5 (by decide) (fun c101 => absurd c101 (by decide)) (fun c101 => ?_)
  refine lv_aload_n hx hb dX8_atFirst_8 rfl (lv_at hl 1 rfl) ?_
  refine va_get (D := G) (ci := 8) (v := .ref m52) (C := RX8) (T := TX8) (N := 91) hx hb hT ku_8 hown hK hP 0 rfl rfl 52 (by decide) (hT _ kw_10_13) (fun _ h9 => h9) (fh_at hf 2 rfl) dX8_atFirst_9 ?_
  refine lv_bipush (v := 10) hx hb dX8_atFirst_12 (by decide) ?_
  refine lv_iload_n hx hb dX8_atFirst_14 rfl (lv_at hl 2 rfl) ?_
  refine lv_imul hx hb dX8_atFirst_15 ?_
  refine tq_i (w := 0) (by decide) ?_
  refine lv_iload_n hx hb dX8_atFirst_16 rfl (lv_at hl 0 rfl) ?_
  refine lv_iadd hx hb dX8_atFirst_17 ?_
  refine tq_i (w := 0) (by decide) ?_
  refine lv_iconst (v := 0) hx hb dX8_atFirst_18 (by decide) ?_
  refine va_iast (i := 0) hx hb hK hP hD hS 3 0 rfl rfl (tq_in (by decide)) dX8_atFirst_19 (fun H locs hP hD hS => ?_)
  have hP : va_P G vwCl [(h0, .inr (8, fs)), (m26, .inl (cA 0, 12, .inl mf26)), (m28, .inl (cA 0, 12, .inl mf28)), (m52, .inl (cA 0, 20, .inl ((upd mf52 (0 : Int32).toNatClampNeg 0)))), (m53, .inl (cA 0, 20, .inl mf53)), (m55, .inl (cA 0, 10, .inl mf55)), (m56, .inl (cA 0, 12, .inl mf56)), (m57, .inl (cA 0, 12, .inl mf57)), (m58, .inl (cA 0, 12, .inl mf58)), (m59, .inl (cA 0, 12, .inl mf59)), (m60, .inl (cA 0, 2, .inl mf60)), (m61, .inl (cA 0, 2, .inl mf61)), (m62, .inl (cA 0, 2, .inl mf62))] H := hP
  have hD : va_D A [(h0, .inr (8, fs)), (m26, .inl (cA 0, 12, .inl mf26)), (m28, .inl (cA 0, 12, .inl mf28)), (m52, .inl (cA 0, 20, .inl ((upd mf52 (0 : Int32).toNatClampNeg 0)))), (m53, .inl (cA 0, 20, .inl mf53)), (m55, .inl (cA 0, 10, .inl mf55)), (m56, .inl (cA 0, 12, .inl mf56)), (m57, .inl (cA 0, 12, .inl mf57)), (m58, .inl (cA 0, 12, .inl mf58)), (m59, .inl (cA 0, 12, .inl mf59)), (m60, .inl (cA 0, 2, .inl mf60)), (m61, .inl (cA 0, 2, .inl mf61)), (m62, .inl (cA 0, 2, .inl mf62))] := hD
  generalize (upd mf52 (0 : Int32).toNatClampNeg 0) = f102 at hP hD
  refine lv_aload_n hx hb dX8_atFirst_20 rfl (lv_at hl 1 rfl) ?_
  refine va_get (D := G) (ci := 8) (v := .ref m53) (C := RX8) (T := TX8) (N := 91) hx hb hT ku_8 hown hK hP 0 rfl rfl 53 (by decide) (hT _ kw_10_14) (fun _ h9 => h9) (fh_at hf 3 rfl) dX8_atFirst_21 ?_
  refine lv_bipush (v := 10) hx hb dX8_atFirst_24 (by decide) ?_
  refine lv_iload_n hx hb dX8_atFirst_26 rfl (lv_at hl 2 rfl) ?_
  refine lv_imul hx hb dX8_atFirst_27 ?_
  refine tq_i (w := 0) (by decide) ?_
  refine lv_iload_n hx hb dX8_atFirst_28 rfl (lv_at hl 0 rfl) ?_
  refine lv_iadd hx hb dX8_atFirst_29 ?_
  refine tq_i (w := 0) (by decide) ?_
  refine lv_iconst (v := (-1)) hx hb dX8_atFirst_30 (by decide) ?_
  refine va_iast (i := 0) hx hb hK hP hD hS 4 0 rfl rfl (tq_in (by decide)) dX8_atFirst_31 (fun H locs hP hD hS => ?_)
  have hP : va_P G vwCl [(h0, .inr (8, fs)), (m26, .inl (cA 0, 12, .inl mf26)), (m28, .inl (cA 0, 12, .inl mf28)), (m52, .inl (cA 0, 20, .inl f102)), (m53, .inl (cA 0, 20, .inl ((upd mf53 (0 : Int32).toNatClampNeg (-1))))), (m55, .inl (cA 0, 10, .inl mf55)), (m56, .inl (cA 0, 12, .inl mf56)), (m57, .inl (cA 0, 12, .inl mf57)), (m58, .inl (cA 0, 12, .inl mf58)), (m59, .inl (cA 0, 12, .inl mf59)), (m60, .inl (cA 0, 2, .inl mf60)), (m61, .inl (cA 0, 2, .inl mf61)), (m62, .inl (cA 0, 2, .inl mf62))] H := hP
  have hD : va_D A [(h0, .inr (8, fs)), (m26, .inl (cA 0, 12, .inl mf26)), (m28, .inl (cA 0, 12, .inl mf28)), (m52, .inl (cA 0, 20, .inl f102)), (m53, .inl (cA 0, 20, .inl ((upd mf53 (0 : Int32).toNatClampNeg (-1))))), (m55, .inl (cA 0, 10, .inl mf55)), (m56, .inl (cA 0, 12, .inl mf56)), (m57, .inl (cA 0, 12, .inl mf57)), (m58, .inl (cA 0, 12, .inl mf58)), (m59, .inl (cA 0, 12, .inl mf59)), (m60, .inl (cA 0, 2, .inl mf60)), (m61, .inl (cA 0, 2, .inl mf61)), (m62, .inl (cA 0, 2, .inl mf62))] := hD
  generalize (upd mf53 (0 : Int32).toNatClampNeg (-1)) = f103 at hP hD
  refine lv_iinc (v := 1) (lv' := [(2, .int 1), (0, .ref h0), (1, .int 0)]) hx hb dX8_atFirst_32 hl (k := 0) rfl (by decide) (by decide) rfl (fun ls hl => ?_)
  refine lv_goto (tgt := 2) hx hb dX8_atFirst_35 (by decide) ?_
  refine lv_iload_n hx hb dX8_atFirst_2 rfl (lv_at hl 0 rfl) ?_
  refine lv_bipush (v := 10) hx hb dX8_atFirst_3 (by decide) ?_
  refine lv_icmp_ge (tgt := 38) hx hb dX8_atFirst_5 (by decide) (fun c104 => absurd c104 (by decide)) (fun c104 => ?_)
  refine lv_aload_n hx hb dX8_atFirst_8 rfl (lv_at hl 1 rfl) ?_
  refine va_get (D := G) (ci := 8) (v := .ref m52) (C := RX8) (T := TX8) (N := 91) hx hb hT ku_8 hown hK hP 0 rfl rfl 52 (by decide) (hT _ kw_10_13) (fun _ h9 => h9) (fh_at hf 2 rfl) dX8_atFirst_9 ?_
  refine lv_bipush (v := 10) hx hb dX8_atFirst_12 (by decide) ?_
  refine lv_iload_n hx hb dX8_atFirst_14 rfl (lv_at hl 2 rfl) ?_
  refine lv_imul hx hb dX8_atFirst_15 ?_
  refine tq_i (w := 0) (by decide) ?_
  refine lv_iload_n hx hb dX8_atFirst_16 rfl (lv_at hl 0 rfl) ?_
  refine lv_iadd hx hb dX8_atFirst_17 ?_
  refine tq_i (w := 1) (by decide) ?_
  refine lv_iconst (v := 0) hx hb dX8_atFirst_18 (by decide) ?_
  refine va_iast (i := 1) hx hb hK hP hD hS 3 0 rfl rfl (tq_in (by decide)) dX8_atFirst_19 (fun H locs hP hD hS => ?_)
  have hP : va_P G vwCl [(h0, .inr (8, fs)), (m26, .inl (cA 0, 12, .inl mf26)), (m28, .inl (cA 0, 12, .inl mf28)), (m52, .inl (cA 0, 20, .inl ((upd f102 (1 : Int32).toNatClampNeg 0)))), (m53, .inl (cA 0, 20, .inl f103)), (m55, .inl (cA 0, 10, .inl mf55)), (m56, .inl (cA 0, 12, .inl mf56)), (m57, .inl (cA 0, 12, .inl mf57)), (m58, .inl (cA 0, 12, .inl mf58)), (m59, .inl (cA 0, 12, .inl mf59)), (m60, .inl (cA 0, 2, .inl mf60)), (m61, .inl (cA 0, 2, .inl mf61)), (m62, .inl (cA 0, 2, .inl mf62))] H := hP
  have hD : va_D A [(h0, .inr (8, fs)), (m26, .inl (cA 0, 12, .inl mf26)), (m28, .inl (cA 0, 12, .inl mf28)), (m52, .inl (cA 0, 20, .inl ((upd f102 (1 : Int32).toNatClampNeg 0)))), (m53, .inl (cA 0, 20, .inl f103)), (m55, .inl (cA 0, 10, .inl mf55)), (m56, .inl (cA 0, 12, .inl mf56)), (m57, .inl (cA 0, 12, .inl mf57)), (m58, .inl (cA 0, 12, .inl mf58)), (m59, .inl (cA 0, 12, .inl mf59)), (m60, .inl (cA 0, 2, .inl mf60)), (m61, .inl (cA 0, 2, .inl mf61)), (m62, .inl (cA 0, 2, .inl mf62))] := hD
  generalize (upd f102 (1 : Int32).toNatClampNeg 0) = f105 at hP hD
  refine lv_aload_n hx hb dX8_atFirst_20 rfl (lv_at hl 1 rfl) ?_
  refine va_get (D := G) (ci := 8) (v := .ref m53) (C := RX8) (T := TX8) (N := 91) hx hb hT ku_8 hown hK hP 0 rfl rfl 53 (by decide) (hT _ kw_10_14) (fun _ h9 => h9) (fh_at hf 3 rfl) dX8_atFirst_21 ?_
  refine lv_bipush (v := 10) hx hb dX8_atFirst_24 (by decide) ?_
  refine lv_iload_n hx hb dX8_atFirst_26 rfl (lv_at hl 2 rfl) ?_
  refine lv_imul hx hb dX8_atFirst_27 ?_
  refine tq_i (w := 0) (by decide) ?_
  refine lv_iload_n hx hb dX8_atFirst_28 rfl (lv_at hl 0 rfl) ?_
  refine lv_iadd hx hb dX8_atFirst_29 ?_
  refine tq_i (w := 1) (by decide) ?_
  refine lv_iconst (v := (-1)) hx hb dX8_atFirst_30 (by decide) ?_
  refine va_iast (i := 1) hx hb hK hP hD hS 4 0 rfl rfl (tq_in (by decide)) dX8_atFirst_31 (fun H locs hP hD hS => ?_)
  have hP : va_P G vwCl [(h0, .inr (8, fs)), (m26, .inl (cA 0, 12, .inl mf26)), (m28, .inl (cA 0, 12, .inl mf28)), (m52, .inl (cA 0, 20, .inl f105)), (m53, .inl (cA 0, 20, .inl ((upd f103 (1 : Int32).toNatClampNeg (-1))))), (m55, .inl (cA 0, 10, .inl mf55)), (m56, .inl (cA 0, 12, .inl mf56)), (m57, .inl (cA 0, 12, .inl mf57)), (m58, .inl (cA 0, 12, .inl mf58)), (m59, .inl (cA 0, 12, .inl mf59)), (m60, .inl (cA 0, 2, .inl mf60)), (m61, .inl (cA 0, 2, .inl mf61)), (m62, .inl (cA 0, 2, .inl mf62))] H := hP
  have hD : va_D A [(h0, .inr (8, fs)), (m26, .inl (cA 0, 12, .inl mf26)), (m28, .inl (cA 0, 12, .inl mf28)), (m52, .inl (cA 0, 20, .inl f105)), (m53, .inl (cA 0, 20, .inl ((upd f103 (1 : Int32).toNatClampNeg (-1))))), (m55, .inl (cA 0, 10, .inl mf55)), (m56, .inl (cA 0, 12, .inl mf56)), (m57, .inl (cA 0, 12, .inl mf57)), (m58, .inl (cA 0, 12, .inl mf58)), (m59, .inl (cA 0, 12, .inl mf59)), (m60, .inl (cA 0, 2, .inl mf60)), (m61, .inl (cA 0, 2, .inl mf61)), (m62, .inl (cA 0, 2, .inl mf62))] := hD
  generalize (upd f103 (1 : Int32).toNatClampNeg (-1)) = f106 at hP hD
  refine lv_iinc (v := 2) (lv' := [(2, .int 2), (0, .ref h0), (1, .int 0)]) hx hb dX8_atFirst_32 hl (k := 0) rfl (by decide) (by decide) rfl (fun ls hl => ?_)
  refine lv_goto (tgt := 2) hx hb dX8_atFirst_35 (by decide) ?_
  refine lv_iload_n hx hb dX8_atFirst_2 rfl (lv_at hl 0 rfl) ?_
  refine lv_bipush (v := 10) hx hb dX8_atFirst_3 (by decide) ?_
  refine lv_icmp_ge (tgt := 38) hx hb dX8_atFirst_5 (by decide) (fun c107 => absurd c107 (by decide)) (fun c107 => ?_)
  refine lv_aload_n hx hb dX8_atFirst_8 rfl (lv_at hl 1 rfl) ?_
  refine va_get (D := G) (ci := 8) (v := .ref m52) (C := RX8) (T := TX8) (N := 91) hx hb hT ku_8 hown hK hP 0 rfl rfl 52 (by decide) (hT _ kw_10_13) (fun _ h9 => h9) (fh_at hf 2 rfl) dX8_atFirst_9 ?_
  refine lv_bipush (v := 10) hx hb dX8_atFirst_12 (by decide) ?_
  refine lv_iload_n hx hb dX8_atFirst_14 rfl (lv_at hl 2 rfl) ?_
  refine lv_imul hx hb dX8_atFirst_15 ?_
  refine tq_i (w := 0) (by decide) ?_
  refine lv_iload_n hx hb dX8_atFirst_16 rfl (lv_at hl 0 rfl) ?_
  refine lv_iadd hx hb dX8_atFirst_17 ?_
  refine tq_i (w := 2) (by decide) ?_
  refine lv_iconst (v := 0) hx hb dX8_atFirst_18 (by decide) ?_
  refine va_iast (i := 2) hx hb hK hP hD hS 3 0 rfl rfl (tq_in (by decide)) dX8_atFirst_19 (fun H locs hP hD hS => ?_)
  have hP : va_P G vwCl [(h0, .inr (8, fs)), (m26, .inl (cA 0, 12, .inl mf26)), (m28, .inl (cA 0, 12, .inl mf28)), (m52, .inl (cA 0, 20, .inl ((upd f105 (2 : Int32).toNatClampNeg 0)))), (m53, .inl (cA 0, 20, .inl f106)), (m55, .inl (cA 0, 10, .inl mf55)), (m56, .inl (cA 0, 12, .inl mf56)), (m57, .inl (cA 0, 12, .inl mf57)), (m58, .inl (cA 0, 12, .inl mf58)), (m59, .inl (cA 0, 12, .inl mf59)), (m60, .inl (cA 0, 2, .inl mf60)), (m61, .inl (cA 0, 2, .inl mf61)), (m62, .inl (cA 0, 2, .inl mf62))] H := hP
  have hD : va_D A [(h0, .inr (8, fs)), (m26, .inl (cA 0, 12, .inl mf26)), (m28, .inl (cA 0, 12, .inl mf28)), (m52, .inl (cA 0, 20, .inl ((upd f105 (2 : Int32).toNatClampNeg 0)))), (m53, .inl (cA 0, 20, .inl f106)), (m55, .inl (cA 0, 10, .inl mf55)), (m56, .inl (cA 0, 12, .inl mf56)), (m57, .inl (cA 0, 12, .inl mf57)), (m58, .inl (cA 0, 12, .inl mf58)), (m59, .inl (cA 0, 12, .inl mf59)), (m60, .inl (cA 0, 2, .inl mf60)), (m61, .inl (cA 0, 2, .inl mf61)), (m62, .inl (cA 0, 2, .inl mf62))] := hD
  generalize (upd f105 (2 : Int32).toNatClampNeg 0) = f108 at hP hD
  refine lv_aload_n hx hb dX8_atFirst_20 rfl (lv_at hl 1 rfl) ?_
  refine va_get (D := G) (ci := 8) (v := .ref m53) (C := RX8) (T := TX8) (N := 91) hx hb hT ku_8 hown hK hP 0 rfl rfl 53 (by decide) (hT _ kw_10_14) (fun _ h9 => h9) (fh_at hf 3 rfl) dX8_atFirst_21 ?_
  refine lv_bipush (v := 10) hx hb dX8_atFirst_24 (by decide) ?_
  refine lv_iload_n hx hb dX8_atFirst_26 rfl (lv_at hl 2 rfl) ?_
  refine lv_imul hx hb dX8_atFirst_27 ?_
  refine tq_i (w := 0) (by decide) ?_
  refine lv_iload_n hx hb dX8_atFirst_28 rfl (lv_at hl 0 rfl) ?_
  refine lv_iadd hx hb dX8_atFirst_29 ?_
  refine tq_i (w := 2) (by decide) ?_
  refine lv_iconst (v := (-1)) hx hb dX8_atFirst_30 (by decide) ?_
  refine va_iast (i := 2) hx hb hK hP hD hS 4 0 rfl rfl (tq_in (by decide)) dX8_atFirst_31 (fun H locs hP hD hS => ?_)
  have hP : va_P G vwCl [(h0, .inr (8, fs)), (m26, .inl (cA 0, 12, .inl mf26)), (m28, .inl (cA 0, 12, .inl mf28)), (m52, .inl (cA 0, 20, .inl f108)), (m53, .inl (cA 0, 20, .inl ((upd f106 (2 : Int32).toNatClampNeg (-1))))), (m55, .inl (cA 0, 10, .inl mf55)), (m56, .inl (cA 0, 12, .inl mf56)), (m57, .inl (cA 0, 12, .inl mf57)), (m58, .inl (cA 0, 12, .inl mf58)), (m59, .inl (cA 0, 12, .inl mf59)), (m60, .inl (cA 0, 2, .inl mf60)), (m61, .inl (cA 0, 2, .inl mf61)), (m62, .inl (cA 0, 2, .inl mf62))] H := hP
  have hD : va_D A [(h0, .inr (8, fs)), (m26, .inl (cA 0, 12, .inl mf26)), (m28, .inl (cA 0, 12, .inl mf28)), (m52, .inl (cA 0, 20, .inl f108)), (m53, .inl (cA 0, 20, .inl ((upd f106 (2 : Int32).toNatClampNeg (-1))))), (m55, .inl (cA 0, 10, .inl mf55)), (m56, .inl (cA 0, 12, .inl mf56)), (m57, .inl (cA 0, 12, .inl mf57)), (m58, .inl (cA 0, 12, .inl mf58)), (m59, .inl (cA 0, 12, .inl mf59)), (m60, .inl (cA 0, 2, .inl mf60)), (m61, .inl (cA 0, 2, .inl mf61)), (m62, .inl (cA 0, 2, .inl mf62))] := hD
  generalize (upd f106 (2 : Int32).toNatClampNeg (-1)) = f109 at hP hD
  refine lv_iinc (v := 3) (lv' := [(2, .int 3), (0, .ref h0), (1, .int 0)]) hx hb dX8_atFirst_32 hl (k := 0) rfl (by decide) (by decide) rfl (fun ls hl => ?_)
  refine lv_goto (tgt := 2) hx hb dX8_atFirst_35 (by decide) ?_
  refine lv_iload_n hx hb dX8_atFirst_2 rfl (lv_at hl 0 rfl) ?_
  refine lv_bipush (v := 10) hx hb dX8_atFirst_3 (by decide) ?_
  refine lv_icmp_ge (tgt := 38) hx hb dX8_atFirst_5 (by decide) (fun c110 => absurd c110 (by decide)) (fun c110 => ?_)
  refine lv_aload_n hx hb dX8_atFirst_8 rfl (lv_at hl 1 rfl) ?_
  refine va_get (D := G) (ci := 8) (v := .ref m52) (C := RX8) (T := TX8) (N := 91) hx hb hT ku_8 hown hK hP 0 rfl rfl 52 (by decide) (hT _ kw_10_13) (fun _ h9 => h9) (fh_at hf 2 rfl) dX8_atFirst_9 ?_
  refine lv_bipush (v := 10) hx hb dX8_atFirst_12 (by decide) ?_
  refine lv_iload_n hx hb dX8_atFirst_14 rfl (lv_at hl 2 rfl) ?_
  refine lv_imul hx hb dX8_atFirst_15 ?_
  refine tq_i (w := 0) (by decide) ?_
  refine lv_iload_n hx hb dX8_atFirst_16 rfl (lv_at hl 0 rfl) ?_
  refine lv_iadd hx hb dX8_atFirst_17 ?_
  refine tq_i (w := 3) (by decide) ?_
  refine lv_iconst (v := 0) hx hb dX8_atFirst_18 (by decide) ?_
  refine va_iast (i := 3) hx hb hK hP hD hS 3 0 rfl rfl (tq_in (by decide)) dX8_atFirst_19 (fun H locs hP hD hS => ?_)
  have hP : va_P G vwCl [(h0, .inr (8, fs)), (m26, .inl (cA 0, 12, .inl mf26)), (m28, .inl (cA 0, 12, .inl mf28)), (m52, .inl (cA 0, 20, .inl ((upd f108 (3 : Int32).toNatClampNeg 0)))), (m53, .inl (cA 0, 20, .inl f109)), (m55, .inl (cA 0, 10, .inl mf55)), (m56, .inl (cA 0, 12, .inl mf56)), (m57, .inl (cA 0, 12, .inl mf57)), (m58, .inl (cA 0, 12, .inl mf58)), (m59, .inl (cA 0, 12, .inl mf59)), (m60, .inl (cA 0, 2, .inl mf60)), (m61, .inl (cA 0, 2, .inl mf61)), (m62, .inl (cA 0, 2, .inl mf62))] H := hP
  have hD : va_D A [(h0, .inr (8, fs)), (m26, .inl (cA 0, 12, .inl mf26)), (m28, .inl (cA 0, 12, .inl mf28)), (m52, .inl (cA 0, 20, .inl ((upd f108 (3 : Int32).toNatClampNeg 0)))), (m53, .inl (cA 0, 20, .inl f109)), (m55, .inl (cA 0, 10, .inl mf55)), (m56, .inl (cA 0, 12, .inl mf56)), (m57, .inl (cA 0, 12, .inl mf57)), (m58, .inl (cA 0, 12, .inl mf58)), (m59, .inl (cA 0, 12, .inl mf59)), (m60, .inl (cA 0, 2, .inl mf60)), (m61, .inl (cA 0, 2, .inl mf61)), (m62, .inl (cA 0, 2, .inl mf62))] := hD
  generalize (upd f108 (3 : Int32).toNatClampNeg 0) = f111 at hP hD
  refine lv_aload_n hx hb dX8_atFirst_20 rfl (lv_at hl 1 rfl) ?_
  refine va_get (D := G) (ci := 8) (v := .ref m53) (C := RX8) (T := TX8) (N := 91) hx hb hT ku_8 hown hK hP 0 rfl rfl 53 (by decide) (hT _ kw_10_14) (fun _ h9 => h9) (fh_at hf 3 rfl) dX8_atFirst_21 ?_
  refine lv_bipush (v := 10) hx hb dX8_atFirst_24 (by decide) ?_
  refine lv_iload_n hx hb dX8_atFirst_26 rfl (lv_at hl 2 rfl) ?_
  refine lv_imul hx hb dX8_atFirst_27 ?_
  refine tq_i (w := 0) (by decide) ?_
  refine lv_iload_n hx hb dX8_atFirst_28 rfl (lv_at hl 0 rfl) ?_
  refine lv_iadd hx hb dX8_atFirst_29 ?_
  refine tq_i (w := 3) (by decide) ?_
  refine lv_iconst (v := (-1)) hx hb dX8_atFirst_30 (by decide) ?_
  refine va_iast (i := 3) hx hb hK hP hD hS 4 0 rfl rfl (tq_in (by decide)) dX8_atFirst_31 (fun H locs hP hD hS => ?_)
  have hP : va_P G vwCl [(h0, .inr (8, fs)), (m26, .inl (cA 0, 12, .inl mf26)), (m28, .inl (cA 0, 12, .inl mf28)), (m52, .inl (cA 0, 20, .inl f111)), (m53, .inl (cA 0, 20, .inl ((upd f109 (3 : Int32).toNatClampNeg (-1))))), (m55, .inl (cA 0, 10, .inl mf55)), (m56, .inl (cA 0, 12, .inl mf56)), (m57, .inl (cA 0, 12, .inl mf57)), (m58, .inl (cA 0, 12, .inl mf58)), (m59, .inl (cA 0, 12, .inl mf59)), (m60, .inl (cA 0, 2, .inl mf60)), (m61, .inl (cA 0, 2, .inl mf61)), (m62, .inl (cA 0, 2, .inl mf62))] H := hP
  have hD : va_D A [(h0, .inr (8, fs)), (m26, .inl (cA 0, 12, .inl mf26)), (m28, .inl (cA 0, 12, .inl mf28)), (m52, .inl (cA 0, 20, .inl f111)), (m53, .inl (cA 0, 20, .inl ((upd f109 (3 : Int32).toNatClampNeg (-1))))), (m55, .inl (cA 0, 10, .inl mf55)), (m56, .inl (cA 0, 12, .inl mf56)), (m57, .inl (cA 0, 12, .inl mf57)), (m58, .inl (cA 0, 12, .inl mf58)), (m59, .inl (cA 0, 12, .inl mf59)), (m60, .inl (cA 0, 2, .inl mf60)), (m61, .inl (cA 0, 2, .inl mf61)), (m62, .inl (cA 0, 2, .inl mf62))] := hD
  generalize (upd f109 (3 : Int32).toNatClampNeg (-1)) = f112 at hP hD
  refine lv_iinc (v := 4) (lv' := [(2, .int 4), (0, .ref h0), (1, .int 0)]) hx hb dX8_atFirst_32 hl (k := 0) rfl (by decide) (by decide) rfl (fun ls hl => ?_)
  refine lv_goto (tgt := 2) hx hb dX8_atFirst_35 (by decide) ?_
  refine lv_iload_n hx hb dX8_atFirst_2 rfl (lv_at hl 0 rfl) ?_
  refine lv_bipush (v := 10) hx hb dX8_atFirst_3 (by decide) ?_
  refine lv_icmp_ge (tgt := 38) hx hb dX8_atFirst_5 (by decide) (fun c113 => absurd c113 (by decide)) (fun c113 => ?_)
  refine lv_aload_n hx hb dX8_atFirst_8 rfl (lv_at hl 1 rfl) ?_
  refine va_get (D := G) (ci := 8) (v := .ref m52) (C := RX8) (T := TX8) (N := 91) hx hb hT ku_8 hown hK hP 0 rfl rfl 52 (by decide) (hT _ kw_10_13) (fun _ h9 => h9) (fh_at hf 2 rfl) dX8_atFirst_9 ?_
  refine lv_bipush (v := 10) hx hb dX8_atFirst_12 (by decide) ?_
  refine lv_iload_n hx hb dX8_atFirst_14 rfl (lv_at hl 2 rfl) ?_
  refine lv_imul hx hb dX8_atFirst_15 ?_
  refine tq_i (w := 0) (by decide) ?_
  refine lv_iload_n hx hb dX8_atFirst_16 rfl (lv_at hl 0 rfl) ?_
  refine lv_iadd hx hb dX8_atFirst_17 ?_
  refine tq_i (w := 4) (by decide) ?_
  refine lv_iconst (v := 0) hx hb dX8_atFirst_18 (by decide) ?_
  refine va_iast (i := 4) hx hb hK hP hD hS 3 0 rfl rfl (tq_in (by decide)) dX8_atFirst_19 (fun H locs hP hD hS => ?_)
  have hP : va_P G vwCl [(h0, .inr (8, fs)), (m26, .inl (cA 0, 12, .inl mf26)), (m28, .inl (cA 0, 12, .inl mf28)), (m52, .inl (cA 0, 20, .inl ((upd f111 (4 : Int32).toNatClampNeg 0)))), (m53, .inl (cA 0, 20, .inl f112)), (m55, .inl (cA 0, 10, .inl mf55)), (m56, .inl (cA 0, 12, .inl mf56)), (m57, .inl (cA 0, 12, .inl mf57)), (m58, .inl (cA 0, 12, .inl mf58)), (m59, .inl (cA 0, 12, .inl mf59)), (m60, .inl (cA 0, 2, .inl mf60)), (m61, .inl (cA 0, 2, .inl mf61)), (m62, .inl (cA 0, 2, .inl mf62))] H := hP
  have hD : va_D A [(h0, .inr (8, fs)), (m26, .inl (cA 0, 12, .inl mf26)), (m28, .inl (cA 0, 12, .inl mf28)), (m52, .inl (cA 0, 20, .inl ((upd f111 (4 : Int32).toNatClampNeg 0)))), (m53, .inl (cA 0, 20, .inl f112)), (m55, .inl (cA 0, 10, .inl mf55)), (m56, .inl (cA 0, 12, .inl mf56)), (m57, .inl (cA 0, 12, .inl mf57)), (m58, .inl (cA 0, 12, .inl mf58)), (m59, .inl (cA 0, 12, .inl mf59)), (m60, .inl (cA 0, 2, .inl mf60)), (m61, .inl (cA 0, 2, .inl mf61)), (m62, .inl (cA 0, 2, .inl mf62))] := hD
  generalize (upd f111 (4 : Int32).toNatClampNeg 0) = f114 at hP hD
  refine lv_aload_n hx hb dX8_atFirst_20 rfl (lv_at hl 1 rfl) ?_
  refine va_get (D := G) (ci := 8) (v := .ref m53) (C := RX8) (T := TX8) (N := 91) hx hb hT ku_8 hown hK hP 0 rfl rfl 53 (by decide) (hT _ kw_10_14) (fun _ h9 => h9) (fh_at hf 3 rfl) dX8_atFirst_21 ?_
  refine lv_bipush (v := 10) hx hb dX8_atFirst_24 (by decide) ?_
  refine lv_iload_n hx hb dX8_atFirst_26 rfl (lv_at hl 2 rfl) ?_
  refine lv_imul hx hb dX8_atFirst_27 ?_
  refine tq_i (w := 0) (by decide) ?_
  refine lv_iload_n hx hb dX8_atFirst_28 rfl (lv_at hl 0 rfl) ?_
  refine lv_iadd hx hb dX8_atFirst_29 ?_
  refine tq_i (w := 4) (by decide) ?_
  refine lv_iconst (v := (-1)) hx hb dX8_atFirst_30 (by decide) ?_
  refine va_iast (i := 4) hx hb hK hP hD hS 4 0 rfl rfl (tq_in (by decide)) dX8_atFirst_31 (fun H locs hP hD hS => ?_)
  have hP : va_P G vwCl [(h0, .inr (8, fs)), (m26, .inl (cA 0, 12, .inl mf26)), (m28, .inl (cA 0, 12, .inl mf28)), (m52, .inl (cA 0, 20, .inl f114)), (m53, .inl (cA 0, 20, .inl ((upd f112 (4 : Int32).toNatClampNeg (-1))))), (m55, .inl (cA 0, 10, .inl mf55)), (m56, .inl (cA 0, 12, .inl mf56)), (m57, .inl (cA 0, 12, .inl mf57)), (m58, .inl (cA 0, 12, .inl mf58)), (m59, .inl (cA 0, 12, .inl mf59)), (m60, .inl (cA 0, 2, .inl mf60)), (m61, .inl (cA 0, 2, .inl mf61)), (m62, .inl (cA 0, 2, .inl mf62))] H := hP
  have hD : va_D A [(h0, .inr (8, fs)), (m26, .inl (cA 0, 12, .inl mf26)), (m28, .inl (cA 0, 12, .inl mf28)), (m52, .inl (cA 0, 20, .inl f114)), (m53, .inl (cA 0, 20, .inl ((upd f112 (4 : Int32).toNatClampNeg (-1))))), (m55, .inl (cA 0, 10, .inl mf55)), (m56, .inl (cA 0, 12, .inl mf56)), (m57, .inl (cA 0, 12, .inl mf57)), (m58, .inl (cA 0, 12, .inl mf58)), (m59, .inl (cA 0, 12, .inl mf59)), (m60, .inl (cA 0, 2, .inl mf60)), (m61, .inl (cA 0, 2, .inl mf61)), (m62, .inl (cA 0, 2, .inl mf62))] := hD
  generalize (upd f112 (4 : Int32).toNatClampNeg (-1)) = f115 at hP hD
  refine lv_iinc (v := 5) (lv' := [(2, .int 5), (0, .ref h0), (1, .int 0)]) hx hb dX8_atFirst_32 hl (k := 0) rfl (by decide) (by decide) rfl (fun ls hl => ?_)
  refine lv_goto (tgt := 2) hx hb dX8_atFirst_35 (by decide) ?_
  refine lv_iload_n hx hb dX8_atFirst_2 rfl (lv_at hl 0 rfl) ?_
  refine lv_bipush (v := 10) hx hb dX8_atFirst_3 (by decide) ?_
  refine lv_icmp_ge (tgt := 38) hx hb dX8_atFirst_5 (by decide) (fun c116 => absurd c116 (by decide)) (fun c116 => ?_)
  refine lv_aload_n hx hb dX8_atFirst_8 rfl (lv_at hl 1 rfl) ?_
  refine va_get (D := G) (ci := 8) (v := .ref m52) (C := RX8) (T := TX8) (N := 91) hx hb hT ku_8 hown hK hP 0 rfl rfl 52 (by decide) (hT _ kw_10_13) (fun _ h9 => h9) (fh_at hf 2 rfl) dX8_atFirst_9 ?_
  refine lv_bipush (v := 10) hx hb dX8_atFirst_12 (by decide) ?_
  refine lv_iload_n hx hb dX8_atFirst_14 rfl (lv_at hl 2 rfl) ?_
  refine lv_imul hx hb dX8_atFirst_15 ?_
  refine tq_i (w := 0) (by decide) ?_
  refine lv_iload_n hx hb dX8_atFirst_16 rfl (lv_at hl 0 rfl) ?_
  refine lv_iadd hx hb dX8_atFirst_17 ?_
  refine tq_i (w := 5) (by decide) ?_
  refine lv_iconst (v := 0) hx hb dX8_atFirst_18 (by decide) ?_
  refine va_iast (i := 5) hx hb hK hP hD hS 3 0 rfl rfl (tq_in (by decide)) dX8_atFirst_19 (fun H locs hP hD hS => ?_)
  have hP : va_P G vwCl [(h0, .inr (8, fs)), (m26, .inl (cA 0, 12, .inl mf26)), (m28, .inl (cA 0, 12, .inl mf28)), (m52, .inl (cA 0, 20, .inl ((upd f114 (5 : Int32).toNatClampNeg 0)))), (m53, .inl (cA 0, 20, .inl f115)), (m55, .inl (cA 0, 10, .inl mf55)), (m56, .inl (cA 0, 12, .inl mf56)), (m57, .inl (cA 0, 12, .inl mf57)), (m58, .inl (cA 0, 12, .inl mf58)), (m59, .inl (cA 0, 12, .inl mf59)), (m60, .inl (cA 0, 2, .inl mf60)), (m61, .inl (cA 0, 2, .inl mf61)), (m62, .inl (cA 0, 2, .inl mf62))] H := hP
  have hD : va_D A [(h0, .inr (8, fs)), (m26, .inl (cA 0, 12, .inl mf26)), (m28, .inl (cA 0, 12, .inl mf28)), (m52, .inl (cA 0, 20, .inl ((upd f114 (5 : Int32).toNatClampNeg 0)))), (m53, .inl (cA 0, 20, .inl f115)), (m55, .inl (cA 0, 10, .inl mf55)), (m56, .inl (cA 0, 12, .inl mf56)), (m57, .inl (cA 0, 12, .inl mf57)), (m58, .inl (cA 0, 12, .inl mf58)), (m59, .inl (cA 0, 12, .inl mf59)), (m60, .inl (cA 0, 2, .inl mf60)), (m61, .inl (cA 0, 2, .inl mf61)), (m62, .inl (cA 0, 2, .inl mf62))] := hD
  generalize (upd f114 (5 : Int32).toNatClampNeg 0) = f117 at hP hD
  refine lv_aload_n hx hb dX8_atFirst_20 rfl (lv_at hl 1 rfl) ?_
  refine va_get (D := G) (ci := 8) (v := .ref m53) (C := RX8) (T := TX8) (N := 91) hx hb hT ku_8 hown hK hP 0 rfl rfl 53 (by decide) (hT _ kw_10_14) (fun _ h9 => h9) (fh_at hf 3 rfl) dX8_atFirst_21 ?_
  refine lv_bipush (v := 10) hx hb dX8_atFirst_24 (by decide) ?_
  refine lv_iload_n hx hb dX8_atFirst_26 rfl (lv_at hl 2 rfl) ?_
  refine lv_imul hx hb dX8_atFirst_27 ?_
  refine tq_i (w := 0) (by decide) ?_
  refine lv_iload_n hx hb dX8_atFirst_28 rfl (lv_at hl 0 rfl) ?_
  refine lv_iadd hx hb dX8_atFirst_29 ?_
  refine tq_i (w := 5) (by decide) ?_
  refine lv_iconst (v := (-1)) hx hb dX8_atFirst_30 (by decide) ?_
  refine va_iast (i := 5) hx hb hK hP hD hS 4 0 rfl rfl (tq_in (by decide)) dX8_atFirst_31 (fun H locs hP hD hS => ?_)
  have hP : va_P G vwCl [(h0, .inr (8, fs)), (m26, .inl (cA 0, 12, .inl mf26)), (m28, .inl (cA 0, 12, .inl mf28)), (m52, .inl (cA 0, 20, .inl f117)), (m53, .inl (cA 0, 20, .inl ((upd f115 (5 : Int32).toNatClampNeg (-1))))), (m55, .inl (cA 0, 10, .inl mf55)), (m56, .inl (cA 0, 12, .inl mf56)), (m57, .inl (cA 0, 12, .inl mf57)), (m58, .inl (cA 0, 12, .inl mf58)), (m59, .inl (cA 0, 12, .inl mf59)), (m60, .inl (cA 0, 2, .inl mf60)), (m61, .inl (cA 0, 2, .inl mf61)), (m62, .inl (cA 0, 2, .inl mf62))] H := hP
  have hD : va_D A [(h0, .inr (8, fs)), (m26, .inl (cA 0, 12, .inl mf26)), (m28, .inl (cA 0, 12, .inl mf28)), (m52, .inl (cA 0, 20, .inl f117)), (m53, .inl (cA 0, 20, .inl ((upd f115 (5 : Int32).toNatClampNeg (-1))))), (m55, .inl (cA 0, 10, .inl mf55)), (m56, .inl (cA 0, 12, .inl mf56)), (m57, .inl (cA 0, 12, .inl mf57)), (m58, .inl (cA 0, 12, .inl mf58)), (m59, .inl (cA 0, 12, .inl mf59)), (m60, .inl (cA 0, 2, .inl mf60)), (m61, .inl (cA 0, 2, .inl mf61)), (m62, .inl (cA 0, 2, .inl mf62))] := hD
  generalize (upd f115 (5 : Int32).toNatClampNeg (-1)) = f118 at hP hD
  refine lv_iinc (v := 6) (lv' := [(2, .int 6), (0, .ref h0), (1, .int 0)]) hx hb dX8_atFirst_32 hl (k := 0) rfl (by decide) (by decide) rfl (fun ls hl => ?_)
  refine lv_goto (tgt := 2) hx hb dX8_atFirst_35 (by decide) ?_
  refine lv_iload_n hx hb dX8_atFirst_2 rfl (lv_at hl 0 rfl) ?_
  refine lv_bipush (v := 10) hx hb dX8_atFirst_3 (by decide) ?_
  refine lv_icmp_ge (tgt := 38) hx hb dX8_atFirst_5 (by decide) (fun c119 => absurd c119 (by decide)) (fun c119 => ?_)
  refine lv_aload_n hx hb dX8_atFirst_8 rfl (lv_at hl 1 rfl) ?_
  refine va_get (D := G) (ci := 8) (v := .ref m52) (C := RX8) (T := TX8) (N := 91) hx hb hT ku_8 hown hK hP 0 rfl rfl 52 (by decide) (hT _ kw_10_13) (fun _ h9 => h9) (fh_at hf 2 rfl) dX8_atFirst_9 ?_
  refine lv_bipush (v := 10) hx hb dX8_atFirst_12 (by decide) ?_
  refine lv_iload_n hx hb dX8_atFirst_14 rfl (lv_at hl 2 rfl) ?_
  refine lv_imul hx hb dX8_atFirst_15 ?_
  refine tq_i (w := 0) (by decide) ?_
  refine lv_iload_n hx hb dX8_atFirst_16 rfl (lv_at hl 0 rfl) ?_
  refine lv_iadd hx hb dX8_atFirst_17 ?_
  refine tq_i (w := 6) (by decide) ?_
  refine lv_iconst (v := 0) hx hb dX8_atFirst_18 (by decide) ?_
  refine va_iast (i := 6) hx hb hK hP hD hS 3 0 rfl rfl (tq_in (by decide)) dX8_atFirst_19 (fun H locs hP hD hS => ?_)
  have hP : va_P G vwCl [(h0, .inr (8, fs)), (m26, .inl (cA 0, 12, .inl mf26)), (m28, .inl (cA 0, 12, .inl mf28)), (m52, .inl (cA 0, 20, .inl ((upd f117 (6 : Int32).toNatClampNeg 0)))), (m53, .inl (cA 0, 20, .inl f118)), (m55, .inl (cA 0, 10, .inl mf55)), (m56, .inl (cA 0, 12, .inl mf56)), (m57, .inl (cA 0, 12, .inl mf57)), (m58, .inl (cA 0, 12, .inl mf58)), (m59, .inl (cA 0, 12, .inl mf59)), (m60, .inl (cA 0, 2, .inl mf60)), (m61, .inl (cA 0, 2, .inl mf61)), (m62, .inl (cA 0, 2, .inl mf62))] H := hP
  have hD : va_D A [(h0, .inr (8, fs)), (m26, .inl (cA 0, 12, .inl mf26)), (m28, .inl (cA 0, 12, .inl mf28)), (m52, .inl (cA 0, 20, .inl ((upd f117 (6 : Int32).toNatClampNeg 0)))), (m53, .inl (cA 0, 20, .inl f118)), (m55, .inl (cA 0, 10, .inl mf55)), (m56, .inl (cA 0, 12, .inl mf56)), (m57, .inl (cA 0, 12, .inl mf57)), (m58, .inl (cA 0, 12, .inl mf58)), (m59, .inl (cA 0, 12, .inl mf59)), (m60, .inl (cA 0, 2, .inl mf60)), (m61, .inl (cA 0, 2, .inl mf61)), (m62, .inl (cA 0, 2, .inl mf62))] := hD
  generalize (upd f117 (6 : Int32).toNatClampNeg 0) = f120 at hP hD
  refine lv_aload_n hx hb dX8_atFirst_20 rfl (lv_at hl 1 rfl) ?_
  refine va_get (D := G) (ci := 8) (v := .ref m53) (C := RX8) (T := TX8) (N := 91) hx hb hT ku_8 hown hK hP 0 rfl rfl 53 (by decide) (hT _ kw_10_14) (fun _ h9 => h9) (fh_at hf 3 rfl) dX8_atFirst_21 ?_
  refine lv_bipush (v := 10) hx hb dX8_atFirst_24 (by decide) ?_
  refine lv_iload_n hx hb dX8_atFirst_26 rfl (lv_at hl 2 rfl) ?_
  refine lv_imul hx hb dX8_atFirst_27 ?_
  refine tq_i (w := 0) (by decide) ?_
  refine lv_iload_n hx hb dX8_atFirst_28 rfl (lv_at hl 0 rfl) ?_
  refine lv_iadd hx hb dX8_atFirst_29 ?_
  refine tq_i (w := 6) (by decide) ?_
  refine lv_iconst (v := (-1)) hx hb dX8_atFirst_30 (by decide) ?_
  refine va_iast (i := 6) hx hb hK hP hD hS 4 0 rfl rfl (tq_in (by decide)) dX8_atFirst_31 (fun H locs hP hD hS => ?_)
  have hP : va_P G vwCl [(h0, .inr (8, fs)), (m26, .inl (cA 0, 12, .inl mf26)), (m28, .inl (cA 0, 12, .inl mf28)), (m52, .inl (cA 0, 20, .inl f120)), (m53, .inl (cA 0, 20, .inl ((upd f118 (6 : Int32).toNatClampNeg (-1))))), (m55, .inl (cA 0, 10, .inl mf55)), (m56, .inl (cA 0, 12, .inl mf56)), (m57, .inl (cA 0, 12, .inl mf57)), (m58, .inl (cA 0, 12, .inl mf58)), (m59, .inl (cA 0, 12, .inl mf59)), (m60, .inl (cA 0, 2, .inl mf60)), (m61, .inl (cA 0, 2, .inl mf61)), (m62, .inl (cA 0, 2, .inl mf62))] H := hP
  have hD : va_D A [(h0, .inr (8, fs)), (m26, .inl (cA 0, 12, .inl mf26)), (m28, .inl (cA 0, 12, .inl mf28)), (m52, .inl (cA 0, 20, .inl f120)), (m53, .inl (cA 0, 20, .inl ((upd f118 (6 : Int32).toNatClampNeg (-1))))), (m55, .inl (cA 0, 10, .inl mf55)), (m56, .inl (cA 0, 12, .inl mf56)), (m57, .inl (cA 0, 12, .inl mf57)), (m58, .inl (cA 0, 12, .inl mf58)), (m59, .inl (cA 0, 12, .inl mf59)), (m60, .inl (cA 0, 2, .inl mf60)), (m61, .inl (cA 0, 2, .inl mf61)), (m62, .inl (cA 0, 2, .inl mf62))] := hD
  generalize (upd f118 (6 : Int32).toNatClampNeg (-1)) = f121 at hP hD
  refine lv_iinc (v := 7) (lv' := [(2, .int 7), (0, .ref h0), (1, .int 0)]) hx hb dX8_atFirst_32 hl (k := 0) rfl (by decide) (by decide) rfl (fun ls hl => ?_)
  refine lv_goto (tgt := 2) hx hb dX8_atFirst_35 (by decide) ?_
  refine lv_iload_n hx hb dX8_atFirst_2 rfl (lv_at hl 0 rfl) ?_
  refine lv_bipush (v := 10) hx hb dX8_atFirst_3 (by decide) ?_
  refine lv_icmp_ge (tgt := 38) hx hb dX8_atFirst_5 (by decide) (fun c122 => absurd c122 (by decide)) (fun c122 => ?_)
  refine lv_aload_n hx hb dX8_atFirst_8 rfl (lv_at hl 1 rfl) ?_
  refine va_get (D := G) (ci := 8) (v := .ref m52) (C := RX8) (T := TX8) (N := 91) hx hb hT ku_8 hown hK hP 0 rfl rfl 52 (by decide) (hT _ kw_10_13) (fun _ h9 => h9) (fh_at hf 2 rfl) dX8_atFirst_9 ?_
  refine lv_bipush (v := 10) hx hb dX8_atFirst_12 (by decide) ?_
  refine lv_iload_n hx hb dX8_atFirst_14 rfl (lv_at hl 2 rfl) ?_
  refine lv_imul hx hb dX8_atFirst_15 ?_
  refine tq_i (w := 0) (by decide) ?_
  refine lv_iload_n hx hb dX8_atFirst_16 rfl (lv_at hl 0 rfl) ?_
  refine lv_iadd hx hb dX8_atFirst_17 ?_
  refine tq_i (w := 7) (by decide) ?_
  refine lv_iconst (v := 0) hx hb dX8_atFirst_18 (by decide) ?_
  refine va_iast (i := 7) hx hb hK hP hD hS 3 0 rfl rfl (tq_in (by decide)) dX8_atFirst_19 (fun H locs hP hD hS => ?_)
  have hP : va_P G vwCl [(h0, .inr (8, fs)), (m26, .inl (cA 0, 12, .inl mf26)), (m28, .inl (cA 0, 12, .inl mf28)), (m52, .inl (cA 0, 20, .inl ((upd f120 (7 : Int32).toNatClampNeg 0)))), (m53, .inl (cA 0, 20, .inl f121)), (m55, .inl (cA 0, 10, .inl mf55)), (m56, .inl (cA 0, 12, .inl mf56)), (m57, .inl (cA 0, 12, .inl mf57)), (m58, .inl (cA 0, 12, .inl mf58)), (m59, .inl (cA 0, 12, .inl mf59)), (m60, .inl (cA 0, 2, .inl mf60)), (m61, .inl (cA 0, 2, .inl mf61)), (m62, .inl (cA 0, 2, .inl mf62))] H := hP
  have hD : va_D A [(h0, .inr (8, fs)), (m26, .inl (cA 0, 12, .inl mf26)), (m28, .inl (cA 0, 12, .inl mf28)), (m52, .inl (cA 0, 20, .inl ((upd f120 (7 : Int32).toNatClampNeg 0)))), (m53, .inl (cA 0, 20, .inl f121)), (m55, .inl (cA 0, 10, .inl mf55)), (m56, .inl (cA 0, 12, .inl mf56)), (m57, .inl (cA 0, 12, .inl mf57)), (m58, .inl (cA 0, 12, .inl mf58)), (m59, .inl (cA 0, 12, .inl mf59)), (m60, .inl (cA 0, 2, .inl mf60)), (m61, .inl (cA 0, 2, .inl mf61)), (m62, .inl (cA 0, 2, .inl mf62))] := hD
  generalize (upd f120 (7 : Int32).toNatClampNeg 0) = f123 at hP hD
  refine lv_aload_n hx hb dX8_atFirst_20 rfl (lv_at hl 1 rfl) ?_
  refine va_get (D := G) (ci := 8) (v := .ref m53) (C := RX8) (T := TX8) (N := 91) hx hb hT ku_8 hown hK hP 0 rfl rfl 53 (by decide) (hT _ kw_10_14) (fun _ h9 => h9) (fh_at hf 3 rfl) dX8_atFirst_21 ?_
  refine lv_bipush (v := 10) hx hb dX8_atFirst_24 (by decide) ?_
  refine lv_iload_n hx hb dX8_atFirst_26 rfl (lv_at hl 2 rfl) ?_
  refine lv_imul hx hb dX8_atFirst_27 ?_
  refine tq_i (w := 0) (by decide) ?_
  refine lv_iload_n hx hb dX8_atFirst_28 rfl (lv_at hl 0 rfl) ?_
  refine lv_iadd hx hb dX8_atFirst_29 ?_
  refine tq_i (w := 7) (by decide) ?_
  refine lv_iconst (v := (-1)) hx hb dX8_atFirst_30 (by decide) ?_
  refine va_iast (i := 7) hx hb hK hP hD hS 4 0 rfl rfl (tq_in (by decide)) dX8_atFirst_31 (fun H locs hP hD hS => ?_)
  have hP : va_P G vwCl [(h0, .inr (8, fs)), (m26, .inl (cA 0, 12, .inl mf26)), (m28, .inl (cA 0, 12, .inl mf28)), (m52, .inl (cA 0, 20, .inl f123)), (m53, .inl (cA 0, 20, .inl ((upd f121 (7 : Int32).toNatClampNeg (-1))))), (m55, .inl (cA 0, 10, .inl mf55)), (m56, .inl (cA 0, 12, .inl mf56)), (m57, .inl (cA 0, 12, .inl mf57)), (m58, .inl (cA 0, 12, .inl mf58)), (m59, .inl (cA 0, 12, .inl mf59)), (m60, .inl (cA 0, 2, .inl mf60)), (m61, .inl (cA 0, 2, .inl mf61)), (m62, .inl (cA 0, 2, .inl mf62))] H := hP
  have hD : va_D A [(h0, .inr (8, fs)), (m26, .inl (cA 0, 12, .inl mf26)), (m28, .inl (cA 0, 12, .inl mf28)), (m52, .inl (cA 0, 20, .inl f123)), (m53, .inl (cA 0, 20, .inl ((upd f121 (7 : Int32).toNatClampNeg (-1))))), (m55, .inl (cA 0, 10, .inl mf55)), (m56, .inl (cA 0, 12, .inl mf56)), (m57, .inl (cA 0, 12, .inl mf57)), (m58, .inl (cA 0, 12, .inl mf58)), (m59, .inl (cA 0, 12, .inl mf59)), (m60, .inl (cA 0, 2, .inl mf60)), (m61, .inl (cA 0, 2, .inl mf61)), (m62, .inl (cA 0, 2, .inl mf62))] := hD
  generalize (upd f121 (7 : Int32).toNatClampNeg (-1)) = f124 at hP hD
  refine lv_iinc (v := 8) (lv' := [(2, .int 8), (0, .ref h0), (1, .int 0)]) hx hb dX8_atFirst_32 hl (k := 0) rfl (by decide) (by decide) rfl (fun ls hl => ?_)
  refine lv_goto (tgt := 2) hx hb dX8_atFirst_35 (by decide) ?_
  refine lv_iload_n hx hb dX8_atFirst_2 rfl (lv_at hl 0 rfl) ?_
  refine lv_bipush (v := 10) hx hb dX8_atFirst_3 (by decide) ?_
  refine lv_icmp_ge (tgt := 38) hx hb dX8_atFirst_5 (by decide) (fun c125 => absurd c125 (by decide)) (fun c125 => ?_)
  refine lv_aload_n hx hb dX8_atFirst_8 rfl (lv_at hl 1 rfl) ?_
  refine va_get (D := G) (ci := 8) (v := .ref m52) (C := RX8) (T := TX8) (N := 91) hx hb hT ku_8 hown hK hP 0 rfl rfl 52 (by decide) (hT _ kw_10_13) (fun _ h9 => h9) (fh_at hf 2 rfl) dX8_atFirst_9 ?_
  refine lv_bipush (v := 10) hx hb dX8_atFirst_12 (by decide) ?_
  refine lv_iload_n hx hb dX8_atFirst_14 rfl (lv_at hl 2 rfl) ?_
  refine lv_imul hx hb dX8_atFirst_15 ?_
  refine tq_i (w := 0) (by decide) ?_
  refine lv_iload_n hx hb dX8_atFirst_16 rfl (lv_at hl 0 rfl) ?_
  refine lv_iadd hx hb dX8_atFirst_17 ?_
  refine tq_i (w := 8) (by decide) ?_
  refine lv_iconst (v := 0) hx hb dX8_atFirst_18 (by decide) ?_
  refine va_iast (i := 8) hx hb hK hP hD hS 3 0 rfl rfl (tq_in (by decide)) dX8_atFirst_19 (fun H locs hP hD hS => ?_)
  have hP : va_P G vwCl [(h0, .inr (8, fs)), (m26, .inl (cA 0, 12, .inl mf26)), (m28, .inl (cA 0, 12, .inl mf28)), (m52, .inl (cA 0, 20, .inl ((upd f123 (8 : Int32).toNatClampNeg 0)))), (m53, .inl (cA 0, 20, .inl f124)), (m55, .inl (cA 0, 10, .inl mf55)), (m56, .inl (cA 0, 12, .inl mf56)), (m57, .inl (cA 0, 12, .inl mf57)), (m58, .inl (cA 0, 12, .inl mf58)), (m59, .inl (cA 0, 12, .inl mf59)), (m60, .inl (cA 0, 2, .inl mf60)), (m61, .inl (cA 0, 2, .inl mf61)), (m62, .inl (cA 0, 2, .inl mf62))] H := hP
  have hD : va_D A [(h0, .inr (8, fs)), (m26, .inl (cA 0, 12, .inl mf26)), (m28, .inl (cA 0, 12, .inl mf28)), (m52, .inl (cA 0, 20, .inl ((upd f123 (8 : Int32).toNatClampNeg 0)))), (m53, .inl (cA 0, 20, .inl f124)), (m55, .inl (cA 0, 10, .inl mf55)), (m56, .inl (cA 0, 12, .inl mf56)), (m57, .inl (cA 0, 12, .inl mf57)), (m58, .inl (cA 0, 12, .inl mf58)), (m59, .inl (cA 0, 12, .inl mf59)), (m60, .inl (cA 0, 2, .inl mf60)), (m61, .inl (cA 0, 2, .inl mf61)), (m62, .inl (cA 0, 2, .inl mf62))] := hD
  generalize (upd f123 (8 : Int32).toNatClampNeg 0) = f126 at hP hD
  refine lv_aload_n hx hb dX8_atFirst_20 rfl (lv_at hl 1 rfl) ?_
  refine va_get (D := G) (ci := 8) (v := .ref m53) (C := RX8) (T := TX8) (N := 91) hx hb hT ku_8 hown hK hP 0 rfl rfl 53 (by decide) (hT _ kw_10_14) (fun _ h9 => h9) (fh_at hf 3 rfl) dX8_atFirst_21 ?_
  refine lv_bipush (v := 10) hx hb dX8_atFirst_24 (by decide) ?_
  refine lv_iload_n hx hb dX8_atFirst_26 rfl (lv_at hl 2 rfl) ?_
  refine lv_imul hx hb dX8_atFirst_27 ?_
  refine tq_i (w := 0) (by decide) ?_
  refine lv_iload_n hx hb dX8_atFirst_28 rfl (lv_at hl 0 rfl) ?_
  refine lv_iadd hx hb dX8_atFirst_29 ?_
  refine tq_i (w := 8) (by decide) ?_
  refine lv_iconst (v := (-1)) hx hb dX8_atFirst_30 (by decide) ?_
  refine va_iast (i := 8) hx hb hK hP hD hS 4 0 rfl rfl (tq_in (by decide)) dX8_atFirst_31 (fun H locs hP hD hS => ?_)
  have hP : va_P G vwCl [(h0, .inr (8, fs)), (m26, .inl (cA 0, 12, .inl mf26)), (m28, .inl (cA 0, 12, .inl mf28)), (m52, .inl (cA 0, 20, .inl f126)), (m53, .inl (cA 0, 20, .inl ((upd f124 (8 : Int32).toNatClampNeg (-1))))), (m55, .inl (cA 0, 10, .inl mf55)), (m56, .inl (cA 0, 12, .inl mf56)), (m57, .inl (cA 0, 12, .inl mf57)), (m58, .inl (cA 0, 12, .inl mf58)), (m59, .inl (cA 0, 12, .inl mf59)), (m60, .inl (cA 0, 2, .inl mf60)), (m61, .inl (cA 0, 2, .inl mf61)), (m62, .inl (cA 0, 2, .inl mf62))] H := hP
  have hD : va_D A [(h0, .inr (8, fs)), (m26, .inl (cA 0, 12, .inl mf26)), (m28, .inl (cA 0, 12, .inl mf28)), (m52, .inl (cA 0, 20, .inl f126)), (m53, .inl (cA 0, 20, .inl ((upd f124 (8 : Int32).toNatClampNeg (-1))))), (m55, .inl (cA 0, 10, .inl mf55)), (m56, .inl (cA 0, 12, .inl mf56)), (m57, .inl (cA 0, 12, .inl mf57)), (m58, .inl (cA 0, 12, .inl mf58)), (m59, .inl (cA 0, 12, .inl mf59)), (m60, .inl (cA 0, 2, .inl mf60)), (m61, .inl (cA 0, 2, .inl mf61)), (m62, .inl (cA 0, 2, .inl mf62))] := hD
  generalize (upd f124 (8 : Int32).toNatClampNeg (-1)) = f127 at hP hD
  refine lv_iinc (v := 9) (lv' := [(2, .int 9), (0, .ref h0), (1, .int 0)]) hx hb dX8_atFirst_32 hl (k := 0) rfl (by decide) (by decide) rfl (fun ls hl => ?_)
  refine lv_goto (tgt := 2) hx hb dX8_atFirst_35 (by decide) ?_
  refine lv_iload_n hx hb dX8_atFirst_2 rfl (lv_at hl 0 rfl) ?_
  refine lv_bipush (v := 10) hx hb dX8_atFirst_3 (by decide) ?_
  refine lv_icmp_ge (tgt := 38) hx hb dX8_atFirst_5 (by decide) (fun c128 => absurd c128 (by decide)) (fun c128 => ?_)
  refine lv_aload_n hx hb dX8_atFirst_8 rfl (lv_at hl 1 rfl) ?_
  refine va_get (D := G) (ci := 8) (v := .ref m52) (C := RX8) (T := TX8) (N := 91) hx hb hT ku_8 hown hK hP 0 rfl rfl 52 (by decide) (hT _ kw_10_13) (fun _ h9 => h9) (fh_at hf 2 rfl) dX8_atFirst_9 ?_
  refine lv_bipush (v := 10) hx hb dX8_atFirst_12 (by decide) ?_
  refine lv_iload_n hx hb dX8_atFirst_14 rfl (lv_at hl 2 rfl) ?_
  refine lv_imul hx hb dX8_atFirst_15 ?_
  refine tq_i (w := 0) (by decide) ?_
  refine lv_iload_n hx hb dX8_atFirst_16 rfl (lv_at hl 0 rfl) ?_
  refine lv_iadd hx hb dX8_atFirst_17 ?_
  refine tq_i (w := 9) (by decide) ?_
  refine lv_iconst (v := 0) hx hb dX8_atFirst_18 (by decide) ?_
  refine va_iast (i := 9) hx hb hK hP hD hS 3 0 rfl rfl (tq_in (by decide)) dX8_atFirst_19 (fun H locs hP hD hS => ?_)
  have hP : va_P G vwCl [(h0, .inr (8, fs)), (m26, .inl (cA 0, 12, .inl mf26)), (m28, .inl (cA 0, 12, .inl mf28)), (m52, .inl (cA 0, 20, .inl ((upd f126 (9 : Int32).toNatClampNeg 0)))), (m53, .inl (cA 0, 20, .inl f127)), (m55, .inl (cA 0, 10, .inl mf55)), (m56, .inl (cA 0, 12, .inl mf56)), (m57, .inl (cA 0, 12, .inl mf57)), (m58, .inl (cA 0, 12, .inl mf58)), (m59, .inl (cA 0, 12, .inl mf59)), (m60, .inl (cA 0, 2, .inl mf60)), (m61, .inl (cA 0, 2, .inl mf61)), (m62, .inl (cA 0, 2, .inl mf62))] H := hP
  have hD : va_D A [(h0, .inr (8, fs)), (m26, .inl (cA 0, 12, .inl mf26)), (m28, .inl (cA 0, 12, .inl mf28)), (m52, .inl (cA 0, 20, .inl ((upd f126 (9 : Int32).toNatClampNeg 0)))), (m53, .inl (cA 0, 20, .inl f127)), (m55, .inl (cA 0, 10, .inl mf55)), (m56, .inl (cA 0, 12, .inl mf56)), (m57, .inl (cA 0, 12, .inl mf57)), (m58, .inl (cA 0, 12, .inl mf58)), (m59, .inl (cA 0, 12, .inl mf59)), (m60, .inl (cA 0, 2, .inl mf60)), (m61, .inl (cA 0, 2, .inl mf61)), (m62, .inl (cA 0, 2, .inl mf62))] := hD
  generalize (upd f126 (9 : Int32).toNatClampNeg 0) = f129 at hP hD
  refine lv_aload_n hx hb dX8_atFirst_20 rfl (lv_at hl 1 rfl) ?_
  refine va_get (D := G) (ci := 8) (v := .ref m53) (C := RX8) (T := TX8) (N := 91) hx hb hT ku_8 hown hK hP 0 rfl rfl 53 (by decide) (hT _ kw_10_14) (fun _ h9 => h9) (fh_at hf 3 rfl) dX8_atFirst_21 ?_
  refine lv_bipush (v := 10) hx hb dX8_atFirst_24 (by decide) ?_
  refine lv_iload_n hx hb dX8_atFirst_26 rfl (lv_at hl 2 rfl) ?_
  refine lv_imul hx hb dX8_atFirst_27 ?_
  refine tq_i (w := 0) (by decide) ?_
  refine lv_iload_n hx hb dX8_atFirst_28 rfl (lv_at hl 0 rfl) ?_
  refine lv_iadd hx hb dX8_atFirst_29 ?_
  refine tq_i (w := 9) (by decide) ?_
  refine lv_iconst (v := (-1)) hx hb dX8_atFirst_30 (by decide) ?_
  refine va_iast (i := 9) hx hb hK hP hD hS 4 0 rfl rfl (tq_in (by decide)) dX8_atFirst_31 (fun H locs hP hD hS => ?_)
  have hP : va_P G vwCl [(h0, .inr (8, fs)), (m26, .inl (cA 0, 12, .inl mf26)), (m28, .inl (cA 0, 12, .inl mf28)), (m52, .inl (cA 0, 20, .inl f129)), (m53, .inl (cA 0, 20, .inl ((upd f127 (9 : Int32).toNatClampNeg (-1))))), (m55, .inl (cA 0, 10, .inl mf55)), (m56, .inl (cA 0, 12, .inl mf56)), (m57, .inl (cA 0, 12, .inl mf57)), (m58, .inl (cA 0, 12, .inl mf58)), (m59, .inl (cA 0, 12, .inl mf59)), (m60, .inl (cA 0, 2, .inl mf60)), (m61, .inl (cA 0, 2, .inl mf61)), (m62, .inl (cA 0, 2, .inl mf62))] H := hP
  have hD : va_D A [(h0, .inr (8, fs)), (m26, .inl (cA 0, 12, .inl mf26)), (m28, .inl (cA 0, 12, .inl mf28)), (m52, .inl (cA 0, 20, .inl f129)), (m53, .inl (cA 0, 20, .inl ((upd f127 (9 : Int32).toNatClampNeg (-1))))), (m55, .inl (cA 0, 10, .inl mf55)), (m56, .inl (cA 0, 12, .inl mf56)), (m57, .inl (cA 0, 12, .inl mf57)), (m58, .inl (cA 0, 12, .inl mf58)), (m59, .inl (cA 0, 12, .inl mf59)), (m60, .inl (cA 0, 2, .inl mf60)), (m61, .inl (cA 0, 2, .inl mf61)), (m62, .inl (cA 0, 2, .inl mf62))] := hD
  generalize (upd f127 (9 : Int32).toNatClampNeg (-1)) = f130 at hP hD
  refine lv_iinc (v := 10) (lv' := [(2, .int 10), (0, .ref h0), (1, .int 0)]) hx hb dX8_atFirst_32 hl (k := 0) rfl (by decide) (by decide) rfl (fun ls hl => ?_)
  refine lv_goto (tgt := 2) hx hb dX8_atFirst_35 (by decide) ?_
  refine lv_iload_n hx hb dX8_atFirst_2 rfl (lv_at hl 0 rfl) ?_
  refine lv_bipush (v := 10) hx hb dX8_atFirst_3 (by decide) ?_
  refine lv_icmp_ge (tgt := 38) hx hb dX8_atFirst_5 (by decide) (fun c131 => ?_) (fun c131 => absurd (by decide) c131)
  refine lv_iconst (v := 0) hx hb dX8_atFirst_38 (by decide) ?_
  refine lv_istore_n (lv' := [(2, .int 0), (0, .ref h0), (1, .int 0)]) hx hb dX8_atFirst_39 rfl hl (by decide) rfl (fun ls hl => ?_)
  refine lv_iload_n hx hb dX8_atFirst_40 rfl (lv_at hl 0 rfl) ?_
  refine lv_iconst (v := 5) hx hb dX8_atFirst_41 (by decide) ?_
  refine lv_icmp_ge (tgt := 62) hx hb dX8_atFirst_42 (by decide) (fun c132 => absurd c132 (by decide)) (fun c132 => ?_)
  refine lv_aload_n hx hb dX8_atFirst_45 rfl (lv_at hl 1 rfl) ?_
  refine va_get (D := G) (ci := 8) (v := .ref m55) (C := RX8) (T := TX8) (N := 91) hx hb hT ku_8 hown hK hP 0 rfl rfl 55 (by decide) (hT _ kw_10_16) (fun _ h9 => h9) (fh_at hf 4 rfl) dX8_atFirst_46 ?_
  refine lv_iconst (v := 5) hx hb dX8_atFirst_49 (by decide) ?_
  refine lv_iload_n hx hb dX8_atFirst_50 rfl (lv_at hl 2 rfl) ?_
  refine lv_imul hx hb dX8_atFirst_51 ?_
  refine tq_i (w := 0) (by decide) ?_
  refine lv_iload_n hx hb dX8_atFirst_52 rfl (lv_at hl 0 rfl) ?_
  refine lv_iadd hx hb dX8_atFirst_53 ?_
  refine tq_i (w := 0) (by decide) ?_
  refine lv_iconst (v := 0) hx hb dX8_atFirst_54 (by decide) ?_
  refine va_iast (i := 0) hx hb hK hP hD hS 5 0 rfl rfl (tq_in (by decide)) dX8_atFirst_55 (fun H locs hP hD hS => ?_)
  have hP : va_P G vwCl [(h0, .inr (8, fs)), (m26, .inl (cA 0, 12, .inl mf26)), (m28, .inl (cA 0, 12, .inl mf28)), (m52, .inl (cA 0, 20, .inl f129)), (m53, .inl (cA 0, 20, .inl f130)), (m55, .inl (cA 0, 10, .inl ((upd mf55 (0 : Int32).toNatClampNeg 0)))), (m56, .inl (cA 0, 12, .inl mf56)), (m57, .inl (cA 0, 12, .inl mf57)), (m58, .inl (cA 0, 12, .inl mf58)), (m59, .inl (cA 0, 12, .inl mf59)), (m60, .inl (cA 0, 2, .inl mf60)), (m61, .inl (cA 0, 2, .inl mf61)), (m62, .inl (cA 0, 2, .inl mf62))] H := hP
  have hD : va_D A [(h0, .inr (8, fs)), (m26, .inl (cA 0, 12, .inl mf26)), (m28, .inl (cA 0, 12, .inl mf28)), (m52, .inl (cA 0, 20, .inl f129)), (m53, .inl (cA 0, 20, .inl f130)), (m55, .inl (cA 0, 10, .inl ((upd mf55 (0 : Int32).toNatClampNeg 0)))), (m56, .inl (cA 0, 12, .inl mf56)), (m57, .inl (cA 0, 12, .inl mf57)), (m58, .inl (cA 0, 12, .inl mf58)), (m59, .inl (cA 0, 12, .inl mf59)), (m60, .inl (cA 0, 2, .inl mf60)), (m61, .inl (cA 0, 2, .inl mf61)), (m62, .inl (cA 0, 2, .inl mf62))] := hD
  generalize (upd mf55 (0 : Int32).toNatClampNeg 0) = f133 at hP hD
  refine lv_iinc (v := 1) (lv' := [(2, .int 1), (0, .ref h0), (1, .int 0)]) hx hb dX8_atFirst_56 hl (k := 0) rfl (by decide) (by decide) rfl (fun ls hl => ?_)
  refine lv_goto (tgt := 40) hx hb dX8_atFirst_59 (by decide) ?_
  refine lv_iload_n hx hb dX8_atFirst_40 rfl (lv_at hl 0 rfl) ?_
  refine lv_iconst (v := 5) hx hb dX8_atFirst_41 (by decide) ?_
  refine lv_icmp_ge (tgt := 62) hx hb dX8_atFirst_42 (by decide) (fun c134 => absurd c134 (by decide)) (fun c134 => ?_)
  refine lv_aload_n hx hb dX8_atFirst_45 rfl (lv_at hl 1 rfl) ?_
  refine va_get (D := G) (ci := 8) (v := .ref m55) (C := RX8) (T := TX8) (N := 91) hx hb hT ku_8 hown hK hP 0 rfl rfl 55 (by decide) (hT _ kw_10_16) (fun _ h9 => h9) (fh_at hf 4 rfl) dX8_atFirst_46 ?_
  refine lv_iconst (v := 5) hx hb dX8_atFirst_49 (by decide) ?_
  refine lv_iload_n hx hb dX8_atFirst_50 rfl (lv_at hl 2 rfl) ?_
  refine lv_imul hx hb dX8_atFirst_51 ?_
  refine tq_i (w := 0) (by decide) ?_
  refine lv_iload_n hx hb dX8_atFirst_52 rfl (lv_at hl 0 rfl) ?_
  refine lv_iadd hx hb dX8_atFirst_53 ?_
  refine tq_i (w := 1) (by decide) ?_
  refine lv_iconst (v := 0) hx hb dX8_atFirst_54 (by decide) ?_
  refine va_iast (i := 1) hx hb hK hP hD hS 5 0 rfl rfl (tq_in (by decide)) dX8_atFirst_55 (fun H locs hP hD hS => ?_)
  have hP : va_P G vwCl [(h0, .inr (8, fs)), (m26, .inl (cA 0, 12, .inl mf26)), (m28, .inl (cA 0, 12, .inl mf28)), (m52, .inl (cA 0, 20, .inl f129)), (m53, .inl (cA 0, 20, .inl f130)), (m55, .inl (cA 0, 10, .inl ((upd f133 (1 : Int32).toNatClampNeg 0)))), (m56, .inl (cA 0, 12, .inl mf56)), (m57, .inl (cA 0, 12, .inl mf57)), (m58, .inl (cA 0, 12, .inl mf58)), (m59, .inl (cA 0, 12, .inl mf59)), (m60, .inl (cA 0, 2, .inl mf60)), (m61, .inl (cA 0, 2, .inl mf61)), (m62, .inl (cA 0, 2, .inl mf62))] H := hP
  have hD : va_D A [(h0, .inr (8, fs)), (m26, .inl (cA 0, 12, .inl mf26)), (m28, .inl (cA 0, 12, .inl mf28)), (m52, .inl (cA 0, 20, .inl f129)), (m53, .inl (cA 0, 20, .inl f130)), (m55, .inl (cA 0, 10, .inl ((upd f133 (1 : Int32).toNatClampNeg 0)))), (m56, .inl (cA 0, 12, .inl mf56)), (m57, .inl (cA 0, 12, .inl mf57)), (m58, .inl (cA 0, 12, .inl mf58)), (m59, .inl (cA 0, 12, .inl mf59)), (m60, .inl (cA 0, 2, .inl mf60)), (m61, .inl (cA 0, 2, .inl mf61)), (m62, .inl (cA 0, 2, .inl mf62))] := hD
  generalize (upd f133 (1 : Int32).toNatClampNeg 0) = f135 at hP hD
  refine lv_iinc (v := 2) (lv' := [(2, .int 2), (0, .ref h0), (1, .int 0)]) hx hb dX8_atFirst_56 hl (k := 0) rfl (by decide) (by decide) rfl (fun ls hl => ?_)
  refine lv_goto (tgt := 40) hx hb dX8_atFirst_59 (by decide) ?_
  refine lv_iload_n hx hb dX8_atFirst_40 rfl (lv_at hl 0 rfl) ?_
  refine lv_iconst (v := 5) hx hb dX8_atFirst_41 (by decide) ?_
  refine lv_icmp_ge (tgt := 62) hx hb dX8_atFirst_42 (by decide) (fun c136 => absurd c136 (by decide)) (fun c136 => ?_)
  refine lv_aload_n hx hb dX8_atFirst_45 rfl (lv_at hl 1 rfl) ?_
  refine va_get (D := G) (ci := 8) (v := .ref m55) (C := RX8) (T := TX8) (N := 91) hx hb hT ku_8 hown hK hP 0 rfl rfl 55 (by decide) (hT _ kw_10_16) (fun _ h9 => h9) (fh_at hf 4 rfl) dX8_atFirst_46 ?_
  refine lv_iconst (v := 5) hx hb dX8_atFirst_49 (by decide) ?_
  refine lv_iload_n hx hb dX8_atFirst_50 rfl (lv_at hl 2 rfl) ?_
  refine lv_imul hx hb dX8_atFirst_51 ?_
  refine tq_i (w := 0) (by decide) ?_
  refine lv_iload_n hx hb dX8_atFirst_52 rfl (lv_at hl 0 rfl) ?_
  refine lv_iadd hx hb dX8_atFirst_53 ?_
  refine tq_i (w := 2) (by decide) ?_
  refine lv_iconst (v := 0) hx hb dX8_atFirst_54 (by decide) ?_
  refine va_iast (i := 2) hx hb hK hP hD hS 5 0 rfl rfl (tq_in (by decide)) dX8_atFirst_55 (fun H locs hP hD hS => ?_)
  have hP : va_P G vwCl [(h0, .inr (8, fs)), (m26, .inl (cA 0, 12, .inl mf26)), (m28, .inl (cA 0, 12, .inl mf28)), (m52, .inl (cA 0, 20, .inl f129)), (m53, .inl (cA 0, 20, .inl f130)), (m55, .inl (cA 0, 10, .inl ((upd f135 (2 : Int32).toNatClampNeg 0)))), (m56, .inl (cA 0, 12, .inl mf56)), (m57, .inl (cA 0, 12, .inl mf57)), (m58, .inl (cA 0, 12, .inl mf58)), (m59, .inl (cA 0, 12, .inl mf59)), (m60, .inl (cA 0, 2, .inl mf60)), (m61, .inl (cA 0, 2, .inl mf61)), (m62, .inl (cA 0, 2, .inl mf62))] H := hP
  have hD : va_D A [(h0, .inr (8, fs)), (m26, .inl (cA 0, 12, .inl mf26)), (m28, .inl (cA 0, 12, .inl mf28)), (m52, .inl (cA 0, 20, .inl f129)), (m53, .inl (cA 0, 20, .inl f130)), (m55, .inl (cA 0, 10, .inl ((upd f135 (2 : Int32).toNatClampNeg 0)))), (m56, .inl (cA 0, 12, .inl mf56)), (m57, .inl (cA 0, 12, .inl mf57)), (m58, .inl (cA 0, 12, .inl mf58)), (m59, .inl (cA 0, 12, .inl mf59)), (m60, .inl (cA 0, 2, .inl mf60)), (m61, .inl (cA 0, 2, .inl mf61)), (m62, .inl (cA 0, 2, .inl mf62))] := hD
  generalize (upd f135 (2 : Int32).toNatClampNeg 0) = f137 at hP hD
  refine lv_iinc (v := 3) (lv' := [(2, .int 3), (0, .ref h0), (1, .int 0)]) hx hb dX8_atFirst_56 hl (k := 0) rfl (by decide) (by decide) rfl (fun ls hl => ?_)
  refine lv_goto (tgt := 40) hx hb dX8_atFirst_59 (by decide) ?_
  refine lv_iload_n hx hb dX8_atFirst_40 rfl (lv_at hl 0 rfl) ?_
  refine lv_iconst (v := 5) hx hb dX8_atFirst_41 (by decide) ?_
  refine lv_icmp_ge (tgt := 62) hx hb dX8_atFirst_42 (by decide) (fun c138 => absurd c138 (by decide)) (fun c138 => ?_)
  refine lv_aload_n hx hb dX8_atFirst_45 rfl (lv_at hl 1 rfl) ?_
  refine va_get (D := G) (ci := 8) (v := .ref m55) (C := RX8) (T := TX8) (N := 91) hx hb hT ku_8 hown hK hP 0 rfl rfl 55 (by decide) (hT _ kw_10_16) (fun _ h9 => h9) (fh_at hf 4 rfl) dX8_atFirst_46 ?_
  refine lv_iconst (v := 5) hx hb dX8_atFirst_49 (by decide) ?_
  refine lv_iload_n hx hb dX8_atFirst_50 rfl (lv_at hl 2 rfl) ?_
  refine lv_imul hx hb dX8_atFirst_51 ?_
  refine tq_i (w := 0) (by decide) ?_
  refine lv_iload_n hx hb dX8_atFirst_52 rfl (lv_at hl 0 rfl) ?_
  refine lv_iadd hx hb dX8_atFirst_53 ?_
  refine tq_i (w := 3) (by decide) ?_
  refine lv_iconst (v := 0) hx hb dX8_atFirst_54 (by decide) ?_
  refine va_iast (i := 3) hx hb hK hP hD hS 5 0 rfl rfl (tq_in (by decide)) dX8_atFirst_55 (fun H locs hP hD hS => ?_)
  have hP : va_P G vwCl [(h0, .inr (8, fs)), (m26, .inl (cA 0, 12, .inl mf26)), (m28, .inl (cA 0, 12, .inl mf28)), (m52, .inl (cA 0, 20, .inl f129)), (m53, .inl (cA 0, 20, .inl f130)), (m55, .inl (cA 0, 10, .inl ((upd f137 (3 : Int32).toNatClampNeg 0)))), (m56, .inl (cA 0, 12, .inl mf56)), (m57, .inl (cA 0, 12, .inl mf57)), (m58, .inl (cA 0, 12, .inl mf58)), (m59, .inl (cA 0, 12, .inl mf59)), (m60, .inl (cA 0, 2, .inl mf60)), (m61, .inl (cA 0, 2, .inl mf61)), (m62, .inl (cA 0, 2, .inl mf62))] H := hP
  have hD : va_D A [(h0, .inr (8, fs)), (m26, .inl (cA 0, 12, .inl mf26)), (m28, .inl (cA 0, 12, .inl mf28)), (m52, .inl (cA 0, 20, .inl f129)), (m53, .inl (cA 0, 20, .inl f130)), (m55, .inl (cA 0, 10, .inl ((upd f137 (3 : Int32).toNatClampNeg 0)))), (m56, .inl (cA 0, 12, .inl mf56)), (m57, .inl (cA 0, 12, .inl mf57)), (m58, .inl (cA 0, 12, .inl mf58)), (m59, .inl (cA 0, 12, .inl mf59)), (m60, .inl (cA 0, 2, .inl mf60)), (m61, .inl (cA 0, 2, .inl mf61)), (m62, .inl (cA 0, 2, .inl mf62))] := hD
  generalize (upd f137 (3 : Int32).toNatClampNeg 0) = f139 at hP hD
  refine lv_iinc (v := 4) (lv' := [(2, .int 4), (0, .ref h0), (1, .int 0)]) hx hb dX8_atFirst_56 hl (k := 0) rfl (by decide) (by decide) rfl (fun ls hl => ?_)
  refine lv_goto (tgt := 40) hx hb dX8_atFirst_59 (by decide) ?_
  refine lv_iload_n hx hb dX8_atFirst_40 rfl (lv_at hl 0 rfl) ?_
  refine lv_iconst (v := 5) hx hb dX8_atFirst_41 (by decide) ?_
  refine lv_icmp_ge (tgt := 62) hx hb dX8_atFirst_42 (by decide) (fun c140 => absurd c140 (by decide)) (fun c140 => ?_)
  refine lv_aload_n hx hb dX8_atFirst_45 rfl (lv_at hl 1 rfl) ?_
  refine va_get (D := G) (ci := 8) (v := .ref m55) (C := RX8) (T := TX8) (N := 91) hx hb hT ku_8 hown hK hP 0 rfl rfl 55 (by decide) (hT _ kw_10_16) (fun _ h9 => h9) (fh_at hf 4 rfl) dX8_atFirst_46 ?_
  refine lv_iconst (v := 5) hx hb dX8_atFirst_49 (by decide) ?_
  refine lv_iload_n hx hb dX8_atFirst_50 rfl (lv_at hl 2 rfl) ?_
  refine lv_imul hx hb dX8_atFirst_51 ?_
  refine tq_i (w := 0) (by decide) ?_
  refine lv_iload_n hx hb dX8_atFirst_52 rfl (lv_at hl 0 rfl) ?_
  refine lv_iadd hx hb dX8_atFirst_53 ?_
  refine tq_i (w := 4) (by decide) ?_
  refine lv_iconst (v := 0) hx hb dX8_atFirst_54 (by decide) ?_
  refine va_iast (i := 4) hx hb hK hP hD hS 5 0 rfl rfl (tq_in (by decide)) dX8_atFirst_55 (fun H locs hP hD hS => ?_)
  have hP : va_P G vwCl [(h0, .inr (8, fs)), (m26, .inl (cA 0, 12, .inl mf26)), (m28, .inl (cA 0, 12, .inl mf28)), (m52, .inl (cA 0, 20, .inl f129)), (m53, .inl (cA 0, 20, .inl f130)), (m55, .inl (cA 0, 10, .inl ((upd f139 (4 : Int32).toNatClampNeg 0)))), (m56, .inl (cA 0, 12, .inl mf56)), (m57, .inl (cA 0, 12, .inl mf57)), (m58, .inl (cA 0, 12, .inl mf58)), (m59, .inl (cA 0, 12, .inl mf59)), (m60, .inl (cA 0, 2, .inl mf60)), (m61, .inl (cA 0, 2, .inl mf61)), (m62, .inl (cA 0, 2, .inl mf62))] H := hP
  have hD : va_D A [(h0, .inr (8, fs)), (m26, .inl (cA 0, 12, .inl mf26)), (m28, .inl (cA 0, 12, .inl mf28)), (m52, .inl (cA 0, 20, .inl f129)), (m53, .inl (cA 0, 20, .inl f130)), (m55, .inl (cA 0, 10, .inl ((upd f139 (4 : Int32).toNatClampNeg 0)))), (m56, .inl (cA 0, 12, .inl mf56)), (m57, .inl (cA 0, 12, .inl mf57)), (m58, .inl (cA 0, 12, .inl mf58)), (m59, .inl (cA 0, 12, .inl mf59)), (m60, .inl (cA 0, 2, .inl mf60)), (m61, .inl (cA 0, 2, .inl mf61)), (m62, .inl (cA 0, 2, .inl mf62))] := hD
  generalize (upd f139 (4 : Int32).toNatClampNeg 0) = f141 at hP hD
  refine lv_iinc (v := 5) (lv' := [(2, .int 5), (0, .ref h0), (1, .int 0)]) hx hb dX8_atFirst_56 hl (k := 0) rfl (by decide) (by decide) rfl (fun ls hl => ?_)
  refine lv_goto (tgt := 40) hx hb dX8_atFirst_59 (by decide) ?_
  refine lv_iload_n hx hb dX8_atFirst_40 rfl (lv_at hl 0 rfl) ?_
  refine lv_iconst (v := 5) hx hb dX8_atFirst_41 (by decide) ?_
  refine lv_icmp_ge (tgt := 62) hx hb dX8_atFirst_42 (by decide) (fun c142 => ?_) (fun c142 => absurd (by decide) c142)
  refine lv_iconst (v := 0) hx hb dX8_atFirst_62 (by decide) ?_
  refine lv_istore_n (lv' := [(2, .int 0), (0, .ref h0), (1, .int 0)]) hx hb dX8_atFirst_63 rfl hl (by decide) rfl (fun ls hl => ?_)
  refine lv_iload_n hx hb dX8_atFirst_64 rfl (lv_at hl 0 rfl) ?_
  refine lv_bipush (v := 6) hx hb dX8_atFirst_65 (by decide) ?_
  refine lv_icmp_ge (tgt := 134) hx hb dX8_atFirst_67 (by decide) (fun c143 => absurd c143 (by decide)) (fun c143 => ?_)
  refine lv_aload_n hx hb dX8_atFirst_70 rfl (lv_at hl 1 rfl) ?_
  refine va_get (D := G) (ci := 8) (v := .ref m56) (C := RX8) (T := TX8) (N := 91) hx hb hT ku_8 hown hK hP 0 rfl rfl 56 (by decide) (hT _ kw_10_17) (fun _ h9 => h9) (fh_at hf 5 rfl) dX8_atFirst_71 ?_
  refine lv_bipush (v := 6) hx hb dX8_atFirst_74 (by decide) ?_
  refine lv_iload_n hx hb dX8_atFirst_76 rfl (lv_at hl 2 rfl) ?_
  refine lv_imul hx hb dX8_atFirst_77 ?_
  refine tq_i (w := 0) (by decide) ?_
  refine lv_iload_n hx hb dX8_atFirst_78 rfl (lv_at hl 0 rfl) ?_
  refine lv_iadd hx hb dX8_atFirst_79 ?_
  refine tq_i (w := 0) (by decide) ?_
  refine lv_aload_n hx hb dX8_atFirst_80 rfl (lv_at hl 1 rfl) ?_
  refine va_get (D := G) (ci := 8) (v := .ref m26) (C := RX8) (T := TX8) (N := 91) hx hb hT ku_8 hown hK hP 0 rfl rfl 26 (by decide) (hT _ kw_9_18) (fun _ h9 => h9) (fh_at hf 0 rfl) dX8_atFirst_81 ?_
  refine lv_iload_n hx hb dX8_atFirst_84 rfl (lv_at hl 0 rfl) ?_
  refine va_iald (i := 0) hx hb hK hP 1 0 rfl rfl (tq_in (by decide)) dX8_atFirst_85 ?_
  refine lv_topi (fun x144 ex144 => ?_)
  refine va_iast (i := 0) hx hb hK hP hD hS 6 0 rfl rfl (tq_in (by decide)) dX8_atFirst_86 (fun H locs hP hD hS => ?_)
  have hP : va_P G vwCl [(h0, .inr (8, fs)), (m26, .inl (cA 0, 12, .inl mf26)), (m28, .inl (cA 0, 12, .inl mf28)), (m52, .inl (cA 0, 20, .inl f129)), (m53, .inl (cA 0, 20, .inl f130)), (m55, .inl (cA 0, 10, .inl f141)), (m56, .inl (cA 0, 12, .inl ((upd mf56 (0 : Int32).toNatClampNeg x144)))), (m57, .inl (cA 0, 12, .inl mf57)), (m58, .inl (cA 0, 12, .inl mf58)), (m59, .inl (cA 0, 12, .inl mf59)), (m60, .inl (cA 0, 2, .inl mf60)), (m61, .inl (cA 0, 2, .inl mf61)), (m62, .inl (cA 0, 2, .inl mf62))] H := hP
  have hD : va_D A [(h0, .inr (8, fs)), (m26, .inl (cA 0, 12, .inl mf26)), (m28, .inl (cA 0, 12, .inl mf28)), (m52, .inl (cA 0, 20, .inl f129)), (m53, .inl (cA 0, 20, .inl f130)), (m55, .inl (cA 0, 10, .inl f141)), (m56, .inl (cA 0, 12, .inl ((upd mf56 (0 : Int32).toNatClampNeg x144)))), (m57, .inl (cA 0, 12, .inl mf57)), (m58, .inl (cA 0, 12, .inl mf58)), (m59, .inl (cA 0, 12, .inl mf59)), (m60, .inl (cA 0, 2, .inl mf60)), (m61, .inl (cA 0, 2, .inl mf61)), (m62, .inl (cA 0, 2, .inl mf62))] := hD
  generalize (upd mf56 (0 : Int32).toNatClampNeg x144) = f145 at hP hD
  refine lv_aload_n hx hb dX8_atFirst_87 rfl (lv_at hl 1 rfl) ?_
  refine va_get (D := G) (ci := 8) (v := .ref m57) (C := RX8) (T := TX8) (N := 91) hx hb hT ku_8 hown hK hP 0 rfl rfl 57 (by decide) (hT _ kw_10_18) (fun _ h9 => h9) (fh_at hf 6 rfl) dX8_atFirst_88 ?_
  refine lv_bipush (v := 6) hx hb dX8_atFirst_91 (by decide) ?_
  refine lv_iload_n hx hb dX8_atFirst_93 rfl (lv_at hl 2 rfl) ?_
  refine lv_imul hx hb dX8_atFirst_94 ?_
  refine tq_i (w := 0) (by decide) ?_
  refine lv_iload_n hx hb dX8_atFirst_95 rfl (lv_at hl 0 rfl) ?_
  refine lv_iadd hx hb dX8_atFirst_96 ?_
  refine tq_i (w := 0) (by decide) ?_
  refine lv_aload_n hx hb dX8_atFirst_97 rfl (lv_at hl 1 rfl) ?_
  refine va_get (D := G) (ci := 8) (v := .ref m28) (C := RX8) (T := TX8) (N := 91) hx hb hT ku_8 hown hK hP 0 rfl rfl 28 (by decide) (hT _ kw_9_20) (fun _ h9 => h9) (fh_at hf 1 rfl) dX8_atFirst_98 ?_
  refine lv_iload_n hx hb dX8_atFirst_101 rfl (lv_at hl 0 rfl) ?_
  refine va_iald (i := 0) hx hb hK hP 2 0 rfl rfl (tq_in (by decide)) dX8_atFirst_102 ?_
  refine lv_topi (fun x146 ex146 => ?_)
  refine va_iast (i := 0) hx hb hK hP hD hS 7 0 rfl rfl (tq_in (by decide)) dX8_atFirst_103 (fun H locs hP hD hS => ?_)
  have hP : va_P G vwCl [(h0, .inr (8, fs)), (m26, .inl (cA 0, 12, .inl mf26)), (m28, .inl (cA 0, 12, .inl mf28)), (m52, .inl (cA 0, 20, .inl f129)), (m53, .inl (cA 0, 20, .inl f130)), (m55, .inl (cA 0, 10, .inl f141)), (m56, .inl (cA 0, 12, .inl f145)), (m57, .inl (cA 0, 12, .inl ((upd mf57 (0 : Int32).toNatClampNeg x146)))), (m58, .inl (cA 0, 12, .inl mf58)), (m59, .inl (cA 0, 12, .inl mf59)), (m60, .inl (cA 0, 2, .inl mf60)), (m61, .inl (cA 0, 2, .inl mf61)), (m62, .inl (cA 0, 2, .inl mf62))] H := hP
  have hD : va_D A [(h0, .inr (8, fs)), (m26, .inl (cA 0, 12, .inl mf26)), (m28, .inl (cA 0, 12, .inl mf28)), (m52, .inl (cA 0, 20, .inl f129)), (m53, .inl (cA 0, 20, .inl f130)), (m55, .inl (cA 0, 10, .inl f141)), (m56, .inl (cA 0, 12, .inl f145)), (m57, .inl (cA 0, 12, .inl ((upd mf57 (0 : Int32).toNatClampNeg x146)))), (m58, .inl (cA 0, 12, .inl mf58)), (m59, .inl (cA 0, 12, .inl mf59)), (m60, .inl (cA 0, 2, .inl mf60)), (m61, .inl (cA 0, 2, .inl mf61)), (m62, .inl (cA 0, 2, .inl mf62))] := hD
  generalize (upd mf57 (0 : Int32).toNatClampNeg x146) = f147 at hP hD
  refine lv_aload_n hx hb dX8_atFirst_104 rfl (lv_at hl 1 rfl) ?_
  refine va_get (D := G) (ci := 8) (v := .ref m58) (C := RX8) (T := TX8) (N := 91) hx hb hT ku_8 hown hK hP 0 rfl rfl 58 (by decide) (hT _ kw_10_19) (fun _ h9 => h9) (fh_at hf 7 rfl) dX8_atFirst_105 ?_
  refine lv_bipush (v := 6) hx hb dX8_atFirst_108 (by decide) ?_
  refine lv_iload_n hx hb dX8_atFirst_110 rfl (lv_at hl 2 rfl) ?_
  refine lv_imul hx hb dX8_atFirst_111 ?_
  refine tq_i (w := 0) (by decide) ?_
  refine lv_iload_n hx hb dX8_atFirst_112 rfl (lv_at hl 0 rfl) ?_
  refine lv_iadd hx hb dX8_atFirst_113 ?_
  refine tq_i (w := 0) (by decide) ?_
  refine lv_iconst (v := 0) hx hb dX8_atFirst_114 (by decide) ?_
  refine va_iast (i := 0) hx hb hK hP hD hS 8 0 rfl rfl (tq_in (by decide)) dX8_atFirst_115 (fun H locs hP hD hS => ?_)
  have hP : va_P G vwCl [(h0, .inr (8, fs)), (m26, .inl (cA 0, 12, .inl mf26)), (m28, .inl (cA 0, 12, .inl mf28)), (m52, .inl (cA 0, 20, .inl f129)), (m53, .inl (cA 0, 20, .inl f130)), (m55, .inl (cA 0, 10, .inl f141)), (m56, .inl (cA 0, 12, .inl f145)), (m57, .inl (cA 0, 12, .inl f147)), (m58, .inl (cA 0, 12, .inl ((upd mf58 (0 : Int32).toNatClampNeg 0)))), (m59, .inl (cA 0, 12, .inl mf59)), (m60, .inl (cA 0, 2, .inl mf60)), (m61, .inl (cA 0, 2, .inl mf61)), (m62, .inl (cA 0, 2, .inl mf62))] H := hP
  have hD : va_D A [(h0, .inr (8, fs)), (m26, .inl (cA 0, 12, .inl mf26)), (m28, .inl (cA 0, 12, .inl mf28)), (m52, .inl (cA 0, 20, .inl f129)), (m53, .inl (cA 0, 20, .inl f130)), (m55, .inl (cA 0, 10, .inl f141)), (m56, .inl (cA 0, 12, .inl f145)), (m57, .inl (cA 0, 12, .inl f147)), (m58, .inl (cA 0, 12, .inl ((upd mf58 (0 : Int32).toNatClampNeg 0)))), (m59, .inl (cA 0, 12, .inl mf59)), (m60, .inl (cA 0, 2, .inl mf60)), (m61, .inl (cA 0, 2, .inl mf61)), (m62, .inl (cA 0, 2, .inl mf62))] := hD
  generalize (upd mf58 (0 : Int32).toNatClampNeg 0) = f148 at hP hD
  refine lv_aload_n hx hb dX8_atFirst_116 rfl (lv_at hl 1 rfl) ?_
  refine va_get (D := G) (ci := 8) (v := .ref m59) (C := RX8) (T := TX8) (N := 91) hx hb hT ku_8 hown hK hP 0 rfl rfl 59 (by decide) (hT _ kw_10_20) (fun _ h9 => h9) (fh_at hf 8 rfl) dX8_atFirst_117 ?_
  refine lv_bipush (v := 6) hx hb dX8_atFirst_120 (by decide) ?_
  refine lv_iload_n hx hb dX8_atFirst_122 rfl (lv_at hl 2 rfl) ?_
  refine lv_imul hx hb dX8_atFirst_123 ?_
  refine tq_i (w := 0) (by decide) ?_
  refine lv_iload_n hx hb dX8_atFirst_124 rfl (lv_at hl 0 rfl) ?_
  refine lv_iadd hx hb dX8_atFirst_125 ?_
  refine tq_i (w := 0) (by decide) ?_
  refine lv_iconst (v := 0) hx hb dX8_atFirst_126 (by decide) ?_
  refine va_iast (i := 0) hx hb hK hP hD hS 9 0 rfl rfl (tq_in (by decide)) dX8_atFirst_127 (fun H locs hP hD hS => ?_)
  have hP : va_P G vwCl [(h0, .inr (8, fs)), (m26, .inl (cA 0, 12, .inl mf26)), (m28, .inl (cA 0, 12, .inl mf28)), (m52, .inl (cA 0, 20, .inl f129)), (m53, .inl (cA 0, 20, .inl f130)), (m55, .inl (cA 0, 10, .inl f141)), (m56, .inl (cA 0, 12, .inl f145)), (m57, .inl (cA 0, 12, .inl f147)), (m58, .inl (cA 0, 12, .inl f148)), (m59, .inl (cA 0, 12, .inl ((upd mf59 (0 : Int32).toNatClampNeg 0)))), (m60, .inl (cA 0, 2, .inl mf60)), (m61, .inl (cA 0, 2, .inl mf61)), (m62, .inl (cA 0, 2, .inl mf62))] H := hP
  have hD : va_D A [(h0, .inr (8, fs)), (m26, .inl (cA 0, 12, .inl mf26)), (m28, .inl (cA 0, 12, .inl mf28)), (m52, .inl (cA 0, 20, .inl f129)), (m53, .inl (cA 0, 20, .inl f130)), (m55, .inl (cA 0, 10, .inl f141)), (m56, .inl (cA 0, 12, .inl f145)), (m57, .inl (cA 0, 12, .inl f147)), (m58, .inl (cA 0, 12, .inl f148)), (m59, .inl (cA 0, 12, .inl ((upd mf59 (0 : Int32).toNatClampNeg 0)))), (m60, .inl (cA 0, 2, .inl mf60)), (m61, .inl (cA 0, 2, .inl mf61)), (m62, .inl (cA 0, 2, .inl mf62))] := hD
  generalize (upd mf59 (0 : Int32).toNatClampNeg 0) = f149 at hP hD
  refine lv_iinc (v := 1) (lv' := [(2, .int 1), (0, .ref h0), (1, .int 0)]) hx hb dX8_atFirst_128 hl (k := 0) rfl (by decide) (by decide) rfl (fun ls hl => ?_)
  refine lv_goto (tgt := 64) hx hb dX8_atFirst_131 (by decide) ?_
  refine lv_iload_n hx hb dX8_atFirst_64 rfl (lv_at hl 0 rfl) ?_
  refine lv_bipush (v := 6) hx hb dX8_atFirst_65 (by decide) ?_
  refine lv_icmp_ge (tgt := 134) hx hb dX8_atFirst_67 (by decide) (fun c150 => absurd c150 (by decide)) (fun c150 => ?_)
  refine lv_aload_n hx hb dX8_atFirst_70 rfl (lv_at hl 1 rfl) ?_
  refine va_get (D := G) (ci := 8) (v := .ref m56) (C := RX8) (T := TX8) (N := 91) hx hb hT ku_8 hown hK hP 0 rfl rfl 56 (by decide) (hT _ kw_10_17) (fun _ h9 => h9) (fh_at hf 5 rfl) dX8_atFirst_71 ?_
  refine lv_bipush (v := 6) hx hb dX8_atFirst_74 (by decide) ?_
  refine lv_iload_n hx hb dX8_atFirst_76 rfl (lv_at hl 2 rfl) ?_
  refine lv_imul hx hb dX8_atFirst_77 ?_
  refine tq_i (w := 0) (by decide) ?_
  refine lv_iload_n hx hb dX8_atFirst_78 rfl (lv_at hl 0 rfl) ?_
  refine lv_iadd hx hb dX8_atFirst_79 ?_
  refine tq_i (w := 1) (by decide) ?_
  refine lv_aload_n hx hb dX8_atFirst_80 rfl (lv_at hl 1 rfl) ?_
  refine va_get (D := G) (ci := 8) (v := .ref m26) (C := RX8) (T := TX8) (N := 91) hx hb hT ku_8 hown hK hP 0 rfl rfl 26 (by decide) (hT _ kw_9_18) (fun _ h9 => h9) (fh_at hf 0 rfl) dX8_atFirst_81 ?_
  refine lv_iload_n hx hb dX8_atFirst_84 rfl (lv_at hl 0 rfl) ?_
  refine va_iald (i := 1) hx hb hK hP 1 0 rfl rfl (tq_in (by decide)) dX8_atFirst_85 ?_
  refine lv_topi (fun x151 ex151 => ?_)
  refine va_iast (i := 1) hx hb hK hP hD hS 6 0 rfl rfl (tq_in (by decide)) dX8_atFirst_86 (fun H locs hP hD hS => ?_)
  have hP : va_P G vwCl [(h0, .inr (8, fs)), (m26, .inl (cA 0, 12, .inl mf26)), (m28, .inl (cA 0, 12, .inl mf28)), (m52, .inl (cA 0, 20, .inl f129)), (m53, .inl (cA 0, 20, .inl f130)), (m55, .inl (cA 0, 10, .inl f141)), (m56, .inl (cA 0, 12, .inl ((upd f145 (1 : Int32).toNatClampNeg x151)))), (m57, .inl (cA 0, 12, .inl f147)), (m58, .inl (cA 0, 12, .inl f148)), (m59, .inl (cA 0, 12, .inl f149)), (m60, .inl (cA 0, 2, .inl mf60)), (m61, .inl (cA 0, 2, .inl mf61)), (m62, .inl (cA 0, 2, .inl mf62))] H := hP
  have hD : va_D A [(h0, .inr (8, fs)), (m26, .inl (cA 0, 12, .inl mf26)), (m28, .inl (cA 0, 12, .inl mf28)), (m52, .inl (cA 0, 20, .inl f129)), (m53, .inl (cA 0, 20, .inl f130)), (m55, .inl (cA 0, 10, .inl f141)), (m56, .inl (cA 0, 12, .inl ((upd f145 (1 : Int32).toNatClampNeg x151)))), (m57, .inl (cA 0, 12, .inl f147)), (m58, .inl (cA 0, 12, .inl f148)), (m59, .inl (cA 0, 12, .inl f149)), (m60, .inl (cA 0, 2, .inl mf60)), (m61, .inl (cA 0, 2, .inl mf61)), (m62, .inl (cA 0, 2, .inl mf62))] := hD
  generalize (upd f145 (1 : Int32).toNatClampNeg x151) = f152 at hP hD
  refine lv_aload_n hx hb dX8_atFirst_87 rfl (lv_at hl 1 rfl) ?_
  refine va_get (D := G) (ci := 8) (v := .ref m57) (C := RX8) (T := TX8) (N := 91) hx hb hT ku_8 hown hK hP 0 rfl rfl 57 (by decide) (hT _ kw_10_18) (fun _ h9 => h9) (fh_at hf 6 rfl) dX8_atFirst_88 ?_
  refine lv_bipush (v := 6) hx hb dX8_atFirst_91 (by decide) ?_
  refine lv_iload_n hx hb dX8_atFirst_93 rfl (lv_at hl 2 rfl) ?_
  refine lv_imul hx hb dX8_atFirst_94 ?_
  refine tq_i (w := 0) (by decide) ?_
  refine lv_iload_n hx hb dX8_atFirst_95 rfl (lv_at hl 0 rfl) ?_
  refine lv_iadd hx hb dX8_atFirst_96 ?_
  refine tq_i (w := 1) (by decide) ?_
  refine lv_aload_n hx hb dX8_atFirst_97 rfl (lv_at hl 1 rfl) ?_
  refine va_get (D := G) (ci := 8) (v := .ref m28) (C := RX8) (T := TX8) (N := 91) hx hb hT ku_8 hown hK hP 0 rfl rfl 28 (by decide) (hT _ kw_9_20) (fun _ h9 => h9) (fh_at hf 1 rfl) dX8_atFirst_98 ?_
  refine lv_iload_n hx hb dX8_atFirst_101 rfl (lv_at hl 0 rfl) ?_
  refine va_iald (i := 1) hx hb hK hP 2 0 rfl rfl (tq_in (by decide)) dX8_atFirst_102 ?_
  refine lv_topi (fun x153 ex153 => ?_)
  refine va_iast (i := 1) hx hb hK hP hD hS 7 0 rfl rfl (tq_in (by decide)) dX8_atFirst_103 (fun H locs hP hD hS => ?_)
  have hP : va_P G vwCl [(h0, .inr (8, fs)), (m26, .inl (cA 0, 12, .inl mf26)), (m28, .inl (cA 0, 12, .inl mf28)), (m52, .inl (cA 0, 20, .inl f129)), (m53, .inl (cA 0, 20, .inl f130)), (m55, .inl (cA 0, 10, .inl f141)), (m56, .inl (cA 0, 12, .inl f152)), (m57, .inl (cA 0, 12, .inl ((upd f147 (1 : Int32).toNatClampNeg x153)))), (m58, .inl (cA 0, 12, .inl f148)), (m59, .inl (cA 0, 12, .inl f149)), (m60, .inl (cA 0, 2, .inl mf60)), (m61, .inl (cA 0, 2, .inl mf61)), (m62, .inl (cA 0, 2, .inl mf62))] H := hP
  have hD : va_D A [(h0, .inr (8, fs)), (m26, .inl (cA 0, 12, .inl mf26)), (m28, .inl (cA 0, 12, .inl mf28)), (m52, .inl (cA 0, 20, .inl f129)), (m53, .inl (cA 0, 20, .inl f130)), (m55, .inl (cA 0, 10, .inl f141)), (m56, .inl (cA 0, 12, .inl f152)), (m57, .inl (cA 0, 12, .inl ((upd f147 (1 : Int32).toNatClampNeg x153)))), (m58, .inl (cA 0, 12, .inl f148)), (m59, .inl (cA 0, 12, .inl f149)), (m60, .inl (cA 0, 2, .inl mf60)), (m61, .inl (cA 0, 2, .inl mf61)), (m62, .inl (cA 0, 2, .inl mf62))] := hD
  generalize (upd f147 (1 : Int32).toNatClampNeg x153) = f154 at hP hD
  refine lv_aload_n hx hb dX8_atFirst_104 rfl (lv_at hl 1 rfl) ?_
  refine va_get (D := G) (ci := 8) (v := .ref m58) (C := RX8) (T := TX8) (N := 91) hx hb hT ku_8 hown hK hP 0 rfl rfl 58 (by decide) (hT _ kw_10_19) (fun _ h9 => h9) (fh_at hf 7 rfl) dX8_atFirst_105 ?_
  refine lv_bipush (v := 6) hx hb dX8_atFirst_108 (by decide) ?_
  refine lv_iload_n hx hb dX8_atFirst_110 rfl (lv_at hl 2 rfl) ?_
  refine lv_imul hx hb dX8_atFirst_111 ?_
  refine tq_i (w := 0) (by decide) ?_
  refine lv_iload_n hx hb dX8_atFirst_112 rfl (lv_at hl 0 rfl) ?_
  refine lv_iadd hx hb dX8_atFirst_113 ?_
  refine tq_i (w := 1) (by decide) ?_
  refine lv_iconst (v := 0) hx hb dX8_atFirst_114 (by decide) ?_
  refine va_iast (i := 1) hx hb hK hP hD hS 8 0 rfl rfl (tq_in (by decide)) dX8_atFirst_115 (fun H locs hP hD hS => ?_)
  have hP : va_P G vwCl [(h0, .inr (8, fs)), (m26, .inl (cA 0, 12, .inl mf26)), (m28, .inl (cA 0, 12, .inl mf28)), (m52, .inl (cA 0, 20, .inl f129)), (m53, .inl (cA 0, 20, .inl f130)), (m55, .inl (cA 0, 10, .inl f141)), (m56, .inl (cA 0, 12, .inl f152)), (m57, .inl (cA 0, 12, .inl f154)), (m58, .inl (cA 0, 12, .inl ((upd f148 (1 : Int32).toNatClampNeg 0)))), (m59, .inl (cA 0, 12, .inl f149)), (m60, .inl (cA 0, 2, .inl mf60)), (m61, .inl (cA 0, 2, .inl mf61)), (m62, .inl (cA 0, 2, .inl mf62))] H := hP
  have hD : va_D A [(h0, .inr (8, fs)), (m26, .inl (cA 0, 12, .inl mf26)), (m28, .inl (cA 0, 12, .inl mf28)), (m52, .inl (cA 0, 20, .inl f129)), (m53, .inl (cA 0, 20, .inl f130)), (m55, .inl (cA 0, 10, .inl f141)), (m56, .inl (cA 0, 12, .inl f152)), (m57, .inl (cA 0, 12, .inl f154)), (m58, .inl (cA 0, 12, .inl ((upd f148 (1 : Int32).toNatClampNeg 0)))), (m59, .inl (cA 0, 12, .inl f149)), (m60, .inl (cA 0, 2, .inl mf60)), (m61, .inl (cA 0, 2, .inl mf61)), (m62, .inl (cA 0, 2, .inl mf62))] := hD
  generalize (upd f148 (1 : Int32).toNatClampNeg 0) = f155 at hP hD
  refine lv_aload_n hx hb dX8_atFirst_116 rfl (lv_at hl 1 rfl) ?_
  refine va_get (D := G) (ci := 8) (v := .ref m59) (C := RX8) (T := TX8) (N := 91) hx hb hT ku_8 hown hK hP 0 rfl rfl 59 (by decide) (hT _ kw_10_20) (fun _ h9 => h9) (fh_at hf 8 rfl) dX8_atFirst_117 ?_
  refine lv_bipush (v := 6) hx hb dX8_atFirst_120 (by decide) ?_
  refine lv_iload_n hx hb dX8_atFirst_122 rfl (lv_at hl 2 rfl) ?_
  refine lv_imul hx hb dX8_atFirst_123 ?_
  refine tq_i (w := 0) (by decide) ?_
  refine lv_iload_n hx hb dX8_atFirst_124 rfl (lv_at hl 0 rfl) ?_
  refine lv_iadd hx hb dX8_atFirst_125 ?_
  refine tq_i (w := 1) (by decide) ?_
  refine lv_iconst (v := 0) hx hb dX8_atFirst_126 (by decide) ?_
  refine va_iast (i := 1) hx hb hK hP hD hS 9 0 rfl rfl (tq_in (by decide)) dX8_atFirst_127 (fun H locs hP hD hS => ?_)
  have hP : va_P G vwCl [(h0, .inr (8, fs)), (m26, .inl (cA 0, 12, .inl mf26)), (m28, .inl (cA 0, 12, .inl mf28)), (m52, .inl (cA 0, 20, .inl f129)), (m53, .inl (cA 0, 20, .inl f130)), (m55, .inl (cA 0, 10, .inl f141)), (m56, .inl (cA 0, 12, .inl f152)), (m57, .inl (cA 0, 12, .inl f154)), (m58, .inl (cA 0, 12, .inl f155)), (m59, .inl (cA 0, 12, .inl ((upd f149 (1 : Int32).toNatClampNeg 0)))), (m60, .inl (cA 0, 2, .inl mf60)), (m61, .inl (cA 0, 2, .inl mf61)), (m62, .inl (cA 0, 2, .inl mf62))] H := hP
  have hD : va_D A [(h0, .inr (8, fs)), (m26, .inl (cA 0, 12, .inl mf26)), (m28, .inl (cA 0, 12, .inl mf28)), (m52, .inl (cA 0, 20, .inl f129)), (m53, .inl (cA 0, 20, .inl f130)), (m55, .inl (cA 0, 10, .inl f141)), (m56, .inl (cA 0, 12, .inl f152)), (m57, .inl (cA 0, 12, .inl f154)), (m58, .inl (cA 0, 12, .inl f155)), (m59, .inl (cA 0, 12, .inl ((upd f149 (1 : Int32).toNatClampNeg 0)))), (m60, .inl (cA 0, 2, .inl mf60)), (m61, .inl (cA 0, 2, .inl mf61)), (m62, .inl (cA 0, 2, .inl mf62))] := hD
  generalize (upd f149 (1 : Int32).toNatClampNeg 0) = f156 at hP hD
  refine lv_iinc (v := 2) (lv' := [(2, .int 2), (0, .ref h0), (1, .int 0)]) hx hb dX8_atFirst_128 hl (k := 0) rfl (by decide) (by decide) rfl (fun ls hl => ?_)
  refine lv_goto (tgt := 64) hx hb dX8_atFirst_131 (by decide) ?_
  refine lv_iload_n hx hb dX8_atFirst_64 rfl (lv_at hl 0 rfl) ?_
  refine lv_bipush (v := 6) hx hb dX8_atFirst_65 (by decide) ?_
  refine lv_icmp_ge (tgt := 134) hx hb dX8_atFirst_67 (by decide) (fun c157 => absurd c157 (by decide)) (fun c157 => ?_)
  refine lv_aload_n hx hb dX8_atFirst_70 rfl (lv_at hl 1 rfl) ?_
  refine va_get (D := G) (ci := 8) (v := .ref m56) (C := RX8) (T := TX8) (N := 91) hx hb hT ku_8 hown hK hP 0 rfl rfl 56 (by decide) (hT _ kw_10_17) (fun _ h9 => h9) (fh_at hf 5 rfl) dX8_atFirst_71 ?_
  refine lv_bipush (v := 6) hx hb dX8_atFirst_74 (by decide) ?_
  refine lv_iload_n hx hb dX8_atFirst_76 rfl (lv_at hl 2 rfl) ?_
  refine lv_imul hx hb dX8_atFirst_77 ?_
  refine tq_i (w := 0) (by decide) ?_
  refine lv_iload_n hx hb dX8_atFirst_78 rfl (lv_at hl 0 rfl) ?_
  refine lv_iadd hx hb dX8_atFirst_79 ?_
  refine tq_i (w := 2) (by decide) ?_
  refine lv_aload_n hx hb dX8_atFirst_80 rfl (lv_at hl 1 rfl) ?_
  refine va_get (D := G) (ci := 8) (v := .ref m26) (C := RX8) (T := TX8) (N := 91) hx hb hT ku_8 hown hK hP 0 rfl rfl 26 (by decide) (hT _ kw_9_18) (fun _ h9 => h9) (fh_at hf 0 rfl) dX8_atFirst_81 ?_
  refine lv_iload_n hx hb dX8_atFirst_84 rfl (lv_at hl 0 rfl) ?_
  refine va_iald (i := 2) hx hb hK hP 1 0 rfl rfl (tq_in (by decide)) dX8_atFirst_85 ?_
  refine lv_topi (fun x158 ex158 => ?_)
  refine va_iast (i := 2) hx hb hK hP hD hS 6 0 rfl rfl (tq_in (by decide)) dX8_atFirst_86 (fun H locs hP hD hS => ?_)
  have hP : va_P G vwCl [(h0, .inr (8, fs)), (m26, .inl (cA 0, 12, .inl mf26)), (m28, .inl (cA 0, 12, .inl mf28)), (m52, .inl (cA 0, 20, .inl f129)), (m53, .inl (cA 0, 20, .inl f130)), (m55, .inl (cA 0, 10, .inl f141)), (m56, .inl (cA 0, 12, .inl ((upd f152 (2 : Int32).toNatClampNeg x158)))), (m57, .inl (cA 0, 12, .inl f154)), (m58, .inl (cA 0, 12, .inl f155)), (m59, .inl (cA 0, 12, .inl f156)), (m60, .inl (cA 0, 2, .inl mf60)), (m61, .inl (cA 0, 2, .inl mf61)), (m62, .inl (cA 0, 2, .inl mf62))] H := hP
  have hD : va_D A [(h0, .inr (8, fs)), (m26, .inl (cA 0, 12, .inl mf26)), (m28, .inl (cA 0, 12, .inl mf28)), (m52, .inl (cA 0, 20, .inl f129)), (m53, .inl (cA 0, 20, .inl f130)), (m55, .inl (cA 0, 10, .inl f141)), (m56, .inl (cA 0, 12, .inl ((upd f152 (2 : Int32).toNatClampNeg x158)))), (m57, .inl (cA 0, 12, .inl f154)), (m58, .inl (cA 0, 12, .inl f155)), (m59, .inl (cA 0, 12, .inl f156)), (m60, .inl (cA 0, 2, .inl mf60)), (m61, .inl (cA 0, 2, .inl mf61)), (m62, .inl (cA 0, 2, .inl mf62))] := hD
  generalize (upd f152 (2 : Int32).toNatClampNeg x158) = f159 at hP hD
  refine lv_aload_n hx hb dX8_atFirst_87 rfl (lv_at hl 1 rfl) ?_
  refine va_get (D := G) (ci := 8) (v := .ref m57) (C := RX8) (T := TX8) (N := 91) hx hb hT ku_8 hown hK hP 0 rfl rfl 57 (by decide) (hT _ kw_10_18) (fun _ h9 => h9) (fh_at hf 6 rfl) dX8_atFirst_88 ?_
  refine lv_bipush (v := 6) hx hb dX8_atFirst_91 (by decide) ?_
  refine lv_iload_n hx hb dX8_atFirst_93 rfl (lv_at hl 2 rfl) ?_
  refine lv_imul hx hb dX8_atFirst_94 ?_
  refine tq_i (w := 0) (by decide) ?_
  refine lv_iload_n hx hb dX8_atFirst_95 rfl (lv_at hl 0 rfl) ?_
  refine lv_iadd hx hb dX8_atFirst_96 ?_
  refine tq_i (w := 2) (by decide) ?_
  refine lv_aload_n hx hb dX8_atFirst_97 rfl (lv_at hl 1 rfl) ?_
  refine va_get (D := G) (ci := 8) (v := .ref m28) (C := RX8) (T := TX8) (N := 91) hx hb hT ku_8 hown hK hP 0 rfl rfl 28 (by decide) (hT _ kw_9_20) (fun _ h9 => h9) (fh_at hf 1 rfl) dX8_atFirst_98 ?_
  refine lv_iload_n hx hb dX8_atFirst_101 rfl (lv_at hl 0 rfl) ?_
  refine va_iald (i := 2) hx hb hK hP 2 0 rfl rfl (tq_in (by decide)) dX8_atFirst_102 ?_
  refine lv_topi (fun x160 ex160 => ?_)
  refine va_iast (i := 2) hx hb hK hP hD hS 7 0 rfl rfl (tq_in (by decide)) dX8_atFirst_103 (fun H locs hP hD hS => ?_)
  have hP : va_P G vwCl [(h0, .inr (8, fs)), (m26, .inl (cA 0, 12, .inl mf26)), (m28, .inl (cA 0, 12, .inl mf28)), (m52, .inl (cA 0, 20, .inl f129)), (m53, .inl (cA 0, 20, .inl f130)), (m55, .inl (cA 0, 10, .inl f141)), (m56, .inl (cA 0, 12, .inl f159)), (m57, .inl (cA 0, 12, .inl ((upd f154 (2 : Int32).toNatClampNeg x160)))), (m58, .inl (cA 0, 12, .inl f155)), (m59, .inl (cA 0, 12, .inl f156)), (m60, .inl (cA 0, 2, .inl mf60)), (m61, .inl (cA 0, 2, .inl mf61)), (m62, .inl (cA 0, 2, .inl mf62))] H := hP
  have hD : va_D A [(h0, .inr (8, fs)), (m26, .inl (cA 0, 12, .inl mf26)), (m28, .inl (cA 0, 12, .inl mf28)), (m52, .inl (cA 0, 20, .inl f129)), (m53, .inl (cA 0, 20, .inl f130)), (m55, .inl (cA 0, 10, .inl f141)), (m56, .inl (cA 0, 12, .inl f159)), (m57, .inl (cA 0, 12, .inl ((upd f154 (2 : Int32).toNatClampNeg x160)))), (m58, .inl (cA 0, 12, .inl f155)), (m59, .inl (cA 0, 12, .inl f156)), (m60, .inl (cA 0, 2, .inl mf60)), (m61, .inl (cA 0, 2, .inl mf61)), (m62, .inl (cA 0, 2, .inl mf62))] := hD
  generalize (upd f154 (2 : Int32).toNatClampNeg x160) = f161 at hP hD
  refine lv_aload_n hx hb dX8_atFirst_104 rfl (lv_at hl 1 rfl) ?_
  refine va_get (D := G) (ci := 8) (v := .ref m58) (C := RX8) (T := TX8) (N := 91) hx hb hT ku_8 hown hK hP 0 rfl rfl 58 (by decide) (hT _ kw_10_19) (fun _ h9 => h9) (fh_at hf 7 rfl) dX8_atFirst_105 ?_
  refine lv_bipush (v := 6) hx hb dX8_atFirst_108 (by decide) ?_
  refine lv_iload_n hx hb dX8_atFirst_110 rfl (lv_at hl 2 rfl) ?_
  refine lv_imul hx hb dX8_atFirst_111 ?_
  refine tq_i (w := 0) (by decide) ?_
  refine lv_iload_n hx hb dX8_atFirst_112 rfl (lv_at hl 0 rfl) ?_
  refine lv_iadd hx hb dX8_atFirst_113 ?_
  refine tq_i (w := 2) (by decide) ?_
  refine lv_iconst (v := 0) hx hb dX8_atFirst_114 (by decide) ?_
  refine va_iast (i := 2) hx hb hK hP hD hS 8 0 rfl rfl (tq_in (by decide)) dX8_atFirst_115 (fun H locs hP hD hS => ?_)
  have hP : va_P G vwCl [(h0, .inr (8, fs)), (m26, .inl (cA 0, 12, .inl mf26)), (m28, .inl (cA 0, 12, .inl mf28)), (m52, .inl (cA 0, 20, .inl f129)), (m53, .inl (cA 0, 20, .inl f130)), (m55, .inl (cA 0, 10, .inl f141)), (m56, .inl (cA 0, 12, .inl f159)), (m57, .inl (cA 0, 12, .inl f161)), (m58, .inl (cA 0, 12, .inl ((upd f155 (2 : Int32).toNatClampNeg 0)))), (m59, .inl (cA 0, 12, .inl f156)), (m60, .inl (cA 0, 2, .inl mf60)), (m61, .inl (cA 0, 2, .inl mf61)), (m62, .inl (cA 0, 2, .inl mf62))] H := hP
  have hD : va_D A [(h0, .inr (8, fs)), (m26, .inl (cA 0, 12, .inl mf26)), (m28, .inl (cA 0, 12, .inl mf28)), (m52, .inl (cA 0, 20, .inl f129)), (m53, .inl (cA 0, 20, .inl f130)), (m55, .inl (cA 0, 10, .inl f141)), (m56, .inl (cA 0, 12, .inl f159)), (m57, .inl (cA 0, 12, .inl f161)), (m58, .inl (cA 0, 12, .inl ((upd f155 (2 : Int32).toNatClampNeg 0)))), (m59, .inl (cA 0, 12, .inl f156)), (m60, .inl (cA 0, 2, .inl mf60)), (m61, .inl (cA 0, 2, .inl mf61)), (m62, .inl (cA 0, 2, .inl mf62))] := hD
  generalize (upd f155 (2 : Int32).toNatClampNeg 0) = f162 at hP hD
  refine lv_aload_n hx hb dX8_atFirst_116 rfl (lv_at hl 1 rfl) ?_
  refine va_get (D := G) (ci := 8) (v := .ref m59) (C := RX8) (T := TX8) (N := 91) hx hb hT ku_8 hown hK hP 0 rfl rfl 59 (by decide) (hT _ kw_10_20) (fun _ h9 => h9) (fh_at hf 8 rfl) dX8_atFirst_117 ?_
  refine lv_bipush (v := 6) hx hb dX8_atFirst_120 (by decide) ?_
  refine lv_iload_n hx hb dX8_atFirst_122 rfl (lv_at hl 2 rfl) ?_
  refine lv_imul hx hb dX8_atFirst_123 ?_
  refine tq_i (w := 0) (by decide) ?_
  refine lv_iload_n hx hb dX8_atFirst_124 rfl (lv_at hl 0 rfl) ?_
  refine lv_iadd hx hb dX8_atFirst_125 ?_
  refine tq_i (w := 2) (by decide) ?_
  refine lv_iconst (v := 0) hx hb dX8_atFirst_126 (by decide) ?_
  refine va_iast (i := 2) hx hb hK hP hD hS 9 0 rfl rfl (tq_in (by decide)) dX8_atFirst_127 (fun H locs hP hD hS => ?_)
  have hP : va_P G vwCl [(h0, .inr (8, fs)), (m26, .inl (cA 0, 12, .inl mf26)), (m28, .inl (cA 0, 12, .inl mf28)), (m52, .inl (cA 0, 20, .inl f129)), (m53, .inl (cA 0, 20, .inl f130)), (m55, .inl (cA 0, 10, .inl f141)), (m56, .inl (cA 0, 12, .inl f159)), (m57, .inl (cA 0, 12, .inl f161)), (m58, .inl (cA 0, 12, .inl f162)), (m59, .inl (cA 0, 12, .inl ((upd f156 (2 : Int32).toNatClampNeg 0)))), (m60, .inl (cA 0, 2, .inl mf60)), (m61, .inl (cA 0, 2, .inl mf61)), (m62, .inl (cA 0, 2, .inl mf62))] H := hP
  have hD : va_D A [(h0, .inr (8, fs)), (m26, .inl (cA 0, 12, .inl mf26)), (m28, .inl (cA 0, 12, .inl mf28)), (m52, .inl (cA 0, 20, .inl f129)), (m53, .inl (cA 0, 20, .inl f130)), (m55, .inl (cA 0, 10, .inl f141)), (m56, .inl (cA 0, 12, .inl f159)), (m57, .inl (cA 0, 12, .inl f161)), (m58, .inl (cA 0, 12, .inl f162)), (m59, .inl (cA 0, 12, .inl ((upd f156 (2 : Int32).toNatClampNeg 0)))), (m60, .inl (cA 0, 2, .inl mf60)), (m61, .inl (cA 0, 2, .inl mf61)), (m62, .inl (cA 0, 2, .inl mf62))] := hD
  generalize (upd f156 (2 : Int32).toNatClampNeg 0) = f163 at hP hD
  refine lv_iinc (v := 3) (lv' := [(2, .int 3), (0, .ref h0), (1, .int 0)]) hx hb dX8_atFirst_128 hl (k := 0) rfl (by decide) (by decide) rfl (fun ls hl => ?_)
  refine lv_goto (tgt := 64) hx hb dX8_atFirst_131 (by decide) ?_
  refine lv_iload_n hx hb dX8_atFirst_64 rfl (lv_at hl 0 rfl) ?_
  refine lv_bipush (v := 6) hx hb dX8_atFirst_65 (by decide) ?_
  refine lv_icmp_ge (tgt := 134) hx hb dX8_atFirst_67 (by decide) (fun c164 => absurd c164 (by decide)) (fun c164 => ?_)
  refine lv_aload_n hx hb dX8_atFirst_70 rfl (lv_at hl 1 rfl) ?_
  refine va_get (D := G) (ci := 8) (v := .ref m56) (C := RX8) (T := TX8) (N := 91) hx hb hT ku_8 hown hK hP 0 rfl rfl 56 (by decide) (hT _ kw_10_17) (fun _ h9 => h9) (fh_at hf 5 rfl) dX8_atFirst_71 ?_
  refine lv_bipush (v := 6) hx hb dX8_atFirst_74 (by decide) ?_
  refine lv_iload_n hx hb dX8_atFirst_76 rfl (lv_at hl 2 rfl) ?_
  refine lv_imul hx hb dX8_atFirst_77 ?_
  refine tq_i (w := 0) (by decide) ?_
  refine lv_iload_n hx hb dX8_atFirst_78 rfl (lv_at hl 0 rfl) ?_
  refine lv_iadd hx hb dX8_atFirst_79 ?_
  refine tq_i (w := 3) (by decide) ?_
  refine lv_aload_n hx hb dX8_atFirst_80 rfl (lv_at hl 1 rfl) ?_
  refine va_get (D := G) (ci := 8) (v := .ref m26) (C := RX8) (T := TX8) (N := 91) hx hb hT ku_8 hown hK hP 0 rfl rfl 26 (by decide) (hT _ kw_9_18) (fun _ h9 => h9) (fh_at hf 0 rfl) dX8_atFirst_81 ?_
  refine lv_iload_n hx hb dX8_atFirst_84 rfl (lv_at hl 0 rfl) ?_
  refine va_iald (i := 3) hx hb hK hP 1 0 rfl rfl (tq_in (by decide)) dX8_atFirst_85 ?_
  refine lv_topi (fun x165 ex165 => ?_)
  refine va_iast (i := 3) hx hb hK hP hD hS 6 0 rfl rfl (tq_in (by decide)) dX8_atFirst_86 (fun H locs hP hD hS => ?_)
  have hP : va_P G vwCl [(h0, .inr (8, fs)), (m26, .inl (cA 0, 12, .inl mf26)), (m28, .inl (cA 0, 12, .inl mf28)), (m52, .inl (cA 0, 20, .inl f129)), (m53, .inl (cA 0, 20, .inl f130)), (m55, .inl (cA 0, 10, .inl f141)), (m56, .inl (cA 0, 12, .inl ((upd f159 (3 : Int32).toNatClampNeg x165)))), (m57, .inl (cA 0, 12, .inl f161)), (m58, .inl (cA 0, 12, .inl f162)), (m59, .inl (cA 0, 12, .inl f163)), (m60, .inl (cA 0, 2, .inl mf60)), (m61, .inl (cA 0, 2, .inl mf61)), (m62, .inl (cA 0, 2, .inl mf62))] H := hP
  have hD : va_D A [(h0, .inr (8, fs)), (m26, .inl (cA 0, 12, .inl mf26)), (m28, .inl (cA 0, 12, .inl mf28)), (m52, .inl (cA 0, 20, .inl f129)), (m53, .inl (cA 0, 20, .inl f130)), (m55, .inl (cA 0, 10, .inl f141)), (m56, .inl (cA 0, 12, .inl ((upd f159 (3 : Int32).toNatClampNeg x165)))), (m57, .inl (cA 0, 12, .inl f161)), (m58, .inl (cA 0, 12, .inl f162)), (m59, .inl (cA 0, 12, .inl f163)), (m60, .inl (cA 0, 2, .inl mf60)), (m61, .inl (cA 0, 2, .inl mf61)), (m62, .inl (cA 0, 2, .inl mf62))] := hD
  generalize (upd f159 (3 : Int32).toNatClampNeg x165) = f166 at hP hD
  refine lv_aload_n hx hb dX8_atFirst_87 rfl (lv_at hl 1 rfl) ?_
  refine va_get (D := G) (ci := 8) (v := .ref m57) (C := RX8) (T := TX8) (N := 91) hx hb hT ku_8 hown hK hP 0 rfl rfl 57 (by decide) (hT _ kw_10_18) (fun _ h9 => h9) (fh_at hf 6 rfl) dX8_atFirst_88 ?_
  refine lv_bipush (v := 6) hx hb dX8_atFirst_91 (by decide) ?_
  refine lv_iload_n hx hb dX8_atFirst_93 rfl (lv_at hl 2 rfl) ?_
  refine lv_imul hx hb dX8_atFirst_94 ?_
  refine tq_i (w := 0) (by decide) ?_
  refine lv_iload_n hx hb dX8_atFirst_95 rfl (lv_at hl 0 rfl) ?_
  refine lv_iadd hx hb dX8_atFirst_96 ?_
  refine tq_i (w := 3) (by decide) ?_
  refine lv_aload_n hx hb dX8_atFirst_97 rfl (lv_at hl 1 rfl) ?_
  refine va_get (D := G) (ci := 8) (v := .ref m28) (C := RX8) (T := TX8) (N := 91) hx hb hT ku_8 hown hK hP 0 rfl rfl 28 (by decide) (hT _ kw_9_20) (fun _ h9 => h9) (fh_at hf 1 rfl) dX8_atFirst_98 ?_
  refine lv_iload_n hx hb dX8_atFirst_101 rfl (lv_at hl 0 rfl) ?_
  refine va_iald (i := 3) hx hb hK hP 2 0 rfl rfl (tq_in (by decide)) dX8_atFirst_102 ?_
  refine lv_topi (fun x167 ex167 => ?_)
  refine va_iast (i := 3) hx hb hK hP hD hS 7 0 rfl rfl (tq_in (by decide)) dX8_atFirst_103 (fun H locs hP hD hS => ?_)
  have hP : va_P G vwCl [(h0, .inr (8, fs)), (m26, .inl (cA 0, 12, .inl mf26)), (m28, .inl (cA 0, 12, .inl mf28)), (m52, .inl (cA 0, 20, .inl f129)), (m53, .inl (cA 0, 20, .inl f130)), (m55, .inl (cA 0, 10, .inl f141)), (m56, .inl (cA 0, 12, .inl f166)), (m57, .inl (cA 0, 12, .inl ((upd f161 (3 : Int32).toNatClampNeg x167)))), (m58, .inl (cA 0, 12, .inl f162)), (m59, .inl (cA 0, 12, .inl f163)), (m60, .inl (cA 0, 2, .inl mf60)), (m61, .inl (cA 0, 2, .inl mf61)), (m62, .inl (cA 0, 2, .inl mf62))] H := hP
  have hD : va_D A [(h0, .inr (8, fs)), (m26, .inl (cA 0, 12, .inl mf26)), (m28, .inl (cA 0, 12, .inl mf28)), (m52, .inl (cA 0, 20, .inl f129)), (m53, .inl (cA 0, 20, .inl f130)), (m55, .inl (cA 0, 10, .inl f141)), (m56, .inl (cA 0, 12, .inl f166)), (m57, .inl (cA 0, 12, .inl ((upd f161 (3 : Int32).toNatClampNeg x167)))), (m58, .inl (cA 0, 12, .inl f162)), (m59, .inl (cA 0, 12, .inl f163)), (m60, .inl (cA 0, 2, .inl mf60)), (m61, .inl (cA 0, 2, .inl mf61)), (m62, .inl (cA 0, 2, .inl mf62))] := hD
  generalize (upd f161 (3 : Int32).toNatClampNeg x167) = f168 at hP hD
  refine lv_aload_n hx hb dX8_atFirst_104 rfl (lv_at hl 1 rfl) ?_
  refine va_get (D := G) (ci := 8) (v := .ref m58) (C := RX8) (T := TX8) (N := 91) hx hb hT ku_8 hown hK hP 0 rfl rfl 58 (by decide) (hT _ kw_10_19) (fun _ h9 => h9) (fh_at hf 7 rfl) dX8_atFirst_105 ?_
  refine lv_bipush (v := 6) hx hb dX8_atFirst_108 (by decide) ?_
  refine lv_iload_n hx hb dX8_atFirst_110 rfl (lv_at hl 2 rfl) ?_
  refine lv_imul hx hb dX8_atFirst_111 ?_
  refine tq_i (w := 0) (by decide) ?_
  refine lv_iload_n hx hb dX8_atFirst_112 rfl (lv_at hl 0 rfl) ?_
  refine lv_iadd hx hb dX8_atFirst_113 ?_
  refine tq_i (w := 3) (by decide) ?_
  refine lv_iconst (v := 0) hx hb dX8_atFirst_114 (by decide) ?_
  refine va_iast (i := 3) hx hb hK hP hD hS 8 0 rfl rfl (tq_in (by decide)) dX8_atFirst_115 (fun H locs hP hD hS => ?_)
  have hP : va_P G vwCl [(h0, .inr (8, fs)), (m26, .inl (cA 0, 12, .inl mf26)), (m28, .inl (cA 0, 12, .inl mf28)), (m52, .inl (cA 0, 20, .inl f129)), (m53, .inl (cA 0, 20, .inl f130)), (m55, .inl (cA 0, 10, .inl f141)), (m56, .inl (cA 0, 12, .inl f166)), (m57, .inl (cA 0, 12, .inl f168)), (m58, .inl (cA 0, 12, .inl ((upd f162 (3 : Int32).toNatClampNeg 0)))), (m59, .inl (cA 0, 12, .inl f163)), (m60, .inl (cA 0, 2, .inl mf60)), (m61, .inl (cA 0, 2, .inl mf61)), (m62, .inl (cA 0, 2, .inl mf62))] H := hP
  have hD : va_D A [(h0, .inr (8, fs)), (m26, .inl (cA 0, 12, .inl mf26)), (m28, .inl (cA 0, 12, .inl mf28)), (m52, .inl (cA 0, 20, .inl f129)), (m53, .inl (cA 0, 20, .inl f130)), (m55, .inl (cA 0, 10, .inl f141)), (m56, .inl (cA 0, 12, .inl f166)), (m57, .inl (cA 0, 12, .inl f168)), (m58, .inl (cA 0, 12, .inl ((upd f162 (3 : Int32).toNatClampNeg 0)))), (m59, .inl (cA 0, 12, .inl f163)), (m60, .inl (cA 0, 2, .inl mf60)), (m61, .inl (cA 0, 2, .inl mf61)), (m62, .inl (cA 0, 2, .inl mf62))] := hD
  generalize (upd f162 (3 : Int32).toNatClampNeg 0) = f169 at hP hD
  refine lv_aload_n hx hb dX8_atFirst_116 rfl (lv_at hl 1 rfl) ?_
  refine va_get (D := G) (ci := 8) (v := .ref m59) (C := RX8) (T := TX8) (N := 91) hx hb hT ku_8 hown hK hP 0 rfl rfl 59 (by decide) (hT _ kw_10_20) (fun _ h9 => h9) (fh_at hf 8 rfl) dX8_atFirst_117 ?_
  refine lv_bipush (v := 6) hx hb dX8_atFirst_120 (by decide) ?_
  refine lv_iload_n hx hb dX8_atFirst_122 rfl (lv_at hl 2 rfl) ?_
  refine lv_imul hx hb dX8_atFirst_123 ?_
  refine tq_i (w := 0) (by decide) ?_
  refine lv_iload_n hx hb dX8_atFirst_124 rfl (lv_at hl 0 rfl) ?_
  refine lv_iadd hx hb dX8_atFirst_125 ?_
  refine tq_i (w := 3) (by decide) ?_
  refine lv_iconst (v := 0) hx hb dX8_atFirst_126 (by decide) ?_
  refine va_iast (i := 3) hx hb hK hP hD hS 9 0 rfl rfl (tq_in (by decide)) dX8_atFirst_127 (fun H locs hP hD hS => ?_)
  have hP : va_P G vwCl [(h0, .inr (8, fs)), (m26, .inl (cA 0, 12, .inl mf26)), (m28, .inl (cA 0, 12, .inl mf28)), (m52, .inl (cA 0, 20, .inl f129)), (m53, .inl (cA 0, 20, .inl f130)), (m55, .inl (cA 0, 10, .inl f141)), (m56, .inl (cA 0, 12, .inl f166)), (m57, .inl (cA 0, 12, .inl f168)), (m58, .inl (cA 0, 12, .inl f169)), (m59, .inl (cA 0, 12, .inl ((upd f163 (3 : Int32).toNatClampNeg 0)))), (m60, .inl (cA 0, 2, .inl mf60)), (m61, .inl (cA 0, 2, .inl mf61)), (m62, .inl (cA 0, 2, .inl mf62))] H := hP
  have hD : va_D A [(h0, .inr (8, fs)), (m26, .inl (cA 0, 12, .inl mf26)), (m28, .inl (cA 0, 12, .inl mf28)), (m52, .inl (cA 0, 20, .inl f129)), (m53, .inl (cA 0, 20, .inl f130)), (m55, .inl (cA 0, 10, .inl f141)), (m56, .inl (cA 0, 12, .inl f166)), (m57, .inl (cA 0, 12, .inl f168)), (m58, .inl (cA 0, 12, .inl f169)), (m59, .inl (cA 0, 12, .inl ((upd f163 (3 : Int32).toNatClampNeg 0)))), (m60, .inl (cA 0, 2, .inl mf60)), (m61, .inl (cA 0, 2, .inl mf61)), (m62, .inl (cA 0, 2, .inl mf62))] := hD
  generalize (upd f163 (3 : Int32).toNatClampNeg 0) = f170 at hP hD
  refine lv_iinc (v := 4) (lv' := [(2, .int 4), (0, .ref h0), (1, .int 0)]) hx hb dX8_atFirst_128 hl (k := 0) rfl (by decide) (by decide) rfl (fun ls hl => ?_)
  refine lv_goto (tgt := 64) hx hb dX8_atFirst_131 (by decide) ?_
  refine lv_iload_n hx hb dX8_atFirst_64 rfl (lv_at hl 0 rfl) ?_
  refine lv_bipush (v := 6) hx hb dX8_atFirst_65 (by decide) ?_
  refine lv_icmp_ge (tgt := 134) hx hb dX8_atFirst_67 (by decide) (fun c171 => absurd c171 (by decide)) (fun c171 => ?_)
  refine lv_aload_n hx hb dX8_atFirst_70 rfl (lv_at hl 1 rfl) ?_
  refine va_get (D := G) (ci := 8) (v := .ref m56) (C := RX8) (T := TX8) (N := 91) hx hb hT ku_8 hown hK hP 0 rfl rfl 56 (by decide) (hT _ kw_10_17) (fun _ h9 => h9) (fh_at hf 5 rfl) dX8_atFirst_71 ?_
  refine lv_bipush (v := 6) hx hb dX8_atFirst_74 (by decide) ?_
  refine lv_iload_n hx hb dX8_atFirst_76 rfl (lv_at hl 2 rfl) ?_
  refine lv_imul hx hb dX8_atFirst_77 ?_
  refine tq_i (w := 0) (by decide) ?_
  refine lv_iload_n hx hb dX8_atFirst_78 rfl (lv_at hl 0 rfl) ?_
  refine lv_iadd hx hb dX8_atFirst_79 ?_
  refine tq_i (w := 4) (by decide) ?_
  refine lv_aload_n hx hb dX8_atFirst_80 rfl (lv_at hl 1 rfl) ?_
  refine va_get (D := G) (ci := 8) (v := .ref m26) (C := RX8) (T := TX8) (N := 91) hx hb hT ku_8 hown hK hP 0 rfl rfl 26 (by decide) (hT _ kw_9_18) (fun _ h9 => h9) (fh_at hf 0 rfl) dX8_atFirst_81 ?_
  refine lv_iload_n hx hb dX8_atFirst_84 rfl (lv_at hl 0 rfl) ?_
  refine va_iald (i := 4) hx hb hK hP 1 0 rfl rfl (tq_in (by decide)) dX8_atFirst_85 ?_
  refine lv_topi (fun x172 ex172 => ?_)
  refine va_iast (i := 4) hx hb hK hP hD hS 6 0 rfl rfl (tq_in (by decide)) dX8_atFirst_86 (fun H locs hP hD hS => ?_)
  have hP : va_P G vwCl [(h0, .inr (8, fs)), (m26, .inl (cA 0, 12, .inl mf26)), (m28, .inl (cA 0, 12, .inl mf28)), (m52, .inl (cA 0, 20, .inl f129)), (m53, .inl (cA 0, 20, .inl f130)), (m55, .inl (cA 0, 10, .inl f141)), (m56, .inl (cA 0, 12, .inl ((upd f166 (4 : Int32).toNatClampNeg x172)))), (m57, .inl (cA 0, 12, .inl f168)), (m58, .inl (cA 0, 12, .inl f169)), (m59, .inl (cA 0, 12, .inl f170)), (m60, .inl (cA 0, 2, .inl mf60)), (m61, .inl (cA 0, 2, .inl mf61)), (m62, .inl (cA 0, 2, .inl mf62))] H := hP
  have hD : va_D A [(h0, .inr (8, fs)), (m26, .inl (cA 0, 12, .inl mf26)), (m28, .inl (cA 0, 12, .inl mf28)), (m52, .inl (cA 0, 20, .inl f129)), (m53, .inl (cA 0, 20, .inl f130)), (m55, .inl (cA 0, 10, .inl f141)), (m56, .inl (cA 0, 12, .inl ((upd f166 (4 : Int32).toNatClampNeg x172)))), (m57, .inl (cA 0, 12, .inl f168)), (m58, .inl (cA 0, 12, .inl f169)), (m59, .inl (cA 0, 12, .inl f170)), (m60, .inl (cA 0, 2, .inl mf60)), (m61, .inl (cA 0, 2, .inl mf61)), (m62, .inl (cA 0, 2, .inl mf62))] := hD
  generalize (upd f166 (4 : Int32).toNatClampNeg x172) = f173 at hP hD
  refine lv_aload_n hx hb dX8_atFirst_87 rfl (lv_at hl 1 rfl) ?_
  refine va_get (D := G) (ci := 8) (v := .ref m57) (C := RX8) (T := TX8) (N := 91) hx hb hT ku_8 hown hK hP 0 rfl rfl 57 (by decide) (hT _ kw_10_18) (fun _ h9 => h9) (fh_at hf 6 rfl) dX8_atFirst_88 ?_
  refine lv_bipush (v := 6) hx hb dX8_atFirst_91 (by decide) ?_
  refine lv_iload_n hx hb dX8_atFirst_93 rfl (lv_at hl 2 rfl) ?_
  refine lv_imul hx hb dX8_atFirst_94 ?_
  refine tq_i (w := 0) (by decide) ?_
  refine lv_iload_n hx hb dX8_atFirst_95 rfl (lv_at hl 0 rfl) ?_
  refine lv_iadd hx hb dX8_atFirst_96 ?_
  refine tq_i (w := 4) (by decide) ?_
  refine lv_aload_n hx hb dX8_atFirst_97 rfl (lv_at hl 1 rfl) ?_
  refine va_get (D := G) (ci := 8) (v := .ref m28) (C := RX8) (T := TX8) (N := 91) hx hb hT ku_8 hown hK hP 0 rfl rfl 28 (by decide) (hT _ kw_9_20) (fun _ h9 => h9) (fh_at hf 1 rfl) dX8_atFirst_98 ?_
  refine lv_iload_n hx hb dX8_atFirst_101 rfl (lv_at hl 0 rfl) ?_
  refine va_iald (i := 4) hx hb hK hP 2 0 rfl rfl (tq_in (by decide)) dX8_atFirst_102 ?_
  refine lv_topi (fun x174 ex174 => ?_)
  refine va_iast (i := 4) hx hb hK hP hD hS 7 0 rfl rfl (tq_in (by decide)) dX8_atFirst_103 (fun H locs hP hD hS => ?_)
  have hP : va_P G vwCl [(h0, .inr (8, fs)), (m26, .inl (cA 0, 12, .inl mf26)), (m28, .inl (cA 0, 12, .inl mf28)), (m52, .inl (cA 0, 20, .inl f129)), (m53, .inl (cA 0, 20, .inl f130)), (m55, .inl (cA 0, 10, .inl f141)), (m56, .inl (cA 0, 12, .inl f173)), (m57, .inl (cA 0, 12, .inl ((upd f168 (4 : Int32).toNatClampNeg x174)))), (m58, .inl (cA 0, 12, .inl f169)), (m59, .inl (cA 0, 12, .inl f170)), (m60, .inl (cA 0, 2, .inl mf60)), (m61, .inl (cA 0, 2, .inl mf61)), (m62, .inl (cA 0, 2, .inl mf62))] H := hP
  have hD : va_D A [(h0, .inr (8, fs)), (m26, .inl (cA 0, 12, .inl mf26)), (m28, .inl (cA 0, 12, .inl mf28)), (m52, .inl (cA 0, 20, .inl f129)), (m53, .inl (cA 0, 20, .inl f130)), (m55, .inl (cA 0, 10, .inl f141)), (m56, .inl (cA 0, 12, .inl f173)), (m57, .inl (cA 0, 12, .inl ((upd f168 (4 : Int32).toNatClampNeg x174)))), (m58, .inl (cA 0, 12, .inl f169)), (m59, .inl (cA 0, 12, .inl f170)), (m60, .inl (cA 0, 2, .inl mf60)), (m61, .inl (cA 0, 2, .inl mf61)), (m62, .inl (cA 0, 2, .inl mf62))] := hD
  generalize (upd f168 (4 : Int32).toNatClampNeg x174) = f175 at hP hD
  refine lv_aload_n hx hb dX8_atFirst_104 rfl (lv_at hl 1 rfl) ?_
  refine va_get (D := G) (ci := 8) (v := .ref m58) (C := RX8) (T := TX8) (N := 91) hx hb hT ku_8 hown hK hP 0 rfl rfl 58 (by decide) (hT _ kw_10_19) (fun _ h9 => h9) (fh_at hf 7 rfl) dX8_atFirst_105 ?_
  refine lv_bipush (v := 6) hx hb dX8_atFirst_108 (by decide) ?_
  refine lv_iload_n hx hb dX8_atFirst_110 rfl (lv_at hl 2 rfl) ?_
  refine lv_imul hx hb dX8_atFirst_111 ?_
  refine tq_i (w := 0) (by decide) ?_
  refine lv_iload_n hx hb dX8_atFirst_112 rfl (lv_at hl 0 rfl) ?_
  refine lv_iadd hx hb dX8_atFirst_113 ?_
  refine tq_i (w := 4) (by decide) ?_
  refine lv_iconst (v := 0) hx hb dX8_atFirst_114 (by decide) ?_
  refine va_iast (i := 4) hx hb hK hP hD hS 8 0 rfl rfl (tq_in (by decide)) dX8_atFirst_115 (fun H locs hP hD hS => ?_)
  have hP : va_P G vwCl [(h0, .inr (8, fs)), (m26, .inl (cA 0, 12, .inl mf26)), (m28, .inl (cA 0, 12, .inl mf28)), (m52, .inl (cA 0, 20, .inl f129)), (m53, .inl (cA 0, 20, .inl f130)), (m55, .inl (cA 0, 10, .inl f141)), (m56, .inl (cA 0, 12, .inl f173)), (m57, .inl (cA 0, 12, .inl f175)), (m58, .inl (cA 0, 12, .inl ((upd f169 (4 : Int32).toNatClampNeg 0)))), (m59, .inl (cA 0, 12, .inl f170)), (m60, .inl (cA 0, 2, .inl mf60)), (m61, .inl (cA 0, 2, .inl mf61)), (m62, .inl (cA 0, 2, .inl mf62))] H := hP
  have hD : va_D A [(h0, .inr (8, fs)), (m26, .inl (cA 0, 12, .inl mf26)), (m28, .inl (cA 0, 12, .inl mf28)), (m52, .inl (cA 0, 20, .inl f129)), (m53, .inl (cA 0, 20, .inl f130)), (m55, .inl (cA 0, 10, .inl f141)), (m56, .inl (cA 0, 12, .inl f173)), (m57, .inl (cA 0, 12, .inl f175)), (m58, .inl (cA 0, 12, .inl ((upd f169 (4 : Int32).toNatClampNeg 0)))), (m59, .inl (cA 0, 12, .inl f170)), (m60, .inl (cA 0, 2, .inl mf60)), (m61, .inl (cA 0, 2, .inl mf61)), (m62, .inl (cA 0, 2, .inl mf62))] := hD
  generalize (upd f169 (4 : Int32).toNatClampNeg 0) = f176 at hP hD
  refine lv_aload_n hx hb dX8_atFirst_116 rfl (lv_at hl 1 rfl) ?_
  refine va_get (D := G) (ci := 8) (v := .ref m59) (C := RX8) (T := TX8) (N := 91) hx hb hT ku_8 hown hK hP 0 rfl rfl 59 (by decide) (hT _ kw_10_20) (fun _ h9 => h9) (fh_at hf 8 rfl) dX8_atFirst_117 ?_
  refine lv_bipush (v := 6) hx hb dX8_atFirst_120 (by decide) ?_
  refine lv_iload_n hx hb dX8_atFirst_122 rfl (lv_at hl 2 rfl) ?_
  refine lv_imul hx hb dX8_atFirst_123 ?_
  refine tq_i (w := 0) (by decide) ?_
  refine lv_iload_n hx hb dX8_atFirst_124 rfl (lv_at hl 0 rfl) ?_
  refine lv_iadd hx hb dX8_atFirst_125 ?_
  refine tq_i (w := 4) (by decide) ?_
  refine lv_iconst (v := 0) hx hb dX8_atFirst_126 (by decide) ?_
  refine va_iast (i := 4) hx hb hK hP hD hS 9 0 rfl rfl (tq_in (by decide)) dX8_atFirst_127 (fun H locs hP hD hS => ?_)
  have hP : va_P G vwCl [(h0, .inr (8, fs)), (m26, .inl (cA 0, 12, .inl mf26)), (m28, .inl (cA 0, 12, .inl mf28)), (m52, .inl (cA 0, 20, .inl f129)), (m53, .inl (cA 0, 20, .inl f130)), (m55, .inl (cA 0, 10, .inl f141)), (m56, .inl (cA 0, 12, .inl f173)), (m57, .inl (cA 0, 12, .inl f175)), (m58, .inl (cA 0, 12, .inl f176)), (m59, .inl (cA 0, 12, .inl ((upd f170 (4 : Int32).toNatClampNeg 0)))), (m60, .inl (cA 0, 2, .inl mf60)), (m61, .inl (cA 0, 2, .inl mf61)), (m62, .inl (cA 0, 2, .inl mf62))] H := hP
  have hD : va_D A [(h0, .inr (8, fs)), (m26, .inl (cA 0, 12, .inl mf26)), (m28, .inl (cA 0, 12, .inl mf28)), (m52, .inl (cA 0, 20, .inl f129)), (m53, .inl (cA 0, 20, .inl f130)), (m55, .inl (cA 0, 10, .inl f141)), (m56, .inl (cA 0, 12, .inl f173)), (m57, .inl (cA 0, 12, .inl f175)), (m58, .inl (cA 0, 12, .inl f176)), (m59, .inl (cA 0, 12, .inl ((upd f170 (4 : Int32).toNatClampNeg 0)))), (m60, .inl (cA 0, 2, .inl mf60)), (m61, .inl (cA 0, 2, .inl mf61)), (m62, .inl (cA 0, 2, .inl mf62))] := hD
  generalize (upd f170 (4 : Int32).toNatClampNeg 0) = f177 at hP hD
  refine lv_iinc (v := 5) (lv' := [(2, .int 5), (0, .ref h0), (1, .int 0)]) hx hb dX8_atFirst_128 hl (k := 0) rfl (by decide) (by decide) rfl (fun ls hl => ?_)
  refine lv_goto (tgt := 64) hx hb dX8_atFirst_131 (by decide) ?_
  refine lv_iload_n hx hb dX8_atFirst_64 rfl (lv_at hl 0 rfl) ?_
  refine lv_bipush (v := 6) hx hb dX8_atFirst_65 (by decide) ?_
  refine lv_icmp_ge (tgt := 134) hx hb dX8_atFirst_67 (by decide) (fun c178 => absurd c178 (by decide)) (fun c178 => ?_)
  refine lv_aload_n hx hb dX8_atFirst_70 rfl (lv_at hl 1 rfl) ?_
  refine va_get (D := G) (ci := 8) (v := .ref m56) (C := RX8) (T := TX8) (N := 91) hx hb hT ku_8 hown hK hP 0 rfl rfl 56 (by decide) (hT _ kw_10_17) (fun _ h9 => h9) (fh_at hf 5 rfl) dX8_atFirst_71 ?_
  refine lv_bipush (v := 6) hx hb dX8_atFirst_74 (by decide) ?_
  refine lv_iload_n hx hb dX8_atFirst_76 rfl (lv_at hl 2 rfl) ?_
  refine lv_imul hx hb dX8_atFirst_77 ?_
  refine tq_i (w := 0) (by decide) ?_
  refine lv_iload_n hx hb dX8_atFirst_78 rfl (lv_at hl 0 rfl) ?_
  refine lv_iadd hx hb dX8_atFirst_79 ?_
  refine tq_i (w := 5) (by decide) ?_
  refine lv_aload_n hx hb dX8_atFirst_80 rfl (lv_at hl 1 rfl) ?_
  refine va_get (D := G) (ci := 8) (v := .ref m26) (C := RX8) (T := TX8) (N := 91) hx hb hT ku_8 hown hK hP 0 rfl rfl 26 (by decide) (hT _ kw_9_18) (fun _ h9 => h9) (fh_at hf 0 rfl) dX8_atFirst_81 ?_
  refine lv_iload_n hx hb dX8_atFirst_84 rfl (lv_at hl 0 rfl) ?_
  refine va_iald (i := 5) hx hb hK hP 1 0 rfl rfl (tq_in (by decide)) dX8_atFirst_85 ?_
  refine lv_topi (fun x179 ex179 => ?_)
  refine va_iast (i := 5) hx hb hK hP hD hS 6 0 rfl rfl (tq_in (by decide)) dX8_atFirst_86 (fun H locs hP hD hS => ?_)
  have hP : va_P G vwCl [(h0, .inr (8, fs)), (m26, .inl (cA 0, 12, .inl mf26)), (m28, .inl (cA 0, 12, .inl mf28)), (m52, .inl (cA 0, 20, .inl f129)), (m53, .inl (cA 0, 20, .inl f130)), (m55, .inl (cA 0, 10, .inl f141)), (m56, .inl (cA 0, 12, .inl ((upd f173 (5 : Int32).toNatClampNeg x179)))), (m57, .inl (cA 0, 12, .inl f175)), (m58, .inl (cA 0, 12, .inl f176)), (m59, .inl (cA 0, 12, .inl f177)), (m60, .inl (cA 0, 2, .inl mf60)), (m61, .inl (cA 0, 2, .inl mf61)), (m62, .inl (cA 0, 2, .inl mf62))] H := hP
  have hD : va_D A [(h0, .inr (8, fs)), (m26, .inl (cA 0, 12, .inl mf26)), (m28, .inl (cA 0, 12, .inl mf28)), (m52, .inl (cA 0, 20, .inl f129)), (m53, .inl (cA 0, 20, .inl f130)), (m55, .inl (cA 0, 10, .inl f141)), (m56, .inl (cA 0, 12, .inl ((upd f173 (5 : Int32).toNatClampNeg x179)))), (m57, .inl (cA 0, 12, .inl f175)), (m58, .inl (cA 0, 12, .inl f176)), (m59, .inl (cA 0, 12, .inl f177)), (m60, .inl (cA 0, 2, .inl mf60)), (m61, .inl (cA 0, 2, .inl mf61)), (m62, .inl (cA 0, 2, .inl mf62))] := hD
  generalize (upd f173 (5 : Int32).toNatClampNeg x179) = f180 at hP hD
  refine lv_aload_n hx hb dX8_atFirst_87 rfl (lv_at hl 1 rfl) ?_
  refine va_get (D := G) (ci := 8) (v := .ref m57) (C := RX8) (T := TX8) (N := 91) hx hb hT ku_8 hown hK hP 0 rfl rfl 57 (by decide) (hT _ kw_10_18) (fun _ h9 => h9) (fh_at hf 6 rfl) dX8_atFirst_88 ?_
  refine lv_bipush (v := 6) hx hb dX8_atFirst_91 (by decide) ?_
  refine lv_iload_n hx hb dX8_atFirst_93 rfl (lv_at hl 2 rfl) ?_
  refine lv_imul hx hb dX8_atFirst_94 ?_
  refine tq_i (w := 0) (by decide) ?_
  refine lv_iload_n hx hb dX8_atFirst_95 rfl (lv_at hl 0 rfl) ?_
  refine lv_iadd hx hb dX8_atFirst_96 ?_
  refine tq_i (w := 5) (by decide) ?_
  refine lv_aload_n hx hb dX8_atFirst_97 rfl (lv_at hl 1 rfl) ?_
  refine va_get (D := G) (ci := 8) (v := .ref m28) (C := RX8) (T := TX8) (N := 91) hx hb hT ku_8 hown hK hP 0 rfl rfl 28 (by decide) (hT _ kw_9_20) (fun _ h9 => h9) (fh_at hf 1 rfl) dX8_atFirst_98 ?_
  refine lv_iload_n hx hb dX8_atFirst_101 rfl (lv_at hl 0 rfl) ?_
  refine va_iald (i := 5) hx hb hK hP 2 0 rfl rfl (tq_in (by decide)) dX8_atFirst_102 ?_
  refine lv_topi (fun x181 ex181 => ?_)
  refine va_iast (i := 5) hx hb hK hP hD hS 7 0 rfl rfl (tq_in (by decide)) dX8_atFirst_103 (fun H locs hP hD hS => ?_)
  have hP : va_P G vwCl [(h0, .inr (8, fs)), (m26, .inl (cA 0, 12, .inl mf26)), (m28, .inl (cA 0, 12, .inl mf28)), (m52, .inl (cA 0, 20, .inl f129)), (m53, .inl (cA 0, 20, .inl f130)), (m55, .inl (cA 0, 10, .inl f141)), (m56, .inl (cA 0, 12, .inl f180)), (m57, .inl (cA 0, 12, .inl ((upd f175 (5 : Int32).toNatClampNeg x181)))), (m58, .inl (cA 0, 12, .inl f176)), (m59, .inl (cA 0, 12, .inl f177)), (m60, .inl (cA 0, 2, .inl mf60)), (m61, .inl (cA 0, 2, .inl mf61)), (m62, .inl (cA 0, 2, .inl mf62))] H := hP
  have hD : va_D A [(h0, .inr (8, fs)), (m26, .inl (cA 0, 12, .inl mf26)), (m28, .inl (cA 0, 12, .inl mf28)), (m52, .inl (cA 0, 20, .inl f129)), (m53, .inl (cA 0, 20, .inl f130)), (m55, .inl (cA 0, 10, .inl f141)), (m56, .inl (cA 0, 12, .inl f180)), (m57, .inl (cA 0, 12, .inl ((upd f175 (5 : Int32).toNatClampNeg x181)))), (m58, .inl (cA 0, 12, .inl f176)), (m59, .inl (cA 0, 12, .inl f177)), (m60, .inl (cA 0, 2, .inl mf60)), (m61, .inl (cA 0, 2, .inl mf61)), (m62, .inl (cA 0, 2, .inl mf62))] := hD
  generalize (upd f175 (5 : Int32).toNatClampNeg x181) = f182 at hP hD
  refine lv_aload_n hx hb dX8_atFirst_104 rfl (lv_at hl 1 rfl) ?_
  refine va_get (D := G) (ci := 8) (v := .ref m58) (C := RX8) (T := TX8) (N := 91) hx hb hT ku_8 hown hK hP 0 rfl rfl 58 (by decide) (hT _ kw_10_19) (fun _ h9 => h9) (fh_at hf 7 rfl) dX8_atFirst_105 ?_
  refine lv_bipush (v := 6) hx hb dX8_atFirst_108 (by decide) ?_
  refine lv_iload_n hx hb dX8_atFirst_110 rfl (lv_at hl 2 rfl) ?_
  refine lv_imul hx hb dX8_atFirst_111 ?_
  refine tq_i (w := 0) (by decide) ?_
  refine lv_iload_n hx hb dX8_atFirst_112 rfl (lv_at hl 0 rfl) ?_
  refine lv_iadd hx hb dX8_atFirst_113 ?_
  refine tq_i (w := 5) (by decide) ?_
  refine lv_iconst (v := 0) hx hb dX8_atFirst_114 (by decide) ?_
  refine va_iast (i := 5) hx hb hK hP hD hS 8 0 rfl rfl (tq_in (by decide)) dX8_atFirst_115 (fun H locs hP hD hS => ?_)
  have hP : va_P G vwCl [(h0, .inr (8, fs)), (m26, .inl (cA 0, 12, .inl mf26)), (m28, .inl (cA 0, 12, .inl mf28)), (m52, .inl (cA 0, 20, .inl f129)), (m53, .inl (cA 0, 20, .inl f130)), (m55, .inl (cA 0, 10, .inl f141)), (m56, .inl (cA 0, 12, .inl f180)), (m57, .inl (cA 0, 12, .inl f182)), (m58, .inl (cA 0, 12, .inl ((upd f176 (5 : Int32).toNatClampNeg 0)))), (m59, .inl (cA 0, 12, .inl f177)), (m60, .inl (cA 0, 2, .inl mf60)), (m61, .inl (cA 0, 2, .inl mf61)), (m62, .inl (cA 0, 2, .inl mf62))] H := hP
  have hD : va_D A [(h0, .inr (8, fs)), (m26, .inl (cA 0, 12, .inl mf26)), (m28, .inl (cA 0, 12, .inl mf28)), (m52, .inl (cA 0, 20, .inl f129)), (m53, .inl (cA 0, 20, .inl f130)), (m55, .inl (cA 0, 10, .inl f141)), (m56, .inl (cA 0, 12, .inl f180)), (m57, .inl (cA 0, 12, .inl f182)), (m58, .inl (cA 0, 12, .inl ((upd f176 (5 : Int32).toNatClampNeg 0)))), (m59, .inl (cA 0, 12, .inl f177)), (m60, .inl (cA 0, 2, .inl mf60)), (m61, .inl (cA 0, 2, .inl mf61)), (m62, .inl (cA 0, 2, .inl mf62))] := hD
  generalize (upd f176 (5 : Int32).toNatClampNeg 0) = f183 at hP hD
  refine lv_aload_n hx hb dX8_atFirst_116 rfl (lv_at hl 1 rfl) ?_
  refine va_get (D := G) (ci := 8) (v := .ref m59) (C := RX8) (T := TX8) (N := 91) hx hb hT ku_8 hown hK hP 0 rfl rfl 59 (by decide) (hT _ kw_10_20) (fun _ h9 => h9) (fh_at hf 8 rfl) dX8_atFirst_117 ?_
  refine lv_bipush (v := 6) hx hb dX8_atFirst_120 (by decide) ?_
  refine lv_iload_n hx hb dX8_atFirst_122 rfl (lv_at hl 2 rfl) ?_
  refine lv_imul hx hb dX8_atFirst_123 ?_
  refine tq_i (w := 0) (by decide) ?_
  refine lv_iload_n hx hb dX8_atFirst_124 rfl (lv_at hl 0 rfl) ?_
  refine lv_iadd hx hb dX8_atFirst_125 ?_
  refine tq_i (w := 5) (by decide) ?_
  refine lv_iconst (v := 0) hx hb dX8_atFirst_126 (by decide) ?_
  refine va_iast (i := 5) hx hb hK hP hD hS 9 0 rfl rfl (tq_in (by decide)) dX8_atFirst_127 (fun H locs hP hD hS => ?_)
  have hP : va_P G vwCl [(h0, .inr (8, fs)), (m26, .inl (cA 0, 12, .inl mf26)), (m28, .inl (cA 0, 12, .inl mf28)), (m52, .inl (cA 0, 20, .inl f129)), (m53, .inl (cA 0, 20, .inl f130)), (m55, .inl (cA 0, 10, .inl f141)), (m56, .inl (cA 0, 12, .inl f180)), (m57, .inl (cA 0, 12, .inl f182)), (m58, .inl (cA 0, 12, .inl f183)), (m59, .inl (cA 0, 12, .inl ((upd f177 (5 : Int32).toNatClampNeg 0)))), (m60, .inl (cA 0, 2, .inl mf60)), (m61, .inl (cA 0, 2, .inl mf61)), (m62, .inl (cA 0, 2, .inl mf62))] H := hP
  have hD : va_D A [(h0, .inr (8, fs)), (m26, .inl (cA 0, 12, .inl mf26)), (m28, .inl (cA 0, 12, .inl mf28)), (m52, .inl (cA 0, 20, .inl f129)), (m53, .inl (cA 0, 20, .inl f130)), (m55, .inl (cA 0, 10, .inl f141)), (m56, .inl (cA 0, 12, .inl f180)), (m57, .inl (cA 0, 12, .inl f182)), (m58, .inl (cA 0, 12, .inl f183)), (m59, .inl (cA 0, 12, .inl ((upd f177 (5 : Int32).toNatClampNeg 0)))), (m60, .inl (cA 0, 2, .inl mf60)), (m61, .inl (cA 0, 2, .inl mf61)), (m62, .inl (cA 0, 2, .inl mf62))] := hD
  generalize (upd f177 (5 : Int32).toNatClampNeg 0) = f184 at hP hD
  refine lv_iinc (v := 6) (lv' := [(2, .int 6), (0, .ref h0), (1, .int 0)]) hx hb dX8_atFirst_128 hl (k := 0) rfl (by decide) (by decide) rfl (fun ls hl => ?_)
  refine lv_goto (tgt := 64) hx hb dX8_atFirst_131 (by decide) ?_
  refine lv_iload_n hx hb dX8_atFirst_64 rfl (lv_at hl 0 rfl) ?_
  refine lv_bipush (v := 6) hx hb dX8_atFirst_65 (by decide) ?_
  refine lv_icmp_ge (tgt := 134) hx hb dX8_atFirst_67 (by decide) (fun c185 => ?_) (fun c185 => absurd (by decide) c185)
  refine lv_aload_n hx hb dX8_atFirst_134 rfl (lv_at hl 1 rfl) ?_
  refine va_get (D := G) (ci := 8) (v := .ref m60) (C := RX8) (T := TX8) (N := 91) hx hb hT ku_8 hown hK hP 0 rfl rfl 60 (by decide) (hT _ kw_10_21) (fun _ h9 => h9) (fh_at hf 9 rfl) dX8_atFirst_135 ?_
  refine lv_iload_n hx hb dX8_atFirst_138 rfl (lv_at hl 2 rfl) ?_
  refine lv_iconst (v := 0) hx hb dX8_atFirst_139 (by decide) ?_
  refine va_iast (i := 0) hx hb hK hP hD hS 10 0 rfl rfl (tq_in (by decide)) dX8_atFirst_140 (fun H locs hP hD hS => ?_)
  have hP : va_P G vwCl [(h0, .inr (8, fs)), (m26, .inl (cA 0, 12, .inl mf26)), (m28, .inl (cA 0, 12, .inl mf28)), (m52, .inl (cA 0, 20, .inl f129)), (m53, .inl (cA 0, 20, .inl f130)), (m55, .inl (cA 0, 10, .inl f141)), (m56, .inl (cA 0, 12, .inl f180)), (m57, .inl (cA 0, 12, .inl f182)), (m58, .inl (cA 0, 12, .inl f183)), (m59, .inl (cA 0, 12, .inl f184)), (m60, .inl (cA 0, 2, .inl ((upd mf60 (0 : Int32).toNatClampNeg 0)))), (m61, .inl (cA 0, 2, .inl mf61)), (m62, .inl (cA 0, 2, .inl mf62))] H := hP
  have hD : va_D A [(h0, .inr (8, fs)), (m26, .inl (cA 0, 12, .inl mf26)), (m28, .inl (cA 0, 12, .inl mf28)), (m52, .inl (cA 0, 20, .inl f129)), (m53, .inl (cA 0, 20, .inl f130)), (m55, .inl (cA 0, 10, .inl f141)), (m56, .inl (cA 0, 12, .inl f180)), (m57, .inl (cA 0, 12, .inl f182)), (m58, .inl (cA 0, 12, .inl f183)), (m59, .inl (cA 0, 12, .inl f184)), (m60, .inl (cA 0, 2, .inl ((upd mf60 (0 : Int32).toNatClampNeg 0)))), (m61, .inl (cA 0, 2, .inl mf61)), (m62, .inl (cA 0, 2, .inl mf62))] := hD
  have hE187 : (upd mf60 (0 : Int32).toNatClampNeg 0) 0 = 0 := rfl
  generalize (upd mf60 (0 : Int32).toNatClampNeg 0) = f186 at hP hD hE187
  refine lv_aload_n hx hb dX8_atFirst_141 rfl (lv_at hl 1 rfl) ?_
  refine va_get (D := G) (ci := 8) (v := .ref m61) (C := RX8) (T := TX8) (N := 91) hx hb hT ku_8 hown hK hP 0 rfl rfl 61 (by decide) (hT _ kw_10_22) (fun _ h9 => h9) (fh_at hf 10 rfl) dX8_atFirst_142 ?_
  refine lv_iload_n hx hb dX8_atFirst_145 rfl (lv_at hl 2 rfl) ?_
  refine lv_iconst (v := 0) hx hb dX8_atFirst_146 (by decide) ?_
  refine va_iast (i := 0) hx hb hK hP hD hS 11 0 rfl rfl (tq_in (by decide)) dX8_atFirst_147 (fun H locs hP hD hS => ?_)
  have hP : va_P G vwCl [(h0, .inr (8, fs)), (m26, .inl (cA 0, 12, .inl mf26)), (m28, .inl (cA 0, 12, .inl mf28)), (m52, .inl (cA 0, 20, .inl f129)), (m53, .inl (cA 0, 20, .inl f130)), (m55, .inl (cA 0, 10, .inl f141)), (m56, .inl (cA 0, 12, .inl f180)), (m57, .inl (cA 0, 12, .inl f182)), (m58, .inl (cA 0, 12, .inl f183)), (m59, .inl (cA 0, 12, .inl f184)), (m60, .inl (cA 0, 2, .inl f186)), (m61, .inl (cA 0, 2, .inl ((upd mf61 (0 : Int32).toNatClampNeg 0)))), (m62, .inl (cA 0, 2, .inl mf62))] H := hP
  have hD : va_D A [(h0, .inr (8, fs)), (m26, .inl (cA 0, 12, .inl mf26)), (m28, .inl (cA 0, 12, .inl mf28)), (m52, .inl (cA 0, 20, .inl f129)), (m53, .inl (cA 0, 20, .inl f130)), (m55, .inl (cA 0, 10, .inl f141)), (m56, .inl (cA 0, 12, .inl f180)), (m57, .inl (cA 0, 12, .inl f182)), (m58, .inl (cA 0, 12, .inl f183)), (m59, .inl (cA 0, 12, .inl f184)), (m60, .inl (cA 0, 2, .inl f186)), (m61, .inl (cA 0, 2, .inl ((upd mf61 (0 : Int32).toNatClampNeg 0)))), (m62, .inl (cA 0, 2, .inl mf62))] := hD
  have hE189 : (upd mf61 (0 : Int32).toNatClampNeg 0) 0 = 0 := rfl
  generalize (upd mf61 (0 : Int32).toNatClampNeg 0) = f188 at hP hD hE189
  refine lv_aload_n hx hb dX8_atFirst_148 rfl (lv_at hl 1 rfl) ?_
  refine va_get (D := G) (ci := 8) (v := .ref m62) (C := RX8) (T := TX8) (N := 91) hx hb hT ku_8 hown hK hP 0 rfl rfl 62 (by decide) (hT _ kw_10_23) (fun _ h9 => h9) (fh_at hf 11 rfl) dX8_atFirst_149 ?_
  refine lv_iload_n hx hb dX8_atFirst_152 rfl (lv_at hl 2 rfl) ?_
  refine lv_iconst (v := 0) hx hb dX8_atFirst_153 (by decide) ?_
  refine va_iast (i := 0) hx hb hK hP hD hS 12 0 rfl rfl (tq_in (by decide)) dX8_atFirst_154 (fun H locs hP hD hS => ?_)
  have hP : va_P G vwCl [(h0, .inr (8, fs)), (m26, .inl (cA 0, 12, .inl mf26)), (m28, .inl (cA 0, 12, .inl mf28)), (m52, .inl (cA 0, 20, .inl f129)), (m53, .inl (cA 0, 20, .inl f130)), (m55, .inl (cA 0, 10, .inl f141)), (m56, .inl (cA 0, 12, .inl f180)), (m57, .inl (cA 0, 12, .inl f182)), (m58, .inl (cA 0, 12, .inl f183)), (m59, .inl (cA 0, 12, .inl f184)), (m60, .inl (cA 0, 2, .inl f186)), (m61, .inl (cA 0, 2, .inl f188)), (m62, .inl (cA 0, 2, .inl ((upd mf62 (0 : Int32).toNatClampNeg 0))))] H := hP
  have hD : va_D A [(h0, .inr (8, fs)), (m26, .inl (cA 0, 12, .inl mf26)), (m28, .inl (cA 0, 12, .inl mf28)), (m52, .inl (cA 0, 20, .inl f129)), (m53, .inl (cA 0, 20, .inl f130)), (m55, .inl (cA 0, 10, .inl f141)), (m56, .inl (cA 0, 12, .inl f180)), (m57, .inl (cA 0, 12, .inl f182)), (m58, .inl (cA 0, 12, .inl f183)), (m59, .inl (cA 0, 12, .inl f184)), (m60, .inl (cA 0, 2, .inl f186)), (m61, .inl (cA 0, 2, .inl f188)), (m62, .inl (cA 0, 2, .inl ((upd mf62 (0 : Int32).toNatClampNeg 0))))] := hD
  generalize (upd mf62 (0 : Int32).toNatClampNeg 0) = f190 at hP hD
  exact W.vret hx hb hr (fun t ht hW => ⟨⟨(f129, f130, f141, f180, f182, f183, f184, f186, f188, f190), rfl, ⟨hE187, hE189⟩, by rw [ht]; exact hP, hD⟩, hS.F ht⟩) hS.2.2 dX8_atFirst_155

set_option maxHeartbeats 4000000 in
set_option maxRecDepth 100000 in
theorem c_X8_begin (l : Launch) (G : va_G) (cA : Nat → ClassId) (sz : Nat) (h0 : Nat) (fs : List Value) (m22 : Nat) (m26 : Nat) (m28 : Nat) (m52 : Nat) (m53 : Nat) (m55 : Nat) (m56 : Nat) (m57 : Nat) (m58 : Nat) (m59 : Nat) (m60 : Nat) (m61 : Nat) (m62 : Nat) (m71 : Nat) (mf22 : Nat → Int32) (mf26 : Nat → Int32) (mf28 : Nat → Int32) (mf52 : Nat → Int32) (mf53 : Nat → Int32) (mf55 : Nat → Int32) (mf56 : Nat → Int32) (mf57 : Nat → Int32) (mf58 : Nat → Int32) (mf59 : Nat → Int32) (mf60 : Nat → Int32) (mf61 : Nat → Int32) (mf62 : Nat → Int32) (mf71 : Nat → Int32) (hf : fh fs 91 [(22, .ref m22), (26, .ref m26), (28, .ref m28), (52, .ref m52), (53, .ref m53), (55, .ref m55), (56, .ref m56), (57, .ref m57), (58, .ref m58), (59, .ref m59), (60, .ref m60), (61, .ref m61), (62, .ref m62), (71, .ref m71)]) (he22_0 : mf22 0 = 0) (he22_1 : mf22 1 = 0) (he22_2 : mf22 2 = 0) : Met l yX8_begin (.code yX8_begin cX8_begin 1 none :: T0) ({ frames := 1, cells := 0, slots := 0, locals := 22 }) (tqP G cA [.ref h0] [(h0, .inr (8, fs)), (m22, .inl (cA 0, 6, .inl mf22)), (m26, .inl (cA 0, 12, .inl mf26)), (m28, .inl (cA 0, 12, .inl mf28)), (m52, .inl (cA 0, 20, .inl mf52)), (m53, .inl (cA 0, 20, .inl mf53)), (m55, .inl (cA 0, 10, .inl mf55)), (m56, .inl (cA 0, 12, .inl mf56)), (m57, .inl (cA 0, 12, .inl mf57)), (m58, .inl (cA 0, 12, .inl mf58)), (m59, .inl (cA 0, 12, .inl mf59)), (m60, .inl (cA 0, 2, .inl mf60)), (m61, .inl (cA 0, 2, .inl mf61)), (m62, .inl (cA 0, 2, .inl mf62)), (m71, .inl (cA 0, 10, .inl mf71))] sz) (tqQv G cA (fun (u : List Value × (Nat → Int32) × (Nat → Int32) × (Nat → Int32) × (Nat → Int32) × (Nat → Int32) × (Nat → Int32) × (Nat → Int32) × (Nat → Int32) × (Nat → Int32) × (Nat → Int32) × (Nat → Int32)) => fo fs u.1 [84, 82, 79, 78, 70, 69, 68, 67, 66, 65, 64, 63] ∧ fh u.1 91 [(84, .int 0), (82, .int 0), (79, .int (-1)), (78, .int 0), (70, .int 0), (69, .int 0), (68, .int 0), (67, .int 0), (66, .int 0), (65, .int 0), (63, .long 0)] ∧ u.2.2.2.2.2.2.2.2.1 0 = 0 ∧ u.2.2.2.2.2.2.2.2.2.1 0 = 0) (fun (u : List Value × (Nat → Int32) × (Nat → Int32) × (Nat → Int32) × (Nat → Int32) × (Nat → Int32) × (Nat → Int32) × (Nat → Int32) × (Nat → Int32) × (Nat → Int32) × (Nat → Int32) × (Nat → Int32)) => [(h0, .inr (8, u.1)), (m22, .inl (cA 0, 6, .inl mf22)), (m26, .inl (cA 0, 12, .inl mf26)), (m28, .inl (cA 0, 12, .inl mf28)), (m52, .inl (cA 0, 20, .inl u.2.1)), (m53, .inl (cA 0, 20, .inl u.2.2.1)), (m55, .inl (cA 0, 10, .inl u.2.2.2.1)), (m56, .inl (cA 0, 12, .inl u.2.2.2.2.1)), (m57, .inl (cA 0, 12, .inl u.2.2.2.2.2.1)), (m58, .inl (cA 0, 12, .inl u.2.2.2.2.2.2.1)), (m59, .inl (cA 0, 12, .inl u.2.2.2.2.2.2.2.1)), (m60, .inl (cA 0, 2, .inl u.2.2.2.2.2.2.2.2.1)), (m61, .inl (cA 0, 2, .inl u.2.2.2.2.2.2.2.2.2.1)), (m62, .inl (cA 0, 2, .inl u.2.2.2.2.2.2.2.2.2.2.1)), (m71, .inl (cA 0, 10, .inl u.2.2.2.2.2.2.2.2.2.2.2))]) (va_A [(h0, .inr (8, fs)), (m22, .inl (cA 0, 6, .inl mf22)), (m26, .inl (cA 0, 12, .inl mf26)), (m28, .inl (cA 0, 12, .inl mf28)), (m52, .inl (cA 0, 20, .inl mf52)), (m53, .inl (cA 0, 20, .inl mf53)), (m55, .inl (cA 0, 10, .inl mf55)), (m56, .inl (cA 0, 12, .inl mf56)), (m57, .inl (cA 0, 12, .inl mf57)), (m58, .inl (cA 0, 12, .inl mf58)), (m59, .inl (cA 0, 12, .inl mf59)), (m60, .inl (cA 0, 2, .inl mf60)), (m61, .inl (cA 0, 2, .inl mf61)), (m62, .inl (cA 0, 2, .inl mf62)), (m71, .inl (cA 0, 10, .inl mf71))] sz)) 0 0 (va_A [(h0, .inr (8, fs)), (m22, .inl (cA 0, 6, .inl mf22)), (m26, .inl (cA 0, 12, .inl mf26)), (m28, .inl (cA 0, 12, .inl mf28)), (m52, .inl (cA 0, 20, .inl mf52)), (m53, .inl (cA 0, 20, .inl mf53)), (m55, .inl (cA 0, 10, .inl mf55)), (m56, .inl (cA 0, 12, .inl mf56)), (m57, .inl (cA 0, 12, .inl mf57)), (m58, .inl (cA 0, 12, .inl mf58)), (m59, .inl (cA 0, 12, .inl mf59)), (m60, .inl (cA 0, 2, .inl mf60)), (m61, .inl (cA 0, 2, .inl mf61)), (m62, .inl (cA 0, 2, .inl mf62)), (m71, .inl (cA 0, 10, .inl mf71))] sz) := by
  refine Met.ofW (cc := cX8_begin) (maxL := 1) (ret := none) (by decide) rfl ?_
  intro p e s m args below meth c s₁ B hml hv
  obtain ⟨rfl, hsz, hP, hK, hD0, hN⟩ := hv
  have hx := B.exec
  have hb := B.bytes
  have hr := B.returns
  have hts := atoms_spec (ws := .code yX8_begin cX8_begin 1 none :: T0) B.pre
  have hT : ∀ w ∈ T0, w.before _ s = true := fun w h => hts w (List.mem_cons_of_mem _ h)
  have hown : s.vm.findClass RX8 = some m.cls := findClass_of_methodNamed B.named
  have hlocks := B.notSynchronized
  subst hsz
  have hD := hD0.self (sz := s.heap.size)
  generalize hAe : va_A [(h0, .inr (8, fs)), (m22, .inl (cA 0, 6, .inl mf22)), (m26, .inl (cA 0, 12, .inl mf26)), (m28, .inl (cA 0, 12, .inl mf28)), (m52, .inl (cA 0, 20, .inl mf52)), (m53, .inl (cA 0, 20, .inl mf53)), (m55, .inl (cA 0, 10, .inl mf55)), (m56, .inl (cA 0, 12, .inl mf56)), (m57, .inl (cA 0, 12, .inl mf57)), (m58, .inl (cA 0, 12, .inl mf58)), (m59, .inl (cA 0, 12, .inl mf59)), (m60, .inl (cA 0, 2, .inl mf60)), (m61, .inl (cA 0, 2, .inl mf61)), (m62, .inl (cA 0, 2, .inl mf62)), (m71, .inl (cA 0, 10, .inl mf71))] s.heap.size = A at hD ⊢
  have hA : ∀ q : Nat, s.heap.size ≤ q → A q := fun q h => by rw [← hAe]; exact Or.inr h
  have hS : va_S A s.heap s.heap [] := va_S.rf
  have hl := lv_entry ([.ref h0]) (n := 1) (Nat.le_of_ble_eq_true rfl)
  rw [lg_entry_eq]
  generalize (lg_sl ([.ref h0]) ++ List.replicate (1 - (lg_sl ([.ref h0])).length) Slot.unset).toArray = ls at hl ⊢
  have hl : lv_has ls 1 [(0, .ref h0)] := hl
  obtain ⟨H, hH⟩ : ∃ z, z = s.heap := ⟨_, rfl⟩
  rw [← hH] at hP
  have hS : va_S A s.heap H [] := by rw [hH]; exact hS
  suffices hgo : W p l e _ s m _ below meth c H [] 0 0 _ _ by rw [hH] at hgo; exact hgo
  have hO := hN.2.2.2.2
  have ho_hf := fo_refl fs
  refine lv_aload_n hx hb dX8_begin_0 rfl (lv_at hl 0 rfl) ?_
  refine lv_iconst (v := 0) hx hb dX8_begin_1 (by decide) ?_
  refine tq_cv (wr := [(m22, .inl (cA 0, 6, .inl mf22)), (m71, .inl (cA 0, 10, .inl mf71))]) hP hD hS hA [0, 2, 3, 4, 5, 6, 7, 8, 9, 10, 11, 12, 13] [1, 14] rfl rfl (by decide) (by decide) (va_runV (As := [.int 0]) (rest := []) ⟨hx, hb, hml, hown, hT⟩ (c_X8_atFirst l G cA H.size h0 fs m26 m28 m52 m53 m55 m56 m57 m58 m59 m60 m61 m62 mf26 mf28 mf52 mf53 mf55 mf56 mf57 mf58 mf59 mf60 mf61 mf62 (fh_sub hf [1, 2, 3, 4, 5, 6, 7, 8, 9, 10, 11, 12] rfl)) (cwV 1 hT (tq_gV kw_12_18 kw_12_19 kw_12_20 kw_1_5 kw_12_21) rfl rfl rfl (by decide +kernel) ⟨Nat.le_of_ble_eq_true rfl, Nat.le_of_ble_eq_true rfl⟩) ⟨(tq_pre (isC := [0, 2, 3, 4, 5, 6, 7, 8, 9, 10, 11, 12, 13]) hP hD hK hN rfl (by decide)).1, va_recv hK hP (ci := 8) (q0 := 0) rfl rfl, (tq_pre (isC := [0, 2, 3, 4, 5, 6, 7, 8, 9, 10, 11, 12, 13]) hP hD hK hN rfl (by decide)).2⟩ rfl rfl hl.1 rfl (lv_room (Nat.le_of_ble_eq_true rfl)) dX8_begin_2 ⟨Nat.le_of_ble_eq_true rfl, Nat.le_of_ble_eq_true rfl⟩) (fun u101 H locs hw102 hP hD hS => ?_)
  refine W.widen (k := 0) (n := 0) (Nat.le_of_ble_eq_true rfl) (Nat.le_of_ble_eq_true rfl) ?_
  obtain ⟨g103, g104, g105, g106, g107, g108, g109, g110, g111, g112⟩ := u101
  obtain ⟨hE113, hE114⟩ := hw102
  try dsimp only at hP hD hE113 hE114
  have hP : va_P G vwCl [(m22, .inl (cA 0, 6, .inl mf22)), (m71, .inl (cA 0, 10, .inl mf71)), (h0, .inr (8, fs)), (m26, .inl (cA 0, 12, .inl mf26)), (m28, .inl (cA 0, 12, .inl mf28)), (m52, .inl (cA 0, 20, .inl g103)), (m53, .inl (cA 0, 20, .inl g104)), (m55, .inl (cA 0, 10, .inl g105)), (m56, .inl (cA 0, 12, .inl g106)), (m57, .inl (cA 0, 12, .inl g107)), (m58, .inl (cA 0, 12, .inl g108)), (m59, .inl (cA 0, 12, .inl g109)), (m60, .inl (cA 0, 2, .inl g110)), (m61, .inl (cA 0, 2, .inl g111)), (m62, .inl (cA 0, 2, .inl g112))] H := hP
  have hD : va_D A [(m22, .inl (cA 0, 6, .inl mf22)), (m71, .inl (cA 0, 10, .inl mf71)), (h0, .inr (8, fs)), (m26, .inl (cA 0, 12, .inl mf26)), (m28, .inl (cA 0, 12, .inl mf28)), (m52, .inl (cA 0, 20, .inl g103)), (m53, .inl (cA 0, 20, .inl g104)), (m55, .inl (cA 0, 10, .inl g105)), (m56, .inl (cA 0, 12, .inl g106)), (m57, .inl (cA 0, 12, .inl g107)), (m58, .inl (cA 0, 12, .inl g108)), (m59, .inl (cA 0, 12, .inl g109)), (m60, .inl (cA 0, 2, .inl g110)), (m61, .inl (cA 0, 2, .inl g111)), (m62, .inl (cA 0, 2, .inl g112))] := hD
  refine lv_aload_n hx hb dX8_begin_5 rfl (lv_at hl 0 rfl) ?_
  refine lv_aload_n hx hb dX8_begin_6 rfl (lv_at hl 0 rfl) ?_
  refine va_get (D := G) (ci := 8) (v := .ref m22) (C := RX8) (T := TX8) (N := 91) hx hb hT ku_8 hown hK hP 2 rfl rfl 22 (by decide) (hT _ kw_9_14) (fun _ h9 => h9) (fh_at hf 0 rfl) dX8_begin_7 ?_
  refine lv_iconst (v := 2) hx hb dX8_begin_10 (by decide) ?_
  refine va_iald (i := 2) hx hb hK hP 0 0 rfl rfl (tq_in (by decide)) dX8_begin_11 ?_
  refine tq_i (w := 0) he22_2 ?_
  refine lv_i2l (v := 0) hx hb dX8_begin_12 (by decide) ?_
  refine va_put (D := G) (ci := 8) (v := .long 0) (ty := .long) (C := RX8) (T := TX8) (N := 91) hx hb hT ku_8 tyX8 tyX8_ok nmX8 hown hK hP hD hS 2 rfl rfl 63 (by decide) (hT _ kw_12_14) (fun _ h9 => h9) rfl (by decide +kernel) rfl rfl (fh_lt hf (by decide)) dX8_begin_13 (fun H locs hP hD hS => ?_)
  have hP : va_P G vwCl [(m22, .inl (cA 0, 6, .inl mf22)), (m71, .inl (cA 0, 10, .inl mf71)), (h0, .inr (8, (fs.set 63 (.long 0)))), (m26, .inl (cA 0, 12, .inl mf26)), (m28, .inl (cA 0, 12, .inl mf28)), (m52, .inl (cA 0, 20, .inl g103)), (m53, .inl (cA 0, 20, .inl g104)), (m55, .inl (cA 0, 10, .inl g105)), (m56, .inl (cA 0, 12, .inl g106)), (m57, .inl (cA 0, 12, .inl g107)), (m58, .inl (cA 0, 12, .inl g108)), (m59, .inl (cA 0, 12, .inl g109)), (m60, .inl (cA 0, 2, .inl g110)), (m61, .inl (cA 0, 2, .inl g111)), (m62, .inl (cA 0, 2, .inl g112))] H := hP
  have hD : va_D A [(m22, .inl (cA 0, 6, .inl mf22)), (m71, .inl (cA 0, 10, .inl mf71)), (h0, .inr (8, (fs.set 63 (.long 0)))), (m26, .inl (cA 0, 12, .inl mf26)), (m28, .inl (cA 0, 12, .inl mf28)), (m52, .inl (cA 0, 20, .inl g103)), (m53, .inl (cA 0, 20, .inl g104)), (m55, .inl (cA 0, 10, .inl g105)), (m56, .inl (cA 0, 12, .inl g106)), (m57, .inl (cA 0, 12, .inl g107)), (m58, .inl (cA 0, 12, .inl g108)), (m59, .inl (cA 0, 12, .inl g109)), (m60, .inl (cA 0, 2, .inl g110)), (m61, .inl (cA 0, 2, .inl g111)), (m62, .inl (cA 0, 2, .inl g112))] := hD
  have hf := fh_set (l' := [(63, .long 0), (22, .ref m22), (26, .ref m26), (28, .ref m28), (52, .ref m52), (53, .ref m53), (55, .ref m55), (56, .ref m56), (57, .ref m57), (58, .ref m58), (59, .ref m59), (60, .ref m60), (61, .ref m61), (62, .ref m62), (71, .ref m71)]) hf 63 (.long 0) (by decide) rfl
  have ho116 := fo_set ho_hf 63 (.long 0)
  generalize (fs.set 63 (.long 0)) = fs115 at hP hD hf ho116
  refine lv_aload_n hx hb dX8_begin_16 rfl (lv_at hl 0 rfl) ?_
  refine tq_cv (wr := [(m26, .inl (cA 0, 12, .inl mf26)), (m28, .inl (cA 0, 12, .inl mf28)), (m52, .inl (cA 0, 20, .inl g103)), (m53, .inl (cA 0, 20, .inl g104)), (m55, .inl (cA 0, 10, .inl g105)), (m56, .inl (cA 0, 12, .inl g106)), (m57, .inl (cA 0, 12, .inl g107)), (m58, .inl (cA 0, 12, .inl g108)), (m59, .inl (cA 0, 12, .inl g109)), (m60, .inl (cA 0, 2, .inl g110)), (m61, .inl (cA 0, 2, .inl g111)), (m62, .inl (cA 0, 2, .inl g112))]) hP hD hS hA [2, 0, 1] [3, 4, 5, 6, 7, 8, 9, 10, 11, 12, 13, 14] rfl rfl (by decide) (by decide) (va_runV (As := []) (rest := []) ⟨hx, hb, hml, hown, hT⟩ (c_X8_plainTried l G cA H.size h0 fs115 m22 m71 mf22 mf71 (fh_sub hf [1, 14] rfl)) (cwV 0 hT (tq_gV kw_12_22 kw_12_23 kw_13_0 kw_1_5 kw_13_1) rfl rfl rfl (by decide +kernel) ⟨Nat.le_of_ble_eq_true rfl, Nat.le_of_ble_eq_true rfl⟩) ⟨(tq_pre (isC := [2, 0, 1]) hP hD hK hN rfl (by decide)).1, va_recv hK hP (ci := 8) (q0 := 2) rfl rfl, (tq_pre (isC := [2, 0, 1]) hP hD hK hN rfl (by decide)).2⟩ rfl rfl hl.1 rfl (lv_room (Nat.le_of_ble_eq_true rfl)) dX8_begin_17 ⟨Nat.le_of_ble_eq_true rfl, Nat.le_of_ble_eq_true rfl⟩) (fun u117 H locs hw118 hP hD hS => ?_)
  refine W.widen (k := 0) (n := 0) (Nat.le_of_ble_eq_true rfl) (Nat.le_of_ble_eq_true rfl) ?_
  obtain ⟨g119, g120⟩ := u117
  obtain ⟨ho121, hf122⟩ := hw118
  try dsimp only at hP hD ho121 hf122
  have hf122 := fh_app (fo_fh (l' := [(63, .long 0), (22, .ref m22), (26, .ref m26), (28, .ref m28), (52, .ref m52), (53, .ref m53), (55, .ref m55), (56, .ref m56), (57, .ref m57), (58, .ref m58), (59, .ref m59), (60, .ref m60), (61, .ref m61), (62, .ref m62), (71, .ref m71)]) hf ho121 rfl) hf122
  have ho123 := fo_mono (k2 := [70, 69, 68, 67, 66, 65, 64, 63]) (fo_trans ho116 ho121) (by decide)
  have hf122 : fh g119 91 [(63, .long 0), (22, .ref m22), (26, .ref m26), (28, .ref m28), (52, .ref m52), (53, .ref m53), (55, .ref m55), (56, .ref m56), (57, .ref m57), (58, .ref m58), (59, .ref m59), (60, .ref m60), (61, .ref m61), (62, .ref m62), (71, .ref m71), (70, .int 0), (69, .int 0), (68, .int 0), (67, .int 0), (66, .int 0), (65, .int 0)] := hf122
  have hP : va_P G vwCl [(m26, .inl (cA 0, 12, .inl mf26)), (m28, .inl (cA 0, 12, .inl mf28)), (m52, .inl (cA 0, 20, .inl g103)), (m53, .inl (cA 0, 20, .inl g104)), (m55, .inl (cA 0, 10, .inl g105)), (m56, .inl (cA 0, 12, .inl g106)), (m57, .inl (cA 0, 12, .inl g107)), (m58, .inl (cA 0, 12, .inl g108)), (m59, .inl (cA 0, 12, .inl g109)), (m60, .inl (cA 0, 2, .inl g110)), (m61, .inl (cA 0, 2, .inl g111)), (m62, .inl (cA 0, 2, .inl g112)), (h0, .inr (8, g119)), (m22, .inl (cA 0, 6, .inl mf22)), (m71, .inl (cA 0, 10, .inl g120))] H := hP
  have hD : va_D A [(m26, .inl (cA 0, 12, .inl mf26)), (m28, .inl (cA 0, 12, .inl mf28)), (m52, .inl (cA 0, 20, .inl g103)), (m53, .inl (cA 0, 20, .inl g104)), (m55, .inl (cA 0, 10, .inl g105)), (m56, .inl (cA 0, 12, .inl g106)), (m57, .inl (cA 0, 12, .inl g107)), (m58, .inl (cA 0, 12, .inl g108)), (m59, .inl (cA 0, 12, .inl g109)), (m60, .inl (cA 0, 2, .inl g110)), (m61, .inl (cA 0, 2, .inl g111)), (m62, .inl (cA 0, 2, .inl g112)), (h0, .inr (8, g119)), (m22, .inl (cA 0, 6, .inl mf22)), (m71, .inl (cA 0, 10, .inl g120))] := hD
  refine lv_aload_n hx hb dX8_begin_20 rfl (lv_at hl 0 rfl) ?_
  refine lv_iconst (v := 0) hx hb dX8_begin_21 (by decide) ?_
  refine va_put (D := G) (ci := 8) (v := .int 0) (ty := .int) (C := RX8) (T := TX8) (N := 91) hx hb hT ku_8 tyX8 tyX8_ok nmX8 hown hK hP hD hS 12 rfl rfl 78 (by decide) (hT _ kw_12_15) (fun _ h9 => h9) rfl (by decide +kernel) rfl rfl (fh_lt hf122 (by decide)) dX8_begin_22 (fun H locs hP hD hS => ?_)
  have hP : va_P G vwCl [(m26, .inl (cA 0, 12, .inl mf26)), (m28, .inl (cA 0, 12, .inl mf28)), (m52, .inl (cA 0, 20, .inl g103)), (m53, .inl (cA 0, 20, .inl g104)), (m55, .inl (cA 0, 10, .inl g105)), (m56, .inl (cA 0, 12, .inl g106)), (m57, .inl (cA 0, 12, .inl g107)), (m58, .inl (cA 0, 12, .inl g108)), (m59, .inl (cA 0, 12, .inl g109)), (m60, .inl (cA 0, 2, .inl g110)), (m61, .inl (cA 0, 2, .inl g111)), (m62, .inl (cA 0, 2, .inl g112)), (h0, .inr (8, (g119.set 78 (.int 0)))), (m22, .inl (cA 0, 6, .inl mf22)), (m71, .inl (cA 0, 10, .inl g120))] H := hP
  have hD : va_D A [(m26, .inl (cA 0, 12, .inl mf26)), (m28, .inl (cA 0, 12, .inl mf28)), (m52, .inl (cA 0, 20, .inl g103)), (m53, .inl (cA 0, 20, .inl g104)), (m55, .inl (cA 0, 10, .inl g105)), (m56, .inl (cA 0, 12, .inl g106)), (m57, .inl (cA 0, 12, .inl g107)), (m58, .inl (cA 0, 12, .inl g108)), (m59, .inl (cA 0, 12, .inl g109)), (m60, .inl (cA 0, 2, .inl g110)), (m61, .inl (cA 0, 2, .inl g111)), (m62, .inl (cA 0, 2, .inl g112)), (h0, .inr (8, (g119.set 78 (.int 0)))), (m22, .inl (cA 0, 6, .inl mf22)), (m71, .inl (cA 0, 10, .inl g120))] := hD
  have hf122 := fh_set (l' := [(78, .int 0), (63, .long 0), (22, .ref m22), (26, .ref m26), (28, .ref m28), (52, .ref m52), (53, .ref m53), (55, .ref m55), (56, .ref m56), (57, .ref m57), (58, .ref m58), (59, .ref m59), (60, .ref m60), (61, .ref m61), (62, .ref m62), (71, .ref m71), (70, .int 0), (69, .int 0), (68, .int 0), (67, .int 0), (66, .int 0), (65, .int 0)]) hf122 78 (.int 0) (by decide) rfl
  have ho125 := fo_set ho123 78 (.int 0)
  generalize (g119.set 78 (.int 0)) = fs124 at hP hD hf122 ho125
  refine lv_aload_n hx hb dX8_begin_25 rfl (lv_at hl 0 rfl) ?_
  refine lv_iconst (v := (-1)) hx hb dX8_begin_26 (by decide) ?_
  refine va_put (D := G) (ci := 8) (v := .int (-1)) (ty := .int) (C := RX8) (T := TX8) (N := 91) hx hb hT ku_8 tyX8 tyX8_ok nmX8 hown hK hP hD hS 12 rfl rfl 79 (by decide) (hT _ kw_11_6) (fun _ h9 => h9) rfl (by decide +kernel) rfl rfl (fh_lt hf122 (by decide)) dX8_begin_27 (fun H locs hP hD hS => ?_)
  have hP : va_P G vwCl [(m26, .inl (cA 0, 12, .inl mf26)), (m28, .inl (cA 0, 12, .inl mf28)), (m52, .inl (cA 0, 20, .inl g103)), (m53, .inl (cA 0, 20, .inl g104)), (m55, .inl (cA 0, 10, .inl g105)), (m56, .inl (cA 0, 12, .inl g106)), (m57, .inl (cA 0, 12, .inl g107)), (m58, .inl (cA 0, 12, .inl g108)), (m59, .inl (cA 0, 12, .inl g109)), (m60, .inl (cA 0, 2, .inl g110)), (m61, .inl (cA 0, 2, .inl g111)), (m62, .inl (cA 0, 2, .inl g112)), (h0, .inr (8, (fs124.set 79 (.int (-1))))), (m22, .inl (cA 0, 6, .inl mf22)), (m71, .inl (cA 0, 10, .inl g120))] H := hP
  have hD : va_D A [(m26, .inl (cA 0, 12, .inl mf26)), (m28, .inl (cA 0, 12, .inl mf28)), (m52, .inl (cA 0, 20, .inl g103)), (m53, .inl (cA 0, 20, .inl g104)), (m55, .inl (cA 0, 10, .inl g105)), (m56, .inl (cA 0, 12, .inl g106)), (m57, .inl (cA 0, 12, .inl g107)), (m58, .inl (cA 0, 12, .inl g108)), (m59, .inl (cA 0, 12, .inl g109)), (m60, .inl (cA 0, 2, .inl g110)), (m61, .inl (cA 0, 2, .inl g111)), (m62, .inl (cA 0, 2, .inl g112)), (h0, .inr (8, (fs124.set 79 (.int (-1))))), (m22, .inl (cA 0, 6, .inl mf22)), (m71, .inl (cA 0, 10, .inl g120))] := hD
  have hf122 := fh_set (l' := [(79, .int (-1)), (78, .int 0), (63, .long 0), (22, .ref m22), (26, .ref m26), (28, .ref m28), (52, .ref m52), (53, .ref m53), (55, .ref m55), (56, .ref m56), (57, .ref m57), (58, .ref m58), (59, .ref m59), (60, .ref m60), (61, .ref m61), (62, .ref m62), (71, .ref m71), (70, .int 0), (69, .int 0), (68, .int 0), (67, .int 0), (66, .int 0), (65, .int 0)]) hf122 79 (.int (-1)) (by decide) rfl
  have ho127 := fo_set ho125 79 (.int (-1))
  generalize (fs124.set 79 (.int (-1))) = fs126 at hP hD hf122 ho127
  refine lv_aload_n hx hb dX8_begin_30 rfl (lv_at hl 0 rfl) ?_
  refine lv_iconst (v := 0) hx hb dX8_begin_31 (by decide) ?_
  refine va_put (D := G) (ci := 8) (v := .int 0) (ty := .int) (C := RX8) (T := TX8) (N := 91) hx hb hT ku_8 tyX8 tyX8_ok nmX8 hown hK hP hD hS 12 rfl rfl 82 (by decide) (hT _ kw_12_16) (fun _ h9 => h9) rfl (by decide +kernel) rfl rfl (fh_lt hf122 (by decide)) dX8_begin_32 (fun H locs hP hD hS => ?_)
  have hP : va_P G vwCl [(m26, .inl (cA 0, 12, .inl mf26)), (m28, .inl (cA 0, 12, .inl mf28)), (m52, .inl (cA 0, 20, .inl g103)), (m53, .inl (cA 0, 20, .inl g104)), (m55, .inl (cA 0, 10, .inl g105)), (m56, .inl (cA 0, 12, .inl g106)), (m57, .inl (cA 0, 12, .inl g107)), (m58, .inl (cA 0, 12, .inl g108)), (m59, .inl (cA 0, 12, .inl g109)), (m60, .inl (cA 0, 2, .inl g110)), (m61, .inl (cA 0, 2, .inl g111)), (m62, .inl (cA 0, 2, .inl g112)), (h0, .inr (8, (fs126.set 82 (.int 0)))), (m22, .inl (cA 0, 6, .inl mf22)), (m71, .inl (cA 0, 10, .inl g120))] H := hP
  have hD : va_D A [(m26, .inl (cA 0, 12, .inl mf26)), (m28, .inl (cA 0, 12, .inl mf28)), (m52, .inl (cA 0, 20, .inl g103)), (m53, .inl (cA 0, 20, .inl g104)), (m55, .inl (cA 0, 10, .inl g105)), (m56, .inl (cA 0, 12, .inl g106)), (m57, .inl (cA 0, 12, .inl g107)), (m58, .inl (cA 0, 12, .inl g108)), (m59, .inl (cA 0, 12, .inl g109)), (m60, .inl (cA 0, 2, .inl g110)), (m61, .inl (cA 0, 2, .inl g111)), (m62, .inl (cA 0, 2, .inl g112)), (h0, .inr (8, (fs126.set 82 (.int 0)))), (m22, .inl (cA 0, 6, .inl mf22)), (m71, .inl (cA 0, 10, .inl g120))] := hD
  have hf122 := fh_set (l' := [(82, .int 0), (79, .int (-1)), (78, .int 0), (63, .long 0), (22, .ref m22), (26, .ref m26), (28, .ref m28), (52, .ref m52), (53, .ref m53), (55, .ref m55), (56, .ref m56), (57, .ref m57), (58, .ref m58), (59, .ref m59), (60, .ref m60), (61, .ref m61), (62, .ref m62), (71, .ref m71), (70, .int 0), (69, .int 0), (68, .int 0), (67, .int 0), (66, .int 0), (65, .int 0)]) hf122 82 (.int 0) (by decide) rfl
  have ho129 := fo_set ho127 82 (.int 0)
  generalize (fs126.set 82 (.int 0)) = fs128 at hP hD hf122 ho129
  refine lv_aload_n hx hb dX8_begin_35 rfl (lv_at hl 0 rfl) ?_
  refine lv_iconst (v := 0) hx hb dX8_begin_36 (by decide) ?_
  refine va_put (D := G) (ci := 8) (v := .int 0) (ty := .boolean) (C := RX8) (T := TX8) (N := 91) hx hb hT ku_8 tyX8 tyX8_ok nmX8 hown hK hP hD hS 12 rfl rfl 84 (by decide) (hT _ kw_12_17) (fun _ h9 => h9) rfl (by decide +kernel) rfl rfl (fh_lt hf122 (by decide)) dX8_begin_37 (fun H locs hP hD hS => ?_)
  have hP : va_P G vwCl [(m26, .inl (cA 0, 12, .inl mf26)), (m28, .inl (cA 0, 12, .inl mf28)), (m52, .inl (cA 0, 20, .inl g103)), (m53, .inl (cA 0, 20, .inl g104)), (m55, .inl (cA 0, 10, .inl g105)), (m56, .inl (cA 0, 12, .inl g106)), (m57, .inl (cA 0, 12, .inl g107)), (m58, .inl (cA 0, 12, .inl g108)), (m59, .inl (cA 0, 12, .inl g109)), (m60, .inl (cA 0, 2, .inl g110)), (m61, .inl (cA 0, 2, .inl g111)), (m62, .inl (cA 0, 2, .inl g112)), (h0, .inr (8, (fs128.set 84 (.int 0)))), (m22, .inl (cA 0, 6, .inl mf22)), (m71, .inl (cA 0, 10, .inl g120))] H := hP
  have hD : va_D A [(m26, .inl (cA 0, 12, .inl mf26)), (m28, .inl (cA 0, 12, .inl mf28)), (m52, .inl (cA 0, 20, .inl g103)), (m53, .inl (cA 0, 20, .inl g104)), (m55, .inl (cA 0, 10, .inl g105)), (m56, .inl (cA 0, 12, .inl g106)), (m57, .inl (cA 0, 12, .inl g107)), (m58, .inl (cA 0, 12, .inl g108)), (m59, .inl (cA 0, 12, .inl g109)), (m60, .inl (cA 0, 2, .inl g110)), (m61, .inl (cA 0, 2, .inl g111)), (m62, .inl (cA 0, 2, .inl g112)), (h0, .inr (8, (fs128.set 84 (.int 0)))), (m22, .inl (cA 0, 6, .inl mf22)), (m71, .inl (cA 0, 10, .inl g120))] := hD
  have hf122 := fh_set (l' := [(84, .int 0), (82, .int 0), (79, .int (-1)), (78, .int 0), (63, .long 0), (22, .ref m22), (26, .ref m26), (28, .ref m28), (52, .ref m52), (53, .ref m53), (55, .ref m55), (56, .ref m56), (57, .ref m57), (58, .ref m58), (59, .ref m59), (60, .ref m60), (61, .ref m61), (62, .ref m62), (71, .ref m71), (70, .int 0), (69, .int 0), (68, .int 0), (67, .int 0), (66, .int 0), (65, .int 0)]) hf122 84 (.int 0) (by decide) rfl
  have ho131 := fo_set ho129 84 (.int 0)
  generalize (fs128.set 84 (.int 0)) = fs130 at hP hD hf122 ho131
  have hP : va_P G vwCl [(h0, .inr (8, fs130)), (m22, .inl (cA 0, 6, .inl mf22)), (m26, .inl (cA 0, 12, .inl mf26)), (m28, .inl (cA 0, 12, .inl mf28)), (m52, .inl (cA 0, 20, .inl g103)), (m53, .inl (cA 0, 20, .inl g104)), (m55, .inl (cA 0, 10, .inl g105)), (m56, .inl (cA 0, 12, .inl g106)), (m57, .inl (cA 0, 12, .inl g107)), (m58, .inl (cA 0, 12, .inl g108)), (m59, .inl (cA 0, 12, .inl g109)), (m60, .inl (cA 0, 2, .inl g110)), (m61, .inl (cA 0, 2, .inl g111)), (m62, .inl (cA 0, 2, .inl g112)), (m71, .inl (cA 0, 10, .inl g120))] H := hP.sub [12, 13, 0, 1, 2, 3, 4, 5, 6, 7, 8, 9, 10, 11, 14] rfl
  have hD : va_D A [(h0, .inr (8, fs130)), (m22, .inl (cA 0, 6, .inl mf22)), (m26, .inl (cA 0, 12, .inl mf26)), (m28, .inl (cA 0, 12, .inl mf28)), (m52, .inl (cA 0, 20, .inl g103)), (m53, .inl (cA 0, 20, .inl g104)), (m55, .inl (cA 0, 10, .inl g105)), (m56, .inl (cA 0, 12, .inl g106)), (m57, .inl (cA 0, 12, .inl g107)), (m58, .inl (cA 0, 12, .inl g108)), (m59, .inl (cA 0, 12, .inl g109)), (m60, .inl (cA 0, 2, .inl g110)), (m61, .inl (cA 0, 2, .inl g111)), (m62, .inl (cA 0, 2, .inl g112)), (m71, .inl (cA 0, 10, .inl g120))] := hD.sub [12, 13, 0, 1, 2, 3, 4, 5, 6, 7, 8, 9, 10, 11, 14] (by decide) rfl
  have qho131 := fo_mono (k2 := [84, 82, 79, 78, 70, 69, 68, 67, 66, 65, 64, 63]) ho131 (by decide)
  exact W.vret hx hb hr (fun t ht hW => ⟨⟨(fs130, g103, g104, g105, g106, g107, g108, g109, g110, g111, g112, g120), rfl, ⟨qho131, fh_sub hf122 [0, 1, 2, 3, 19, 20, 21, 22, 23, 24, 4] rfl, hE113, hE114⟩, by rw [ht]; exact hP, hD⟩, hS.F ht⟩) hS.2.2 dX8_begin_40

set_option maxHeartbeats 4000000 in
set_option maxRecDepth 100000 in
theorem c_X8_keepText (l : Launch) (G : va_G) (cA : Nat → ClassId) (sz : Nat) (h0 : Nat) (fs : List Value) (m22 : Nat) (m26 : Nat) (m28 : Nat) (m52 : Nat) (m53 : Nat) (m55 : Nat) (m56 : Nat) (m57 : Nat) (m58 : Nat) (m59 : Nat) (m60 : Nat) (m61 : Nat) (m62 : Nat) (m71 : Nat) (m23 : Nat) (m24 : Nat) (m25 : Nat) (m27 : Nat) (m29 : Nat) (m30 : Nat) (m31 : Nat) (m32 : Nat) (m36 : Nat) (m37 : Nat) (m38 : Nat) (m39 : Nat) (m40 : Nat) (m33 : Nat) (m35 : Nat) (mf22 : Nat → Int32) (mf26 : Nat → Int32) (mf28 : Nat → Int32) (mf52 : Nat → Int32) (mf53 : Nat → Int32) (mf55 : Nat → Int32) (mf56 : Nat → Int32) (mf57 : Nat → Int32) (mf58 : Nat → Int32) (mf59 : Nat → Int32) (mf60 : Nat → Int32) (mf61 : Nat → Int32) (mf62 : Nat → Int32) (mf71 : Nat → Int32) (mf23 : Nat → Int32) (mf24 : Nat → Int32) (mf25 : Nat → Int32) (mf27 : Nat → Int32) (mf29 : Nat → Int32) (mf30 : Nat → Int32) (mf31 : Nat → Int32) (mf32 : Nat → Int32) (mf36 : Nat → Int32) (mf37 : Nat → Int32) (mf38 : Nat → Int32) (mf39 : Nat → Int32) (mf40 : Nat → Int32) (mf33 : Nat → Int32) (mf35 : Nat → Int32) (hf : fh fs 91 [(22, .ref m22), (26, .ref m26), (28, .ref m28), (52, .ref m52), (53, .ref m53), (55, .ref m55), (56, .ref m56), (57, .ref m57), (58, .ref m58), (59, .ref m59), (60, .ref m60), (61, .ref m61), (62, .ref m62), (71, .ref m71), (23, .ref m23), (24, .ref m24), (25, .ref m25), (27, .ref m27), (29, .ref m29), (30, .ref m30), (31, .ref m31), (32, .ref m32), (36, .ref m36), (37, .ref m37), (38, .ref m38), (39, .ref m39), (40, .ref m40), (33, .ref m33), (35, .ref m35), (16, .int 0), (17, .int 0), (18, .int 0), (19, .int 0)]) (he22_3 : mf22 3 = 0) (he22_4 : mf22 4 = 0) (he22_5 : mf22 5 = 0) (he33_21 : mf33 21 = 60) (he33_22 : mf33 22 = 60) (he33_23 : mf33 23 = 60) (he33_24 : mf33 24 = 60) (he33_25 : mf33 25 = 60) (he33_26 : mf33 26 = 60) (he33_27 : mf33 27 = 60) (he33_28 : mf33 28 = 60) (he33_29 : mf33 29 = 60) (he33_30 : mf33 30 = 60) (he33_31 : mf33 31 = 60) (he33_32 : mf33 32 = 60) (he33_33 : mf33 33 = 60) (he33_34 : mf33 34 = 60) (he33_35 : mf33 35 = 60) (he33_36 : mf33 36 = 60) (he33_37 : mf33 37 = 60) (he33_38 : mf33 38 = 60) (he33_39 : mf33 39 = 60) (he33_40 : mf33 40 = 60) (he33_41 : mf33 41 = 60) : Met l yX8_keepText (.code yX8_keepText cX8_keepText 2 none :: T0) ({ frames := 2, cells := 0, slots := 0, locals := 42 }) (tqP G cA [.ref h0] [(h0, .inr (8, fs)), (m22, .inl (cA 0, 6, .inl mf22)), (m26, .inl (cA 0, 12, .inl mf26)), (m28, .inl (cA 0, 12, .inl mf28)), (m52, .inl (cA 0, 20, .inl mf52)), (m53, .inl (cA 0, 20, .inl mf53)), (m55, .inl (cA 0, 10, .inl mf55)), (m56, .inl (cA 0, 12, .inl mf56)), (m57, .inl (cA 0, 12, .inl mf57)), (m58, .inl (cA 0, 12, .inl mf58)), (m59, .inl (cA 0, 12, .inl mf59)), (m60, .inl (cA 0, 2, .inl mf60)), (m61, .inl (cA 0, 2, .inl mf61)), (m62, .inl (cA 0, 2, .inl mf62)), (m71, .inl (cA 0, 10, .inl mf71)), (m23, .inl (cA 0, 10, .inl mf23)), (m24, .inl (cA 0, 10, .inl mf24)), (m25, .inl (cA 0, 12, .inl mf25)), (m27, .inl (cA 0, 12, .inl mf27)), (m29, .inl (cA 0, 20, .inl mf29)), (m30, .inl (cA 0, 20, .inl mf30)), (m31, .inl (cA 0, 20, .inl mf31)), (m32, .inl (cA 0, 20, .inl mf32)), (m36, .inl (cA 0, 6, .inl mf36)), (m37, .inl (cA 0, 6, .inl mf37)), (m38, .inl (cA 0, 128, .inl mf38)), (m39, .inl (cA 0, 128, .inl mf39)), (m40, .inl (cA 0, 128, .inl mf40)), (m33, .inl (cA 0, 42, .inl mf33)), (m35, .inl (cA 1, 6, .inl mf35))] sz) (tqQv G cA (fun (u : List Value × (Nat → Int32) × (Nat → Int32) × (Nat → Int32) × (Nat → Int32) × (Nat → Int32) × (Nat → Int32) × (Nat → Int32) × (Nat → Int32) × (Nat → Int32) × (Nat → Int32) × (Nat → Int32) × (Nat → Int32) × (Nat → Int32) × (Nat → Int32) × (Nat → Int32) × (Nat → Int32) × (Nat → Int32) × (Nat → Int32) × (Nat → Int32) × (Nat → Int32) × (Nat → Int32) × (Nat → Int32) × (Nat → Int32) × (Nat → Int32) × (Nat → Int32) × (Nat → Int32) × (Nat → Int32) × (Nat → Int32) × (Nat → Int32)) => fo fs u.1 [84, 82, 79, 78, 70, 69, 68, 67, 66, 65, 64, 63, 15, 14, 13, 12] ∧ fh u.1 91 [(84, .int 0), (82, .int 0), (79, .int (-1)), (78, .int 0), (70, .int 0), (69, .int 0), (68, .int 0), (67, .int 0), (66, .int 0), (65, .int 0), (63, .long 0), (15, .int 0), (14, .int 0), (13, .int 0), (12, .int 0)] ∧ u.2.1 0 = 0 ∧ u.2.1 1 = 0 ∧ u.2.1 2 = 0 ∧ u.2.1 3 = 0 ∧ u.2.1 4 = 0 ∧ u.2.1 5 = 0 ∧ u.2.2.2.2.2.2.2.2.2.2.2.1 0 = 0 ∧ u.2.2.2.2.2.2.2.2.2.2.2.2.1 0 = 0 ∧ u.2.2.2.2.2.2.2.2.2.2.2.2.2.2.2.2.2.2.2.2.2.2.2.2.2.2.2.2.1 0 = 60 ∧ u.2.2.2.2.2.2.2.2.2.2.2.2.2.2.2.2.2.2.2.2.2.2.2.2.2.2.2.2.1 1 = 60 ∧ u.2.2.2.2.2.2.2.2.2.2.2.2.2.2.2.2.2.2.2.2.2.2.2.2.2.2.2.2.1 2 = 60 ∧ u.2.2.2.2.2.2.2.2.2.2.2.2.2.2.2.2.2.2.2.2.2.2.2.2.2.2.2.2.1 3 = 60 ∧ u.2.2.2.2.2.2.2.2.2.2.2.2.2.2.2.2.2.2.2.2.2.2.2.2.2.2.2.2.1 4 = 60 ∧ u.2.2.2.2.2.2.2.2.2.2.2.2.2.2.2.2.2.2.2.2.2.2.2.2.2.2.2.2.1 5 = 60 ∧ u.2.2.2.2.2.2.2.2.2.2.2.2.2.2.2.2.2.2.2.2.2.2.2.2.2.2.2.2.1 6 = 60 ∧ u.2.2.2.2.2.2.2.2.2.2.2.2.2.2.2.2.2.2.2.2.2.2.2.2.2.2.2.2.1 7 = 60 ∧ u.2.2.2.2.2.2.2.2.2.2.2.2.2.2.2.2.2.2.2.2.2.2.2.2.2.2.2.2.1 8 = 60 ∧ u.2.2.2.2.2.2.2.2.2.2.2.2.2.2.2.2.2.2.2.2.2.2.2.2.2.2.2.2.1 9 = 60 ∧ u.2.2.2.2.2.2.2.2.2.2.2.2.2.2.2.2.2.2.2.2.2.2.2.2.2.2.2.2.1 10 = 60 ∧ u.2.2.2.2.2.2.2.2.2.2.2.2.2.2.2.2.2.2.2.2.2.2.2.2.2.2.2.2.1 11 = 60 ∧ u.2.2.2.2.2.2.2.2.2.2.2.2.2.2.2.2.2.2.2.2.2.2.2.2.2.2.2.2.1 12 = 60 ∧ u.2.2.2.2.2.2.2.2.2.2.2.2.2.2.2.2.2.2.2.2.2.2.2.2.2.2.2.2.1 13 = 60 ∧ u.2.2.2.2.2.2.2.2.2.2.2.2.2.2.2.2.2.2.2.2.2.2.2.2.2.2.2.2.1 14 = 60 ∧ u.2.2.2.2.2.2.2.2.2.2.2.2.2.2.2.2.2.2.2.2.2.2.2.2.2.2.2.2.1 15 = 60 ∧ u.2.2.2.2.2.2.2.2.2.2.2.2.2.2.2.2.2.2.2.2.2.2.2.2.2.2.2.2.1 16 = 60 ∧ u.2.2.2.2.2.2.2.2.2.2.2.2.2.2.2.2.2.2.2.2.2.2.2.2.2.2.2.2.1 17 = 60 ∧ u.2.2.2.2.2.2.2.2.2.2.2.2.2.2.2.2.2.2.2.2.2.2.2.2.2.2.2.2.1 18 = 60 ∧ u.2.2.2.2.2.2.2.2.2.2.2.2.2.2.2.2.2.2.2.2.2.2.2.2.2.2.2.2.1 19 = 60 ∧ u.2.2.2.2.2.2.2.2.2.2.2.2.2.2.2.2.2.2.2.2.2.2.2.2.2.2.2.2.1 20 = 60 ∧ u.2.2.2.2.2.2.2.2.2.2.2.2.2.2.2.2.2.2.2.2.2.2.2.2.2.2.2.2.1 21 = 60 ∧ u.2.2.2.2.2.2.2.2.2.2.2.2.2.2.2.2.2.2.2.2.2.2.2.2.2.2.2.2.1 22 = 60 ∧ u.2.2.2.2.2.2.2.2.2.2.2.2.2.2.2.2.2.2.2.2.2.2.2.2.2.2.2.2.1 23 = 60 ∧ u.2.2.2.2.2.2.2.2.2.2.2.2.2.2.2.2.2.2.2.2.2.2.2.2.2.2.2.2.1 24 = 60 ∧ u.2.2.2.2.2.2.2.2.2.2.2.2.2.2.2.2.2.2.2.2.2.2.2.2.2.2.2.2.1 25 = 60 ∧ u.2.2.2.2.2.2.2.2.2.2.2.2.2.2.2.2.2.2.2.2.2.2.2.2.2.2.2.2.1 26 = 60 ∧ u.2.2.2.2.2.2.2.2.2.2.2.2.2.2.2.2.2.2.2.2.2.2.2.2.2.2.2.2.1 27 = 60 ∧ u.2.2.2.2.2.2.2.2.2.2.2.2.2.2.2.2.2.2.2.2.2.2.2.2.2.2.2.2.1 28 = 60 ∧ u.2.2.2.2.2.2.2.2.2.2.2.2.2.2.2.2.2.2.2.2.2.2.2.2.2.2.2.2.1 29 = 60 ∧ u.2.2.2.2.2.2.2.2.2.2.2.2.2.2.2.2.2.2.2.2.2.2.2.2.2.2.2.2.1 30 = 60 ∧ u.2.2.2.2.2.2.2.2.2.2.2.2.2.2.2.2.2.2.2.2.2.2.2.2.2.2.2.2.1 31 = 60 ∧ u.2.2.2.2.2.2.2.2.2.2.2.2.2.2.2.2.2.2.2.2.2.2.2.2.2.2.2.2.1 32 = 60 ∧ u.2.2.2.2.2.2.2.2.2.2.2.2.2.2.2.2.2.2.2.2.2.2.2.2.2.2.2.2.1 33 = 60 ∧ u.2.2.2.2.2.2.2.2.2.2.2.2.2.2.2.2.2.2.2.2.2.2.2.2.2.2.2.2.1 34 = 60 ∧ u.2.2.2.2.2.2.2.2.2.2.2.2.2.2.2.2.2.2.2.2.2.2.2.2.2.2.2.2.1 35 = 60 ∧ u.2.2.2.2.2.2.2.2.2.2.2.2.2.2.2.2.2.2.2.2.2.2.2.2.2.2.2.2.1 36 = 60 ∧ u.2.2.2.2.2.2.2.2.2.2.2.2.2.2.2.2.2.2.2.2.2.2.2.2.2.2.2.2.1 37 = 60 ∧ u.2.2.2.2.2.2.2.2.2.2.2.2.2.2.2.2.2.2.2.2.2.2.2.2.2.2.2.2.1 38 = 60 ∧ u.2.2.2.2.2.2.2.2.2.2.2.2.2.2.2.2.2.2.2.2.2.2.2.2.2.2.2.2.1 39 = 60 ∧ u.2.2.2.2.2.2.2.2.2.2.2.2.2.2.2.2.2.2.2.2.2.2.2.2.2.2.2.2.1 40 = 60 ∧ u.2.2.2.2.2.2.2.2.2.2.2.2.2.2.2.2.2.2.2.2.2.2.2.2.2.2.2.2.1 41 = 60) (fun (u : List Value × (Nat → Int32) × (Nat → Int32) × (Nat → Int32) × (Nat → Int32) × (Nat → Int32) × (Nat → Int32) × (Nat → Int32) × (Nat → Int32) × (Nat → Int32) × (Nat → Int32) × (Nat → Int32) × (Nat → Int32) × (Nat → Int32) × (Nat → Int32) × (Nat → Int32) × (Nat → Int32) × (Nat → Int32) × (Nat → Int32) × (Nat → Int32) × (Nat → Int32) × (Nat → Int32) × (Nat → Int32) × (Nat → Int32) × (Nat → Int32) × (Nat → Int32) × (Nat → Int32) × (Nat → Int32) × (Nat → Int32) × (Nat → Int32)) => [(h0, .inr (8, u.1)), (m22, .inl (cA 0, 6, .inl u.2.1)), (m26, .inl (cA 0, 12, .inl u.2.2.1)), (m28, .inl (cA 0, 12, .inl u.2.2.2.1)), (m52, .inl (cA 0, 20, .inl u.2.2.2.2.1)), (m53, .inl (cA 0, 20, .inl u.2.2.2.2.2.1)), (m55, .inl (cA 0, 10, .inl u.2.2.2.2.2.2.1)), (m56, .inl (cA 0, 12, .inl u.2.2.2.2.2.2.2.1)), (m57, .inl (cA 0, 12, .inl u.2.2.2.2.2.2.2.2.1)), (m58, .inl (cA 0, 12, .inl u.2.2.2.2.2.2.2.2.2.1)), (m59, .inl (cA 0, 12, .inl u.2.2.2.2.2.2.2.2.2.2.1)), (m60, .inl (cA 0, 2, .inl u.2.2.2.2.2.2.2.2.2.2.2.1)), (m61, .inl (cA 0, 2, .inl u.2.2.2.2.2.2.2.2.2.2.2.2.1)), (m62, .inl (cA 0, 2, .inl u.2.2.2.2.2.2.2.2.2.2.2.2.2.1)), (m71, .inl (cA 0, 10, .inl u.2.2.2.2.2.2.2.2.2.2.2.2.2.2.1)), (m23, .inl (cA 0, 10, .inl u.2.2.2.2.2.2.2.2.2.2.2.2.2.2.2.1)), (m24, .inl (cA 0, 10, .inl u.2.2.2.2.2.2.2.2.2.2.2.2.2.2.2.2.1)), (m25, .inl (cA 0, 12, .inl u.2.2.2.2.2.2.2.2.2.2.2.2.2.2.2.2.2.1)), (m27, .inl (cA 0, 12, .inl u.2.2.2.2.2.2.2.2.2.2.2.2.2.2.2.2.2.2.1)), (m29, .inl (cA 0, 20, .inl u.2.2.2.2.2.2.2.2.2.2.2.2.2.2.2.2.2.2.2.1)), (m30, .inl (cA 0, 20, .inl u.2.2.2.2.2.2.2.2.2.2.2.2.2.2.2.2.2.2.2.2.1)), (m31, .inl (cA 0, 20, .inl u.2.2.2.2.2.2.2.2.2.2.2.2.2.2.2.2.2.2.2.2.2.1)), (m32, .inl (cA 0, 20, .inl u.2.2.2.2.2.2.2.2.2.2.2.2.2.2.2.2.2.2.2.2.2.2.1)), (m36, .inl (cA 0, 6, .inl u.2.2.2.2.2.2.2.2.2.2.2.2.2.2.2.2.2.2.2.2.2.2.2.1)), (m37, .inl (cA 0, 6, .inl u.2.2.2.2.2.2.2.2.2.2.2.2.2.2.2.2.2.2.2.2.2.2.2.2.1)), (m38, .inl (cA 0, 128, .inl u.2.2.2.2.2.2.2.2.2.2.2.2.2.2.2.2.2.2.2.2.2.2.2.2.2.1)), (m39, .inl (cA 0, 128, .inl u.2.2.2.2.2.2.2.2.2.2.2.2.2.2.2.2.2.2.2.2.2.2.2.2.2.2.1)), (m40, .inl (cA 0, 128, .inl u.2.2.2.2.2.2.2.2.2.2.2.2.2.2.2.2.2.2.2.2.2.2.2.2.2.2.2.1)), (m33, .inl (cA 0, 42, .inl u.2.2.2.2.2.2.2.2.2.2.2.2.2.2.2.2.2.2.2.2.2.2.2.2.2.2.2.2.1)), (m35, .inl (cA 1, 6, .inl u.2.2.2.2.2.2.2.2.2.2.2.2.2.2.2.2.2.2.2.2.2.2.2.2.2.2.2.2.2))]) (va_A [(h0, .inr (8, fs)), (m22, .inl (cA 0, 6, .inl mf22)), (m26, .inl (cA 0, 12, .inl mf26)), (m28, .inl (cA 0, 12, .inl mf28)), (m52, .inl (cA 0, 20, .inl mf52)), (m53, .inl (cA 0, 20, .inl mf53)), (m55, .inl (cA 0, 10, .inl mf55)), (m56, .inl (cA 0, 12, .inl mf56)), (m57, .inl (cA 0, 12, .inl mf57)), (m58, .inl (cA 0, 12, .inl mf58)), (m59, .inl (cA 0, 12, .inl mf59)), (m60, .inl (cA 0, 2, .inl mf60)), (m61, .inl (cA 0, 2, .inl mf61)), (m62, .inl (cA 0, 2, .inl mf62)), (m71, .inl (cA 0, 10, .inl mf71)), (m23, .inl (cA 0, 10, .inl mf23)), (m24, .inl (cA 0, 10, .inl mf24)), (m25, .inl (cA 0, 12, .inl mf25)), (m27, .inl (cA 0, 12, .inl mf27)), (m29, .inl (cA 0, 20, .inl mf29)), (m30, .inl (cA 0, 20, .inl mf30)), (m31, .inl (cA 0, 20, .inl mf31)), (m32, .inl (cA 0, 20, .inl mf32)), (m36, .inl (cA 0, 6, .inl mf36)), (m37, .inl (cA 0, 6, .inl mf37)), (m38, .inl (cA 0, 128, .inl mf38)), (m39, .inl (cA 0, 128, .inl mf39)), (m40, .inl (cA 0, 128, .inl mf40)), (m33, .inl (cA 0, 42, .inl mf33)), (m35, .inl (cA 1, 6, .inl mf35))] sz)) 0 0 (va_A [(h0, .inr (8, fs)), (m22, .inl (cA 0, 6, .inl mf22)), (m26, .inl (cA 0, 12, .inl mf26)), (m28, .inl (cA 0, 12, .inl mf28)), (m52, .inl (cA 0, 20, .inl mf52)), (m53, .inl (cA 0, 20, .inl mf53)), (m55, .inl (cA 0, 10, .inl mf55)), (m56, .inl (cA 0, 12, .inl mf56)), (m57, .inl (cA 0, 12, .inl mf57)), (m58, .inl (cA 0, 12, .inl mf58)), (m59, .inl (cA 0, 12, .inl mf59)), (m60, .inl (cA 0, 2, .inl mf60)), (m61, .inl (cA 0, 2, .inl mf61)), (m62, .inl (cA 0, 2, .inl mf62)), (m71, .inl (cA 0, 10, .inl mf71)), (m23, .inl (cA 0, 10, .inl mf23)), (m24, .inl (cA 0, 10, .inl mf24)), (m25, .inl (cA 0, 12, .inl mf25)), (m27, .inl (cA 0, 12, .inl mf27)), (m29, .inl (cA 0, 20, .inl mf29)), (m30, .inl (cA 0, 20, .inl mf30)), (m31, .inl (cA 0, 20, .inl mf31)), (m32, .inl (cA 0, 20, .inl mf32)), (m36, .inl (cA 0, 6, .inl mf36)), (m37, .inl (cA 0, 6, .inl mf37)), (m38, .inl (cA 0, 128, .inl mf38)), (m39, .inl (cA 0, 128, .inl mf39)), (m40, .inl (cA 0, 128, .inl mf40)), (m33, .inl (cA 0, 42, .inl mf33)), (m35, .inl (cA 1, 6, .inl mf35))] sz) := by
  refine Met.ofW (cc := cX8_keepText) (maxL := 2) (ret := none) (by decide) rfl ?_
  intro p e s m args below meth c s₁ B hml hv
  obtain ⟨rfl, hsz, hP, hK, hD0, hN⟩ := hv
  have hx := B.exec
  have hb := B.bytes
  have hr := B.returns
  have hts := atoms_spec (ws := .code yX8_keepText cX8_keepText 2 none :: T0) B.pre
  have hT : ∀ w ∈ T0, w.before _ s = true := fun w h => hts w (List.mem_cons_of_mem _ h)
  have hown : s.vm.findClass RX8 = some m.cls := findClass_of_methodNamed B.named
  have hlocks := B.notSynchronized
  subst hsz
  have hD := hD0.self (sz := s.heap.size)
  generalize hAe : va_A [(h0, .inr (8, fs)), (m22, .inl (cA 0, 6, .inl mf22)), (m26, .inl (cA 0, 12, .inl mf26)), (m28, .inl (cA 0, 12, .inl mf28)), (m52, .inl (cA 0, 20, .inl mf52)), (m53, .inl (cA 0, 20, .inl mf53)), (m55, .inl (cA 0, 10, .inl mf55)), (m56, .inl (cA 0, 12, .inl mf56)), (m57, .inl (cA 0, 12, .inl mf57)), (m58, .inl (cA 0, 12, .inl mf58)), (m59, .inl (cA 0, 12, .inl mf59)), (m60, .inl (cA 0, 2, .inl mf60)), (m61, .inl (cA 0, 2, .inl mf61)), (m62, .inl (cA 0, 2, .inl mf62)), (m71, .inl (cA 0, 10, .inl mf71)), (m23, .inl (cA 0, 10, .inl mf23)), (m24, .inl (cA 0, 10, .inl mf24)), (m25, .inl (cA 0, 12, .inl mf25)), (m27, .inl (cA 0, 12, .inl mf27)), (m29, .inl (cA 0, 20, .inl mf29)), (m30, .inl (cA 0, 20, .inl mf30)), (m31, .inl (cA 0, 20, .inl mf31)), (m32, .inl (cA 0, 20, .inl mf32)), (m36, .inl (cA 0, 6, .inl mf36)), (m37, .inl (cA 0, 6, .inl mf37)), (m38, .inl (cA 0, 128, .inl mf38)), (m39, .inl (cA 0, 128, .inl mf39)), (m40, .inl (cA 0, 128, .inl mf40)), (m33, .inl (cA 0, 42, .inl mf33)), (m35, .inl (cA 1, 6, .inl mf35))] s.heap.size = A at hD ⊢
  have hA : ∀ q : Nat, s.heap.size ≤ q → A q := fun q h => by rw [← hAe]; exact Or.inr h
  have hS : va_S A s.heap s.heap [] := va_S.rf
  have hl := lv_entry ([.ref h0]) (n := 2) (Nat.le_of_ble_eq_true rfl)
  rw [lg_entry_eq]
  generalize (lg_sl ([.ref h0]) ++ List.replicate (2 - (lg_sl ([.ref h0])).length) Slot.unset).toArray = ls at hl ⊢
  have hl : lv_has ls 2 [(0, .ref h0)] := hl
  obtain ⟨H, hH⟩ : ∃ z, z = s.heap := ⟨_, rfl⟩
  rw [← hH] at hP
  have hS : va_S A s.heap H [] := by rw [hH]; exact hS
  suffices hgo : W p l e _ s m _ below meth c H [] 0 0 _ _ by rw [hH] at hgo; exact hgo
  have hO := hN.2.2.2.2
  have ho_hf := fo_refl fs
  refine lv_aload_n hx hb dX8_keepText_0 rfl (lv_at hl 0 rfl) ?_
  refine lv_aload_n hx hb dX8_keepText_1 rfl (lv_at hl 0 rfl) ?_
  refine va_get (D := G) (ci := 8) (v := .int 0) (C := RX8) (T := TX8) (N := 91) hx hb hT ku_8 hown hK hP 0 rfl rfl 16 (by decide) (hT _ kw_11_17) (fun _ h9 => h9) (fh_at hf 29 rfl) dX8_keepText_2 ?_
  refine va_put (D := G) (ci := 8) (v := .int 0) (ty := .int) (C := RX8) (T := TX8) (N := 91) hx hb hT ku_8 tyX8 tyX8_ok nmX8 hown hK hP hD hS 0 rfl rfl 12 (by decide) (hT _ kw_12_3) (fun _ h9 => h9) rfl (by decide +kernel) rfl rfl (fh_lt hf (by decide)) dX8_keepText_5 (fun H locs hP hD hS => ?_)
  have hP : va_P G vwCl [(h0, .inr (8, (fs.set 12 (.int 0)))), (m22, .inl (cA 0, 6, .inl mf22)), (m26, .inl (cA 0, 12, .inl mf26)), (m28, .inl (cA 0, 12, .inl mf28)), (m52, .inl (cA 0, 20, .inl mf52)), (m53, .inl (cA 0, 20, .inl mf53)), (m55, .inl (cA 0, 10, .inl mf55)), (m56, .inl (cA 0, 12, .inl mf56)), (m57, .inl (cA 0, 12, .inl mf57)), (m58, .inl (cA 0, 12, .inl mf58)), (m59, .inl (cA 0, 12, .inl mf59)), (m60, .inl (cA 0, 2, .inl mf60)), (m61, .inl (cA 0, 2, .inl mf61)), (m62, .inl (cA 0, 2, .inl mf62)), (m71, .inl (cA 0, 10, .inl mf71)), (m23, .inl (cA 0, 10, .inl mf23)), (m24, .inl (cA 0, 10, .inl mf24)), (m25, .inl (cA 0, 12, .inl mf25)), (m27, .inl (cA 0, 12, .inl mf27)), (m29, .inl (cA 0, 20, .inl mf29)), (m30, .inl (cA 0, 20, .inl mf30)), (m31, .inl (cA 0, 20, .inl mf31)), (m32, .inl (cA 0, 20, .inl mf32)), (m36, .inl (cA 0, 6, .inl mf36)), (m37, .inl (cA 0, 6, .inl mf37)), (m38, .inl (cA 0, 128, .inl mf38)), (m39, .inl (cA 0, 128, .inl mf39)), (m40, .inl (cA 0, 128, .inl mf40)), (m33, .inl (cA 0, 42, .inl mf33)), (m35, .inl (cA 1, 6, .inl mf35))] H := hP
  have hD : va_D A [(h0, .inr (8, (fs.set 12 (.int 0)))), (m22, .inl (cA 0, 6, .inl mf22)), (m26, .inl (cA 0, 12, .inl mf26)), (m28, .inl (cA 0, 12, .inl mf28)), (m52, .inl (cA 0, 20, .inl mf52)), (m53, .inl (cA 0, 20, .inl mf53)), (m55, .inl (cA 0, 10, .inl mf55)), (m56, .inl (cA 0, 12, .inl mf56)), (m57, .inl (cA 0, 12, .inl mf57)), (m58, .inl (cA 0, 12, .inl mf58)), (m59, .inl (cA 0, 12, .inl mf59)), (m60, .inl (cA 0, 2, .inl mf60)), (m61, .inl (cA 0, 2, .inl mf61)), (m62, .inl (cA 0, 2, .inl mf62)), (m71, .inl (cA 0, 10, .inl mf71)), (m23, .inl (cA 0, 10, .inl mf23)), (m24, .inl (cA 0, 10, .inl mf24)), (m25, .inl (cA 0, 12, .inl mf25)), (m27, .inl (cA 0, 12, .inl mf27)), (m29, .inl (cA 0, 20, .inl mf29)), (m30, .inl (cA 0, 20, .inl mf30)), (m31, .inl (cA 0, 20, .inl mf31)), (m32, .inl (cA 0, 20, .inl mf32)), (m36, .inl (cA 0, 6, .inl mf36)), (m37, .inl (cA 0, 6, .inl mf37)), (m38, .inl (cA 0, 128, .inl mf38)), (m39, .inl (cA 0, 128, .inl mf39)), (m40, .inl (cA 0, 128, .inl mf40)), (m33, .inl (cA 0, 42, .inl mf33)), (m35, .inl (cA 1, 6, .inl mf35))] := hD
  have hf := fh_set (l' := [(12, .int 0), (22, .ref m22), (26, .ref m26), (28, .ref m28), (52, .ref m52), (53, .ref m53), (55, .ref m55), (56, .ref m56), (57, .ref m57), (58, .ref m58), (59, .ref m59), (60, .ref m60), (61, .ref m61), (62, .ref m62), (71, .ref m71), (23, .ref m23), (24, .ref m24), (25, .ref m25), (27, .ref m27), (29, .ref m29), (30, .ref m30), (31, .ref m31), (32, .ref m32), (36, .ref m36), (37, .ref m37), (38, .ref m38), (39, .ref m39), (40, .ref m40), (33, .ref m33), (35, .ref m35), (16, .int 0), (17, .int 0), (18, .int 0), (19, .int 0)]) hf 12 (.int 0) (by decide) rfl
  have ho102 := fo_set ho_hf 12 (.int 0)
  generalize (fs.set 12 (.int 0)) = fs101 at hP hD hf ho102
  refine lv_aload_n hx hb dX8_keepText_8 rfl (lv_at hl 0 rfl) ?_
  refine lv_aload_n hx hb dX8_keepText_9 rfl (lv_at hl 0 rfl) ?_
  refine va_get (D := G) (ci := 8) (v := .int 0) (C := RX8) (T := TX8) (N := 91) hx hb hT ku_8 hown hK hP 0 rfl rfl 17 (by decide) (hT _ kw_11_18) (fun _ h9 => h9) (fh_at hf 31 rfl) dX8_keepText_10 ?_
  refine va_put (D := G) (ci := 8) (v := .int 0) (ty := .int) (C := RX8) (T := TX8) (N := 91) hx hb hT ku_8 tyX8 tyX8_ok nmX8 hown hK hP hD hS 0 rfl rfl 13 (by decide) (hT _ kw_12_4) (fun _ h9 => h9) rfl (by decide +kernel) rfl rfl (fh_lt hf (by decide)) dX8_keepText_13 (fun H locs hP hD hS => ?_)
  have hP : va_P G vwCl [(h0, .inr (8, (fs101.set 13 (.int 0)))), (m22, .inl (cA 0, 6, .inl mf22)), (m26, .inl (cA 0, 12, .inl mf26)), (m28, .inl (cA 0, 12, .inl mf28)), (m52, .inl (cA 0, 20, .inl mf52)), (m53, .inl (cA 0, 20, .inl mf53)), (m55, .inl (cA 0, 10, .inl mf55)), (m56, .inl (cA 0, 12, .inl mf56)), (m57, .inl (cA 0, 12, .inl mf57)), (m58, .inl (cA 0, 12, .inl mf58)), (m59, .inl (cA 0, 12, .inl mf59)), (m60, .inl (cA 0, 2, .inl mf60)), (m61, .inl (cA 0, 2, .inl mf61)), (m62, .inl (cA 0, 2, .inl mf62)), (m71, .inl (cA 0, 10, .inl mf71)), (m23, .inl (cA 0, 10, .inl mf23)), (m24, .inl (cA 0, 10, .inl mf24)), (m25, .inl (cA 0, 12, .inl mf25)), (m27, .inl (cA 0, 12, .inl mf27)), (m29, .inl (cA 0, 20, .inl mf29)), (m30, .inl (cA 0, 20, .inl mf30)), (m31, .inl (cA 0, 20, .inl mf31)), (m32, .inl (cA 0, 20, .inl mf32)), (m36, .inl (cA 0, 6, .inl mf36)), (m37, .inl (cA 0, 6, .inl mf37)), (m38, .inl (cA 0, 128, .inl mf38)), (m39, .inl (cA 0, 128, .inl mf39)), (m40, .inl (cA 0, 128, .inl mf40)), (m33, .inl (cA 0, 42, .inl mf33)), (m35, .inl (cA 1, 6, .inl mf35))] H := hP
  have hD : va_D A [(h0, .inr (8, (fs101.set 13 (.int 0)))), (m22, .inl (cA 0, 6, .inl mf22)), (m26, .inl (cA 0, 12, .inl mf26)), (m28, .inl (cA 0, 12, .inl mf28)), (m52, .inl (cA 0, 20, .inl mf52)), (m53, .inl (cA 0, 20, .inl mf53)), (m55, .inl (cA 0, 10, .inl mf55)), (m56, .inl (cA 0, 12, .inl mf56)), (m57, .inl (cA 0, 12, .inl mf57)), (m58, .inl (cA 0, 12, .inl mf58)), (m59, .inl (cA 0, 12, .inl mf59)), (m60, .inl (cA 0, 2, .inl mf60)), (m61, .inl (cA 0, 2, .inl mf61)), (m62, .inl (cA 0, 2, .inl mf62)), (m71, .inl (cA 0, 10, .inl mf71)), (m23, .inl (cA 0, 10, .inl mf23)), (m24, .inl (cA 0, 10, .inl mf24)), (m25, .inl (cA 0, 12, .inl mf25)), (m27, .inl (cA 0, 12, .inl mf27)), (m29, .inl (cA 0, 20, .inl mf29)), (m30, .inl (cA 0, 20, .inl mf30)), (m31, .inl (cA 0, 20, .inl mf31)), (m32, .inl (cA 0, 20, .inl mf32)), (m36, .inl (cA 0, 6, .inl mf36)), (m37, .inl (cA 0, 6, .inl mf37)), (m38, .inl (cA 0, 128, .inl mf38)), (m39, .inl (cA 0, 128, .inl mf39)), (m40, .inl (cA 0, 128, .inl mf40)), (m33, .inl (cA 0, 42, .inl mf33)), (m35, .inl (cA 1, 6, .inl mf35))] := hD
  have hf := fh_set (l' := [(13, .int 0), (12, .int 0), (22, .ref m22), (26, .ref m26), (28, .ref m28), (52, .ref m52), (53, .ref m53), (55, .ref m55), (56, .ref m56), (57, .ref m57), (58, .ref m58), (59, .ref m59), (60, .ref m60), (61, .ref m61), (62, .ref m62), (71, .ref m71), (23, .ref m23), (24, .ref m24), (25, .ref m25), (27, .ref m27), (29, .ref m29), (30, .ref m30), (31, .ref m31), (32, .ref m32), (36, .ref m36), (37, .ref m37), (38, .ref m38), (39, .ref m39), (40, .ref m40), (33, .ref m33), (35, .ref m35), (16, .int 0), (17, .int 0), (18, .int 0), (19, .int 0)]) hf 13 (.int 0) (by decide) rfl
  have ho104 := fo_set ho102 13 (.int 0)
  generalize (fs101.set 13 (.int 0)) = fs103 at hP hD hf ho104
  refine lv_aload_n hx hb dX8_keepText_16 rfl (lv_at hl 0 rfl) ?_
  refine lv_aload_n hx hb dX8_keepText_17 rfl (lv_at hl 0 rfl) ?_
  refine va_get (D := G) (ci := 8) (v := .int 0) (C := RX8) (T := TX8) (N := 91) hx hb hT ku_8 hown hK hP 0 rfl rfl 18 (by decide) (hT _ kw_11_19) (fun _ h9 => h9) (fh_at hf 33 rfl) dX8_keepText_18 ?_
  refine va_put (D := G) (ci := 8) (v := .int 0) (ty := .int) (C := RX8) (T := TX8) (N := 91) hx hb hT ku_8 tyX8 tyX8_ok nmX8 hown hK hP hD hS 0 rfl rfl 14 (by decide) (hT _ kw_12_5) (fun _ h9 => h9) rfl (by decide +kernel) rfl rfl (fh_lt hf (by decide)) dX8_keepText_21 (fun H locs hP hD hS => ?_)
  have hP : va_P G vwCl [(h0, .inr (8, (fs103.set 14 (.int 0)))), (m22, .inl (cA 0, 6, .inl mf22)), (m26, .inl (cA 0, 12, .inl mf26)), (m28, .inl (cA 0, 12, .inl mf28)), (m52, .inl (cA 0, 20, .inl mf52)), (m53, .inl (cA 0, 20, .inl mf53)), (m55, .inl (cA 0, 10, .inl mf55)), (m56, .inl (cA 0, 12, .inl mf56)), (m57, .inl (cA 0, 12, .inl mf57)), (m58, .inl (cA 0, 12, .inl mf58)), (m59, .inl (cA 0, 12, .inl mf59)), (m60, .inl (cA 0, 2, .inl mf60)), (m61, .inl (cA 0, 2, .inl mf61)), (m62, .inl (cA 0, 2, .inl mf62)), (m71, .inl (cA 0, 10, .inl mf71)), (m23, .inl (cA 0, 10, .inl mf23)), (m24, .inl (cA 0, 10, .inl mf24)), (m25, .inl (cA 0, 12, .inl mf25)), (m27, .inl (cA 0, 12, .inl mf27)), (m29, .inl (cA 0, 20, .inl mf29)), (m30, .inl (cA 0, 20, .inl mf30)), (m31, .inl (cA 0, 20, .inl mf31)), (m32, .inl (cA 0, 20, .inl mf32)), (m36, .inl (cA 0, 6, .inl mf36)), (m37, .inl (cA 0, 6, .inl mf37)), (m38, .inl (cA 0, 128, .inl mf38)), (m39, .inl (cA 0, 128, .inl mf39)), (m40, .inl (cA 0, 128, .inl mf40)), (m33, .inl (cA 0, 42, .inl mf33)), (m35, .inl (cA 1, 6, .inl mf35))] H := hP
  have hD : va_D A [(h0, .inr (8, (fs103.set 14 (.int 0)))), (m22, .inl (cA 0, 6, .inl mf22)), (m26, .inl (cA 0, 12, .inl mf26)), (m28, .inl (cA 0, 12, .inl mf28)), (m52, .inl (cA 0, 20, .inl mf52)), (m53, .inl (cA 0, 20, .inl mf53)), (m55, .inl (cA 0, 10, .inl mf55)), (m56, .inl (cA 0, 12, .inl mf56)), (m57, .inl (cA 0, 12, .inl mf57)), (m58, .inl (cA 0, 12, .inl mf58)), (m59, .inl (cA 0, 12, .inl mf59)), (m60, .inl (cA 0, 2, .inl mf60)), (m61, .inl (cA 0, 2, .inl mf61)), (m62, .inl (cA 0, 2, .inl mf62)), (m71, .inl (cA 0, 10, .inl mf71)), (m23, .inl (cA 0, 10, .inl mf23)), (m24, .inl (cA 0, 10, .inl mf24)), (m25, .inl (cA 0, 12, .inl mf25)), (m27, .inl (cA 0, 12, .inl mf27)), (m29, .inl (cA 0, 20, .inl mf29)), (m30, .inl (cA 0, 20, .inl mf30)), (m31, .inl (cA 0, 20, .inl mf31)), (m32, .inl (cA 0, 20, .inl mf32)), (m36, .inl (cA 0, 6, .inl mf36)), (m37, .inl (cA 0, 6, .inl mf37)), (m38, .inl (cA 0, 128, .inl mf38)), (m39, .inl (cA 0, 128, .inl mf39)), (m40, .inl (cA 0, 128, .inl mf40)), (m33, .inl (cA 0, 42, .inl mf33)), (m35, .inl (cA 1, 6, .inl mf35))] := hD
  have hf := fh_set (l' := [(14, .int 0), (13, .int 0), (12, .int 0), (22, .ref m22), (26, .ref m26), (28, .ref m28), (52, .ref m52), (53, .ref m53), (55, .ref m55), (56, .ref m56), (57, .ref m57), (58, .ref m58), (59, .ref m59), (60, .ref m60), (61, .ref m61), (62, .ref m62), (71, .ref m71), (23, .ref m23), (24, .ref m24), (25, .ref m25), (27, .ref m27), (29, .ref m29), (30, .ref m30), (31, .ref m31), (32, .ref m32), (36, .ref m36), (37, .ref m37), (38, .ref m38), (39, .ref m39), (40, .ref m40), (33, .ref m33), (35, .ref m35), (16, .int 0), (17, .int 0), (18, .int 0), (19, .int 0)]) hf 14 (.int 0) (by decide) rfl
  have ho106 := fo_set ho104 14 (.int 0)
  generalize (fs103.set 14 (.int 0)) = fs105 at hP hD hf ho106
  refine lv_aload_n hx hb dX8_keepText_24 rfl (lv_at hl 0 rfl) ?_
  refine lv_aload_n hx hb dX8_keepText_25 rfl (lv_at hl 0 rfl) ?_
  refine va_get (D := G) (ci := 8) (v := .int 0) (C := RX8) (T := TX8) (N := 91) hx hb hT ku_8 hown hK hP 0 rfl rfl 19 (by decide) (hT _ kw_11_20) (fun _ h9 => h9) (fh_at hf 35 rfl) dX8_keepText_26 ?_
  refine va_put (D := G) (ci := 8) (v := .int 0) (ty := .int) (C := RX8) (T := TX8) (N := 91) hx hb hT ku_8 tyX8 tyX8_ok nmX8 hown hK hP hD hS 0 rfl rfl 15 (by decide) (hT _ kw_12_6) (fun _ h9 => h9) rfl (by decide +kernel) rfl rfl (fh_lt hf (by decide)) dX8_keepText_29 (fun H locs hP hD hS => ?_)
  have hP : va_P G vwCl [(h0, .inr (8, (fs105.set 15 (.int 0)))), (m22, .inl (cA 0, 6, .inl mf22)), (m26, .inl (cA 0, 12, .inl mf26)), (m28, .inl (cA 0, 12, .inl mf28)), (m52, .inl (cA 0, 20, .inl mf52)), (m53, .inl (cA 0, 20, .inl mf53)), (m55, .inl (cA 0, 10, .inl mf55)), (m56, .inl (cA 0, 12, .inl mf56)), (m57, .inl (cA 0, 12, .inl mf57)), (m58, .inl (cA 0, 12, .inl mf58)), (m59, .inl (cA 0, 12, .inl mf59)), (m60, .inl (cA 0, 2, .inl mf60)), (m61, .inl (cA 0, 2, .inl mf61)), (m62, .inl (cA 0, 2, .inl mf62)), (m71, .inl (cA 0, 10, .inl mf71)), (m23, .inl (cA 0, 10, .inl mf23)), (m24, .inl (cA 0, 10, .inl mf24)), (m25, .inl (cA 0, 12, .inl mf25)), (m27, .inl (cA 0, 12, .inl mf27)), (m29, .inl (cA 0, 20, .inl mf29)), (m30, .inl (cA 0, 20, .inl mf30)), (m31, .inl (cA 0, 20, .inl mf31)), (m32, .inl (cA 0, 20, .inl mf32)), (m36, .inl (cA 0, 6, .inl mf36)), (m37, .inl (cA 0, 6, .inl mf37)), (m38, .inl (cA 0, 128, .inl mf38)), (m39, .inl (cA 0, 128, .inl mf39)), (m40, .inl (cA 0, 128, .inl mf40)), (m33, .inl (cA 0, 42, .inl mf33)), (m35, .inl (cA 1, 6, .inl mf35))] H := hP
  have hD : va_D A [(h0, .inr (8, (fs105.set 15 (.int 0)))), (m22, .inl (cA 0, 6, .inl mf22)), (m26, .inl (cA 0, 12, .inl mf26)), (m28, .inl (cA 0, 12, .inl mf28)), (m52, .inl (cA 0, 20, .inl mf52)), (m53, .inl (cA 0, 20, .inl mf53)), (m55, .inl (cA 0, 10, .inl mf55)), (m56, .inl (cA 0, 12, .inl mf56)), (m57, .inl (cA 0, 12, .inl mf57)), (m58, .inl (cA 0, 12, .inl mf58)), (m59, .inl (cA 0, 12, .inl mf59)), (m60, .inl (cA 0, 2, .inl mf60)), (m61, .inl (cA 0, 2, .inl mf61)), (m62, .inl (cA 0, 2, .inl mf62)), (m71, .inl (cA 0, 10, .inl mf71)), (m23, .inl (cA 0, 10, .inl mf23)), (m24, .inl (cA 0, 10, .inl mf24)), (m25, .inl (cA 0, 12, .inl mf25)), (m27, .inl (cA 0, 12, .inl mf27)), (m29, .inl (cA 0, 20, .inl mf29)), (m30, .inl (cA 0, 20, .inl mf30)), (m31, .inl (cA 0, 20, .inl mf31)), (m32, .inl (cA 0, 20, .inl mf32)), (m36, .inl (cA 0, 6, .inl mf36)), (m37, .inl (cA 0, 6, .inl mf37)), (m38, .inl (cA 0, 128, .inl mf38)), (m39, .inl (cA 0, 128, .inl mf39)), (m40, .inl (cA 0, 128, .inl mf40)), (m33, .inl (cA 0, 42, .inl mf33)), (m35, .inl (cA 1, 6, .inl mf35))] := hD
  have hf := fh_set (l' := [(15, .int 0), (14, .int 0), (13, .int 0), (12, .int 0), (22, .ref m22), (26, .ref m26), (28, .ref m28), (52, .ref m52), (53, .ref m53), (55, .ref m55), (56, .ref m56), (57, .ref m57), (58, .ref m58), (59, .ref m59), (60, .ref m60), (61, .ref m61), (62, .ref m62), (71, .ref m71), (23, .ref m23), (24, .ref m24), (25, .ref m25), (27, .ref m27), (29, .ref m29), (30, .ref m30), (31, .ref m31), (32, .ref m32), (36, .ref m36), (37, .ref m37), (38, .ref m38), (39, .ref m39), (40, .ref m40), (33, .ref m33), (35, .ref m35), (16, .int 0), (17, .int 0), (18, .int 0), (19, .int 0)]) hf 15 (.int 0) (by decide) rfl
  have ho108 := fo_set ho106 15 (.int 0)
  generalize (fs105.set 15 (.int 0)) = fs107 at hP hD hf ho108
  refine lv_aload_n hx hb dX8_keepText_32 rfl (lv_at hl 0 rfl) ?_
  refine va_get (D := G) (ci := 8) (v := .ref m22) (C := RX8) (T := TX8) (N := 91) hx hb hT ku_8 hown hK hP 0 rfl rfl 22 (by decide) (hT _ kw_9_14) (fun _ h9 => h9) (fh_at hf 4 rfl) dX8_keepText_33 ?_
  refine lv_iconst (v := 3) hx hb dX8_keepText_36 (by decide) ?_
  refine tq_cv (wr := [(h0, .inr (8, fs107)), (m26, .inl (cA 0, 12, .inl mf26)), (m28, .inl (cA 0, 12, .inl mf28)), (m52, .inl (cA 0, 20, .inl mf52)), (m53, .inl (cA 0, 20, .inl mf53)), (m55, .inl (cA 0, 10, .inl mf55)), (m56, .inl (cA 0, 12, .inl mf56)), (m57, .inl (cA 0, 12, .inl mf57)), (m58, .inl (cA 0, 12, .inl mf58)), (m59, .inl (cA 0, 12, .inl mf59)), (m60, .inl (cA 0, 2, .inl mf60)), (m61, .inl (cA 0, 2, .inl mf61)), (m62, .inl (cA 0, 2, .inl mf62)), (m71, .inl (cA 0, 10, .inl mf71)), (m23, .inl (cA 0, 10, .inl mf23)), (m24, .inl (cA 0, 10, .inl mf24)), (m25, .inl (cA 0, 12, .inl mf25)), (m27, .inl (cA 0, 12, .inl mf27)), (m29, .inl (cA 0, 20, .inl mf29)), (m30, .inl (cA 0, 20, .inl mf30)), (m31, .inl (cA 0, 20, .inl mf31)), (m32, .inl (cA 0, 20, .inl mf32)), (m36, .inl (cA 0, 6, .inl mf36)), (m37, .inl (cA 0, 6, .inl mf37)), (m38, .inl (cA 0, 128, .inl mf38)), (m39, .inl (cA 0, 128, .inl mf39)), (m40, .inl (cA 0, 128, .inl mf40)), (m33, .inl (cA 0, 42, .inl mf33)), (m35, .inl (cA 1, 6, .inl mf35))]) hP hD hS hA [1] [0, 2, 3, 4, 5, 6, 7, 8, 9, 10, 11, 12, 13, 14, 15, 16, 17, 18, 19, 20, 21, 22, 23, 24, 25, 26, 27, 28, 29] rfl rfl (by decide) (by decide) (va_runS (As := [.ref m22, .int 3]) (rest := []) ⟨hx, hb, hml, hown, hT⟩ (c_X8_copies_3z l G cA H.size m22 mf22 he22_3 he22_4 he22_5) (va_cwS 2 hT (tq_gS kw_12_7 kw_12_8 kw_1_5 kw_12_9) rfl rfl rfl (by decide +kernel) ⟨Nat.le_of_ble_eq_true rfl, Nat.le_of_ble_eq_true rfl⟩) (tq_pre (isC := [1]) hP hD hK hN rfl (by decide)) rfl rfl hl.1 rfl (lv_room (Nat.le_of_ble_eq_true rfl)) dX8_keepText_37 ⟨Nat.le_of_ble_eq_true rfl, Nat.le_of_ble_eq_true rfl⟩) (fun u109 H locs hw110 hP hD hS => ?_)
  refine W.widen (k := 0) (n := 0) (Nat.le_of_ble_eq_true rfl) (Nat.le_of_ble_eq_true rfl) ?_
  obtain ⟨hE112, hE113, hE114, hE115, hE116, hE117⟩ := hw110
  have hP : va_P G vwCl [(h0, .inr (8, fs107)), (m26, .inl (cA 0, 12, .inl mf26)), (m28, .inl (cA 0, 12, .inl mf28)), (m52, .inl (cA 0, 20, .inl mf52)), (m53, .inl (cA 0, 20, .inl mf53)), (m55, .inl (cA 0, 10, .inl mf55)), (m56, .inl (cA 0, 12, .inl mf56)), (m57, .inl (cA 0, 12, .inl mf57)), (m58, .inl (cA 0, 12, .inl mf58)), (m59, .inl (cA 0, 12, .inl mf59)), (m60, .inl (cA 0, 2, .inl mf60)), (m61, .inl (cA 0, 2, .inl mf61)), (m62, .inl (cA 0, 2, .inl mf62)), (m71, .inl (cA 0, 10, .inl mf71)), (m23, .inl (cA 0, 10, .inl mf23)), (m24, .inl (cA 0, 10, .inl mf24)), (m25, .inl (cA 0, 12, .inl mf25)), (m27, .inl (cA 0, 12, .inl mf27)), (m29, .inl (cA 0, 20, .inl mf29)), (m30, .inl (cA 0, 20, .inl mf30)), (m31, .inl (cA 0, 20, .inl mf31)), (m32, .inl (cA 0, 20, .inl mf32)), (m36, .inl (cA 0, 6, .inl mf36)), (m37, .inl (cA 0, 6, .inl mf37)), (m38, .inl (cA 0, 128, .inl mf38)), (m39, .inl (cA 0, 128, .inl mf39)), (m40, .inl (cA 0, 128, .inl mf40)), (m33, .inl (cA 0, 42, .inl mf33)), (m35, .inl (cA 1, 6, .inl mf35)), (m22, .inl (cA 0, 6, .inl u109))] H := hP
  have hD : va_D A [(h0, .inr (8, fs107)), (m26, .inl (cA 0, 12, .inl mf26)), (m28, .inl (cA 0, 12, .inl mf28)), (m52, .inl (cA 0, 20, .inl mf52)), (m53, .inl (cA 0, 20, .inl mf53)), (m55, .inl (cA 0, 10, .inl mf55)), (m56, .inl (cA 0, 12, .inl mf56)), (m57, .inl (cA 0, 12, .inl mf57)), (m58, .inl (cA 0, 12, .inl mf58)), (m59, .inl (cA 0, 12, .inl mf59)), (m60, .inl (cA 0, 2, .inl mf60)), (m61, .inl (cA 0, 2, .inl mf61)), (m62, .inl (cA 0, 2, .inl mf62)), (m71, .inl (cA 0, 10, .inl mf71)), (m23, .inl (cA 0, 10, .inl mf23)), (m24, .inl (cA 0, 10, .inl mf24)), (m25, .inl (cA 0, 12, .inl mf25)), (m27, .inl (cA 0, 12, .inl mf27)), (m29, .inl (cA 0, 20, .inl mf29)), (m30, .inl (cA 0, 20, .inl mf30)), (m31, .inl (cA 0, 20, .inl mf31)), (m32, .inl (cA 0, 20, .inl mf32)), (m36, .inl (cA 0, 6, .inl mf36)), (m37, .inl (cA 0, 6, .inl mf37)), (m38, .inl (cA 0, 128, .inl mf38)), (m39, .inl (cA 0, 128, .inl mf39)), (m40, .inl (cA 0, 128, .inl mf40)), (m33, .inl (cA 0, 42, .inl mf33)), (m35, .inl (cA 1, 6, .inl mf35)), (m22, .inl (cA 0, 6, .inl u109))] := hD
  refine lv_aload_n hx hb dX8_keepText_40 rfl (lv_at hl 0 rfl) ?_
  refine va_get (D := G) (ci := 8) (v := .ref m23) (C := RX8) (T := TX8) (N := 91) hx hb hT ku_8 hown hK hP 0 rfl rfl 23 (by decide) (hT _ kw_9_15) (fun _ h9 => h9) (fh_at hf 18 rfl) dX8_keepText_41 ?_
  refine lv_iconst (v := 5) hx hb dX8_keepText_44 (by decide) ?_
  refine tq_cv (wr := [(h0, .inr (8, fs107)), (m26, .inl (cA 0, 12, .inl mf26)), (m28, .inl (cA 0, 12, .inl mf28)), (m52, .inl (cA 0, 20, .inl mf52)), (m53, .inl (cA 0, 20, .inl mf53)), (m55, .inl (cA 0, 10, .inl mf55)), (m56, .inl (cA 0, 12, .inl mf56)), (m57, .inl (cA 0, 12, .inl mf57)), (m58, .inl (cA 0, 12, .inl mf58)), (m59, .inl (cA 0, 12, .inl mf59)), (m60, .inl (cA 0, 2, .inl mf60)), (m61, .inl (cA 0, 2, .inl mf61)), (m62, .inl (cA 0, 2, .inl mf62)), (m71, .inl (cA 0, 10, .inl mf71)), (m24, .inl (cA 0, 10, .inl mf24)), (m25, .inl (cA 0, 12, .inl mf25)), (m27, .inl (cA 0, 12, .inl mf27)), (m29, .inl (cA 0, 20, .inl mf29)), (m30, .inl (cA 0, 20, .inl mf30)), (m31, .inl (cA 0, 20, .inl mf31)), (m32, .inl (cA 0, 20, .inl mf32)), (m36, .inl (cA 0, 6, .inl mf36)), (m37, .inl (cA 0, 6, .inl mf37)), (m38, .inl (cA 0, 128, .inl mf38)), (m39, .inl (cA 0, 128, .inl mf39)), (m40, .inl (cA 0, 128, .inl mf40)), (m33, .inl (cA 0, 42, .inl mf33)), (m35, .inl (cA 1, 6, .inl mf35)), (m22, .inl (cA 0, 6, .inl u109))]) hP hD hS hA [14] [0, 1, 2, 3, 4, 5, 6, 7, 8, 9, 10, 11, 12, 13, 15, 16, 17, 18, 19, 20, 21, 22, 23, 24, 25, 26, 27, 28, 29] rfl rfl (by decide) (by decide) (va_runS (As := [.ref m23, .int 5]) (rest := []) ⟨hx, hb, hml, hown, hT⟩ (c_X8_copies_5 l G cA H.size m23 mf23 ) (va_cwS 2 hT (tq_gS kw_12_7 kw_12_8 kw_1_5 kw_12_9) rfl rfl rfl (by decide +kernel) ⟨Nat.le_of_ble_eq_true rfl, Nat.le_of_ble_eq_true rfl⟩) (tq_pre (isC := [14]) hP hD hK hN rfl (by decide)) rfl rfl hl.1 rfl (lv_room (Nat.le_of_ble_eq_true rfl)) dX8_keepText_45 ⟨Nat.le_of_ble_eq_true rfl, Nat.le_of_ble_eq_true rfl⟩) (fun u118 H locs hw119 hP hD hS => ?_)
  refine W.widen (k := 0) (n := 0) (Nat.le_of_ble_eq_true rfl) (Nat.le_of_ble_eq_true rfl) ?_
  have hP : va_P G vwCl [(h0, .inr (8, fs107)), (m26, .inl (cA 0, 12, .inl mf26)), (m28, .inl (cA 0, 12, .inl mf28)), (m52, .inl (cA 0, 20, .inl mf52)), (m53, .inl (cA 0, 20, .inl mf53)), (m55, .inl (cA 0, 10, .inl mf55)), (m56, .inl (cA 0, 12, .inl mf56)), (m57, .inl (cA 0, 12, .inl mf57)), (m58, .inl (cA 0, 12, .inl mf58)), (m59, .inl (cA 0, 12, .inl mf59)), (m60, .inl (cA 0, 2, .inl mf60)), (m61, .inl (cA 0, 2, .inl mf61)), (m62, .inl (cA 0, 2, .inl mf62)), (m71, .inl (cA 0, 10, .inl mf71)), (m24, .inl (cA 0, 10, .inl mf24)), (m25, .inl (cA 0, 12, .inl mf25)), (m27, .inl (cA 0, 12, .inl mf27)), (m29, .inl (cA 0, 20, .inl mf29)), (m30, .inl (cA 0, 20, .inl mf30)), (m31, .inl (cA 0, 20, .inl mf31)), (m32, .inl (cA 0, 20, .inl mf32)), (m36, .inl (cA 0, 6, .inl mf36)), (m37, .inl (cA 0, 6, .inl mf37)), (m38, .inl (cA 0, 128, .inl mf38)), (m39, .inl (cA 0, 128, .inl mf39)), (m40, .inl (cA 0, 128, .inl mf40)), (m33, .inl (cA 0, 42, .inl mf33)), (m35, .inl (cA 1, 6, .inl mf35)), (m22, .inl (cA 0, 6, .inl u109)), (m23, .inl (cA 0, 10, .inl u118))] H := hP
  have hD : va_D A [(h0, .inr (8, fs107)), (m26, .inl (cA 0, 12, .inl mf26)), (m28, .inl (cA 0, 12, .inl mf28)), (m52, .inl (cA 0, 20, .inl mf52)), (m53, .inl (cA 0, 20, .inl mf53)), (m55, .inl (cA 0, 10, .inl mf55)), (m56, .inl (cA 0, 12, .inl mf56)), (m57, .inl (cA 0, 12, .inl mf57)), (m58, .inl (cA 0, 12, .inl mf58)), (m59, .inl (cA 0, 12, .inl mf59)), (m60, .inl (cA 0, 2, .inl mf60)), (m61, .inl (cA 0, 2, .inl mf61)), (m62, .inl (cA 0, 2, .inl mf62)), (m71, .inl (cA 0, 10, .inl mf71)), (m24, .inl (cA 0, 10, .inl mf24)), (m25, .inl (cA 0, 12, .inl mf25)), (m27, .inl (cA 0, 12, .inl mf27)), (m29, .inl (cA 0, 20, .inl mf29)), (m30, .inl (cA 0, 20, .inl mf30)), (m31, .inl (cA 0, 20, .inl mf31)), (m32, .inl (cA 0, 20, .inl mf32)), (m36, .inl (cA 0, 6, .inl mf36)), (m37, .inl (cA 0, 6, .inl mf37)), (m38, .inl (cA 0, 128, .inl mf38)), (m39, .inl (cA 0, 128, .inl mf39)), (m40, .inl (cA 0, 128, .inl mf40)), (m33, .inl (cA 0, 42, .inl mf33)), (m35, .inl (cA 1, 6, .inl mf35)), (m22, .inl (cA 0, 6, .inl u109)), (m23, .inl (cA 0, 10, .inl u118))] := hD
  refine lv_aload_n hx hb dX8_keepText_48 rfl (lv_at hl 0 rfl) ?_
  refine va_get (D := G) (ci := 8) (v := .ref m24) (C := RX8) (T := TX8) (N := 91) hx hb hT ku_8 hown hK hP 0 rfl rfl 24 (by decide) (hT _ kw_9_16) (fun _ h9 => h9) (fh_at hf 19 rfl) dX8_keepText_49 ?_
  refine lv_iconst (v := 5) hx hb dX8_keepText_52 (by decide) ?_
  refine tq_cv (wr := [(h0, .inr (8, fs107)), (m26, .inl (cA 0, 12, .inl mf26)), (m28, .inl (cA 0, 12, .inl mf28)), (m52, .inl (cA 0, 20, .inl mf52)), (m53, .inl (cA 0, 20, .inl mf53)), (m55, .inl (cA 0, 10, .inl mf55)), (m56, .inl (cA 0, 12, .inl mf56)), (m57, .inl (cA 0, 12, .inl mf57)), (m58, .inl (cA 0, 12, .inl mf58)), (m59, .inl (cA 0, 12, .inl mf59)), (m60, .inl (cA 0, 2, .inl mf60)), (m61, .inl (cA 0, 2, .inl mf61)), (m62, .inl (cA 0, 2, .inl mf62)), (m71, .inl (cA 0, 10, .inl mf71)), (m25, .inl (cA 0, 12, .inl mf25)), (m27, .inl (cA 0, 12, .inl mf27)), (m29, .inl (cA 0, 20, .inl mf29)), (m30, .inl (cA 0, 20, .inl mf30)), (m31, .inl (cA 0, 20, .inl mf31)), (m32, .inl (cA 0, 20, .inl mf32)), (m36, .inl (cA 0, 6, .inl mf36)), (m37, .inl (cA 0, 6, .inl mf37)), (m38, .inl (cA 0, 128, .inl mf38)), (m39, .inl (cA 0, 128, .inl mf39)), (m40, .inl (cA 0, 128, .inl mf40)), (m33, .inl (cA 0, 42, .inl mf33)), (m35, .inl (cA 1, 6, .inl mf35)), (m22, .inl (cA 0, 6, .inl u109)), (m23, .inl (cA 0, 10, .inl u118))]) hP hD hS hA [14] [0, 1, 2, 3, 4, 5, 6, 7, 8, 9, 10, 11, 12, 13, 15, 16, 17, 18, 19, 20, 21, 22, 23, 24, 25, 26, 27, 28, 29] rfl rfl (by decide) (by decide) (va_runS (As := [.ref m24, .int 5]) (rest := []) ⟨hx, hb, hml, hown, hT⟩ (c_X8_copies_5 l G cA H.size m24 mf24 ) (va_cwS 2 hT (tq_gS kw_12_7 kw_12_8 kw_1_5 kw_12_9) rfl rfl rfl (by decide +kernel) ⟨Nat.le_of_ble_eq_true rfl, Nat.le_of_ble_eq_true rfl⟩) (tq_pre (isC := [14]) hP hD hK hN rfl (by decide)) rfl rfl hl.1 rfl (lv_room (Nat.le_of_ble_eq_true rfl)) dX8_keepText_53 ⟨Nat.le_of_ble_eq_true rfl, Nat.le_of_ble_eq_true rfl⟩) (fun u121 H locs hw122 hP hD hS => ?_)
  refine W.widen (k := 0) (n := 0) (Nat.le_of_ble_eq_true rfl) (Nat.le_of_ble_eq_true rfl) ?_
  have hP : va_P G vwCl [(h0, .inr (8, fs107)), (m26, .inl (cA 0, 12, .inl mf26)), (m28, .inl (cA 0, 12, .inl mf28)), (m52, .inl (cA 0, 20, .inl mf52)), (m53, .inl (cA 0, 20, .inl mf53)), (m55, .inl (cA 0, 10, .inl mf55)), (m56, .inl (cA 0, 12, .inl mf56)), (m57, .inl (cA 0, 12, .inl mf57)), (m58, .inl (cA 0, 12, .inl mf58)), (m59, .inl (cA 0, 12, .inl mf59)), (m60, .inl (cA 0, 2, .inl mf60)), (m61, .inl (cA 0, 2, .inl mf61)), (m62, .inl (cA 0, 2, .inl mf62)), (m71, .inl (cA 0, 10, .inl mf71)), (m25, .inl (cA 0, 12, .inl mf25)), (m27, .inl (cA 0, 12, .inl mf27)), (m29, .inl (cA 0, 20, .inl mf29)), (m30, .inl (cA 0, 20, .inl mf30)), (m31, .inl (cA 0, 20, .inl mf31)), (m32, .inl (cA 0, 20, .inl mf32)), (m36, .inl (cA 0, 6, .inl mf36)), (m37, .inl (cA 0, 6, .inl mf37)), (m38, .inl (cA 0, 128, .inl mf38)), (m39, .inl (cA 0, 128, .inl mf39)), (m40, .inl (cA 0, 128, .inl mf40)), (m33, .inl (cA 0, 42, .inl mf33)), (m35, .inl (cA 1, 6, .inl mf35)), (m22, .inl (cA 0, 6, .inl u109)), (m23, .inl (cA 0, 10, .inl u118)), (m24, .inl (cA 0, 10, .inl u121))] H := hP
  have hD : va_D A [(h0, .inr (8, fs107)), (m26, .inl (cA 0, 12, .inl mf26)), (m28, .inl (cA 0, 12, .inl mf28)), (m52, .inl (cA 0, 20, .inl mf52)), (m53, .inl (cA 0, 20, .inl mf53)), (m55, .inl (cA 0, 10, .inl mf55)), (m56, .inl (cA 0, 12, .inl mf56)), (m57, .inl (cA 0, 12, .inl mf57)), (m58, .inl (cA 0, 12, .inl mf58)), (m59, .inl (cA 0, 12, .inl mf59)), (m60, .inl (cA 0, 2, .inl mf60)), (m61, .inl (cA 0, 2, .inl mf61)), (m62, .inl (cA 0, 2, .inl mf62)), (m71, .inl (cA 0, 10, .inl mf71)), (m25, .inl (cA 0, 12, .inl mf25)), (m27, .inl (cA 0, 12, .inl mf27)), (m29, .inl (cA 0, 20, .inl mf29)), (m30, .inl (cA 0, 20, .inl mf30)), (m31, .inl (cA 0, 20, .inl mf31)), (m32, .inl (cA 0, 20, .inl mf32)), (m36, .inl (cA 0, 6, .inl mf36)), (m37, .inl (cA 0, 6, .inl mf37)), (m38, .inl (cA 0, 128, .inl mf38)), (m39, .inl (cA 0, 128, .inl mf39)), (m40, .inl (cA 0, 128, .inl mf40)), (m33, .inl (cA 0, 42, .inl mf33)), (m35, .inl (cA 1, 6, .inl mf35)), (m22, .inl (cA 0, 6, .inl u109)), (m23, .inl (cA 0, 10, .inl u118)), (m24, .inl (cA 0, 10, .inl u121))] := hD
  refine lv_aload_n hx hb dX8_keepText_56 rfl (lv_at hl 0 rfl) ?_
  refine va_get (D := G) (ci := 8) (v := .ref m25) (C := RX8) (T := TX8) (N := 91) hx hb hT ku_8 hown hK hP 0 rfl rfl 25 (by decide) (hT _ kw_9_17) (fun _ h9 => h9) (fh_at hf 20 rfl) dX8_keepText_57 ?_
  refine lv_bipush (v := 6) hx hb dX8_keepText_60 (by decide) ?_
  refine tq_cv (wr := [(h0, .inr (8, fs107)), (m26, .inl (cA 0, 12, .inl mf26)), (m28, .inl (cA 0, 12, .inl mf28)), (m52, .inl (cA 0, 20, .inl mf52)), (m53, .inl (cA 0, 20, .inl mf53)), (m55, .inl (cA 0, 10, .inl mf55)), (m56, .inl (cA 0, 12, .inl mf56)), (m57, .inl (cA 0, 12, .inl mf57)), (m58, .inl (cA 0, 12, .inl mf58)), (m59, .inl (cA 0, 12, .inl mf59)), (m60, .inl (cA 0, 2, .inl mf60)), (m61, .inl (cA 0, 2, .inl mf61)), (m62, .inl (cA 0, 2, .inl mf62)), (m71, .inl (cA 0, 10, .inl mf71)), (m27, .inl (cA 0, 12, .inl mf27)), (m29, .inl (cA 0, 20, .inl mf29)), (m30, .inl (cA 0, 20, .inl mf30)), (m31, .inl (cA 0, 20, .inl mf31)), (m32, .inl (cA 0, 20, .inl mf32)), (m36, .inl (cA 0, 6, .inl mf36)), (m37, .inl (cA 0, 6, .inl mf37)), (m38, .inl (cA 0, 128, .inl mf38)), (m39, .inl (cA 0, 128, .inl mf39)), (m40, .inl (cA 0, 128, .inl mf40)), (m33, .inl (cA 0, 42, .inl mf33)), (m35, .inl (cA 1, 6, .inl mf35)), (m22, .inl (cA 0, 6, .inl u109)), (m23, .inl (cA 0, 10, .inl u118)), (m24, .inl (cA 0, 10, .inl u121))]) hP hD hS hA [14] [0, 1, 2, 3, 4, 5, 6, 7, 8, 9, 10, 11, 12, 13, 15, 16, 17, 18, 19, 20, 21, 22, 23, 24, 25, 26, 27, 28, 29] rfl rfl (by decide) (by decide) (va_runS (As := [.ref m25, .int 6]) (rest := []) ⟨hx, hb, hml, hown, hT⟩ (c_X8_copies_6 l G cA H.size m25 mf25 ) (va_cwS 2 hT (tq_gS kw_12_7 kw_12_8 kw_1_5 kw_12_9) rfl rfl rfl (by decide +kernel) ⟨Nat.le_of_ble_eq_true rfl, Nat.le_of_ble_eq_true rfl⟩) (tq_pre (isC := [14]) hP hD hK hN rfl (by decide)) rfl rfl hl.1 rfl (lv_room (Nat.le_of_ble_eq_true rfl)) dX8_keepText_62 ⟨Nat.le_of_ble_eq_true rfl, Nat.le_of_ble_eq_true rfl⟩) (fun u124 H locs hw125 hP hD hS => ?_)
  refine W.widen (k := 0) (n := 0) (Nat.le_of_ble_eq_true rfl) (Nat.le_of_ble_eq_true rfl) ?_
  have hP : va_P G vwCl [(h0, .inr (8, fs107)), (m26, .inl (cA 0, 12, .inl mf26)), (m28, .inl (cA 0, 12, .inl mf28)), (m52, .inl (cA 0, 20, .inl mf52)), (m53, .inl (cA 0, 20, .inl mf53)), (m55, .inl (cA 0, 10, .inl mf55)), (m56, .inl (cA 0, 12, .inl mf56)), (m57, .inl (cA 0, 12, .inl mf57)), (m58, .inl (cA 0, 12, .inl mf58)), (m59, .inl (cA 0, 12, .inl mf59)), (m60, .inl (cA 0, 2, .inl mf60)), (m61, .inl (cA 0, 2, .inl mf61)), (m62, .inl (cA 0, 2, .inl mf62)), (m71, .inl (cA 0, 10, .inl mf71)), (m27, .inl (cA 0, 12, .inl mf27)), (m29, .inl (cA 0, 20, .inl mf29)), (m30, .inl (cA 0, 20, .inl mf30)), (m31, .inl (cA 0, 20, .inl mf31)), (m32, .inl (cA 0, 20, .inl mf32)), (m36, .inl (cA 0, 6, .inl mf36)), (m37, .inl (cA 0, 6, .inl mf37)), (m38, .inl (cA 0, 128, .inl mf38)), (m39, .inl (cA 0, 128, .inl mf39)), (m40, .inl (cA 0, 128, .inl mf40)), (m33, .inl (cA 0, 42, .inl mf33)), (m35, .inl (cA 1, 6, .inl mf35)), (m22, .inl (cA 0, 6, .inl u109)), (m23, .inl (cA 0, 10, .inl u118)), (m24, .inl (cA 0, 10, .inl u121)), (m25, .inl (cA 0, 12, .inl u124))] H := hP
  have hD : va_D A [(h0, .inr (8, fs107)), (m26, .inl (cA 0, 12, .inl mf26)), (m28, .inl (cA 0, 12, .inl mf28)), (m52, .inl (cA 0, 20, .inl mf52)), (m53, .inl (cA 0, 20, .inl mf53)), (m55, .inl (cA 0, 10, .inl mf55)), (m56, .inl (cA 0, 12, .inl mf56)), (m57, .inl (cA 0, 12, .inl mf57)), (m58, .inl (cA 0, 12, .inl mf58)), (m59, .inl (cA 0, 12, .inl mf59)), (m60, .inl (cA 0, 2, .inl mf60)), (m61, .inl (cA 0, 2, .inl mf61)), (m62, .inl (cA 0, 2, .inl mf62)), (m71, .inl (cA 0, 10, .inl mf71)), (m27, .inl (cA 0, 12, .inl mf27)), (m29, .inl (cA 0, 20, .inl mf29)), (m30, .inl (cA 0, 20, .inl mf30)), (m31, .inl (cA 0, 20, .inl mf31)), (m32, .inl (cA 0, 20, .inl mf32)), (m36, .inl (cA 0, 6, .inl mf36)), (m37, .inl (cA 0, 6, .inl mf37)), (m38, .inl (cA 0, 128, .inl mf38)), (m39, .inl (cA 0, 128, .inl mf39)), (m40, .inl (cA 0, 128, .inl mf40)), (m33, .inl (cA 0, 42, .inl mf33)), (m35, .inl (cA 1, 6, .inl mf35)), (m22, .inl (cA 0, 6, .inl u109)), (m23, .inl (cA 0, 10, .inl u118)), (m24, .inl (cA 0, 10, .inl u121)), (m25, .inl (cA 0, 12, .inl u124))] := hD
  refine lv_aload_n hx hb dX8_keepText_65 rfl (lv_at hl 0 rfl) ?_
  refine va_get (D := G) (ci := 8) (v := .ref m26) (C := RX8) (T := TX8) (N := 91) hx hb hT ku_8 hown hK hP 0 rfl rfl 26 (by decide) (hT _ kw_9_18) (fun _ h9 => h9) (fh_at hf 5 rfl) dX8_keepText_66 ?_
  refine lv_bipush (v := 6) hx hb dX8_keepText_69 (by decide) ?_
  refine tq_cv (wr := [(h0, .inr (8, fs107)), (m28, .inl (cA 0, 12, .inl mf28)), (m52, .inl (cA 0, 20, .inl mf52)), (m53, .inl (cA 0, 20, .inl mf53)), (m55, .inl (cA 0, 10, .inl mf55)), (m56, .inl (cA 0, 12, .inl mf56)), (m57, .inl (cA 0, 12, .inl mf57)), (m58, .inl (cA 0, 12, .inl mf58)), (m59, .inl (cA 0, 12, .inl mf59)), (m60, .inl (cA 0, 2, .inl mf60)), (m61, .inl (cA 0, 2, .inl mf61)), (m62, .inl (cA 0, 2, .inl mf62)), (m71, .inl (cA 0, 10, .inl mf71)), (m27, .inl (cA 0, 12, .inl mf27)), (m29, .inl (cA 0, 20, .inl mf29)), (m30, .inl (cA 0, 20, .inl mf30)), (m31, .inl (cA 0, 20, .inl mf31)), (m32, .inl (cA 0, 20, .inl mf32)), (m36, .inl (cA 0, 6, .inl mf36)), (m37, .inl (cA 0, 6, .inl mf37)), (m38, .inl (cA 0, 128, .inl mf38)), (m39, .inl (cA 0, 128, .inl mf39)), (m40, .inl (cA 0, 128, .inl mf40)), (m33, .inl (cA 0, 42, .inl mf33)), (m35, .inl (cA 1, 6, .inl mf35)), (m22, .inl (cA 0, 6, .inl u109)), (m23, .inl (cA 0, 10, .inl u118)), (m24, .inl (cA 0, 10, .inl u121)), (m25, .inl (cA 0, 12, .inl u124))]) hP hD hS hA [1] [0, 2, 3, 4, 5, 6, 7, 8, 9, 10, 11, 12, 13, 14, 15, 16, 17, 18, 19, 20, 21, 22, 23, 24, 25, 26, 27, 28, 29] rfl rfl (by decide) (by decide) (va_runS (As := [.ref m26, .int 6]) (rest := []) ⟨hx, hb, hml, hown, hT⟩ (c_X8_copies_6 l G cA H.size m26 mf26 ) (va_cwS 2 hT (tq_gS kw_12_7 kw_12_8 kw_1_5 kw_12_9) rfl rfl rfl (by decide +kernel) ⟨Nat.le_of_ble_eq_true rfl, Nat.le_of_ble_eq_true rfl⟩) (tq_pre (isC := [1]) hP hD hK hN rfl (by decide)) rfl rfl hl.1 rfl (lv_room (Nat.le_of_ble_eq_true rfl)) dX8_keepText_71 ⟨Nat.le_of_ble_eq_true rfl, Nat.le_of_ble_eq_true rfl⟩) (fun u127 H locs hw128 hP hD hS => ?_)
  refine W.widen (k := 0) (n := 0) (Nat.le_of_ble_eq_true rfl) (Nat.le_of_ble_eq_true rfl) ?_
  have hP : va_P G vwCl [(h0, .inr (8, fs107)), (m28, .inl (cA 0, 12, .inl mf28)), (m52, .inl (cA 0, 20, .inl mf52)), (m53, .inl (cA 0, 20, .inl mf53)), (m55, .inl (cA 0, 10, .inl mf55)), (m56, .inl (cA 0, 12, .inl mf56)), (m57, .inl (cA 0, 12, .inl mf57)), (m58, .inl (cA 0, 12, .inl mf58)), (m59, .inl (cA 0, 12, .inl mf59)), (m60, .inl (cA 0, 2, .inl mf60)), (m61, .inl (cA 0, 2, .inl mf61)), (m62, .inl (cA 0, 2, .inl mf62)), (m71, .inl (cA 0, 10, .inl mf71)), (m27, .inl (cA 0, 12, .inl mf27)), (m29, .inl (cA 0, 20, .inl mf29)), (m30, .inl (cA 0, 20, .inl mf30)), (m31, .inl (cA 0, 20, .inl mf31)), (m32, .inl (cA 0, 20, .inl mf32)), (m36, .inl (cA 0, 6, .inl mf36)), (m37, .inl (cA 0, 6, .inl mf37)), (m38, .inl (cA 0, 128, .inl mf38)), (m39, .inl (cA 0, 128, .inl mf39)), (m40, .inl (cA 0, 128, .inl mf40)), (m33, .inl (cA 0, 42, .inl mf33)), (m35, .inl (cA 1, 6, .inl mf35)), (m22, .inl (cA 0, 6, .inl u109)), (m23, .inl (cA 0, 10, .inl u118)), (m24, .inl (cA 0, 10, .inl u121)), (m25, .inl (cA 0, 12, .inl u124)), (m26, .inl (cA 0, 12, .inl u127))] H := hP
  have hD : va_D A [(h0, .inr (8, fs107)), (m28, .inl (cA 0, 12, .inl mf28)), (m52, .inl (cA 0, 20, .inl mf52)), (m53, .inl (cA 0, 20, .inl mf53)), (m55, .inl (cA 0, 10, .inl mf55)), (m56, .inl (cA 0, 12, .inl mf56)), (m57, .inl (cA 0, 12, .inl mf57)), (m58, .inl (cA 0, 12, .inl mf58)), (m59, .inl (cA 0, 12, .inl mf59)), (m60, .inl (cA 0, 2, .inl mf60)), (m61, .inl (cA 0, 2, .inl mf61)), (m62, .inl (cA 0, 2, .inl mf62)), (m71, .inl (cA 0, 10, .inl mf71)), (m27, .inl (cA 0, 12, .inl mf27)), (m29, .inl (cA 0, 20, .inl mf29)), (m30, .inl (cA 0, 20, .inl mf30)), (m31, .inl (cA 0, 20, .inl mf31)), (m32, .inl (cA 0, 20, .inl mf32)), (m36, .inl (cA 0, 6, .inl mf36)), (m37, .inl (cA 0, 6, .inl mf37)), (m38, .inl (cA 0, 128, .inl mf38)), (m39, .inl (cA 0, 128, .inl mf39)), (m40, .inl (cA 0, 128, .inl mf40)), (m33, .inl (cA 0, 42, .inl mf33)), (m35, .inl (cA 1, 6, .inl mf35)), (m22, .inl (cA 0, 6, .inl u109)), (m23, .inl (cA 0, 10, .inl u118)), (m24, .inl (cA 0, 10, .inl u121)), (m25, .inl (cA 0, 12, .inl u124)), (m26, .inl (cA 0, 12, .inl u127))] := hD
  refine lv_aload_n hx hb dX8_keepText_74 rfl (lv_at hl 0 rfl) ?_
  refine va_get (D := G) (ci := 8) (v := .ref m27) (C := RX8) (T := TX8) (N := 91) hx hb hT ku_8 hown hK hP 0 rfl rfl 27 (by decide) (hT _ kw_9_19) (fun _ h9 => h9) (fh_at hf 21 rfl) dX8_keepText_75 ?_
  refine lv_bipush (v := 6) hx hb dX8_keepText_78 (by decide) ?_
  refine tq_cv (wr := [(h0, .inr (8, fs107)), (m28, .inl (cA 0, 12, .inl mf28)), (m52, .inl (cA 0, 20, .inl mf52)), (m53, .inl (cA 0, 20, .inl mf53)), (m55, .inl (cA 0, 10, .inl mf55)), (m56, .inl (cA 0, 12, .inl mf56)), (m57, .inl (cA 0, 12, .inl mf57)), (m58, .inl (cA 0, 12, .inl mf58)), (m59, .inl (cA 0, 12, .inl mf59)), (m60, .inl (cA 0, 2, .inl mf60)), (m61, .inl (cA 0, 2, .inl mf61)), (m62, .inl (cA 0, 2, .inl mf62)), (m71, .inl (cA 0, 10, .inl mf71)), (m29, .inl (cA 0, 20, .inl mf29)), (m30, .inl (cA 0, 20, .inl mf30)), (m31, .inl (cA 0, 20, .inl mf31)), (m32, .inl (cA 0, 20, .inl mf32)), (m36, .inl (cA 0, 6, .inl mf36)), (m37, .inl (cA 0, 6, .inl mf37)), (m38, .inl (cA 0, 128, .inl mf38)), (m39, .inl (cA 0, 128, .inl mf39)), (m40, .inl (cA 0, 128, .inl mf40)), (m33, .inl (cA 0, 42, .inl mf33)), (m35, .inl (cA 1, 6, .inl mf35)), (m22, .inl (cA 0, 6, .inl u109)), (m23, .inl (cA 0, 10, .inl u118)), (m24, .inl (cA 0, 10, .inl u121)), (m25, .inl (cA 0, 12, .inl u124)), (m26, .inl (cA 0, 12, .inl u127))]) hP hD hS hA [13] [0, 1, 2, 3, 4, 5, 6, 7, 8, 9, 10, 11, 12, 14, 15, 16, 17, 18, 19, 20, 21, 22, 23, 24, 25, 26, 27, 28, 29] rfl rfl (by decide) (by decide) (va_runS (As := [.ref m27, .int 6]) (rest := []) ⟨hx, hb, hml, hown, hT⟩ (c_X8_copies_6 l G cA H.size m27 mf27 ) (va_cwS 2 hT (tq_gS kw_12_7 kw_12_8 kw_1_5 kw_12_9) rfl rfl rfl (by decide +kernel) ⟨Nat.le_of_ble_eq_true rfl, Nat.le_of_ble_eq_true rfl⟩) (tq_pre (isC := [13]) hP hD hK hN rfl (by decide)) rfl rfl hl.1 rfl (lv_room (Nat.le_of_ble_eq_true rfl)) dX8_keepText_80 ⟨Nat.le_of_ble_eq_true rfl, Nat.le_of_ble_eq_true rfl⟩) (fun u130 H locs hw131 hP hD hS => ?_)
  refine W.widen (k := 0) (n := 0) (Nat.le_of_ble_eq_true rfl) (Nat.le_of_ble_eq_true rfl) ?_
  have hP : va_P G vwCl [(h0, .inr (8, fs107)), (m28, .inl (cA 0, 12, .inl mf28)), (m52, .inl (cA 0, 20, .inl mf52)), (m53, .inl (cA 0, 20, .inl mf53)), (m55, .inl (cA 0, 10, .inl mf55)), (m56, .inl (cA 0, 12, .inl mf56)), (m57, .inl (cA 0, 12, .inl mf57)), (m58, .inl (cA 0, 12, .inl mf58)), (m59, .inl (cA 0, 12, .inl mf59)), (m60, .inl (cA 0, 2, .inl mf60)), (m61, .inl (cA 0, 2, .inl mf61)), (m62, .inl (cA 0, 2, .inl mf62)), (m71, .inl (cA 0, 10, .inl mf71)), (m29, .inl (cA 0, 20, .inl mf29)), (m30, .inl (cA 0, 20, .inl mf30)), (m31, .inl (cA 0, 20, .inl mf31)), (m32, .inl (cA 0, 20, .inl mf32)), (m36, .inl (cA 0, 6, .inl mf36)), (m37, .inl (cA 0, 6, .inl mf37)), (m38, .inl (cA 0, 128, .inl mf38)), (m39, .inl (cA 0, 128, .inl mf39)), (m40, .inl (cA 0, 128, .inl mf40)), (m33, .inl (cA 0, 42, .inl mf33)), (m35, .inl (cA 1, 6, .inl mf35)), (m22, .inl (cA 0, 6, .inl u109)), (m23, .inl (cA 0, 10, .inl u118)), (m24, .inl (cA 0, 10, .inl u121)), (m25, .inl (cA 0, 12, .inl u124)), (m26, .inl (cA 0, 12, .inl u127)), (m27, .inl (cA 0, 12, .inl u130))] H := hP
  have hD : va_D A [(h0, .inr (8, fs107)), (m28, .inl (cA 0, 12, .inl mf28)), (m52, .inl (cA 0, 20, .inl mf52)), (m53, .inl (cA 0, 20, .inl mf53)), (m55, .inl (cA 0, 10, .inl mf55)), (m56, .inl (cA 0, 12, .inl mf56)), (m57, .inl (cA 0, 12, .inl mf57)), (m58, .inl (cA 0, 12, .inl mf58)), (m59, .inl (cA 0, 12, .inl mf59)), (m60, .inl (cA 0, 2, .inl mf60)), (m61, .inl (cA 0, 2, .inl mf61)), (m62, .inl (cA 0, 2, .inl mf62)), (m71, .inl (cA 0, 10, .inl mf71)), (m29, .inl (cA 0, 20, .inl mf29)), (m30, .inl (cA 0, 20, .inl mf30)), (m31, .inl (cA 0, 20, .inl mf31)), (m32, .inl (cA 0, 20, .inl mf32)), (m36, .inl (cA 0, 6, .inl mf36)), (m37, .inl (cA 0, 6, .inl mf37)), (m38, .inl (cA 0, 128, .inl mf38)), (m39, .inl (cA 0, 128, .inl mf39)), (m40, .inl (cA 0, 128, .inl mf40)), (m33, .inl (cA 0, 42, .inl mf33)), (m35, .inl (cA 1, 6, .inl mf35)), (m22, .inl (cA 0, 6, .inl u109)), (m23, .inl (cA 0, 10, .inl u118)), (m24, .inl (cA 0, 10, .inl u121)), (m25, .inl (cA 0, 12, .inl u124)), (m26, .inl (cA 0, 12, .inl u127)), (m27, .inl (cA 0, 12, .inl u130))] := hD
  refine lv_aload_n hx hb dX8_keepText_83 rfl (lv_at hl 0 rfl) ?_
  refine va_get (D := G) (ci := 8) (v := .ref m28) (C := RX8) (T := TX8) (N := 91) hx hb hT ku_8 hown hK hP 0 rfl rfl 28 (by decide) (hT _ kw_9_20) (fun _ h9 => h9) (fh_at hf 6 rfl) dX8_keepText_84 ?_
  refine lv_bipush (v := 6) hx hb dX8_keepText_87 (by decide) ?_
  refine tq_cv (wr := [(h0, .inr (8, fs107)), (m52, .inl (cA 0, 20, .inl mf52)), (m53, .inl (cA 0, 20, .inl mf53)), (m55, .inl (cA 0, 10, .inl mf55)), (m56, .inl (cA 0, 12, .inl mf56)), (m57, .inl (cA 0, 12, .inl mf57)), (m58, .inl (cA 0, 12, .inl mf58)), (m59, .inl (cA 0, 12, .inl mf59)), (m60, .inl (cA 0, 2, .inl mf60)), (m61, .inl (cA 0, 2, .inl mf61)), (m62, .inl (cA 0, 2, .inl mf62)), (m71, .inl (cA 0, 10, .inl mf71)), (m29, .inl (cA 0, 20, .inl mf29)), (m30, .inl (cA 0, 20, .inl mf30)), (m31, .inl (cA 0, 20, .inl mf31)), (m32, .inl (cA 0, 20, .inl mf32)), (m36, .inl (cA 0, 6, .inl mf36)), (m37, .inl (cA 0, 6, .inl mf37)), (m38, .inl (cA 0, 128, .inl mf38)), (m39, .inl (cA 0, 128, .inl mf39)), (m40, .inl (cA 0, 128, .inl mf40)), (m33, .inl (cA 0, 42, .inl mf33)), (m35, .inl (cA 1, 6, .inl mf35)), (m22, .inl (cA 0, 6, .inl u109)), (m23, .inl (cA 0, 10, .inl u118)), (m24, .inl (cA 0, 10, .inl u121)), (m25, .inl (cA 0, 12, .inl u124)), (m26, .inl (cA 0, 12, .inl u127)), (m27, .inl (cA 0, 12, .inl u130))]) hP hD hS hA [1] [0, 2, 3, 4, 5, 6, 7, 8, 9, 10, 11, 12, 13, 14, 15, 16, 17, 18, 19, 20, 21, 22, 23, 24, 25, 26, 27, 28, 29] rfl rfl (by decide) (by decide) (va_runS (As := [.ref m28, .int 6]) (rest := []) ⟨hx, hb, hml, hown, hT⟩ (c_X8_copies_6 l G cA H.size m28 mf28 ) (va_cwS 2 hT (tq_gS kw_12_7 kw_12_8 kw_1_5 kw_12_9) rfl rfl rfl (by decide +kernel) ⟨Nat.le_of_ble_eq_true rfl, Nat.le_of_ble_eq_true rfl⟩) (tq_pre (isC := [1]) hP hD hK hN rfl (by decide)) rfl rfl hl.1 rfl (lv_room (Nat.le_of_ble_eq_true rfl)) dX8_keepText_89 ⟨Nat.le_of_ble_eq_true rfl, Nat.le_of_ble_eq_true rfl⟩) (fun u133 H locs hw134 hP hD hS => ?_)
  refine W.widen (k := 0) (n := 0) (Nat.le_of_ble_eq_true rfl) (Nat.le_of_ble_eq_true rfl) ?_
  have hP : va_P G vwCl [(h0, .inr (8, fs107)), (m52, .inl (cA 0, 20, .inl mf52)), (m53, .inl (cA 0, 20, .inl mf53)), (m55, .inl (cA 0, 10, .inl mf55)), (m56, .inl (cA 0, 12, .inl mf56)), (m57, .inl (cA 0, 12, .inl mf57)), (m58, .inl (cA 0, 12, .inl mf58)), (m59, .inl (cA 0, 12, .inl mf59)), (m60, .inl (cA 0, 2, .inl mf60)), (m61, .inl (cA 0, 2, .inl mf61)), (m62, .inl (cA 0, 2, .inl mf62)), (m71, .inl (cA 0, 10, .inl mf71)), (m29, .inl (cA 0, 20, .inl mf29)), (m30, .inl (cA 0, 20, .inl mf30)), (m31, .inl (cA 0, 20, .inl mf31)), (m32, .inl (cA 0, 20, .inl mf32)), (m36, .inl (cA 0, 6, .inl mf36)), (m37, .inl (cA 0, 6, .inl mf37)), (m38, .inl (cA 0, 128, .inl mf38)), (m39, .inl (cA 0, 128, .inl mf39)), (m40, .inl (cA 0, 128, .inl mf40)), (m33, .inl (cA 0, 42, .inl mf33)), (m35, .inl (cA 1, 6, .inl mf35)), (m22, .inl (cA 0, 6, .inl u109)), (m23, .inl (cA 0, 10, .inl u118)), (m24, .inl (cA 0, 10, .inl u121)), (m25, .inl (cA 0, 12, .inl u124)), (m26, .inl (cA 0, 12, .inl u127)), (m27, .inl (cA 0, 12, .inl u130)), (m28, .inl (cA 0, 12, .inl u133))] H := hP
  have hD : va_D A [(h0, .inr (8, fs107)), (m52, .inl (cA 0, 20, .inl mf52)), (m53, .inl (cA 0, 20, .inl mf53)), (m55, .inl (cA 0, 10, .inl mf55)), (m56, .inl (cA 0, 12, .inl mf56)), (m57, .inl (cA 0, 12, .inl mf57)), (m58, .inl (cA 0, 12, .inl mf58)), (m59, .inl (cA 0, 12, .inl mf59)), (m60, .inl (cA 0, 2, .inl mf60)), (m61, .inl (cA 0, 2, .inl mf61)), (m62, .inl (cA 0, 2, .inl mf62)), (m71, .inl (cA 0, 10, .inl mf71)), (m29, .inl (cA 0, 20, .inl mf29)), (m30, .inl (cA 0, 20, .inl mf30)), (m31, .inl (cA 0, 20, .inl mf31)), (m32, .inl (cA 0, 20, .inl mf32)), (m36, .inl (cA 0, 6, .inl mf36)), (m37, .inl (cA 0, 6, .inl mf37)), (m38, .inl (cA 0, 128, .inl mf38)), (m39, .inl (cA 0, 128, .inl mf39)), (m40, .inl (cA 0, 128, .inl mf40)), (m33, .inl (cA 0, 42, .inl mf33)), (m35, .inl (cA 1, 6, .inl mf35)), (m22, .inl (cA 0, 6, .inl u109)), (m23, .inl (cA 0, 10, .inl u118)), (m24, .inl (cA 0, 10, .inl u121)), (m25, .inl (cA 0, 12, .inl u124)), (m26, .inl (cA 0, 12, .inl u127)), (m27, .inl (cA 0, 12, .inl u130)), (m28, .inl (cA 0, 12, .inl u133))] := hD
  refine lv_aload_n hx hb dX8_keepText_92 rfl (lv_at hl 0 rfl) ?_
  refine va_get (D := G) (ci := 8) (v := .ref m29) (C := RX8) (T := TX8) (N := 91) hx hb hT ku_8 hown hK hP 0 rfl rfl 29 (by decide) (hT _ kw_9_21) (fun _ h9 => h9) (fh_at hf 22 rfl) dX8_keepText_93 ?_
  refine lv_bipush (v := 10) hx hb dX8_keepText_96 (by decide) ?_
  refine tq_cv (wr := [(h0, .inr (8, fs107)), (m52, .inl (cA 0, 20, .inl mf52)), (m53, .inl (cA 0, 20, .inl mf53)), (m55, .inl (cA 0, 10, .inl mf55)), (m56, .inl (cA 0, 12, .inl mf56)), (m57, .inl (cA 0, 12, .inl mf57)), (m58, .inl (cA 0, 12, .inl mf58)), (m59, .inl (cA 0, 12, .inl mf59)), (m60, .inl (cA 0, 2, .inl mf60)), (m61, .inl (cA 0, 2, .inl mf61)), (m62, .inl (cA 0, 2, .inl mf62)), (m71, .inl (cA 0, 10, .inl mf71)), (m30, .inl (cA 0, 20, .inl mf30)), (m31, .inl (cA 0, 20, .inl mf31)), (m32, .inl (cA 0, 20, .inl mf32)), (m36, .inl (cA 0, 6, .inl mf36)), (m37, .inl (cA 0, 6, .inl mf37)), (m38, .inl (cA 0, 128, .inl mf38)), (m39, .inl (cA 0, 128, .inl mf39)), (m40, .inl (cA 0, 128, .inl mf40)), (m33, .inl (cA 0, 42, .inl mf33)), (m35, .inl (cA 1, 6, .inl mf35)), (m22, .inl (cA 0, 6, .inl u109)), (m23, .inl (cA 0, 10, .inl u118)), (m24, .inl (cA 0, 10, .inl u121)), (m25, .inl (cA 0, 12, .inl u124)), (m26, .inl (cA 0, 12, .inl u127)), (m27, .inl (cA 0, 12, .inl u130)), (m28, .inl (cA 0, 12, .inl u133))]) hP hD hS hA [12] [0, 1, 2, 3, 4, 5, 6, 7, 8, 9, 10, 11, 13, 14, 15, 16, 17, 18, 19, 20, 21, 22, 23, 24, 25, 26, 27, 28, 29] rfl rfl (by decide) (by decide) (va_runS (As := [.ref m29, .int 10]) (rest := []) ⟨hx, hb, hml, hown, hT⟩ (c_X8_copies_10 l G cA H.size m29 mf29 ) (va_cwS 2 hT (tq_gS kw_12_7 kw_12_8 kw_1_5 kw_12_9) rfl rfl rfl (by decide +kernel) ⟨Nat.le_of_ble_eq_true rfl, Nat.le_of_ble_eq_true rfl⟩) (tq_pre (isC := [12]) hP hD hK hN rfl (by decide)) rfl rfl hl.1 rfl (lv_room (Nat.le_of_ble_eq_true rfl)) dX8_keepText_98 ⟨Nat.le_of_ble_eq_true rfl, Nat.le_of_ble_eq_true rfl⟩) (fun u136 H locs hw137 hP hD hS => ?_)
  refine W.widen (k := 0) (n := 0) (Nat.le_of_ble_eq_true rfl) (Nat.le_of_ble_eq_true rfl) ?_
  have hP : va_P G vwCl [(h0, .inr (8, fs107)), (m52, .inl (cA 0, 20, .inl mf52)), (m53, .inl (cA 0, 20, .inl mf53)), (m55, .inl (cA 0, 10, .inl mf55)), (m56, .inl (cA 0, 12, .inl mf56)), (m57, .inl (cA 0, 12, .inl mf57)), (m58, .inl (cA 0, 12, .inl mf58)), (m59, .inl (cA 0, 12, .inl mf59)), (m60, .inl (cA 0, 2, .inl mf60)), (m61, .inl (cA 0, 2, .inl mf61)), (m62, .inl (cA 0, 2, .inl mf62)), (m71, .inl (cA 0, 10, .inl mf71)), (m30, .inl (cA 0, 20, .inl mf30)), (m31, .inl (cA 0, 20, .inl mf31)), (m32, .inl (cA 0, 20, .inl mf32)), (m36, .inl (cA 0, 6, .inl mf36)), (m37, .inl (cA 0, 6, .inl mf37)), (m38, .inl (cA 0, 128, .inl mf38)), (m39, .inl (cA 0, 128, .inl mf39)), (m40, .inl (cA 0, 128, .inl mf40)), (m33, .inl (cA 0, 42, .inl mf33)), (m35, .inl (cA 1, 6, .inl mf35)), (m22, .inl (cA 0, 6, .inl u109)), (m23, .inl (cA 0, 10, .inl u118)), (m24, .inl (cA 0, 10, .inl u121)), (m25, .inl (cA 0, 12, .inl u124)), (m26, .inl (cA 0, 12, .inl u127)), (m27, .inl (cA 0, 12, .inl u130)), (m28, .inl (cA 0, 12, .inl u133)), (m29, .inl (cA 0, 20, .inl u136))] H := hP
  have hD : va_D A [(h0, .inr (8, fs107)), (m52, .inl (cA 0, 20, .inl mf52)), (m53, .inl (cA 0, 20, .inl mf53)), (m55, .inl (cA 0, 10, .inl mf55)), (m56, .inl (cA 0, 12, .inl mf56)), (m57, .inl (cA 0, 12, .inl mf57)), (m58, .inl (cA 0, 12, .inl mf58)), (m59, .inl (cA 0, 12, .inl mf59)), (m60, .inl (cA 0, 2, .inl mf60)), (m61, .inl (cA 0, 2, .inl mf61)), (m62, .inl (cA 0, 2, .inl mf62)), (m71, .inl (cA 0, 10, .inl mf71)), (m30, .inl (cA 0, 20, .inl mf30)), (m31, .inl (cA 0, 20, .inl mf31)), (m32, .inl (cA 0, 20, .inl mf32)), (m36, .inl (cA 0, 6, .inl mf36)), (m37, .inl (cA 0, 6, .inl mf37)), (m38, .inl (cA 0, 128, .inl mf38)), (m39, .inl (cA 0, 128, .inl mf39)), (m40, .inl (cA 0, 128, .inl mf40)), (m33, .inl (cA 0, 42, .inl mf33)), (m35, .inl (cA 1, 6, .inl mf35)), (m22, .inl (cA 0, 6, .inl u109)), (m23, .inl (cA 0, 10, .inl u118)), (m24, .inl (cA 0, 10, .inl u121)), (m25, .inl (cA 0, 12, .inl u124)), (m26, .inl (cA 0, 12, .inl u127)), (m27, .inl (cA 0, 12, .inl u130)), (m28, .inl (cA 0, 12, .inl u133)), (m29, .inl (cA 0, 20, .inl u136))] := hD
  refine lv_aload_n hx hb dX8_keepText_101 rfl (lv_at hl 0 rfl) ?_
  refine va_get (D := G) (ci := 8) (v := .ref m30) (C := RX8) (T := TX8) (N := 91) hx hb hT ku_8 hown hK hP 0 rfl rfl 30 (by decide) (hT _ kw_9_22) (fun _ h9 => h9) (fh_at hf 23 rfl) dX8_keepText_102 ?_
  refine lv_bipush (v := 10) hx hb dX8_keepText_105 (by decide) ?_
  refine tq_cv (wr := [(h0, .inr (8, fs107)), (m52, .inl (cA 0, 20, .inl mf52)), (m53, .inl (cA 0, 20, .inl mf53)), (m55, .inl (cA 0, 10, .inl mf55)), (m56, .inl (cA 0, 12, .inl mf56)), (m57, .inl (cA 0, 12, .inl mf57)), (m58, .inl (cA 0, 12, .inl mf58)), (m59, .inl (cA 0, 12, .inl mf59)), (m60, .inl (cA 0, 2, .inl mf60)), (m61, .inl (cA 0, 2, .inl mf61)), (m62, .inl (cA 0, 2, .inl mf62)), (m71, .inl (cA 0, 10, .inl mf71)), (m31, .inl (cA 0, 20, .inl mf31)), (m32, .inl (cA 0, 20, .inl mf32)), (m36, .inl (cA 0, 6, .inl mf36)), (m37, .inl (cA 0, 6, .inl mf37)), (m38, .inl (cA 0, 128, .inl mf38)), (m39, .inl (cA 0, 128, .inl mf39)), (m40, .inl (cA 0, 128, .inl mf40)), (m33, .inl (cA 0, 42, .inl mf33)), (m35, .inl (cA 1, 6, .inl mf35)), (m22, .inl (cA 0, 6, .inl u109)), (m23, .inl (cA 0, 10, .inl u118)), (m24, .inl (cA 0, 10, .inl u121)), (m25, .inl (cA 0, 12, .inl u124)), (m26, .inl (cA 0, 12, .inl u127)), (m27, .inl (cA 0, 12, .inl u130)), (m28, .inl (cA 0, 12, .inl u133)), (m29, .inl (cA 0, 20, .inl u136))]) hP hD hS hA [12] [0, 1, 2, 3, 4, 5, 6, 7, 8, 9, 10, 11, 13, 14, 15, 16, 17, 18, 19, 20, 21, 22, 23, 24, 25, 26, 27, 28, 29] rfl rfl (by decide) (by decide) (va_runS (As := [.ref m30, .int 10]) (rest := []) ⟨hx, hb, hml, hown, hT⟩ (c_X8_copies_10 l G cA H.size m30 mf30 ) (va_cwS 2 hT (tq_gS kw_12_7 kw_12_8 kw_1_5 kw_12_9) rfl rfl rfl (by decide +kernel) ⟨Nat.le_of_ble_eq_true rfl, Nat.le_of_ble_eq_true rfl⟩) (tq_pre (isC := [12]) hP hD hK hN rfl (by decide)) rfl rfl hl.1 rfl (lv_room (Nat.le_of_ble_eq_true rfl)) dX8_keepText_107 ⟨Nat.le_of_ble_eq_true rfl, Nat.le_of_ble_eq_true rfl⟩) (fun u139 H locs hw140 hP hD hS => ?_)
  refine W.widen (k := 0) (n := 0) (Nat.le_of_ble_eq_true rfl) (Nat.le_of_ble_eq_true rfl) ?_
  have hP : va_P G vwCl [(h0, .inr (8, fs107)), (m52, .inl (cA 0, 20, .inl mf52)), (m53, .inl (cA 0, 20, .inl mf53)), (m55, .inl (cA 0, 10, .inl mf55)), (m56, .inl (cA 0, 12, .inl mf56)), (m57, .inl (cA 0, 12, .inl mf57)), (m58, .inl (cA 0, 12, .inl mf58)), (m59, .inl (cA 0, 12, .inl mf59)), (m60, .inl (cA 0, 2, .inl mf60)), (m61, .inl (cA 0, 2, .inl mf61)), (m62, .inl (cA 0, 2, .inl mf62)), (m71, .inl (cA 0, 10, .inl mf71)), (m31, .inl (cA 0, 20, .inl mf31)), (m32, .inl (cA 0, 20, .inl mf32)), (m36, .inl (cA 0, 6, .inl mf36)), (m37, .inl (cA 0, 6, .inl mf37)), (m38, .inl (cA 0, 128, .inl mf38)), (m39, .inl (cA 0, 128, .inl mf39)), (m40, .inl (cA 0, 128, .inl mf40)), (m33, .inl (cA 0, 42, .inl mf33)), (m35, .inl (cA 1, 6, .inl mf35)), (m22, .inl (cA 0, 6, .inl u109)), (m23, .inl (cA 0, 10, .inl u118)), (m24, .inl (cA 0, 10, .inl u121)), (m25, .inl (cA 0, 12, .inl u124)), (m26, .inl (cA 0, 12, .inl u127)), (m27, .inl (cA 0, 12, .inl u130)), (m28, .inl (cA 0, 12, .inl u133)), (m29, .inl (cA 0, 20, .inl u136)), (m30, .inl (cA 0, 20, .inl u139))] H := hP
  have hD : va_D A [(h0, .inr (8, fs107)), (m52, .inl (cA 0, 20, .inl mf52)), (m53, .inl (cA 0, 20, .inl mf53)), (m55, .inl (cA 0, 10, .inl mf55)), (m56, .inl (cA 0, 12, .inl mf56)), (m57, .inl (cA 0, 12, .inl mf57)), (m58, .inl (cA 0, 12, .inl mf58)), (m59, .inl (cA 0, 12, .inl mf59)), (m60, .inl (cA 0, 2, .inl mf60)), (m61, .inl (cA 0, 2, .inl mf61)), (m62, .inl (cA 0, 2, .inl mf62)), (m71, .inl (cA 0, 10, .inl mf71)), (m31, .inl (cA 0, 20, .inl mf31)), (m32, .inl (cA 0, 20, .inl mf32)), (m36, .inl (cA 0, 6, .inl mf36)), (m37, .inl (cA 0, 6, .inl mf37)), (m38, .inl (cA 0, 128, .inl mf38)), (m39, .inl (cA 0, 128, .inl mf39)), (m40, .inl (cA 0, 128, .inl mf40)), (m33, .inl (cA 0, 42, .inl mf33)), (m35, .inl (cA 1, 6, .inl mf35)), (m22, .inl (cA 0, 6, .inl u109)), (m23, .inl (cA 0, 10, .inl u118)), (m24, .inl (cA 0, 10, .inl u121)), (m25, .inl (cA 0, 12, .inl u124)), (m26, .inl (cA 0, 12, .inl u127)), (m27, .inl (cA 0, 12, .inl u130)), (m28, .inl (cA 0, 12, .inl u133)), (m29, .inl (cA 0, 20, .inl u136)), (m30, .inl (cA 0, 20, .inl u139))] := hD
  refine lv_aload_n hx hb dX8_keepText_110 rfl (lv_at hl 0 rfl) ?_
  refine va_get (D := G) (ci := 8) (v := .ref m31) (C := RX8) (T := TX8) (N := 91) hx hb hT ku_8 hown hK hP 0 rfl rfl 31 (by decide) (hT _ kw_9_23) (fun _ h9 => h9) (fh_at hf 24 rfl) dX8_keepText_111 ?_
  refine lv_bipush (v := 10) hx hb dX8_keepText_114 (by decide) ?_
  refine tq_cv (wr := [(h0, .inr (8, fs107)), (m52, .inl (cA 0, 20, .inl mf52)), (m53, .inl (cA 0, 20, .inl mf53)), (m55, .inl (cA 0, 10, .inl mf55)), (m56, .inl (cA 0, 12, .inl mf56)), (m57, .inl (cA 0, 12, .inl mf57)), (m58, .inl (cA 0, 12, .inl mf58)), (m59, .inl (cA 0, 12, .inl mf59)), (m60, .inl (cA 0, 2, .inl mf60)), (m61, .inl (cA 0, 2, .inl mf61)), (m62, .inl (cA 0, 2, .inl mf62)), (m71, .inl (cA 0, 10, .inl mf71)), (m32, .inl (cA 0, 20, .inl mf32)), (m36, .inl (cA 0, 6, .inl mf36)), (m37, .inl (cA 0, 6, .inl mf37)), (m38, .inl (cA 0, 128, .inl mf38)), (m39, .inl (cA 0, 128, .inl mf39)), (m40, .inl (cA 0, 128, .inl mf40)), (m33, .inl (cA 0, 42, .inl mf33)), (m35, .inl (cA 1, 6, .inl mf35)), (m22, .inl (cA 0, 6, .inl u109)), (m23, .inl (cA 0, 10, .inl u118)), (m24, .inl (cA 0, 10, .inl u121)), (m25, .inl (cA 0, 12, .inl u124)), (m26, .inl (cA 0, 12, .inl u127)), (m27, .inl (cA 0, 12, .inl u130)), (m28, .inl (cA 0, 12, .inl u133)), (m29, .inl (cA 0, 20, .inl u136)), (m30, .inl (cA 0, 20, .inl u139))]) hP hD hS hA [12] [0, 1, 2, 3, 4, 5, 6, 7, 8, 9, 10, 11, 13, 14, 15, 16, 17, 18, 19, 20, 21, 22, 23, 24, 25, 26, 27, 28, 29] rfl rfl (by decide) (by decide) (va_runS (As := [.ref m31, .int 10]) (rest := []) ⟨hx, hb, hml, hown, hT⟩ (c_X8_copies_10 l G cA H.size m31 mf31 ) (va_cwS 2 hT (tq_gS kw_12_7 kw_12_8 kw_1_5 kw_12_9) rfl rfl rfl (by decide +kernel) ⟨Nat.le_of_ble_eq_true rfl, Nat.le_of_ble_eq_true rfl⟩) (tq_pre (isC := [12]) hP hD hK hN rfl (by decide)) rfl rfl hl.1 rfl (lv_room (Nat.le_of_ble_eq_true rfl)) dX8_keepText_116 ⟨Nat.le_of_ble_eq_true rfl, Nat.le_of_ble_eq_true rfl⟩) (fun u142 H locs hw143 hP hD hS => ?_)
  refine W.widen (k := 0) (n := 0) (Nat.le_of_ble_eq_true rfl) (Nat.le_of_ble_eq_true rfl) ?_
  have hP : va_P G vwCl [(h0, .inr (8, fs107)), (m52, .inl (cA 0, 20, .inl mf52)), (m53, .inl (cA 0, 20, .inl mf53)), (m55, .inl (cA 0, 10, .inl mf55)), (m56, .inl (cA 0, 12, .inl mf56)), (m57, .inl (cA 0, 12, .inl mf57)), (m58, .inl (cA 0, 12, .inl mf58)), (m59, .inl (cA 0, 12, .inl mf59)), (m60, .inl (cA 0, 2, .inl mf60)), (m61, .inl (cA 0, 2, .inl mf61)), (m62, .inl (cA 0, 2, .inl mf62)), (m71, .inl (cA 0, 10, .inl mf71)), (m32, .inl (cA 0, 20, .inl mf32)), (m36, .inl (cA 0, 6, .inl mf36)), (m37, .inl (cA 0, 6, .inl mf37)), (m38, .inl (cA 0, 128, .inl mf38)), (m39, .inl (cA 0, 128, .inl mf39)), (m40, .inl (cA 0, 128, .inl mf40)), (m33, .inl (cA 0, 42, .inl mf33)), (m35, .inl (cA 1, 6, .inl mf35)), (m22, .inl (cA 0, 6, .inl u109)), (m23, .inl (cA 0, 10, .inl u118)), (m24, .inl (cA 0, 10, .inl u121)), (m25, .inl (cA 0, 12, .inl u124)), (m26, .inl (cA 0, 12, .inl u127)), (m27, .inl (cA 0, 12, .inl u130)), (m28, .inl (cA 0, 12, .inl u133)), (m29, .inl (cA 0, 20, .inl u136)), (m30, .inl (cA 0, 20, .inl u139)), (m31, .inl (cA 0, 20, .inl u142))] H := hP
  have hD : va_D A [(h0, .inr (8, fs107)), (m52, .inl (cA 0, 20, .inl mf52)), (m53, .inl (cA 0, 20, .inl mf53)), (m55, .inl (cA 0, 10, .inl mf55)), (m56, .inl (cA 0, 12, .inl mf56)), (m57, .inl (cA 0, 12, .inl mf57)), (m58, .inl (cA 0, 12, .inl mf58)), (m59, .inl (cA 0, 12, .inl mf59)), (m60, .inl (cA 0, 2, .inl mf60)), (m61, .inl (cA 0, 2, .inl mf61)), (m62, .inl (cA 0, 2, .inl mf62)), (m71, .inl (cA 0, 10, .inl mf71)), (m32, .inl (cA 0, 20, .inl mf32)), (m36, .inl (cA 0, 6, .inl mf36)), (m37, .inl (cA 0, 6, .inl mf37)), (m38, .inl (cA 0, 128, .inl mf38)), (m39, .inl (cA 0, 128, .inl mf39)), (m40, .inl (cA 0, 128, .inl mf40)), (m33, .inl (cA 0, 42, .inl mf33)), (m35, .inl (cA 1, 6, .inl mf35)), (m22, .inl (cA 0, 6, .inl u109)), (m23, .inl (cA 0, 10, .inl u118)), (m24, .inl (cA 0, 10, .inl u121)), (m25, .inl (cA 0, 12, .inl u124)), (m26, .inl (cA 0, 12, .inl u127)), (m27, .inl (cA 0, 12, .inl u130)), (m28, .inl (cA 0, 12, .inl u133)), (m29, .inl (cA 0, 20, .inl u136)), (m30, .inl (cA 0, 20, .inl u139)), (m31, .inl (cA 0, 20, .inl u142))] := hD
  refine lv_aload_n hx hb dX8_keepText_119 rfl (lv_at hl 0 rfl) ?_
  refine va_get (D := G) (ci := 8) (v := .ref m32) (C := RX8) (T := TX8) (N := 91) hx hb hT ku_8 hown hK hP 0 rfl rfl 32 (by decide) (hT _ kw_10_0) (fun _ h9 => h9) (fh_at hf 25 rfl) dX8_keepText_120 ?_
  refine lv_bipush (v := 10) hx hb dX8_keepText_123 (by decide) ?_
  refine tq_cv (wr := [(h0, .inr (8, fs107)), (m52, .inl (cA 0, 20, .inl mf52)), (m53, .inl (cA 0, 20, .inl mf53)), (m55, .inl (cA 0, 10, .inl mf55)), (m56, .inl (cA 0, 12, .inl mf56)), (m57, .inl (cA 0, 12, .inl mf57)), (m58, .inl (cA 0, 12, .inl mf58)), (m59, .inl (cA 0, 12, .inl mf59)), (m60, .inl (cA 0, 2, .inl mf60)), (m61, .inl (cA 0, 2, .inl mf61)), (m62, .inl (cA 0, 2, .inl mf62)), (m71, .inl (cA 0, 10, .inl mf71)), (m36, .inl (cA 0, 6, .inl mf36)), (m37, .inl (cA 0, 6, .inl mf37)), (m38, .inl (cA 0, 128, .inl mf38)), (m39, .inl (cA 0, 128, .inl mf39)), (m40, .inl (cA 0, 128, .inl mf40)), (m33, .inl (cA 0, 42, .inl mf33)), (m35, .inl (cA 1, 6, .inl mf35)), (m22, .inl (cA 0, 6, .inl u109)), (m23, .inl (cA 0, 10, .inl u118)), (m24, .inl (cA 0, 10, .inl u121)), (m25, .inl (cA 0, 12, .inl u124)), (m26, .inl (cA 0, 12, .inl u127)), (m27, .inl (cA 0, 12, .inl u130)), (m28, .inl (cA 0, 12, .inl u133)), (m29, .inl (cA 0, 20, .inl u136)), (m30, .inl (cA 0, 20, .inl u139)), (m31, .inl (cA 0, 20, .inl u142))]) hP hD hS hA [12] [0, 1, 2, 3, 4, 5, 6, 7, 8, 9, 10, 11, 13, 14, 15, 16, 17, 18, 19, 20, 21, 22, 23, 24, 25, 26, 27, 28, 29] rfl rfl (by decide) (by decide) (va_runS (As := [.ref m32, .int 10]) (rest := []) ⟨hx, hb, hml, hown, hT⟩ (c_X8_copies_10 l G cA H.size m32 mf32 ) (va_cwS 2 hT (tq_gS kw_12_7 kw_12_8 kw_1_5 kw_12_9) rfl rfl rfl (by decide +kernel) ⟨Nat.le_of_ble_eq_true rfl, Nat.le_of_ble_eq_true rfl⟩) (tq_pre (isC := [12]) hP hD hK hN rfl (by decide)) rfl rfl hl.1 rfl (lv_room (Nat.le_of_ble_eq_true rfl)) dX8_keepText_125 ⟨Nat.le_of_ble_eq_true rfl, Nat.le_of_ble_eq_true rfl⟩) (fun u145 H locs hw146 hP hD hS => ?_)
  refine W.widen (k := 0) (n := 0) (Nat.le_of_ble_eq_true rfl) (Nat.le_of_ble_eq_true rfl) ?_
  have hP : va_P G vwCl [(h0, .inr (8, fs107)), (m52, .inl (cA 0, 20, .inl mf52)), (m53, .inl (cA 0, 20, .inl mf53)), (m55, .inl (cA 0, 10, .inl mf55)), (m56, .inl (cA 0, 12, .inl mf56)), (m57, .inl (cA 0, 12, .inl mf57)), (m58, .inl (cA 0, 12, .inl mf58)), (m59, .inl (cA 0, 12, .inl mf59)), (m60, .inl (cA 0, 2, .inl mf60)), (m61, .inl (cA 0, 2, .inl mf61)), (m62, .inl (cA 0, 2, .inl mf62)), (m71, .inl (cA 0, 10, .inl mf71)), (m36, .inl (cA 0, 6, .inl mf36)), (m37, .inl (cA 0, 6, .inl mf37)), (m38, .inl (cA 0, 128, .inl mf38)), (m39, .inl (cA 0, 128, .inl mf39)), (m40, .inl (cA 0, 128, .inl mf40)), (m33, .inl (cA 0, 42, .inl mf33)), (m35, .inl (cA 1, 6, .inl mf35)), (m22, .inl (cA 0, 6, .inl u109)), (m23, .inl (cA 0, 10, .inl u118)), (m24, .inl (cA 0, 10, .inl u121)), (m25, .inl (cA 0, 12, .inl u124)), (m26, .inl (cA 0, 12, .inl u127)), (m27, .inl (cA 0, 12, .inl u130)), (m28, .inl (cA 0, 12, .inl u133)), (m29, .inl (cA 0, 20, .inl u136)), (m30, .inl (cA 0, 20, .inl u139)), (m31, .inl (cA 0, 20, .inl u142)), (m32, .inl (cA 0, 20, .inl u145))] H := hP
  have hD : va_D A [(h0, .inr (8, fs107)), (m52, .inl (cA 0, 20, .inl mf52)), (m53, .inl (cA 0, 20, .inl mf53)), (m55, .inl (cA 0, 10, .inl mf55)), (m56, .inl (cA 0, 12, .inl mf56)), (m57, .inl (cA 0, 12, .inl mf57)), (m58, .inl (cA 0, 12, .inl mf58)), (m59, .inl (cA 0, 12, .inl mf59)), (m60, .inl (cA 0, 2, .inl mf60)), (m61, .inl (cA 0, 2, .inl mf61)), (m62, .inl (cA 0, 2, .inl mf62)), (m71, .inl (cA 0, 10, .inl mf71)), (m36, .inl (cA 0, 6, .inl mf36)), (m37, .inl (cA 0, 6, .inl mf37)), (m38, .inl (cA 0, 128, .inl mf38)), (m39, .inl (cA 0, 128, .inl mf39)), (m40, .inl (cA 0, 128, .inl mf40)), (m33, .inl (cA 0, 42, .inl mf33)), (m35, .inl (cA 1, 6, .inl mf35)), (m22, .inl (cA 0, 6, .inl u109)), (m23, .inl (cA 0, 10, .inl u118)), (m24, .inl (cA 0, 10, .inl u121)), (m25, .inl (cA 0, 12, .inl u124)), (m26, .inl (cA 0, 12, .inl u127)), (m27, .inl (cA 0, 12, .inl u130)), (m28, .inl (cA 0, 12, .inl u133)), (m29, .inl (cA 0, 20, .inl u136)), (m30, .inl (cA 0, 20, .inl u139)), (m31, .inl (cA 0, 20, .inl u142)), (m32, .inl (cA 0, 20, .inl u145))] := hD
  refine lv_aload_n hx hb dX8_keepText_128 rfl (lv_at hl 0 rfl) ?_
  refine va_get (D := G) (ci := 8) (v := .ref m33) (C := RX8) (T := TX8) (N := 91) hx hb hT ku_8 hown hK hP 0 rfl rfl 33 (by decide) (hT _ kw_10_1) (fun _ h9 => h9) (fh_at hf 31 rfl) dX8_keepText_129 ?_
  refine lv_bipush (v := 21) hx hb dX8_keepText_132 (by decide) ?_
  refine tq_cv (wr := [(h0, .inr (8, fs107)), (m52, .inl (cA 0, 20, .inl mf52)), (m53, .inl (cA 0, 20, .inl mf53)), (m55, .inl (cA 0, 10, .inl mf55)), (m56, .inl (cA 0, 12, .inl mf56)), (m57, .inl (cA 0, 12, .inl mf57)), (m58, .inl (cA 0, 12, .inl mf58)), (m59, .inl (cA 0, 12, .inl mf59)), (m60, .inl (cA 0, 2, .inl mf60)), (m61, .inl (cA 0, 2, .inl mf61)), (m62, .inl (cA 0, 2, .inl mf62)), (m71, .inl (cA 0, 10, .inl mf71)), (m36, .inl (cA 0, 6, .inl mf36)), (m37, .inl (cA 0, 6, .inl mf37)), (m38, .inl (cA 0, 128, .inl mf38)), (m39, .inl (cA 0, 128, .inl mf39)), (m40, .inl (cA 0, 128, .inl mf40)), (m35, .inl (cA 1, 6, .inl mf35)), (m22, .inl (cA 0, 6, .inl u109)), (m23, .inl (cA 0, 10, .inl u118)), (m24, .inl (cA 0, 10, .inl u121)), (m25, .inl (cA 0, 12, .inl u124)), (m26, .inl (cA 0, 12, .inl u127)), (m27, .inl (cA 0, 12, .inl u130)), (m28, .inl (cA 0, 12, .inl u133)), (m29, .inl (cA 0, 20, .inl u136)), (m30, .inl (cA 0, 20, .inl u139)), (m31, .inl (cA 0, 20, .inl u142)), (m32, .inl (cA 0, 20, .inl u145))]) hP hD hS hA [17] [0, 1, 2, 3, 4, 5, 6, 7, 8, 9, 10, 11, 12, 13, 14, 15, 16, 18, 19, 20, 21, 22, 23, 24, 25, 26, 27, 28, 29] rfl rfl (by decide) (by decide) (va_runS (As := [.ref m33, .int 21]) (rest := []) ⟨hx, hb, hml, hown, hT⟩ (c_X8_copies_21e l G cA H.size m33 mf33 he33_21 he33_22 he33_23 he33_24 he33_25 he33_26 he33_27 he33_28 he33_29 he33_30 he33_31 he33_32 he33_33 he33_34 he33_35 he33_36 he33_37 he33_38 he33_39 he33_40 he33_41) (va_cwS 2 hT (tq_gS kw_12_7 kw_12_8 kw_1_5 kw_12_9) rfl rfl rfl (by decide +kernel) ⟨Nat.le_of_ble_eq_true rfl, Nat.le_of_ble_eq_true rfl⟩) (tq_pre (isC := [17]) hP hD hK hN rfl (by decide)) rfl rfl hl.1 rfl (lv_room (Nat.le_of_ble_eq_true rfl)) dX8_keepText_134 ⟨Nat.le_of_ble_eq_true rfl, Nat.le_of_ble_eq_true rfl⟩) (fun u148 H locs hw149 hP hD hS => ?_)
  refine W.widen (k := 0) (n := 0) (Nat.le_of_ble_eq_true rfl) (Nat.le_of_ble_eq_true rfl) ?_
  obtain ⟨hE151, hE152, hE153, hE154, hE155, hE156, hE157, hE158, hE159, hE160, hE161, hE162, hE163, hE164, hE165, hE166, hE167, hE168, hE169, hE170, hE171, hE172, hE173, hE174, hE175, hE176, hE177, hE178, hE179, hE180, hE181, hE182, hE183, hE184, hE185, hE186, hE187, hE188, hE189, hE190, hE191, hE192⟩ := hw149
  have hP : va_P G vwCl [(h0, .inr (8, fs107)), (m52, .inl (cA 0, 20, .inl mf52)), (m53, .inl (cA 0, 20, .inl mf53)), (m55, .inl (cA 0, 10, .inl mf55)), (m56, .inl (cA 0, 12, .inl mf56)), (m57, .inl (cA 0, 12, .inl mf57)), (m58, .inl (cA 0, 12, .inl mf58)), (m59, .inl (cA 0, 12, .inl mf59)), (m60, .inl (cA 0, 2, .inl mf60)), (m61, .inl (cA 0, 2, .inl mf61)), (m62, .inl (cA 0, 2, .inl mf62)), (m71, .inl (cA 0, 10, .inl mf71)), (m36, .inl (cA 0, 6, .inl mf36)), (m37, .inl (cA 0, 6, .inl mf37)), (m38, .inl (cA 0, 128, .inl mf38)), (m39, .inl (cA 0, 128, .inl mf39)), (m40, .inl (cA 0, 128, .inl mf40)), (m35, .inl (cA 1, 6, .inl mf35)), (m22, .inl (cA 0, 6, .inl u109)), (m23, .inl (cA 0, 10, .inl u118)), (m24, .inl (cA 0, 10, .inl u121)), (m25, .inl (cA 0, 12, .inl u124)), (m26, .inl (cA 0, 12, .inl u127)), (m27, .inl (cA 0, 12, .inl u130)), (m28, .inl (cA 0, 12, .inl u133)), (m29, .inl (cA 0, 20, .inl u136)), (m30, .inl (cA 0, 20, .inl u139)), (m31, .inl (cA 0, 20, .inl u142)), (m32, .inl (cA 0, 20, .inl u145)), (m33, .inl (cA 0, 42, .inl u148))] H := hP
  have hD : va_D A [(h0, .inr (8, fs107)), (m52, .inl (cA 0, 20, .inl mf52)), (m53, .inl (cA 0, 20, .inl mf53)), (m55, .inl (cA 0, 10, .inl mf55)), (m56, .inl (cA 0, 12, .inl mf56)), (m57, .inl (cA 0, 12, .inl mf57)), (m58, .inl (cA 0, 12, .inl mf58)), (m59, .inl (cA 0, 12, .inl mf59)), (m60, .inl (cA 0, 2, .inl mf60)), (m61, .inl (cA 0, 2, .inl mf61)), (m62, .inl (cA 0, 2, .inl mf62)), (m71, .inl (cA 0, 10, .inl mf71)), (m36, .inl (cA 0, 6, .inl mf36)), (m37, .inl (cA 0, 6, .inl mf37)), (m38, .inl (cA 0, 128, .inl mf38)), (m39, .inl (cA 0, 128, .inl mf39)), (m40, .inl (cA 0, 128, .inl mf40)), (m35, .inl (cA 1, 6, .inl mf35)), (m22, .inl (cA 0, 6, .inl u109)), (m23, .inl (cA 0, 10, .inl u118)), (m24, .inl (cA 0, 10, .inl u121)), (m25, .inl (cA 0, 12, .inl u124)), (m26, .inl (cA 0, 12, .inl u127)), (m27, .inl (cA 0, 12, .inl u130)), (m28, .inl (cA 0, 12, .inl u133)), (m29, .inl (cA 0, 20, .inl u136)), (m30, .inl (cA 0, 20, .inl u139)), (m31, .inl (cA 0, 20, .inl u142)), (m32, .inl (cA 0, 20, .inl u145)), (m33, .inl (cA 0, 42, .inl u148))] := hD
  refine lv_iconst (v := 0) hx hb dX8_keepText_137 (by decide) ?_
  refine lv_istore_n (lv' := [(1, .int 0), (0, .ref h0)]) hx hb dX8_keepText_138 rfl hl (by decide) rfl (fun ls hl => ?_)
  refine lv_iload_n hx hb dX8_keepText_139 rfl (lv_at hl 0 rfl) ?_
  refine lv_iconst (v := 3) hx hb dX8_keepText_140 (by decide) ?_
  refine lv_icmp_ge (tgt := 164) hx hb dX8_keepText_141 (by decide) (fun c193 => absurd c193 (by decide)) (fun c193 => ?_)
  refine lv_aload_n hx hb dX8_keepText_144 rfl (lv_at hl 1 rfl) ?_
  refine va_get (D := G) (ci := 8) (v := .ref m35) (C := RX8) (T := TX8) (N := 91) hx hb hT ku_8 hown hK hP 0 rfl rfl 35 (by decide) (hT _ kw_10_3) (fun _ h9 => h9) (fh_at hf 32 rfl) dX8_keepText_145 ?_
  refine lv_iload_n hx hb dX8_keepText_148 rfl (lv_at hl 0 rfl) ?_
  refine lv_aload_n hx hb dX8_keepText_149 rfl (lv_at hl 1 rfl) ?_
  refine va_get (D := G) (ci := 8) (v := .ref m35) (C := RX8) (T := TX8) (N := 91) hx hb hT ku_8 hown hK hP 0 rfl rfl 35 (by decide) (hT _ kw_10_3) (fun _ h9 => h9) (fh_at hf 32 rfl) dX8_keepText_150 ?_
  refine lv_iconst (v := 3) hx hb dX8_keepText_153 (by decide) ?_
  refine lv_iload_n hx hb dX8_keepText_154 rfl (lv_at hl 0 rfl) ?_
  refine lv_iadd hx hb dX8_keepText_155 ?_
  refine tq_i (w := 3) (by decide) ?_
  refine va_zald (i := 3) hx hb hK hP 17 1 rfl rfl (tq_in (by decide)) dX8_keepText_156 ?_
  refine lv_topi (fun x194 ex194 => ?_)
  refine va_zast (i := 0) hx hb hK hP hD hS 17 1 rfl rfl (tq_in (by decide)) dX8_keepText_157 (fun H locs hP hD hS => ?_)
  have hP : va_P G vwCl [(h0, .inr (8, fs107)), (m52, .inl (cA 0, 20, .inl mf52)), (m53, .inl (cA 0, 20, .inl mf53)), (m55, .inl (cA 0, 10, .inl mf55)), (m56, .inl (cA 0, 12, .inl mf56)), (m57, .inl (cA 0, 12, .inl mf57)), (m58, .inl (cA 0, 12, .inl mf58)), (m59, .inl (cA 0, 12, .inl mf59)), (m60, .inl (cA 0, 2, .inl mf60)), (m61, .inl (cA 0, 2, .inl mf61)), (m62, .inl (cA 0, 2, .inl mf62)), (m71, .inl (cA 0, 10, .inl mf71)), (m36, .inl (cA 0, 6, .inl mf36)), (m37, .inl (cA 0, 6, .inl mf37)), (m38, .inl (cA 0, 128, .inl mf38)), (m39, .inl (cA 0, 128, .inl mf39)), (m40, .inl (cA 0, 128, .inl mf40)), (m35, .inl (cA 1, 6, .inl ((upd mf35 (0 : Int32).toNatClampNeg (vp_nar .boolean x194))))), (m22, .inl (cA 0, 6, .inl u109)), (m23, .inl (cA 0, 10, .inl u118)), (m24, .inl (cA 0, 10, .inl u121)), (m25, .inl (cA 0, 12, .inl u124)), (m26, .inl (cA 0, 12, .inl u127)), (m27, .inl (cA 0, 12, .inl u130)), (m28, .inl (cA 0, 12, .inl u133)), (m29, .inl (cA 0, 20, .inl u136)), (m30, .inl (cA 0, 20, .inl u139)), (m31, .inl (cA 0, 20, .inl u142)), (m32, .inl (cA 0, 20, .inl u145)), (m33, .inl (cA 0, 42, .inl u148))] H := hP
  have hD : va_D A [(h0, .inr (8, fs107)), (m52, .inl (cA 0, 20, .inl mf52)), (m53, .inl (cA 0, 20, .inl mf53)), (m55, .inl (cA 0, 10, .inl mf55)), (m56, .inl (cA 0, 12, .inl mf56)), (m57, .inl (cA 0, 12, .inl mf57)), (m58, .inl (cA 0, 12, .inl mf58)), (m59, .inl (cA 0, 12, .inl mf59)), (m60, .inl (cA 0, 2, .inl mf60)), (m61, .inl (cA 0, 2, .inl mf61)), (m62, .inl (cA 0, 2, .inl mf62)), (m71, .inl (cA 0, 10, .inl mf71)), (m36, .inl (cA 0, 6, .inl mf36)), (m37, .inl (cA 0, 6, .inl mf37)), (m38, .inl (cA 0, 128, .inl mf38)), (m39, .inl (cA 0, 128, .inl mf39)), (m40, .inl (cA 0, 128, .inl mf40)), (m35, .inl (cA 1, 6, .inl ((upd mf35 (0 : Int32).toNatClampNeg (vp_nar .boolean x194))))), (m22, .inl (cA 0, 6, .inl u109)), (m23, .inl (cA 0, 10, .inl u118)), (m24, .inl (cA 0, 10, .inl u121)), (m25, .inl (cA 0, 12, .inl u124)), (m26, .inl (cA 0, 12, .inl u127)), (m27, .inl (cA 0, 12, .inl u130)), (m28, .inl (cA 0, 12, .inl u133)), (m29, .inl (cA 0, 20, .inl u136)), (m30, .inl (cA 0, 20, .inl u139)), (m31, .inl (cA 0, 20, .inl u142)), (m32, .inl (cA 0, 20, .inl u145)), (m33, .inl (cA 0, 42, .inl u148))] := hD
  generalize (upd mf35 (0 : Int32).toNatClampNeg (vp_nar .boolean x194)) = f195 at hP hD
  refine lv_iinc (v := 1) (lv' := [(1, .int 1), (0, .ref h0)]) hx hb dX8_keepText_158 hl (k := 0) rfl (by decide) (by decide) rfl (fun ls hl => ?_)
  refine lv_goto (tgt := 139) hx hb dX8_keepText_161 (by decide) ?_
  refine lv_iload_n hx hb dX8_keepText_139 rfl (lv_at hl 0 rfl) ?_
  refine lv_iconst (v := 3) hx hb dX8_keepText_140 (by decide) ?_
  refine lv_icmp_ge (tgt := 164) hx hb dX8_keepText_141 (by decide) (fun c196 => absurd c196 (by decide)) (fun c196 => ?_)
  refine lv_aload_n hx hb dX8_keepText_144 rfl (lv_at hl 1 rfl) ?_
  refine va_get (D := G) (ci := 8) (v := .ref m35) (C := RX8) (T := TX8) (N := 91) hx hb hT ku_8 hown hK hP 0 rfl rfl 35 (by decide) (hT _ kw_10_3) (fun _ h9 => h9) (fh_at hf 32 rfl) dX8_keepText_145 ?_
  refine lv_iload_n hx hb dX8_keepText_148 rfl (lv_at hl 0 rfl) ?_
  refine lv_aload_n hx hb dX8_keepText_149 rfl (lv_at hl 1 rfl) ?_
  refine va_get (D := G) (ci := 8) (v := .ref m35) (C := RX8) (T := TX8) (N := 91) hx hb hT ku_8 hown hK hP 0 rfl rfl 35 (by decide) (hT _ kw_10_3) (fun _ h9 => h9) (fh_at hf 32 rfl) dX8_keepText_150 ?_
  refine lv_iconst (v := 3) hx hb dX8_keepText_153 (by decide) ?_
  refine lv_iload_n hx hb dX8_keepText_154 rfl (lv_at hl 0 rfl) ?_
  refine lv_iadd hx hb dX8_keepText_155 ?_
  refine tq_i (w := 4) (by decide) ?_
  refine va_zald (i := 4) hx hb hK hP 17 1 rfl rfl (tq_in (by decide)) dX8_keepText_156 ?_
  refine lv_topi (fun x197 ex197 => ?_)
  refine va_zast (i := 1) hx hb hK hP hD hS 17 1 rfl rfl (tq_in (by decide)) dX8_keepText_157 (fun H locs hP hD hS => ?_)
  have hP : va_P G vwCl [(h0, .inr (8, fs107)), (m52, .inl (cA 0, 20, .inl mf52)), (m53, .inl (cA 0, 20, .inl mf53)), (m55, .inl (cA 0, 10, .inl mf55)), (m56, .inl (cA 0, 12, .inl mf56)), (m57, .inl (cA 0, 12, .inl mf57)), (m58, .inl (cA 0, 12, .inl mf58)), (m59, .inl (cA 0, 12, .inl mf59)), (m60, .inl (cA 0, 2, .inl mf60)), (m61, .inl (cA 0, 2, .inl mf61)), (m62, .inl (cA 0, 2, .inl mf62)), (m71, .inl (cA 0, 10, .inl mf71)), (m36, .inl (cA 0, 6, .inl mf36)), (m37, .inl (cA 0, 6, .inl mf37)), (m38, .inl (cA 0, 128, .inl mf38)), (m39, .inl (cA 0, 128, .inl mf39)), (m40, .inl (cA 0, 128, .inl mf40)), (m35, .inl (cA 1, 6, .inl ((upd f195 (1 : Int32).toNatClampNeg (vp_nar .boolean x197))))), (m22, .inl (cA 0, 6, .inl u109)), (m23, .inl (cA 0, 10, .inl u118)), (m24, .inl (cA 0, 10, .inl u121)), (m25, .inl (cA 0, 12, .inl u124)), (m26, .inl (cA 0, 12, .inl u127)), (m27, .inl (cA 0, 12, .inl u130)), (m28, .inl (cA 0, 12, .inl u133)), (m29, .inl (cA 0, 20, .inl u136)), (m30, .inl (cA 0, 20, .inl u139)), (m31, .inl (cA 0, 20, .inl u142)), (m32, .inl (cA 0, 20, .inl u145)), (m33, .inl (cA 0, 42, .inl u148))] H := hP
  have hD : va_D A [(h0, .inr (8, fs107)), (m52, .inl (cA 0, 20, .inl mf52)), (m53, .inl (cA 0, 20, .inl mf53)), (m55, .inl (cA 0, 10, .inl mf55)), (m56, .inl (cA 0, 12, .inl mf56)), (m57, .inl (cA 0, 12, .inl mf57)), (m58, .inl (cA 0, 12, .inl mf58)), (m59, .inl (cA 0, 12, .inl mf59)), (m60, .inl (cA 0, 2, .inl mf60)), (m61, .inl (cA 0, 2, .inl mf61)), (m62, .inl (cA 0, 2, .inl mf62)), (m71, .inl (cA 0, 10, .inl mf71)), (m36, .inl (cA 0, 6, .inl mf36)), (m37, .inl (cA 0, 6, .inl mf37)), (m38, .inl (cA 0, 128, .inl mf38)), (m39, .inl (cA 0, 128, .inl mf39)), (m40, .inl (cA 0, 128, .inl mf40)), (m35, .inl (cA 1, 6, .inl ((upd f195 (1 : Int32).toNatClampNeg (vp_nar .boolean x197))))), (m22, .inl (cA 0, 6, .inl u109)), (m23, .inl (cA 0, 10, .inl u118)), (m24, .inl (cA 0, 10, .inl u121)), (m25, .inl (cA 0, 12, .inl u124)), (m26, .inl (cA 0, 12, .inl u127)), (m27, .inl (cA 0, 12, .inl u130)), (m28, .inl (cA 0, 12, .inl u133)), (m29, .inl (cA 0, 20, .inl u136)), (m30, .inl (cA 0, 20, .inl u139)), (m31, .inl (cA 0, 20, .inl u142)), (m32, .inl (cA 0, 20, .inl u145)), (m33, .inl (cA 0, 42, .inl u148))] := hD
  generalize (upd f195 (1 : Int32).toNatClampNeg (vp_nar .boolean x197)) = f198 at hP hD
  refine lv_iinc (v := 2) (lv' := [(1, .int 2), (0, .ref h0)]) hx hb dX8_keepText_158 hl (k := 0) rfl (by decide) (by decide) rfl (fun ls hl => ?_)
  refine lv_goto (tgt := 139) hx hb dX8_keepText_161 (by decide) ?_
  refine lv_iload_n hx hb dX8_keepText_139 rfl (lv_at hl 0 rfl) ?_
  refine lv_iconst (v := 3) hx hb dX8_keepText_140 (by decide) ?_
  refine lv_icmp_ge (tgt := 164) hx hb dX8_keepText_141 (by decide) (fun c199 => absurd c199 (by decide)) (fun c199 => ?_)
  refine lv_aload_n hx hb dX8_keepText_144 rfl (lv_at hl 1 rfl) ?_
  refine va_get (D := G) (ci := 8) (v := .ref m35) (C := RX8) (T := TX8) (N := 91) hx hb hT ku_8 hown hK hP 0 rfl rfl 35 (by decide) (hT _ kw_10_3) (fun _ h9 => h9) (fh_at hf 32 rfl) dX8_keepText_145 ?_
  refine lv_iload_n hx hb dX8_keepText_148 rfl (lv_at hl 0 rfl) ?_
  refine lv_aload_n hx hb dX8_keepText_149 rfl (lv_at hl 1 rfl) ?_
  refine va_get (D := G) (ci := 8) (v := .ref m35) (C := RX8) (T := TX8) (N := 91) hx hb hT ku_8 hown hK hP 0 rfl rfl 35 (by decide) (hT _ kw_10_3) (fun _ h9 => h9) (fh_at hf 32 rfl) dX8_keepText_150 ?_
  refine lv_iconst (v := 3) hx hb dX8_keepText_153 (by decide) ?_
  refine lv_iload_n hx hb dX8_keepText_154 rfl (lv_at hl 0 rfl) ?_
  refine lv_iadd hx hb dX8_keepText_155 ?_
  refine tq_i (w := 5) (by decide) ?_
  refine va_zald (i := 5) hx hb hK hP 17 1 rfl rfl (tq_in (by decide)) dX8_keepText_156 ?_
  refine lv_topi (fun x200 ex200 => ?_)
  refine va_zast (i := 2) hx hb hK hP hD hS 17 1 rfl rfl (tq_in (by decide)) dX8_keepText_157 (fun H locs hP hD hS => ?_)
  have hP : va_P G vwCl [(h0, .inr (8, fs107)), (m52, .inl (cA 0, 20, .inl mf52)), (m53, .inl (cA 0, 20, .inl mf53)), (m55, .inl (cA 0, 10, .inl mf55)), (m56, .inl (cA 0, 12, .inl mf56)), (m57, .inl (cA 0, 12, .inl mf57)), (m58, .inl (cA 0, 12, .inl mf58)), (m59, .inl (cA 0, 12, .inl mf59)), (m60, .inl (cA 0, 2, .inl mf60)), (m61, .inl (cA 0, 2, .inl mf61)), (m62, .inl (cA 0, 2, .inl mf62)), (m71, .inl (cA 0, 10, .inl mf71)), (m36, .inl (cA 0, 6, .inl mf36)), (m37, .inl (cA 0, 6, .inl mf37)), (m38, .inl (cA 0, 128, .inl mf38)), (m39, .inl (cA 0, 128, .inl mf39)), (m40, .inl (cA 0, 128, .inl mf40)), (m35, .inl (cA 1, 6, .inl ((upd f198 (2 : Int32).toNatClampNeg (vp_nar .boolean x200))))), (m22, .inl (cA 0, 6, .inl u109)), (m23, .inl (cA 0, 10, .inl u118)), (m24, .inl (cA 0, 10, .inl u121)), (m25, .inl (cA 0, 12, .inl u124)), (m26, .inl (cA 0, 12, .inl u127)), (m27, .inl (cA 0, 12, .inl u130)), (m28, .inl (cA 0, 12, .inl u133)), (m29, .inl (cA 0, 20, .inl u136)), (m30, .inl (cA 0, 20, .inl u139)), (m31, .inl (cA 0, 20, .inl u142)), (m32, .inl (cA 0, 20, .inl u145)), (m33, .inl (cA 0, 42, .inl u148))] H := hP
  have hD : va_D A [(h0, .inr (8, fs107)), (m52, .inl (cA 0, 20, .inl mf52)), (m53, .inl (cA 0, 20, .inl mf53)), (m55, .inl (cA 0, 10, .inl mf55)), (m56, .inl (cA 0, 12, .inl mf56)), (m57, .inl (cA 0, 12, .inl mf57)), (m58, .inl (cA 0, 12, .inl mf58)), (m59, .inl (cA 0, 12, .inl mf59)), (m60, .inl (cA 0, 2, .inl mf60)), (m61, .inl (cA 0, 2, .inl mf61)), (m62, .inl (cA 0, 2, .inl mf62)), (m71, .inl (cA 0, 10, .inl mf71)), (m36, .inl (cA 0, 6, .inl mf36)), (m37, .inl (cA 0, 6, .inl mf37)), (m38, .inl (cA 0, 128, .inl mf38)), (m39, .inl (cA 0, 128, .inl mf39)), (m40, .inl (cA 0, 128, .inl mf40)), (m35, .inl (cA 1, 6, .inl ((upd f198 (2 : Int32).toNatClampNeg (vp_nar .boolean x200))))), (m22, .inl (cA 0, 6, .inl u109)), (m23, .inl (cA 0, 10, .inl u118)), (m24, .inl (cA 0, 10, .inl u121)), (m25, .inl (cA 0, 12, .inl u124)), (m26, .inl (cA 0, 12, .inl u127)), (m27, .inl (cA 0, 12, .inl u130)), (m28, .inl (cA 0, 12, .inl u133)), (m29, .inl (cA 0, 20, .inl u136)), (m30, .inl (cA 0, 20, .inl u139)), (m31, .inl (cA 0, 20, .inl u142)), (m32, .inl (cA 0, 20, .inl u145)), (m33, .inl (cA 0, 42, .inl u148))] := hD
  generalize (upd f198 (2 : Int32).toNatClampNeg (vp_nar .boolean x200)) = f201 at hP hD
  refine lv_iinc (v := 3) (lv' := [(1, .int 3), (0, .ref h0)]) hx hb dX8_keepText_158 hl (k := 0) rfl (by decide) (by decide) rfl (fun ls hl => ?_)
  refine lv_goto (tgt := 139) hx hb dX8_keepText_161 (by decide) ?_
  refine lv_iload_n hx hb dX8_keepText_139 rfl (lv_at hl 0 rfl) ?_
  refine lv_iconst (v := 3) hx hb dX8_keepText_140 (by decide) ?_
  refine lv_icmp_ge (tgt := 164) hx hb dX8_keepText_141 (by decide) (fun c202 => ?_) (fun c202 => absurd (by decide) c202)
  refine lv_aload_n hx hb dX8_keepText_164 rfl (lv_at hl 1 rfl) ?_
  refine va_get (D := G) (ci := 8) (v := .ref m36) (C := RX8) (T := TX8) (N := 91) hx hb hT ku_8 hown hK hP 0 rfl rfl 36 (by decide) (hT _ kw_10_4) (fun _ h9 => h9) (fh_at hf 26 rfl) dX8_keepText_165 ?_
  refine lv_iconst (v := 3) hx hb dX8_keepText_168 (by decide) ?_
  refine tq_cv (wr := [(h0, .inr (8, fs107)), (m52, .inl (cA 0, 20, .inl mf52)), (m53, .inl (cA 0, 20, .inl mf53)), (m55, .inl (cA 0, 10, .inl mf55)), (m56, .inl (cA 0, 12, .inl mf56)), (m57, .inl (cA 0, 12, .inl mf57)), (m58, .inl (cA 0, 12, .inl mf58)), (m59, .inl (cA 0, 12, .inl mf59)), (m60, .inl (cA 0, 2, .inl mf60)), (m61, .inl (cA 0, 2, .inl mf61)), (m62, .inl (cA 0, 2, .inl mf62)), (m71, .inl (cA 0, 10, .inl mf71)), (m37, .inl (cA 0, 6, .inl mf37)), (m38, .inl (cA 0, 128, .inl mf38)), (m39, .inl (cA 0, 128, .inl mf39)), (m40, .inl (cA 0, 128, .inl mf40)), (m35, .inl (cA 1, 6, .inl f201)), (m22, .inl (cA 0, 6, .inl u109)), (m23, .inl (cA 0, 10, .inl u118)), (m24, .inl (cA 0, 10, .inl u121)), (m25, .inl (cA 0, 12, .inl u124)), (m26, .inl (cA 0, 12, .inl u127)), (m27, .inl (cA 0, 12, .inl u130)), (m28, .inl (cA 0, 12, .inl u133)), (m29, .inl (cA 0, 20, .inl u136)), (m30, .inl (cA 0, 20, .inl u139)), (m31, .inl (cA 0, 20, .inl u142)), (m32, .inl (cA 0, 20, .inl u145)), (m33, .inl (cA 0, 42, .inl u148))]) hP hD hS hA [12] [0, 1, 2, 3, 4, 5, 6, 7, 8, 9, 10, 11, 13, 14, 15, 16, 17, 18, 19, 20, 21, 22, 23, 24, 25, 26, 27, 28, 29] rfl rfl (by decide) (by decide) (va_runS (As := [.ref m36, .int 3]) (rest := []) ⟨hx, hb, hml, hown, hT⟩ (c_X8_copies_3 l G cA H.size m36 mf36 ) (va_cwS 2 hT (tq_gS kw_12_7 kw_12_8 kw_1_5 kw_12_9) rfl rfl rfl (by decide +kernel) ⟨Nat.le_of_ble_eq_true rfl, Nat.le_of_ble_eq_true rfl⟩) (tq_pre (isC := [12]) hP hD hK hN rfl (by decide)) rfl rfl hl.1 rfl (lv_room (Nat.le_of_ble_eq_true rfl)) dX8_keepText_169 ⟨Nat.le_of_ble_eq_true rfl, Nat.le_of_ble_eq_true rfl⟩) (fun u203 H locs hw204 hP hD hS => ?_)
  refine W.widen (k := 0) (n := 0) (Nat.le_of_ble_eq_true rfl) (Nat.le_of_ble_eq_true rfl) ?_
  have hP : va_P G vwCl [(h0, .inr (8, fs107)), (m52, .inl (cA 0, 20, .inl mf52)), (m53, .inl (cA 0, 20, .inl mf53)), (m55, .inl (cA 0, 10, .inl mf55)), (m56, .inl (cA 0, 12, .inl mf56)), (m57, .inl (cA 0, 12, .inl mf57)), (m58, .inl (cA 0, 12, .inl mf58)), (m59, .inl (cA 0, 12, .inl mf59)), (m60, .inl (cA 0, 2, .inl mf60)), (m61, .inl (cA 0, 2, .inl mf61)), (m62, .inl (cA 0, 2, .inl mf62)), (m71, .inl (cA 0, 10, .inl mf71)), (m37, .inl (cA 0, 6, .inl mf37)), (m38, .inl (cA 0, 128, .inl mf38)), (m39, .inl (cA 0, 128, .inl mf39)), (m40, .inl (cA 0, 128, .inl mf40)), (m35, .inl (cA 1, 6, .inl f201)), (m22, .inl (cA 0, 6, .inl u109)), (m23, .inl (cA 0, 10, .inl u118)), (m24, .inl (cA 0, 10, .inl u121)), (m25, .inl (cA 0, 12, .inl u124)), (m26, .inl (cA 0, 12, .inl u127)), (m27, .inl (cA 0, 12, .inl u130)), (m28, .inl (cA 0, 12, .inl u133)), (m29, .inl (cA 0, 20, .inl u136)), (m30, .inl (cA 0, 20, .inl u139)), (m31, .inl (cA 0, 20, .inl u142)), (m32, .inl (cA 0, 20, .inl u145)), (m33, .inl (cA 0, 42, .inl u148)), (m36, .inl (cA 0, 6, .inl u203))] H := hP
  have hD : va_D A [(h0, .inr (8, fs107)), (m52, .inl (cA 0, 20, .inl mf52)), (m53, .inl (cA 0, 20, .inl mf53)), (m55, .inl (cA 0, 10, .inl mf55)), (m56, .inl (cA 0, 12, .inl mf56)), (m57, .inl (cA 0, 12, .inl mf57)), (m58, .inl (cA 0, 12, .inl mf58)), (m59, .inl (cA 0, 12, .inl mf59)), (m60, .inl (cA 0, 2, .inl mf60)), (m61, .inl (cA 0, 2, .inl mf61)), (m62, .inl (cA 0, 2, .inl mf62)), (m71, .inl (cA 0, 10, .inl mf71)), (m37, .inl (cA 0, 6, .inl mf37)), (m38, .inl (cA 0, 128, .inl mf38)), (m39, .inl (cA 0, 128, .inl mf39)), (m40, .inl (cA 0, 128, .inl mf40)), (m35, .inl (cA 1, 6, .inl f201)), (m22, .inl (cA 0, 6, .inl u109)), (m23, .inl (cA 0, 10, .inl u118)), (m24, .inl (cA 0, 10, .inl u121)), (m25, .inl (cA 0, 12, .inl u124)), (m26, .inl (cA 0, 12, .inl u127)), (m27, .inl (cA 0, 12, .inl u130)), (m28, .inl (cA 0, 12, .inl u133)), (m29, .inl (cA 0, 20, .inl u136)), (m30, .inl (cA 0, 20, .inl u139)), (m31, .inl (cA 0, 20, .inl u142)), (m32, .inl (cA 0, 20, .inl u145)), (m33, .inl (cA 0, 42, .inl u148)), (m36, .inl (cA 0, 6, .inl u203))] := hD
  refine lv_aload_n hx hb dX8_keepText_172 rfl (lv_at hl 1 rfl) ?_
  refine va_get (D := G) (ci := 8) (v := .ref m37) (C := RX8) (T := TX8) (N := 91) hx hb hT ku_8 hown hK hP 0 rfl rfl 37 (by decide) (hT _ kw_10_5) (fun _ h9 => h9) (fh_at hf 27 rfl) dX8_keepText_173 ?_
  refine lv_iconst (v := 3) hx hb dX8_keepText_176 (by decide) ?_
  refine tq_cv (wr := [(h0, .inr (8, fs107)), (m52, .inl (cA 0, 20, .inl mf52)), (m53, .inl (cA 0, 20, .inl mf53)), (m55, .inl (cA 0, 10, .inl mf55)), (m56, .inl (cA 0, 12, .inl mf56)), (m57, .inl (cA 0, 12, .inl mf57)), (m58, .inl (cA 0, 12, .inl mf58)), (m59, .inl (cA 0, 12, .inl mf59)), (m60, .inl (cA 0, 2, .inl mf60)), (m61, .inl (cA 0, 2, .inl mf61)), (m62, .inl (cA 0, 2, .inl mf62)), (m71, .inl (cA 0, 10, .inl mf71)), (m38, .inl (cA 0, 128, .inl mf38)), (m39, .inl (cA 0, 128, .inl mf39)), (m40, .inl (cA 0, 128, .inl mf40)), (m35, .inl (cA 1, 6, .inl f201)), (m22, .inl (cA 0, 6, .inl u109)), (m23, .inl (cA 0, 10, .inl u118)), (m24, .inl (cA 0, 10, .inl u121)), (m25, .inl (cA 0, 12, .inl u124)), (m26, .inl (cA 0, 12, .inl u127)), (m27, .inl (cA 0, 12, .inl u130)), (m28, .inl (cA 0, 12, .inl u133)), (m29, .inl (cA 0, 20, .inl u136)), (m30, .inl (cA 0, 20, .inl u139)), (m31, .inl (cA 0, 20, .inl u142)), (m32, .inl (cA 0, 20, .inl u145)), (m33, .inl (cA 0, 42, .inl u148)), (m36, .inl (cA 0, 6, .inl u203))]) hP hD hS hA [12] [0, 1, 2, 3, 4, 5, 6, 7, 8, 9, 10, 11, 13, 14, 15, 16, 17, 18, 19, 20, 21, 22, 23, 24, 25, 26, 27, 28, 29] rfl rfl (by decide) (by decide) (va_runS (As := [.ref m37, .int 3]) (rest := []) ⟨hx, hb, hml, hown, hT⟩ (c_X8_copies_3 l G cA H.size m37 mf37 ) (va_cwS 2 hT (tq_gS kw_12_7 kw_12_8 kw_1_5 kw_12_9) rfl rfl rfl (by decide +kernel) ⟨Nat.le_of_ble_eq_true rfl, Nat.le_of_ble_eq_true rfl⟩) (tq_pre (isC := [12]) hP hD hK hN rfl (by decide)) rfl rfl hl.1 rfl (lv_room (Nat.le_of_ble_eq_true rfl)) dX8_keepText_177 ⟨Nat.le_of_ble_eq_true rfl, Nat.le_of_ble_eq_true rfl⟩) (fun u206 H locs hw207 hP hD hS => ?_)
  refine W.widen (k := 0) (n := 0) (Nat.le_of_ble_eq_true rfl) (Nat.le_of_ble_eq_true rfl) ?_
  have hP : va_P G vwCl [(h0, .inr (8, fs107)), (m52, .inl (cA 0, 20, .inl mf52)), (m53, .inl (cA 0, 20, .inl mf53)), (m55, .inl (cA 0, 10, .inl mf55)), (m56, .inl (cA 0, 12, .inl mf56)), (m57, .inl (cA 0, 12, .inl mf57)), (m58, .inl (cA 0, 12, .inl mf58)), (m59, .inl (cA 0, 12, .inl mf59)), (m60, .inl (cA 0, 2, .inl mf60)), (m61, .inl (cA 0, 2, .inl mf61)), (m62, .inl (cA 0, 2, .inl mf62)), (m71, .inl (cA 0, 10, .inl mf71)), (m38, .inl (cA 0, 128, .inl mf38)), (m39, .inl (cA 0, 128, .inl mf39)), (m40, .inl (cA 0, 128, .inl mf40)), (m35, .inl (cA 1, 6, .inl f201)), (m22, .inl (cA 0, 6, .inl u109)), (m23, .inl (cA 0, 10, .inl u118)), (m24, .inl (cA 0, 10, .inl u121)), (m25, .inl (cA 0, 12, .inl u124)), (m26, .inl (cA 0, 12, .inl u127)), (m27, .inl (cA 0, 12, .inl u130)), (m28, .inl (cA 0, 12, .inl u133)), (m29, .inl (cA 0, 20, .inl u136)), (m30, .inl (cA 0, 20, .inl u139)), (m31, .inl (cA 0, 20, .inl u142)), (m32, .inl (cA 0, 20, .inl u145)), (m33, .inl (cA 0, 42, .inl u148)), (m36, .inl (cA 0, 6, .inl u203)), (m37, .inl (cA 0, 6, .inl u206))] H := hP
  have hD : va_D A [(h0, .inr (8, fs107)), (m52, .inl (cA 0, 20, .inl mf52)), (m53, .inl (cA 0, 20, .inl mf53)), (m55, .inl (cA 0, 10, .inl mf55)), (m56, .inl (cA 0, 12, .inl mf56)), (m57, .inl (cA 0, 12, .inl mf57)), (m58, .inl (cA 0, 12, .inl mf58)), (m59, .inl (cA 0, 12, .inl mf59)), (m60, .inl (cA 0, 2, .inl mf60)), (m61, .inl (cA 0, 2, .inl mf61)), (m62, .inl (cA 0, 2, .inl mf62)), (m71, .inl (cA 0, 10, .inl mf71)), (m38, .inl (cA 0, 128, .inl mf38)), (m39, .inl (cA 0, 128, .inl mf39)), (m40, .inl (cA 0, 128, .inl mf40)), (m35, .inl (cA 1, 6, .inl f201)), (m22, .inl (cA 0, 6, .inl u109)), (m23, .inl (cA 0, 10, .inl u118)), (m24, .inl (cA 0, 10, .inl u121)), (m25, .inl (cA 0, 12, .inl u124)), (m26, .inl (cA 0, 12, .inl u127)), (m27, .inl (cA 0, 12, .inl u130)), (m28, .inl (cA 0, 12, .inl u133)), (m29, .inl (cA 0, 20, .inl u136)), (m30, .inl (cA 0, 20, .inl u139)), (m31, .inl (cA 0, 20, .inl u142)), (m32, .inl (cA 0, 20, .inl u145)), (m33, .inl (cA 0, 42, .inl u148)), (m36, .inl (cA 0, 6, .inl u203)), (m37, .inl (cA 0, 6, .inl u206))] := hD
  refine lv_aload_n hx hb dX8_keepText_180 rfl (lv_at hl 1 rfl) ?_
  refine va_get (D := G) (ci := 8) (v := .ref m38) (C := RX8) (T := TX8) (N := 91) hx hb hT ku_8 hown hK hP 0 rfl rfl 38 (by decide) (hT _ kw_10_6) (fun _ h9 => h9) (fh_at hf 28 rfl) dX8_keepText_181 ?_
  refine lv_bipush (v := 64) hx hb dX8_keepText_184 (by decide) ?_
  refine tq_cv (wr := [(h0, .inr (8, fs107)), (m52, .inl (cA 0, 20, .inl mf52)), (m53, .inl (cA 0, 20, .inl mf53)), (m55, .inl (cA 0, 10, .inl mf55)), (m56, .inl (cA 0, 12, .inl mf56)), (m57, .inl (cA 0, 12, .inl mf57)), (m58, .inl (cA 0, 12, .inl mf58)), (m59, .inl (cA 0, 12, .inl mf59)), (m60, .inl (cA 0, 2, .inl mf60)), (m61, .inl (cA 0, 2, .inl mf61)), (m62, .inl (cA 0, 2, .inl mf62)), (m71, .inl (cA 0, 10, .inl mf71)), (m39, .inl (cA 0, 128, .inl mf39)), (m40, .inl (cA 0, 128, .inl mf40)), (m35, .inl (cA 1, 6, .inl f201)), (m22, .inl (cA 0, 6, .inl u109)), (m23, .inl (cA 0, 10, .inl u118)), (m24, .inl (cA 0, 10, .inl u121)), (m25, .inl (cA 0, 12, .inl u124)), (m26, .inl (cA 0, 12, .inl u127)), (m27, .inl (cA 0, 12, .inl u130)), (m28, .inl (cA 0, 12, .inl u133)), (m29, .inl (cA 0, 20, .inl u136)), (m30, .inl (cA 0, 20, .inl u139)), (m31, .inl (cA 0, 20, .inl u142)), (m32, .inl (cA 0, 20, .inl u145)), (m33, .inl (cA 0, 42, .inl u148)), (m36, .inl (cA 0, 6, .inl u203)), (m37, .inl (cA 0, 6, .inl u206))]) hP hD hS hA [12] [0, 1, 2, 3, 4, 5, 6, 7, 8, 9, 10, 11, 13, 14, 15, 16, 17, 18, 19, 20, 21, 22, 23, 24, 25, 26, 27, 28, 29] rfl rfl (by decide) (by decide) (va_runS (As := [.ref m38, .int 64]) (rest := []) ⟨hx, hb, hml, hown, hT⟩ (c_X8_copies_64 l G cA H.size m38 mf38 ) (va_cwS 2 hT (tq_gS kw_12_7 kw_12_8 kw_1_5 kw_12_9) rfl rfl rfl (by decide +kernel) ⟨Nat.le_of_ble_eq_true rfl, Nat.le_of_ble_eq_true rfl⟩) (tq_pre (isC := [12]) hP hD hK hN rfl (by decide)) rfl rfl hl.1 rfl (lv_room (Nat.le_of_ble_eq_true rfl)) dX8_keepText_186 ⟨Nat.le_of_ble_eq_true rfl, Nat.le_of_ble_eq_true rfl⟩) (fun u209 H locs hw210 hP hD hS => ?_)
  refine W.widen (k := 0) (n := 0) (Nat.le_of_ble_eq_true rfl) (Nat.le_of_ble_eq_true rfl) ?_
  have hP : va_P G vwCl [(h0, .inr (8, fs107)), (m52, .inl (cA 0, 20, .inl mf52)), (m53, .inl (cA 0, 20, .inl mf53)), (m55, .inl (cA 0, 10, .inl mf55)), (m56, .inl (cA 0, 12, .inl mf56)), (m57, .inl (cA 0, 12, .inl mf57)), (m58, .inl (cA 0, 12, .inl mf58)), (m59, .inl (cA 0, 12, .inl mf59)), (m60, .inl (cA 0, 2, .inl mf60)), (m61, .inl (cA 0, 2, .inl mf61)), (m62, .inl (cA 0, 2, .inl mf62)), (m71, .inl (cA 0, 10, .inl mf71)), (m39, .inl (cA 0, 128, .inl mf39)), (m40, .inl (cA 0, 128, .inl mf40)), (m35, .inl (cA 1, 6, .inl f201)), (m22, .inl (cA 0, 6, .inl u109)), (m23, .inl (cA 0, 10, .inl u118)), (m24, .inl (cA 0, 10, .inl u121)), (m25, .inl (cA 0, 12, .inl u124)), (m26, .inl (cA 0, 12, .inl u127)), (m27, .inl (cA 0, 12, .inl u130)), (m28, .inl (cA 0, 12, .inl u133)), (m29, .inl (cA 0, 20, .inl u136)), (m30, .inl (cA 0, 20, .inl u139)), (m31, .inl (cA 0, 20, .inl u142)), (m32, .inl (cA 0, 20, .inl u145)), (m33, .inl (cA 0, 42, .inl u148)), (m36, .inl (cA 0, 6, .inl u203)), (m37, .inl (cA 0, 6, .inl u206)), (m38, .inl (cA 0, 128, .inl u209))] H := hP
  have hD : va_D A [(h0, .inr (8, fs107)), (m52, .inl (cA 0, 20, .inl mf52)), (m53, .inl (cA 0, 20, .inl mf53)), (m55, .inl (cA 0, 10, .inl mf55)), (m56, .inl (cA 0, 12, .inl mf56)), (m57, .inl (cA 0, 12, .inl mf57)), (m58, .inl (cA 0, 12, .inl mf58)), (m59, .inl (cA 0, 12, .inl mf59)), (m60, .inl (cA 0, 2, .inl mf60)), (m61, .inl (cA 0, 2, .inl mf61)), (m62, .inl (cA 0, 2, .inl mf62)), (m71, .inl (cA 0, 10, .inl mf71)), (m39, .inl (cA 0, 128, .inl mf39)), (m40, .inl (cA 0, 128, .inl mf40)), (m35, .inl (cA 1, 6, .inl f201)), (m22, .inl (cA 0, 6, .inl u109)), (m23, .inl (cA 0, 10, .inl u118)), (m24, .inl (cA 0, 10, .inl u121)), (m25, .inl (cA 0, 12, .inl u124)), (m26, .inl (cA 0, 12, .inl u127)), (m27, .inl (cA 0, 12, .inl u130)), (m28, .inl (cA 0, 12, .inl u133)), (m29, .inl (cA 0, 20, .inl u136)), (m30, .inl (cA 0, 20, .inl u139)), (m31, .inl (cA 0, 20, .inl u142)), (m32, .inl (cA 0, 20, .inl u145)), (m33, .inl (cA 0, 42, .inl u148)), (m36, .inl (cA 0, 6, .inl u203)), (m37, .inl (cA 0, 6, .inl u206)), (m38, .inl (cA 0, 128, .inl u209))] := hD
  refine lv_aload_n hx hb dX8_keepText_189 rfl (lv_at hl 1 rfl) ?_
  refine va_get (D := G) (ci := 8) (v := .ref m39) (C := RX8) (T := TX8) (N := 91) hx hb hT ku_8 hown hK hP 0 rfl rfl 39 (by decide) (hT _ kw_10_7) (fun _ h9 => h9) (fh_at hf 29 rfl) dX8_keepText_190 ?_
  refine lv_bipush (v := 64) hx hb dX8_keepText_193 (by decide) ?_
  refine tq_cv (wr := [(h0, .inr (8, fs107)), (m52, .inl (cA 0, 20, .inl mf52)), (m53, .inl (cA 0, 20, .inl mf53)), (m55, .inl (cA 0, 10, .inl mf55)), (m56, .inl (cA 0, 12, .inl mf56)), (m57, .inl (cA 0, 12, .inl mf57)), (m58, .inl (cA 0, 12, .inl mf58)), (m59, .inl (cA 0, 12, .inl mf59)), (m60, .inl (cA 0, 2, .inl mf60)), (m61, .inl (cA 0, 2, .inl mf61)), (m62, .inl (cA 0, 2, .inl mf62)), (m71, .inl (cA 0, 10, .inl mf71)), (m40, .inl (cA 0, 128, .inl mf40)), (m35, .inl (cA 1, 6, .inl f201)), (m22, .inl (cA 0, 6, .inl u109)), (m23, .inl (cA 0, 10, .inl u118)), (m24, .inl (cA 0, 10, .inl u121)), (m25, .inl (cA 0, 12, .inl u124)), (m26, .inl (cA 0, 12, .inl u127)), (m27, .inl (cA 0, 12, .inl u130)), (m28, .inl (cA 0, 12, .inl u133)), (m29, .inl (cA 0, 20, .inl u136)), (m30, .inl (cA 0, 20, .inl u139)), (m31, .inl (cA 0, 20, .inl u142)), (m32, .inl (cA 0, 20, .inl u145)), (m33, .inl (cA 0, 42, .inl u148)), (m36, .inl (cA 0, 6, .inl u203)), (m37, .inl (cA 0, 6, .inl u206)), (m38, .inl (cA 0, 128, .inl u209))]) hP hD hS hA [12] [0, 1, 2, 3, 4, 5, 6, 7, 8, 9, 10, 11, 13, 14, 15, 16, 17, 18, 19, 20, 21, 22, 23, 24, 25, 26, 27, 28, 29] rfl rfl (by decide) (by decide) (va_runS (As := [.ref m39, .int 64]) (rest := []) ⟨hx, hb, hml, hown, hT⟩ (c_X8_copies_64 l G cA H.size m39 mf39 ) (va_cwS 2 hT (tq_gS kw_12_7 kw_12_8 kw_1_5 kw_12_9) rfl rfl rfl (by decide +kernel) ⟨Nat.le_of_ble_eq_true rfl, Nat.le_of_ble_eq_true rfl⟩) (tq_pre (isC := [12]) hP hD hK hN rfl (by decide)) rfl rfl hl.1 rfl (lv_room (Nat.le_of_ble_eq_true rfl)) dX8_keepText_195 ⟨Nat.le_of_ble_eq_true rfl, Nat.le_of_ble_eq_true rfl⟩) (fun u212 H locs hw213 hP hD hS => ?_)
  refine W.widen (k := 0) (n := 0) (Nat.le_of_ble_eq_true rfl) (Nat.le_of_ble_eq_true rfl) ?_
  have hP : va_P G vwCl [(h0, .inr (8, fs107)), (m52, .inl (cA 0, 20, .inl mf52)), (m53, .inl (cA 0, 20, .inl mf53)), (m55, .inl (cA 0, 10, .inl mf55)), (m56, .inl (cA 0, 12, .inl mf56)), (m57, .inl (cA 0, 12, .inl mf57)), (m58, .inl (cA 0, 12, .inl mf58)), (m59, .inl (cA 0, 12, .inl mf59)), (m60, .inl (cA 0, 2, .inl mf60)), (m61, .inl (cA 0, 2, .inl mf61)), (m62, .inl (cA 0, 2, .inl mf62)), (m71, .inl (cA 0, 10, .inl mf71)), (m40, .inl (cA 0, 128, .inl mf40)), (m35, .inl (cA 1, 6, .inl f201)), (m22, .inl (cA 0, 6, .inl u109)), (m23, .inl (cA 0, 10, .inl u118)), (m24, .inl (cA 0, 10, .inl u121)), (m25, .inl (cA 0, 12, .inl u124)), (m26, .inl (cA 0, 12, .inl u127)), (m27, .inl (cA 0, 12, .inl u130)), (m28, .inl (cA 0, 12, .inl u133)), (m29, .inl (cA 0, 20, .inl u136)), (m30, .inl (cA 0, 20, .inl u139)), (m31, .inl (cA 0, 20, .inl u142)), (m32, .inl (cA 0, 20, .inl u145)), (m33, .inl (cA 0, 42, .inl u148)), (m36, .inl (cA 0, 6, .inl u203)), (m37, .inl (cA 0, 6, .inl u206)), (m38, .inl (cA 0, 128, .inl u209)), (m39, .inl (cA 0, 128, .inl u212))] H := hP
  have hD : va_D A [(h0, .inr (8, fs107)), (m52, .inl (cA 0, 20, .inl mf52)), (m53, .inl (cA 0, 20, .inl mf53)), (m55, .inl (cA 0, 10, .inl mf55)), (m56, .inl (cA 0, 12, .inl mf56)), (m57, .inl (cA 0, 12, .inl mf57)), (m58, .inl (cA 0, 12, .inl mf58)), (m59, .inl (cA 0, 12, .inl mf59)), (m60, .inl (cA 0, 2, .inl mf60)), (m61, .inl (cA 0, 2, .inl mf61)), (m62, .inl (cA 0, 2, .inl mf62)), (m71, .inl (cA 0, 10, .inl mf71)), (m40, .inl (cA 0, 128, .inl mf40)), (m35, .inl (cA 1, 6, .inl f201)), (m22, .inl (cA 0, 6, .inl u109)), (m23, .inl (cA 0, 10, .inl u118)), (m24, .inl (cA 0, 10, .inl u121)), (m25, .inl (cA 0, 12, .inl u124)), (m26, .inl (cA 0, 12, .inl u127)), (m27, .inl (cA 0, 12, .inl u130)), (m28, .inl (cA 0, 12, .inl u133)), (m29, .inl (cA 0, 20, .inl u136)), (m30, .inl (cA 0, 20, .inl u139)), (m31, .inl (cA 0, 20, .inl u142)), (m32, .inl (cA 0, 20, .inl u145)), (m33, .inl (cA 0, 42, .inl u148)), (m36, .inl (cA 0, 6, .inl u203)), (m37, .inl (cA 0, 6, .inl u206)), (m38, .inl (cA 0, 128, .inl u209)), (m39, .inl (cA 0, 128, .inl u212))] := hD
  refine lv_aload_n hx hb dX8_keepText_198 rfl (lv_at hl 1 rfl) ?_
  refine va_get (D := G) (ci := 8) (v := .ref m40) (C := RX8) (T := TX8) (N := 91) hx hb hT ku_8 hown hK hP 0 rfl rfl 40 (by decide) (hT _ kw_10_8) (fun _ h9 => h9) (fh_at hf 30 rfl) dX8_keepText_199 ?_
  refine lv_bipush (v := 64) hx hb dX8_keepText_202 (by decide) ?_
  refine tq_cv (wr := [(h0, .inr (8, fs107)), (m52, .inl (cA 0, 20, .inl mf52)), (m53, .inl (cA 0, 20, .inl mf53)), (m55, .inl (cA 0, 10, .inl mf55)), (m56, .inl (cA 0, 12, .inl mf56)), (m57, .inl (cA 0, 12, .inl mf57)), (m58, .inl (cA 0, 12, .inl mf58)), (m59, .inl (cA 0, 12, .inl mf59)), (m60, .inl (cA 0, 2, .inl mf60)), (m61, .inl (cA 0, 2, .inl mf61)), (m62, .inl (cA 0, 2, .inl mf62)), (m71, .inl (cA 0, 10, .inl mf71)), (m35, .inl (cA 1, 6, .inl f201)), (m22, .inl (cA 0, 6, .inl u109)), (m23, .inl (cA 0, 10, .inl u118)), (m24, .inl (cA 0, 10, .inl u121)), (m25, .inl (cA 0, 12, .inl u124)), (m26, .inl (cA 0, 12, .inl u127)), (m27, .inl (cA 0, 12, .inl u130)), (m28, .inl (cA 0, 12, .inl u133)), (m29, .inl (cA 0, 20, .inl u136)), (m30, .inl (cA 0, 20, .inl u139)), (m31, .inl (cA 0, 20, .inl u142)), (m32, .inl (cA 0, 20, .inl u145)), (m33, .inl (cA 0, 42, .inl u148)), (m36, .inl (cA 0, 6, .inl u203)), (m37, .inl (cA 0, 6, .inl u206)), (m38, .inl (cA 0, 128, .inl u209)), (m39, .inl (cA 0, 128, .inl u212))]) hP hD hS hA [12] [0, 1, 2, 3, 4, 5, 6, 7, 8, 9, 10, 11, 13, 14, 15, 16, 17, 18, 19, 20, 21, 22, 23, 24, 25, 26, 27, 28, 29] rfl rfl (by decide) (by decide) (va_runS (As := [.ref m40, .int 64]) (rest := []) ⟨hx, hb, hml, hown, hT⟩ (c_X8_copies_64 l G cA H.size m40 mf40 ) (va_cwS 2 hT (tq_gS kw_12_7 kw_12_8 kw_1_5 kw_12_9) rfl rfl rfl (by decide +kernel) ⟨Nat.le_of_ble_eq_true rfl, Nat.le_of_ble_eq_true rfl⟩) (tq_pre (isC := [12]) hP hD hK hN rfl (by decide)) rfl rfl hl.1 rfl (lv_room (Nat.le_of_ble_eq_true rfl)) dX8_keepText_204 ⟨Nat.le_of_ble_eq_true rfl, Nat.le_of_ble_eq_true rfl⟩) (fun u215 H locs hw216 hP hD hS => ?_)
  refine W.widen (k := 0) (n := 0) (Nat.le_of_ble_eq_true rfl) (Nat.le_of_ble_eq_true rfl) ?_
  have hP : va_P G vwCl [(h0, .inr (8, fs107)), (m52, .inl (cA 0, 20, .inl mf52)), (m53, .inl (cA 0, 20, .inl mf53)), (m55, .inl (cA 0, 10, .inl mf55)), (m56, .inl (cA 0, 12, .inl mf56)), (m57, .inl (cA 0, 12, .inl mf57)), (m58, .inl (cA 0, 12, .inl mf58)), (m59, .inl (cA 0, 12, .inl mf59)), (m60, .inl (cA 0, 2, .inl mf60)), (m61, .inl (cA 0, 2, .inl mf61)), (m62, .inl (cA 0, 2, .inl mf62)), (m71, .inl (cA 0, 10, .inl mf71)), (m35, .inl (cA 1, 6, .inl f201)), (m22, .inl (cA 0, 6, .inl u109)), (m23, .inl (cA 0, 10, .inl u118)), (m24, .inl (cA 0, 10, .inl u121)), (m25, .inl (cA 0, 12, .inl u124)), (m26, .inl (cA 0, 12, .inl u127)), (m27, .inl (cA 0, 12, .inl u130)), (m28, .inl (cA 0, 12, .inl u133)), (m29, .inl (cA 0, 20, .inl u136)), (m30, .inl (cA 0, 20, .inl u139)), (m31, .inl (cA 0, 20, .inl u142)), (m32, .inl (cA 0, 20, .inl u145)), (m33, .inl (cA 0, 42, .inl u148)), (m36, .inl (cA 0, 6, .inl u203)), (m37, .inl (cA 0, 6, .inl u206)), (m38, .inl (cA 0, 128, .inl u209)), (m39, .inl (cA 0, 128, .inl u212)), (m40, .inl (cA 0, 128, .inl u215))] H := hP
  have hD : va_D A [(h0, .inr (8, fs107)), (m52, .inl (cA 0, 20, .inl mf52)), (m53, .inl (cA 0, 20, .inl mf53)), (m55, .inl (cA 0, 10, .inl mf55)), (m56, .inl (cA 0, 12, .inl mf56)), (m57, .inl (cA 0, 12, .inl mf57)), (m58, .inl (cA 0, 12, .inl mf58)), (m59, .inl (cA 0, 12, .inl mf59)), (m60, .inl (cA 0, 2, .inl mf60)), (m61, .inl (cA 0, 2, .inl mf61)), (m62, .inl (cA 0, 2, .inl mf62)), (m71, .inl (cA 0, 10, .inl mf71)), (m35, .inl (cA 1, 6, .inl f201)), (m22, .inl (cA 0, 6, .inl u109)), (m23, .inl (cA 0, 10, .inl u118)), (m24, .inl (cA 0, 10, .inl u121)), (m25, .inl (cA 0, 12, .inl u124)), (m26, .inl (cA 0, 12, .inl u127)), (m27, .inl (cA 0, 12, .inl u130)), (m28, .inl (cA 0, 12, .inl u133)), (m29, .inl (cA 0, 20, .inl u136)), (m30, .inl (cA 0, 20, .inl u139)), (m31, .inl (cA 0, 20, .inl u142)), (m32, .inl (cA 0, 20, .inl u145)), (m33, .inl (cA 0, 42, .inl u148)), (m36, .inl (cA 0, 6, .inl u203)), (m37, .inl (cA 0, 6, .inl u206)), (m38, .inl (cA 0, 128, .inl u209)), (m39, .inl (cA 0, 128, .inl u212)), (m40, .inl (cA 0, 128, .inl u215))] := hD
  refine lv_aload_n hx hb dX8_keepText_207 rfl (lv_at hl 1 rfl) ?_
  refine tq_cv (wr := [(m35, .inl (cA 1, 6, .inl f201)), (m23, .inl (cA 0, 10, .inl u118)), (m24, .inl (cA 0, 10, .inl u121)), (m25, .inl (cA 0, 12, .inl u124)), (m27, .inl (cA 0, 12, .inl u130)), (m29, .inl (cA 0, 20, .inl u136)), (m30, .inl (cA 0, 20, .inl u139)), (m31, .inl (cA 0, 20, .inl u142)), (m32, .inl (cA 0, 20, .inl u145)), (m33, .inl (cA 0, 42, .inl u148)), (m36, .inl (cA 0, 6, .inl u203)), (m37, .inl (cA 0, 6, .inl u206)), (m38, .inl (cA 0, 128, .inl u209)), (m39, .inl (cA 0, 128, .inl u212)), (m40, .inl (cA 0, 128, .inl u215))]) hP hD hS hA [0, 13, 17, 19, 1, 2, 3, 4, 5, 6, 7, 8, 9, 10, 11] [12, 14, 15, 16, 18, 20, 21, 22, 23, 24, 25, 26, 27, 28, 29] rfl rfl (by decide) (by decide) (va_runV (As := []) (rest := []) ⟨hx, hb, hml, hown, hT⟩ (c_X8_begin l G cA H.size h0 fs107 m22 m26 m28 m52 m53 m55 m56 m57 m58 m59 m60 m61 m62 m71 u109 u127 u133 mf52 mf53 mf55 mf56 mf57 mf58 mf59 mf60 mf61 mf62 mf71 (fh_sub hf [4, 5, 6, 7, 8, 9, 10, 11, 12, 13, 14, 15, 16, 17] rfl) hE112 hE113 hE114) (cwV 0 hT (tq_gV kw_12_10 kw_12_11 kw_12_12 kw_1_5 kw_12_13) rfl rfl rfl (by decide +kernel) ⟨Nat.le_of_ble_eq_true rfl, Nat.le_of_ble_eq_true rfl⟩) ⟨(tq_pre (isC := [0, 13, 17, 19, 1, 2, 3, 4, 5, 6, 7, 8, 9, 10, 11]) hP hD hK hN rfl (by decide)).1, va_recv hK hP (ci := 8) (q0 := 0) rfl rfl, (tq_pre (isC := [0, 13, 17, 19, 1, 2, 3, 4, 5, 6, 7, 8, 9, 10, 11]) hP hD hK hN rfl (by decide)).2⟩ rfl rfl hl.1 rfl (lv_room (Nat.le_of_ble_eq_true rfl)) dX8_keepText_208 ⟨Nat.le_of_ble_eq_true rfl, Nat.le_of_ble_eq_true rfl⟩) (fun u218 H locs hw219 hP hD hS => ?_)
  refine W.widen (k := 0) (n := 0) (Nat.le_of_ble_eq_true rfl) (Nat.le_of_ble_eq_true rfl) ?_
  obtain ⟨g220, g221, g222, g223, g224, g225, g226, g227, g228, g229, g230, g231⟩ := u218
  obtain ⟨ho232, hf233, hE234, hE235⟩ := hw219
  try dsimp only at hP hD ho232 hf233 hE234 hE235
  have hf233 := fh_app (fo_fh (l' := [(15, .int 0), (14, .int 0), (13, .int 0), (12, .int 0), (22, .ref m22), (26, .ref m26), (28, .ref m28), (52, .ref m52), (53, .ref m53), (55, .ref m55), (56, .ref m56), (57, .ref m57), (58, .ref m58), (59, .ref m59), (60, .ref m60), (61, .ref m61), (62, .ref m62), (71, .ref m71), (23, .ref m23), (24, .ref m24), (25, .ref m25), (27, .ref m27), (29, .ref m29), (30, .ref m30), (31, .ref m31), (32, .ref m32), (36, .ref m36), (37, .ref m37), (38, .ref m38), (39, .ref m39), (40, .ref m40), (33, .ref m33), (35, .ref m35), (16, .int 0), (17, .int 0), (18, .int 0), (19, .int 0)]) hf ho232 rfl) hf233
  have ho236 := fo_mono (k2 := [84, 82, 79, 78, 70, 69, 68, 67, 66, 65, 64, 63, 15, 14, 13, 12]) (fo_trans ho108 ho232) (by decide)
  have hf233 : fh g220 91 [(15, .int 0), (14, .int 0), (13, .int 0), (12, .int 0), (22, .ref m22), (26, .ref m26), (28, .ref m28), (52, .ref m52), (53, .ref m53), (55, .ref m55), (56, .ref m56), (57, .ref m57), (58, .ref m58), (59, .ref m59), (60, .ref m60), (61, .ref m61), (62, .ref m62), (71, .ref m71), (23, .ref m23), (24, .ref m24), (25, .ref m25), (27, .ref m27), (29, .ref m29), (30, .ref m30), (31, .ref m31), (32, .ref m32), (36, .ref m36), (37, .ref m37), (38, .ref m38), (39, .ref m39), (40, .ref m40), (33, .ref m33), (35, .ref m35), (16, .int 0), (17, .int 0), (18, .int 0), (19, .int 0), (84, .int 0), (82, .int 0), (79, .int (-1)), (78, .int 0), (70, .int 0), (69, .int 0), (68, .int 0), (67, .int 0), (66, .int 0), (65, .int 0), (63, .long 0)] := hf233
  have hP : va_P G vwCl [(m35, .inl (cA 1, 6, .inl f201)), (m23, .inl (cA 0, 10, .inl u118)), (m24, .inl (cA 0, 10, .inl u121)), (m25, .inl (cA 0, 12, .inl u124)), (m27, .inl (cA 0, 12, .inl u130)), (m29, .inl (cA 0, 20, .inl u136)), (m30, .inl (cA 0, 20, .inl u139)), (m31, .inl (cA 0, 20, .inl u142)), (m32, .inl (cA 0, 20, .inl u145)), (m33, .inl (cA 0, 42, .inl u148)), (m36, .inl (cA 0, 6, .inl u203)), (m37, .inl (cA 0, 6, .inl u206)), (m38, .inl (cA 0, 128, .inl u209)), (m39, .inl (cA 0, 128, .inl u212)), (m40, .inl (cA 0, 128, .inl u215)), (h0, .inr (8, g220)), (m22, .inl (cA 0, 6, .inl u109)), (m26, .inl (cA 0, 12, .inl u127)), (m28, .inl (cA 0, 12, .inl u133)), (m52, .inl (cA 0, 20, .inl g221)), (m53, .inl (cA 0, 20, .inl g222)), (m55, .inl (cA 0, 10, .inl g223)), (m56, .inl (cA 0, 12, .inl g224)), (m57, .inl (cA 0, 12, .inl g225)), (m58, .inl (cA 0, 12, .inl g226)), (m59, .inl (cA 0, 12, .inl g227)), (m60, .inl (cA 0, 2, .inl g228)), (m61, .inl (cA 0, 2, .inl g229)), (m62, .inl (cA 0, 2, .inl g230)), (m71, .inl (cA 0, 10, .inl g231))] H := hP
  have hD : va_D A [(m35, .inl (cA 1, 6, .inl f201)), (m23, .inl (cA 0, 10, .inl u118)), (m24, .inl (cA 0, 10, .inl u121)), (m25, .inl (cA 0, 12, .inl u124)), (m27, .inl (cA 0, 12, .inl u130)), (m29, .inl (cA 0, 20, .inl u136)), (m30, .inl (cA 0, 20, .inl u139)), (m31, .inl (cA 0, 20, .inl u142)), (m32, .inl (cA 0, 20, .inl u145)), (m33, .inl (cA 0, 42, .inl u148)), (m36, .inl (cA 0, 6, .inl u203)), (m37, .inl (cA 0, 6, .inl u206)), (m38, .inl (cA 0, 128, .inl u209)), (m39, .inl (cA 0, 128, .inl u212)), (m40, .inl (cA 0, 128, .inl u215)), (h0, .inr (8, g220)), (m22, .inl (cA 0, 6, .inl u109)), (m26, .inl (cA 0, 12, .inl u127)), (m28, .inl (cA 0, 12, .inl u133)), (m52, .inl (cA 0, 20, .inl g221)), (m53, .inl (cA 0, 20, .inl g222)), (m55, .inl (cA 0, 10, .inl g223)), (m56, .inl (cA 0, 12, .inl g224)), (m57, .inl (cA 0, 12, .inl g225)), (m58, .inl (cA 0, 12, .inl g226)), (m59, .inl (cA 0, 12, .inl g227)), (m60, .inl (cA 0, 2, .inl g228)), (m61, .inl (cA 0, 2, .inl g229)), (m62, .inl (cA 0, 2, .inl g230)), (m71, .inl (cA 0, 10, .inl g231))] := hD
  have hP : va_P G vwCl [(h0, .inr (8, g220)), (m22, .inl (cA 0, 6, .inl u109)), (m26, .inl (cA 0, 12, .inl u127)), (m28, .inl (cA 0, 12, .inl u133)), (m52, .inl (cA 0, 20, .inl g221)), (m53, .inl (cA 0, 20, .inl g222)), (m55, .inl (cA 0, 10, .inl g223)), (m56, .inl (cA 0, 12, .inl g224)), (m57, .inl (cA 0, 12, .inl g225)), (m58, .inl (cA 0, 12, .inl g226)), (m59, .inl (cA 0, 12, .inl g227)), (m60, .inl (cA 0, 2, .inl g228)), (m61, .inl (cA 0, 2, .inl g229)), (m62, .inl (cA 0, 2, .inl g230)), (m71, .inl (cA 0, 10, .inl g231)), (m23, .inl (cA 0, 10, .inl u118)), (m24, .inl (cA 0, 10, .inl u121)), (m25, .inl (cA 0, 12, .inl u124)), (m27, .inl (cA 0, 12, .inl u130)), (m29, .inl (cA 0, 20, .inl u136)), (m30, .inl (cA 0, 20, .inl u139)), (m31, .inl (cA 0, 20, .inl u142)), (m32, .inl (cA 0, 20, .inl u145)), (m36, .inl (cA 0, 6, .inl u203)), (m37, .inl (cA 0, 6, .inl u206)), (m38, .inl (cA 0, 128, .inl u209)), (m39, .inl (cA 0, 128, .inl u212)), (m40, .inl (cA 0, 128, .inl u215)), (m33, .inl (cA 0, 42, .inl u148)), (m35, .inl (cA 1, 6, .inl f201))] H := hP.sub [15, 16, 17, 18, 19, 20, 21, 22, 23, 24, 25, 26, 27, 28, 29, 1, 2, 3, 4, 5, 6, 7, 8, 10, 11, 12, 13, 14, 9, 0] rfl
  have hD : va_D A [(h0, .inr (8, g220)), (m22, .inl (cA 0, 6, .inl u109)), (m26, .inl (cA 0, 12, .inl u127)), (m28, .inl (cA 0, 12, .inl u133)), (m52, .inl (cA 0, 20, .inl g221)), (m53, .inl (cA 0, 20, .inl g222)), (m55, .inl (cA 0, 10, .inl g223)), (m56, .inl (cA 0, 12, .inl g224)), (m57, .inl (cA 0, 12, .inl g225)), (m58, .inl (cA 0, 12, .inl g226)), (m59, .inl (cA 0, 12, .inl g227)), (m60, .inl (cA 0, 2, .inl g228)), (m61, .inl (cA 0, 2, .inl g229)), (m62, .inl (cA 0, 2, .inl g230)), (m71, .inl (cA 0, 10, .inl g231)), (m23, .inl (cA 0, 10, .inl u118)), (m24, .inl (cA 0, 10, .inl u121)), (m25, .inl (cA 0, 12, .inl u124)), (m27, .inl (cA 0, 12, .inl u130)), (m29, .inl (cA 0, 20, .inl u136)), (m30, .inl (cA 0, 20, .inl u139)), (m31, .inl (cA 0, 20, .inl u142)), (m32, .inl (cA 0, 20, .inl u145)), (m36, .inl (cA 0, 6, .inl u203)), (m37, .inl (cA 0, 6, .inl u206)), (m38, .inl (cA 0, 128, .inl u209)), (m39, .inl (cA 0, 128, .inl u212)), (m40, .inl (cA 0, 128, .inl u215)), (m33, .inl (cA 0, 42, .inl u148)), (m35, .inl (cA 1, 6, .inl f201))] := hD.sub [15, 16, 17, 18, 19, 20, 21, 22, 23, 24, 25, 26, 27, 28, 29, 1, 2, 3, 4, 5, 6, 7, 8, 10, 11, 12, 13, 14, 9, 0] (by decide) rfl
  have qho236 := fo_mono (k2 := [84, 82, 79, 78, 70, 69, 68, 67, 66, 65, 64, 63, 15, 14, 13, 12]) ho236 (by decide)
  exact W.vret hx hb hr (fun t ht hW => ⟨⟨(g220, u109, u127, u133, g221, g222, g223, g224, g225, g226, g227, g228, g229, g230, g231, u118, u121, u124, u130, u136, u139, u142, u145, u203, u206, u209, u212, u215, u148, f201), rfl, ⟨qho236, fh_sub hf233 [37, 38, 39, 40, 41, 42, 43, 44, 45, 46, 47, 0, 1, 2, 3] rfl, hE112, hE113, hE114, hE115, hE116, hE117, hE234, hE235, hE151, hE152, hE153, hE154, hE155, hE156, hE157, hE158, hE159, hE160, hE161, hE162, hE163, hE164, hE165, hE166, hE167, hE168, hE169, hE170, hE171, hE172, hE173, hE174, hE175, hE176, hE177, hE178, hE179, hE180, hE181, hE182, hE183, hE184, hE185, hE186, hE187, hE188, hE189, hE190, hE191, hE192⟩, by rw [ht]; exact hP, hD⟩, hS.F ht⟩) hS.2.2 dX8_keepText_211
