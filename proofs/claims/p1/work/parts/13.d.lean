set_option maxHeartbeats 4000000 in
set_option maxRecDepth 100000 in
theorem c_X5_append_0 (l : Launch) (G : va_G) (cA : Nat → ClassId) (sz : Nat) (h0 : Nat) (x : Int32) (fs : List Value) (tp : Nat) (ft : Nat → Int32) (hf : fh fs 8 [(0, .int 0), (4, .ref tp)]) : Met l yX5_append (.code yX5_append cX5_append 3 none :: T0) ({ frames := 0, cells := 0, slots := 0, locals := 0 }) (tqP G cA [.ref h0, .int x] [(h0, .inr (5, fs)), (tp, .inl (cA 3, 700, .inl ft))] sz) (tqQv G cA (fun (u : List Value × (Nat → Int32)) => fo fs u.1 [0] ∧ fh u.1 8 [(0, .int 4)]) (fun (u : List Value × (Nat → Int32)) => [(h0, .inr (5, u.1)), (tp, .inl (cA 3, 700, .inl u.2))]) (va_A [(h0, .inr (5, fs)), (tp, .inl (cA 3, 700, .inl ft))] sz)) 0 0 (va_A [(h0, .inr (5, fs)), (tp, .inl (cA 3, 700, .inl ft))] sz) := by
  refine Met.ofW (cc := cX5_append) (maxL := 3) (ret := none) (by decide) rfl ?_
  intro p e s m args below meth c s₁ B hml hv
  obtain ⟨rfl, hsz, hP, hK, hD0, hN⟩ := hv
  have hx := B.exec
  have hb := B.bytes
  have hr := B.returns
  have hts := atoms_spec (ws := .code yX5_append cX5_append 3 none :: T0) B.pre
  have hT : ∀ w ∈ T0, w.before _ s = true := fun w h => hts w (List.mem_cons_of_mem _ h)
  have hown : s.vm.findClass RX5 = some m.cls := findClass_of_methodNamed B.named
  have hlocks := B.notSynchronized
  subst hsz
  have hD := hD0.self (sz := s.heap.size)
  generalize hAe : va_A [(h0, .inr (5, fs)), (tp, .inl (cA 3, 700, .inl ft))] s.heap.size = A at hD ⊢
  have hA : ∀ q : Nat, s.heap.size ≤ q → A q := fun q h => by rw [← hAe]; exact Or.inr h
  have hS : va_S A s.heap s.heap [] := va_S.rf
  have hl := lv_entry ([.ref h0, .int x]) (n := 3) (Nat.le_of_ble_eq_true rfl)
  rw [lg_entry_eq]
  generalize (lg_sl ([.ref h0, .int x]) ++ List.replicate (3 - (lg_sl ([.ref h0, .int x])).length) Slot.unset).toArray = ls at hl ⊢
  have hl : lv_has ls 3 [(0, .ref h0), (1, .int x)] := hl
  obtain ⟨H, hH⟩ : ∃ z, z = s.heap := ⟨_, rfl⟩
  rw [← hH] at hP
  have hS : va_S A s.heap H [] := by rw [hH]; exact hS
  suffices hgo : W p l e _ s m _ below meth c H [] 0 0 _ _ by rw [hH] at hgo; exact hgo
  have hO := hN.2.2.2.2
  have ho_hf := fo_refl fs
  refine lv_bipush (v := 24) hx hb dX5_append_0 (by decide) ?_
  refine lv_istore_n (lv' := [(2, .int 24), (0, .ref h0), (1, .int x)]) hx hb dX5_append_2 rfl hl (by decide) rfl (fun ls hl => ?_)
  refine lv_iload_n hx hb dX5_append_3 rfl (lv_at hl 0 rfl) ?_
  refine lv_if_lt (tgt := 46) hx hb dX5_append_4 (by decide) (fun c101 => absurd c101 (by decide)) (fun c101 => ?_)
  refine lv_aload_n hx hb dX5_append_7 rfl (lv_at hl 1 rfl) ?_
  refine va_get (D := G) (ci := 5) (v := .int 0) (C := RX5) (T := TX5) (N := 8) hx hb hT ku_5 hown hK hP 0 rfl rfl 0 (by decide) (hT _ kw_13_19) (fun _ h9 => h9) (fh_at hf 0 rfl) dX5_append_8 ?_
  refine lv_sipush (v := 700) hx hb dX5_append_11 (by decide) ?_
  refine lv_icmp_ge (tgt := 46) hx hb dX5_append_14 (by decide) (fun c102 => absurd c102 (by decide)) (fun c102 => ?_)
  refine lv_aload_n hx hb dX5_append_17 rfl (lv_at hl 1 rfl) ?_
  refine va_get (D := G) (ci := 5) (v := .ref tp) (C := RX5) (T := TX5) (N := 8) hx hb hT ku_5 hown hK hP 0 rfl rfl 4 (by decide) (hT _ kw_3_11) (fun _ h9 => h9) (fh_at hf 1 rfl) dX5_append_18 ?_
  refine lv_aload_n hx hb dX5_append_21 rfl (lv_at hl 1 rfl) ?_
  refine va_get (D := G) (ci := 5) (v := .int 0) (C := RX5) (T := TX5) (N := 8) hx hb hT ku_5 hown hK hP 0 rfl rfl 0 (by decide) (hT _ kw_13_19) (fun _ h9 => h9) (fh_at hf 0 rfl) dX5_append_22 ?_
  refine lv_iload_n hx hb dX5_append_25 rfl (lv_at hl 2 rfl) ?_
  refine lv_iload_n hx hb dX5_append_26 rfl (lv_at hl 0 rfl) ?_
  refine lv_iushr hx hb dX5_append_27 rfl ?_
  refine lv_topi (fun x103 ex103 => ?_)
  refine lv_i2b hx hb dX5_append_28 rfl ?_
  refine lv_topi (fun x104 ex104 => ?_)
  refine va_bast (i := 0) hx hb hK hP hD hS 1 3 rfl rfl (tq_in (by decide)) dX5_append_29 (fun H locs hP hD hS => ?_)
  have hP : va_P G vwCl [(h0, .inr (5, fs)), (tp, .inl (cA 3, 700, .inl ((upd ft (0 : Int32).toNatClampNeg (vp_nar .byte x104)))))] H := hP
  have hD : va_D A [(h0, .inr (5, fs)), (tp, .inl (cA 3, 700, .inl ((upd ft (0 : Int32).toNatClampNeg (vp_nar .byte x104)))))] := hD
  generalize (upd ft (0 : Int32).toNatClampNeg (vp_nar .byte x104)) = f105 at hP hD
  refine lv_aload_n hx hb dX5_append_30 rfl (lv_at hl 1 rfl) ?_
  refine lv_dup hx hb dX5_append_31 rfl ?_
  refine va_get (D := G) (ci := 5) (v := .int 0) (C := RX5) (T := TX5) (N := 8) hx hb hT ku_5 hown hK hP 0 rfl rfl 0 (by decide) (hT _ kw_13_19) (fun _ h9 => h9) (fh_at hf 0 rfl) dX5_append_32 ?_
  refine lv_iconst (v := 1) hx hb dX5_append_35 (by decide) ?_
  refine lv_iadd hx hb dX5_append_36 ?_
  refine tq_i (w := 1) (by decide) ?_
  refine va_put (D := G) (ci := 5) (v := .int 1) (ty := .int) (C := RX5) (T := TX5) (N := 8) hx hb hT ku_5 tyX5 tyX5_ok nmX5 hown hK hP hD hS 0 rfl rfl 0 (by decide) (hT _ kw_13_19) (fun _ h9 => h9) rfl (by decide +kernel) rfl rfl (fh_lt hf (by decide)) dX5_append_37 (fun H locs hP hD hS => ?_)
  have hP : va_P G vwCl [(h0, .inr (5, (fs.set 0 (.int 1)))), (tp, .inl (cA 3, 700, .inl f105))] H := hP
  have hD : va_D A [(h0, .inr (5, (fs.set 0 (.int 1)))), (tp, .inl (cA 3, 700, .inl f105))] := hD
  have hf := fh_set (l' := [(0, .int 1), (4, .ref tp)]) hf 0 (.int 1) (by decide) rfl
  have ho107 := fo_set ho_hf 0 (.int 1)
  generalize (fs.set 0 (.int 1)) = fs106 at hP hD hf ho107
  refine lv_iinc (v := 16) (lv' := [(2, .int 16), (0, .ref h0), (1, .int x)]) hx hb dX5_append_40 hl (k := 0) rfl (by decide) (by decide) rfl (fun ls hl => ?_)
  refine lv_goto (tgt := 3) hx hb dX5_append_43 (by decide) ?_
  refine lv_iload_n hx hb dX5_append_3 rfl (lv_at hl 0 rfl) ?_
  refine lv_if_lt (tgt := 46) hx hb dX5_append_4 (by decide) (fun c108 => absurd c108 (by decide)) (fun c108 => ?_)
  refine lv_aload_n hx hb dX5_append_7 rfl (lv_at hl 1 rfl) ?_
  refine va_get (D := G) (ci := 5) (v := .int 1) (C := RX5) (T := TX5) (N := 8) hx hb hT ku_5 hown hK hP 0 rfl rfl 0 (by decide) (hT _ kw_13_19) (fun _ h9 => h9) (fh_at hf 0 rfl) dX5_append_8 ?_
  refine lv_sipush (v := 700) hx hb dX5_append_11 (by decide) ?_
  refine lv_icmp_ge (tgt := 46) hx hb dX5_append_14 (by decide) (fun c109 => absurd c109 (by decide)) (fun c109 => ?_)
  refine lv_aload_n hx hb dX5_append_17 rfl (lv_at hl 1 rfl) ?_
  refine va_get (D := G) (ci := 5) (v := .ref tp) (C := RX5) (T := TX5) (N := 8) hx hb hT ku_5 hown hK hP 0 rfl rfl 4 (by decide) (hT _ kw_3_11) (fun _ h9 => h9) (fh_at hf 1 rfl) dX5_append_18 ?_
  refine lv_aload_n hx hb dX5_append_21 rfl (lv_at hl 1 rfl) ?_
  refine va_get (D := G) (ci := 5) (v := .int 1) (C := RX5) (T := TX5) (N := 8) hx hb hT ku_5 hown hK hP 0 rfl rfl 0 (by decide) (hT _ kw_13_19) (fun _ h9 => h9) (fh_at hf 0 rfl) dX5_append_22 ?_
  refine lv_iload_n hx hb dX5_append_25 rfl (lv_at hl 2 rfl) ?_
  refine lv_iload_n hx hb dX5_append_26 rfl (lv_at hl 0 rfl) ?_
  refine lv_iushr hx hb dX5_append_27 rfl ?_
  refine lv_topi (fun x110 ex110 => ?_)
  refine lv_i2b hx hb dX5_append_28 rfl ?_
  refine lv_topi (fun x111 ex111 => ?_)
  refine va_bast (i := 1) hx hb hK hP hD hS 1 3 rfl rfl (tq_in (by decide)) dX5_append_29 (fun H locs hP hD hS => ?_)
  have hP : va_P G vwCl [(h0, .inr (5, fs106)), (tp, .inl (cA 3, 700, .inl ((upd f105 (1 : Int32).toNatClampNeg (vp_nar .byte x111)))))] H := hP
  have hD : va_D A [(h0, .inr (5, fs106)), (tp, .inl (cA 3, 700, .inl ((upd f105 (1 : Int32).toNatClampNeg (vp_nar .byte x111)))))] := hD
  generalize (upd f105 (1 : Int32).toNatClampNeg (vp_nar .byte x111)) = f112 at hP hD
  refine lv_aload_n hx hb dX5_append_30 rfl (lv_at hl 1 rfl) ?_
  refine lv_dup hx hb dX5_append_31 rfl ?_
  refine va_get (D := G) (ci := 5) (v := .int 1) (C := RX5) (T := TX5) (N := 8) hx hb hT ku_5 hown hK hP 0 rfl rfl 0 (by decide) (hT _ kw_13_19) (fun _ h9 => h9) (fh_at hf 0 rfl) dX5_append_32 ?_
  refine lv_iconst (v := 1) hx hb dX5_append_35 (by decide) ?_
  refine lv_iadd hx hb dX5_append_36 ?_
  refine tq_i (w := 2) (by decide) ?_
  refine va_put (D := G) (ci := 5) (v := .int 2) (ty := .int) (C := RX5) (T := TX5) (N := 8) hx hb hT ku_5 tyX5 tyX5_ok nmX5 hown hK hP hD hS 0 rfl rfl 0 (by decide) (hT _ kw_13_19) (fun _ h9 => h9) rfl (by decide +kernel) rfl rfl (fh_lt hf (by decide)) dX5_append_37 (fun H locs hP hD hS => ?_)
  have hP : va_P G vwCl [(h0, .inr (5, (fs106.set 0 (.int 2)))), (tp, .inl (cA 3, 700, .inl f112))] H := hP
  have hD : va_D A [(h0, .inr (5, (fs106.set 0 (.int 2)))), (tp, .inl (cA 3, 700, .inl f112))] := hD
  have hf := fh_set (l' := [(0, .int 2), (4, .ref tp)]) hf 0 (.int 2) (by decide) rfl
  have ho114 := fo_mono (k2 := [0]) (fo_set ho107 0 (.int 2)) (by decide)
  generalize (fs106.set 0 (.int 2)) = fs113 at hP hD hf ho114
  refine lv_iinc (v := 8) (lv' := [(2, .int 8), (0, .ref h0), (1, .int x)]) hx hb dX5_append_40 hl (k := 0) rfl (by decide) (by decide) rfl (fun ls hl => ?_)
  refine lv_goto (tgt := 3) hx hb dX5_append_43 (by decide) ?_
  refine lv_iload_n hx hb dX5_append_3 rfl (lv_at hl 0 rfl) ?_
  refine lv_if_lt (tgt := 46) hx hb dX5_append_4 (by decide) (fun c115 => absurd c115 (by decide)) (fun c115 => ?_)
  refine lv_aload_n hx hb dX5_append_7 rfl (lv_at hl 1 rfl) ?_
  refine va_get (D := G) (ci := 5) (v := .int 2) (C := RX5) (T := TX5) (N := 8) hx hb hT ku_5 hown hK hP 0 rfl rfl 0 (by decide) (hT _ kw_13_19) (fun _ h9 => h9) (fh_at hf 0 rfl) dX5_append_8 ?_
  refine lv_sipush (v := 700) hx hb dX5_append_11 (by decide) ?_
  refine lv_icmp_ge (tgt := 46) hx hb dX5_append_14 (by decide) (fun c116 => absurd c116 (by decide)) (fun c116 => ?_)
  refine lv_aload_n hx hb dX5_append_17 rfl (lv_at hl 1 rfl) ?_
  refine va_get (D := G) (ci := 5) (v := .ref tp) (C := RX5) (T := TX5) (N := 8) hx hb hT ku_5 hown hK hP 0 rfl rfl 4 (by decide) (hT _ kw_3_11) (fun _ h9 => h9) (fh_at hf 1 rfl) dX5_append_18 ?_
  refine lv_aload_n hx hb dX5_append_21 rfl (lv_at hl 1 rfl) ?_
  refine va_get (D := G) (ci := 5) (v := .int 2) (C := RX5) (T := TX5) (N := 8) hx hb hT ku_5 hown hK hP 0 rfl rfl 0 (by decide) (hT _ kw_13_19) (fun _ h9 => h9) (fh_at hf 0 rfl) dX5_append_22 ?_
  refine lv_iload_n hx hb dX5_append_25 rfl (lv_at hl 2 rfl) ?_
  refine lv_iload_n hx hb dX5_append_26 rfl (lv_at hl 0 rfl) ?_
  refine lv_iushr hx hb dX5_append_27 rfl ?_
  refine lv_topi (fun x117 ex117 => ?_)
  refine lv_i2b hx hb dX5_append_28 rfl ?_
  refine lv_topi (fun x118 ex118 => ?_)
  refine va_bast (i := 2) hx hb hK hP hD hS 1 3 rfl rfl (tq_in (by decide)) dX5_append_29 (fun H locs hP hD hS => ?_)
  have hP : va_P G vwCl [(h0, .inr (5, fs113)), (tp, .inl (cA 3, 700, .inl ((upd f112 (2 : Int32).toNatClampNeg (vp_nar .byte x118)))))] H := hP
  have hD : va_D A [(h0, .inr (5, fs113)), (tp, .inl (cA 3, 700, .inl ((upd f112 (2 : Int32).toNatClampNeg (vp_nar .byte x118)))))] := hD
  generalize (upd f112 (2 : Int32).toNatClampNeg (vp_nar .byte x118)) = f119 at hP hD
  refine lv_aload_n hx hb dX5_append_30 rfl (lv_at hl 1 rfl) ?_
  refine lv_dup hx hb dX5_append_31 rfl ?_
  refine va_get (D := G) (ci := 5) (v := .int 2) (C := RX5) (T := TX5) (N := 8) hx hb hT ku_5 hown hK hP 0 rfl rfl 0 (by decide) (hT _ kw_13_19) (fun _ h9 => h9) (fh_at hf 0 rfl) dX5_append_32 ?_
  refine lv_iconst (v := 1) hx hb dX5_append_35 (by decide) ?_
  refine lv_iadd hx hb dX5_append_36 ?_
  refine tq_i (w := 3) (by decide) ?_
  refine va_put (D := G) (ci := 5) (v := .int 3) (ty := .int) (C := RX5) (T := TX5) (N := 8) hx hb hT ku_5 tyX5 tyX5_ok nmX5 hown hK hP hD hS 0 rfl rfl 0 (by decide) (hT _ kw_13_19) (fun _ h9 => h9) rfl (by decide +kernel) rfl rfl (fh_lt hf (by decide)) dX5_append_37 (fun H locs hP hD hS => ?_)
  have hP : va_P G vwCl [(h0, .inr (5, (fs113.set 0 (.int 3)))), (tp, .inl (cA 3, 700, .inl f119))] H := hP
  have hD : va_D A [(h0, .inr (5, (fs113.set 0 (.int 3)))), (tp, .inl (cA 3, 700, .inl f119))] := hD
  have hf := fh_set (l' := [(0, .int 3), (4, .ref tp)]) hf 0 (.int 3) (by decide) rfl
  have ho121 := fo_mono (k2 := [0]) (fo_set ho114 0 (.int 3)) (by decide)
  generalize (fs113.set 0 (.int 3)) = fs120 at hP hD hf ho121
  refine lv_iinc (v := 0) (lv' := [(2, .int 0), (0, .ref h0), (1, .int x)]) hx hb dX5_append_40 hl (k := 0) rfl (by decide) (by decide) rfl (fun ls hl => ?_)
  refine lv_goto (tgt := 3) hx hb dX5_append_43 (by decide) ?_
  refine lv_iload_n hx hb dX5_append_3 rfl (lv_at hl 0 rfl) ?_
  refine lv_if_lt (tgt := 46) hx hb dX5_append_4 (by decide) (fun c122 => absurd c122 (by decide)) (fun c122 => ?_)
  refine lv_aload_n hx hb dX5_append_7 rfl (lv_at hl 1 rfl) ?_
  refine va_get (D := G) (ci := 5) (v := .int 3) (C := RX5) (T := TX5) (N := 8) hx hb hT ku_5 hown hK hP 0 rfl rfl 0 (by decide) (hT _ kw_13_19) (fun _ h9 => h9) (fh_at hf 0 rfl) dX5_append_8 ?_
  refine lv_sipush (v := 700) hx hb dX5_append_11 (by decide) ?_
  refine lv_icmp_ge (tgt := 46) hx hb dX5_append_14 (by decide) (fun c123 => absurd c123 (by decide)) (fun c123 => ?_)
  refine lv_aload_n hx hb dX5_append_17 rfl (lv_at hl 1 rfl) ?_
  refine va_get (D := G) (ci := 5) (v := .ref tp) (C := RX5) (T := TX5) (N := 8) hx hb hT ku_5 hown hK hP 0 rfl rfl 4 (by decide) (hT _ kw_3_11) (fun _ h9 => h9) (fh_at hf 1 rfl) dX5_append_18 ?_
  refine lv_aload_n hx hb dX5_append_21 rfl (lv_at hl 1 rfl) ?_
  refine va_get (D := G) (ci := 5) (v := .int 3) (C := RX5) (T := TX5) (N := 8) hx hb hT ku_5 hown hK hP 0 rfl rfl 0 (by decide) (hT _ kw_13_19) (fun _ h9 => h9) (fh_at hf 0 rfl) dX5_append_22 ?_
  refine lv_iload_n hx hb dX5_append_25 rfl (lv_at hl 2 rfl) ?_
  refine lv_iload_n hx hb dX5_append_26 rfl (lv_at hl 0 rfl) ?_
  refine lv_iushr hx hb dX5_append_27 rfl ?_
  refine lv_topi (fun x124 ex124 => ?_)
  refine lv_i2b hx hb dX5_append_28 rfl ?_
  refine lv_topi (fun x125 ex125 => ?_)
  refine va_bast (i := 3) hx hb hK hP hD hS 1 3 rfl rfl (tq_in (by decide)) dX5_append_29 (fun H locs hP hD hS => ?_)
  have hP : va_P G vwCl [(h0, .inr (5, fs120)), (tp, .inl (cA 3, 700, .inl ((upd f119 (3 : Int32).toNatClampNeg (vp_nar .byte x125)))))] H := hP
  have hD : va_D A [(h0, .inr (5, fs120)), (tp, .inl (cA 3, 700, .inl ((upd f119 (3 : Int32).toNatClampNeg (vp_nar .byte x125)))))] := hD
  generalize (upd f119 (3 : Int32).toNatClampNeg (vp_nar .byte x125)) = f126 at hP hD
  refine lv_aload_n hx hb dX5_append_30 rfl (lv_at hl 1 rfl) ?_
  refine lv_dup hx hb dX5_append_31 rfl ?_
  refine va_get (D := G) (ci := 5) (v := .int 3) (C := RX5) (T := TX5) (N := 8) hx hb hT ku_5 hown hK hP 0 rfl rfl 0 (by decide) (hT _ kw_13_19) (fun _ h9 => h9) (fh_at hf 0 rfl) dX5_append_32 ?_
  refine lv_iconst (v := 1) hx hb dX5_append_35 (by decide) ?_
  refine lv_iadd hx hb dX5_append_36 ?_
  refine tq_i (w := 4) (by decide) ?_
  refine va_put (D := G) (ci := 5) (v := .int 4) (ty := .int) (C := RX5) (T := TX5) (N := 8) hx hb hT ku_5 tyX5 tyX5_ok nmX5 hown hK hP hD hS 0 rfl rfl 0 (by decide) (hT _ kw_13_19) (fun _ h9 => h9) rfl (by decide +kernel) rfl rfl (fh_lt hf (by decide)) dX5_append_37 (fun H locs hP hD hS => ?_)
  have hP : va_P G vwCl [(h0, .inr (5, (fs120.set 0 (.int 4)))), (tp, .inl (cA 3, 700, .inl f126))] H := hP
  have hD : va_D A [(h0, .inr (5, (fs120.set 0 (.int 4)))), (tp, .inl (cA 3, 700, .inl f126))] := hD
  have hf := fh_set (l' := [(0, .int 4), (4, .ref tp)]) hf 0 (.int 4) (by decide) rfl
  have ho128 := fo_mono (k2 := [0]) (fo_set ho121 0 (.int 4)) (by decide)
  generalize (fs120.set 0 (.int 4)) = fs127 at hP hD hf ho128
  refine lv_iinc (v := (-8)) (lv' := [(2, .int (-8)), (0, .ref h0), (1, .int x)]) hx hb dX5_append_40 hl (k := 0) rfl (by decide) (by decide) rfl (fun ls hl => ?_)
  refine lv_goto (tgt := 3) hx hb dX5_append_43 (by decide) ?_
  refine lv_iload_n hx hb dX5_append_3 rfl (lv_at hl 0 rfl) ?_
  refine lv_if_lt (tgt := 46) hx hb dX5_append_4 (by decide) (fun c129 => ?_) (fun c129 => absurd (by decide) c129)
  have qho128 := fo_mono (k2 := [0]) ho128 (by decide)
  exact W.vret hx hb hr (fun t ht hW => ⟨⟨(fs127, f126), rfl, ⟨qho128, fh_sub hf [0] rfl⟩, by rw [ht]; exact hP, hD⟩, hS.F ht⟩) hS.2.2 dX5_append_46

set_option maxHeartbeats 4000000 in
set_option maxRecDepth 100000 in
theorem c_X5_append_4 (l : Launch) (G : va_G) (cA : Nat → ClassId) (sz : Nat) (h0 : Nat) (x : Int32) (fs : List Value) (tp : Nat) (ft : Nat → Int32) (hf : fh fs 8 [(0, .int 4), (4, .ref tp)]) : Met l yX5_append (.code yX5_append cX5_append 3 none :: T0) ({ frames := 0, cells := 0, slots := 0, locals := 0 }) (tqP G cA [.ref h0, .int x] [(h0, .inr (5, fs)), (tp, .inl (cA 3, 700, .inl ft))] sz) (tqQv G cA (fun (u : List Value × (Nat → Int32)) => fo fs u.1 [0] ∧ fh u.1 8 [(0, .int 8)]) (fun (u : List Value × (Nat → Int32)) => [(h0, .inr (5, u.1)), (tp, .inl (cA 3, 700, .inl u.2))]) (va_A [(h0, .inr (5, fs)), (tp, .inl (cA 3, 700, .inl ft))] sz)) 0 0 (va_A [(h0, .inr (5, fs)), (tp, .inl (cA 3, 700, .inl ft))] sz) := by
  refine Met.ofW (cc := cX5_append) (maxL := 3) (ret := none) (by decide) rfl ?_
  intro p e s m args below meth c s₁ B hml hv
  obtain ⟨rfl, hsz, hP, hK, hD0, hN⟩ := hv
  have hx := B.exec
  have hb := B.bytes
  have hr := B.returns
  have hts := atoms_spec (ws := .code yX5_append cX5_append 3 none :: T0) B.pre
  have hT : ∀ w ∈ T0, w.before _ s = true := fun w h => hts w (List.mem_cons_of_mem _ h)
  have hown : s.vm.findClass RX5 = some m.cls := findClass_of_methodNamed B.named
  have hlocks := B.notSynchronized
  subst hsz
  have hD := hD0.self (sz := s.heap.size)
  generalize hAe : va_A [(h0, .inr (5, fs)), (tp, .inl (cA 3, 700, .inl ft))] s.heap.size = A at hD ⊢
  have hA : ∀ q : Nat, s.heap.size ≤ q → A q := fun q h => by rw [← hAe]; exact Or.inr h
  have hS : va_S A s.heap s.heap [] := va_S.rf
  have hl := lv_entry ([.ref h0, .int x]) (n := 3) (Nat.le_of_ble_eq_true rfl)
  rw [lg_entry_eq]
  generalize (lg_sl ([.ref h0, .int x]) ++ List.replicate (3 - (lg_sl ([.ref h0, .int x])).length) Slot.unset).toArray = ls at hl ⊢
  have hl : lv_has ls 3 [(0, .ref h0), (1, .int x)] := hl
  obtain ⟨H, hH⟩ : ∃ z, z = s.heap := ⟨_, rfl⟩
  rw [← hH] at hP
  have hS : va_S A s.heap H [] := by rw [hH]; exact hS
  suffices hgo : W p l e _ s m _ below meth c H [] 0 0 _ _ by rw [hH] at hgo; exact hgo
  have hO := hN.2.2.2.2
  have ho_hf := fo_refl fs
  refine lv_bipush (v := 24) hx hb dX5_append_0 (by decide) ?_
  refine lv_istore_n (lv' := [(2, .int 24), (0, .ref h0), (1, .int x)]) hx hb dX5_append_2 rfl hl (by decide) rfl (fun ls hl => ?_)
  refine lv_iload_n hx hb dX5_append_3 rfl (lv_at hl 0 rfl) ?_
  refine lv_if_lt (tgt := 46) hx hb dX5_append_4 (by decide) (fun c101 => absurd c101 (by decide)) (fun c101 => ?_)
  refine lv_aload_n hx hb dX5_append_7 rfl (lv_at hl 1 rfl) ?_
  refine va_get (D := G) (ci := 5) (v := .int 4) (C := RX5) (T := TX5) (N := 8) hx hb hT ku_5 hown hK hP 0 rfl rfl 0 (by decide) (hT _ kw_13_19) (fun _ h9 => h9) (fh_at hf 0 rfl) dX5_append_8 ?_
  refine lv_sipush (v := 700) hx hb dX5_append_11 (by decide) ?_
  refine lv_icmp_ge (tgt := 46) hx hb dX5_append_14 (by decide) (fun c102 => absurd c102 (by decide)) (fun c102 => ?_)
  refine lv_aload_n hx hb dX5_append_17 rfl (lv_at hl 1 rfl) ?_
  refine va_get (D := G) (ci := 5) (v := .ref tp) (C := RX5) (T := TX5) (N := 8) hx hb hT ku_5 hown hK hP 0 rfl rfl 4 (by decide) (hT _ kw_3_11) (fun _ h9 => h9) (fh_at hf 1 rfl) dX5_append_18 ?_
  refine lv_aload_n hx hb dX5_append_21 rfl (lv_at hl 1 rfl) ?_
  refine va_get (D := G) (ci := 5) (v := .int 4) (C := RX5) (T := TX5) (N := 8) hx hb hT ku_5 hown hK hP 0 rfl rfl 0 (by decide) (hT _ kw_13_19) (fun _ h9 => h9) (fh_at hf 0 rfl) dX5_append_22 ?_
  refine lv_iload_n hx hb dX5_append_25 rfl (lv_at hl 2 rfl) ?_
  refine lv_iload_n hx hb dX5_append_26 rfl (lv_at hl 0 rfl) ?_
  refine lv_iushr hx hb dX5_append_27 rfl ?_
  refine lv_topi (fun x103 ex103 => ?_)
  refine lv_i2b hx hb dX5_append_28 rfl ?_
  refine lv_topi (fun x104 ex104 => ?_)
  refine va_bast (i := 4) hx hb hK hP hD hS 1 3 rfl rfl (tq_in (by decide)) dX5_append_29 (fun H locs hP hD hS => ?_)
  have hP : va_P G vwCl [(h0, .inr (5, fs)), (tp, .inl (cA 3, 700, .inl ((upd ft (4 : Int32).toNatClampNeg (vp_nar .byte x104)))))] H := hP
  have hD : va_D A [(h0, .inr (5, fs)), (tp, .inl (cA 3, 700, .inl ((upd ft (4 : Int32).toNatClampNeg (vp_nar .byte x104)))))] := hD
  generalize (upd ft (4 : Int32).toNatClampNeg (vp_nar .byte x104)) = f105 at hP hD
  refine lv_aload_n hx hb dX5_append_30 rfl (lv_at hl 1 rfl) ?_
  refine lv_dup hx hb dX5_append_31 rfl ?_
  refine va_get (D := G) (ci := 5) (v := .int 4) (C := RX5) (T := TX5) (N := 8) hx hb hT ku_5 hown hK hP 0 rfl rfl 0 (by decide) (hT _ kw_13_19) (fun _ h9 => h9) (fh_at hf 0 rfl) dX5_append_32 ?_
  refine lv_iconst (v := 1) hx hb dX5_append_35 (by decide) ?_
  refine lv_iadd hx hb dX5_append_36 ?_
  refine tq_i (w := 5) (by decide) ?_
  refine va_put (D := G) (ci := 5) (v := .int 5) (ty := .int) (C := RX5) (T := TX5) (N := 8) hx hb hT ku_5 tyX5 tyX5_ok nmX5 hown hK hP hD hS 0 rfl rfl 0 (by decide) (hT _ kw_13_19) (fun _ h9 => h9) rfl (by decide +kernel) rfl rfl (fh_lt hf (by decide)) dX5_append_37 (fun H locs hP hD hS => ?_)
  have hP : va_P G vwCl [(h0, .inr (5, (fs.set 0 (.int 5)))), (tp, .inl (cA 3, 700, .inl f105))] H := hP
  have hD : va_D A [(h0, .inr (5, (fs.set 0 (.int 5)))), (tp, .inl (cA 3, 700, .inl f105))] := hD
  have hf := fh_set (l' := [(0, .int 5), (4, .ref tp)]) hf 0 (.int 5) (by decide) rfl
  have ho107 := fo_set ho_hf 0 (.int 5)
  generalize (fs.set 0 (.int 5)) = fs106 at hP hD hf ho107
  refine lv_iinc (v := 16) (lv' := [(2, .int 16), (0, .ref h0), (1, .int x)]) hx hb dX5_append_40 hl (k := 0) rfl (by decide) (by decide) rfl (fun ls hl => ?_)
  refine lv_goto (tgt := 3) hx hb dX5_append_43 (by decide) ?_
  refine lv_iload_n hx hb dX5_append_3 rfl (lv_at hl 0 rfl) ?_
  refine lv_if_lt (tgt := 46) hx hb dX5_append_4 (by decide) (fun c108 => absurd c108 (by decide)) (fun c108 => ?_)
  refine lv_aload_n hx hb dX5_append_7 rfl (lv_at hl 1 rfl) ?_
  refine va_get (D := G) (ci := 5) (v := .int 5) (C := RX5) (T := TX5) (N := 8) hx hb hT ku_5 hown hK hP 0 rfl rfl 0 (by decide) (hT _ kw_13_19) (fun _ h9 => h9) (fh_at hf 0 rfl) dX5_append_8 ?_
  refine lv_sipush (v := 700) hx hb dX5_append_11 (by decide) ?_
  refine lv_icmp_ge (tgt := 46) hx hb dX5_append_14 (by decide) (fun c109 => absurd c109 (by decide)) (fun c109 => ?_)
  refine lv_aload_n hx hb dX5_append_17 rfl (lv_at hl 1 rfl) ?_
  refine va_get (D := G) (ci := 5) (v := .ref tp) (C := RX5) (T := TX5) (N := 8) hx hb hT ku_5 hown hK hP 0 rfl rfl 4 (by decide) (hT _ kw_3_11) (fun _ h9 => h9) (fh_at hf 1 rfl) dX5_append_18 ?_
  refine lv_aload_n hx hb dX5_append_21 rfl (lv_at hl 1 rfl) ?_
  refine va_get (D := G) (ci := 5) (v := .int 5) (C := RX5) (T := TX5) (N := 8) hx hb hT ku_5 hown hK hP 0 rfl rfl 0 (by decide) (hT _ kw_13_19) (fun _ h9 => h9) (fh_at hf 0 rfl) dX5_append_22 ?_
  refine lv_iload_n hx hb dX5_append_25 rfl (lv_at hl 2 rfl) ?_
  refine lv_iload_n hx hb dX5_append_26 rfl (lv_at hl 0 rfl) ?_
  refine lv_iushr hx hb dX5_append_27 rfl ?_
  refine lv_topi (fun x110 ex110 => ?_)
  refine lv_i2b hx hb dX5_append_28 rfl ?_
  refine lv_topi (fun x111 ex111 => ?_)
  refine va_bast (i := 5) hx hb hK hP hD hS 1 3 rfl rfl (tq_in (by decide)) dX5_append_29 (fun H locs hP hD hS => ?_)
  have hP : va_P G vwCl [(h0, .inr (5, fs106)), (tp, .inl (cA 3, 700, .inl ((upd f105 (5 : Int32).toNatClampNeg (vp_nar .byte x111)))))] H := hP
  have hD : va_D A [(h0, .inr (5, fs106)), (tp, .inl (cA 3, 700, .inl ((upd f105 (5 : Int32).toNatClampNeg (vp_nar .byte x111)))))] := hD
  generalize (upd f105 (5 : Int32).toNatClampNeg (vp_nar .byte x111)) = f112 at hP hD
  refine lv_aload_n hx hb dX5_append_30 rfl (lv_at hl 1 rfl) ?_
  refine lv_dup hx hb dX5_append_31 rfl ?_
  refine va_get (D := G) (ci := 5) (v := .int 5) (C := RX5) (T := TX5) (N := 8) hx hb hT ku_5 hown hK hP 0 rfl rfl 0 (by decide) (hT _ kw_13_19) (fun _ h9 => h9) (fh_at hf 0 rfl) dX5_append_32 ?_
  refine lv_iconst (v := 1) hx hb dX5_append_35 (by decide) ?_
  refine lv_iadd hx hb dX5_append_36 ?_
  refine tq_i (w := 6) (by decide) ?_
  refine va_put (D := G) (ci := 5) (v := .int 6) (ty := .int) (C := RX5) (T := TX5) (N := 8) hx hb hT ku_5 tyX5 tyX5_ok nmX5 hown hK hP hD hS 0 rfl rfl 0 (by decide) (hT _ kw_13_19) (fun _ h9 => h9) rfl (by decide +kernel) rfl rfl (fh_lt hf (by decide)) dX5_append_37 (fun H locs hP hD hS => ?_)
  have hP : va_P G vwCl [(h0, .inr (5, (fs106.set 0 (.int 6)))), (tp, .inl (cA 3, 700, .inl f112))] H := hP
  have hD : va_D A [(h0, .inr (5, (fs106.set 0 (.int 6)))), (tp, .inl (cA 3, 700, .inl f112))] := hD
  have hf := fh_set (l' := [(0, .int 6), (4, .ref tp)]) hf 0 (.int 6) (by decide) rfl
  have ho114 := fo_mono (k2 := [0]) (fo_set ho107 0 (.int 6)) (by decide)
  generalize (fs106.set 0 (.int 6)) = fs113 at hP hD hf ho114
  refine lv_iinc (v := 8) (lv' := [(2, .int 8), (0, .ref h0), (1, .int x)]) hx hb dX5_append_40 hl (k := 0) rfl (by decide) (by decide) rfl (fun ls hl => ?_)
  refine lv_goto (tgt := 3) hx hb dX5_append_43 (by decide) ?_
  refine lv_iload_n hx hb dX5_append_3 rfl (lv_at hl 0 rfl) ?_
  refine lv_if_lt (tgt := 46) hx hb dX5_append_4 (by decide) (fun c115 => absurd c115 (by decide)) (fun c115 => ?_)
  refine lv_aload_n hx hb dX5_append_7 rfl (lv_at hl 1 rfl) ?_
  refine va_get (D := G) (ci := 5) (v := .int 6) (C := RX5) (T := TX5) (N := 8) hx hb hT ku_5 hown hK hP 0 rfl rfl 0 (by decide) (hT _ kw_13_19) (fun _ h9 => h9) (fh_at hf 0 rfl) dX5_append_8 ?_
  refine lv_sipush (v := 700) hx hb dX5_append_11 (by decide) ?_
  refine lv_icmp_ge (tgt := 46) hx hb dX5_append_14 (by decide) (fun c116 => absurd c116 (by decide)) (fun c116 => ?_)
  refine lv_aload_n hx hb dX5_append_17 rfl (lv_at hl 1 rfl) ?_
  refine va_get (D := G) (ci := 5) (v := .ref tp) (C := RX5) (T := TX5) (N := 8) hx hb hT ku_5 hown hK hP 0 rfl rfl 4 (by decide) (hT _ kw_3_11) (fun _ h9 => h9) (fh_at hf 1 rfl) dX5_append_18 ?_
  refine lv_aload_n hx hb dX5_append_21 rfl (lv_at hl 1 rfl) ?_
  refine va_get (D := G) (ci := 5) (v := .int 6) (C := RX5) (T := TX5) (N := 8) hx hb hT ku_5 hown hK hP 0 rfl rfl 0 (by decide) (hT _ kw_13_19) (fun _ h9 => h9) (fh_at hf 0 rfl) dX5_append_22 ?_
  refine lv_iload_n hx hb dX5_append_25 rfl (lv_at hl 2 rfl) ?_
  refine lv_iload_n hx hb dX5_append_26 rfl (lv_at hl 0 rfl) ?_
  refine lv_iushr hx hb dX5_append_27 rfl ?_
  refine lv_topi (fun x117 ex117 => ?_)
  refine lv_i2b hx hb dX5_append_28 rfl ?_
  refine lv_topi (fun x118 ex118 => ?_)
  refine va_bast (i := 6) hx hb hK hP hD hS 1 3 rfl rfl (tq_in (by decide)) dX5_append_29 (fun H locs hP hD hS => ?_)
  have hP : va_P G vwCl [(h0, .inr (5, fs113)), (tp, .inl (cA 3, 700, .inl ((upd f112 (6 : Int32).toNatClampNeg (vp_nar .byte x118)))))] H := hP
  have hD : va_D A [(h0, .inr (5, fs113)), (tp, .inl (cA 3, 700, .inl ((upd f112 (6 : Int32).toNatClampNeg (vp_nar .byte x118)))))] := hD
  generalize (upd f112 (6 : Int32).toNatClampNeg (vp_nar .byte x118)) = f119 at hP hD
  refine lv_aload_n hx hb dX5_append_30 rfl (lv_at hl 1 rfl) ?_
  refine lv_dup hx hb dX5_append_31 rfl ?_
  refine va_get (D := G) (ci := 5) (v := .int 6) (C := RX5) (T := TX5) (N := 8) hx hb hT ku_5 hown hK hP 0 rfl rfl 0 (by decide) (hT _ kw_13_19) (fun _ h9 => h9) (fh_at hf 0 rfl) dX5_append_32 ?_
  refine lv_iconst (v := 1) hx hb dX5_append_35 (by decide) ?_
  refine lv_iadd hx hb dX5_append_36 ?_
  refine tq_i (w := 7) (by decide) ?_
  refine va_put (D := G) (ci := 5) (v := .int 7) (ty := .int) (C := RX5) (T := TX5) (N := 8) hx hb hT ku_5 tyX5 tyX5_ok nmX5 hown hK hP hD hS 0 rfl rfl 0 (by decide) (hT _ kw_13_19) (fun _ h9 => h9) rfl (by decide +kernel) rfl rfl (fh_lt hf (by decide)) dX5_append_37 (fun H locs hP hD hS => ?_)
  have hP : va_P G vwCl [(h0, .inr (5, (fs113.set 0 (.int 7)))), (tp, .inl (cA 3, 700, .inl f119))] H := hP
  have hD : va_D A [(h0, .inr (5, (fs113.set 0 (.int 7)))), (tp, .inl (cA 3, 700, .inl f119))] := hD
  have hf := fh_set (l' := [(0, .int 7), (4, .ref tp)]) hf 0 (.int 7) (by decide) rfl
  have ho121 := fo_mono (k2 := [0]) (fo_set ho114 0 (.int 7)) (by decide)
  generalize (fs113.set 0 (.int 7)) = fs120 at hP hD hf ho121
  refine lv_iinc (v := 0) (lv' := [(2, .int 0), (0, .ref h0), (1, .int x)]) hx hb dX5_append_40 hl (k := 0) rfl (by decide) (by decide) rfl (fun ls hl => ?_)
  refine lv_goto (tgt := 3) hx hb dX5_append_43 (by decide) ?_
  refine lv_iload_n hx hb dX5_append_3 rfl (lv_at hl 0 rfl) ?_
  refine lv_if_lt (tgt := 46) hx hb dX5_append_4 (by decide) (fun c122 => absurd c122 (by decide)) (fun c122 => ?_)
  refine lv_aload_n hx hb dX5_append_7 rfl (lv_at hl 1 rfl) ?_
  refine va_get (D := G) (ci := 5) (v := .int 7) (C := RX5) (T := TX5) (N := 8) hx hb hT ku_5 hown hK hP 0 rfl rfl 0 (by decide) (hT _ kw_13_19) (fun _ h9 => h9) (fh_at hf 0 rfl) dX5_append_8 ?_
  refine lv_sipush (v := 700) hx hb dX5_append_11 (by decide) ?_
  refine lv_icmp_ge (tgt := 46) hx hb dX5_append_14 (by decide) (fun c123 => absurd c123 (by decide)) (fun c123 => ?_)
  refine lv_aload_n hx hb dX5_append_17 rfl (lv_at hl 1 rfl) ?_
  refine va_get (D := G) (ci := 5) (v := .ref tp) (C := RX5) (T := TX5) (N := 8) hx hb hT ku_5 hown hK hP 0 rfl rfl 4 (by decide) (hT _ kw_3_11) (fun _ h9 => h9) (fh_at hf 1 rfl) dX5_append_18 ?_
  refine lv_aload_n hx hb dX5_append_21 rfl (lv_at hl 1 rfl) ?_
  refine va_get (D := G) (ci := 5) (v := .int 7) (C := RX5) (T := TX5) (N := 8) hx hb hT ku_5 hown hK hP 0 rfl rfl 0 (by decide) (hT _ kw_13_19) (fun _ h9 => h9) (fh_at hf 0 rfl) dX5_append_22 ?_
  refine lv_iload_n hx hb dX5_append_25 rfl (lv_at hl 2 rfl) ?_
  refine lv_iload_n hx hb dX5_append_26 rfl (lv_at hl 0 rfl) ?_
  refine lv_iushr hx hb dX5_append_27 rfl ?_
  refine lv_topi (fun x124 ex124 => ?_)
  refine lv_i2b hx hb dX5_append_28 rfl ?_
  refine lv_topi (fun x125 ex125 => ?_)
  refine va_bast (i := 7) hx hb hK hP hD hS 1 3 rfl rfl (tq_in (by decide)) dX5_append_29 (fun H locs hP hD hS => ?_)
  have hP : va_P G vwCl [(h0, .inr (5, fs120)), (tp, .inl (cA 3, 700, .inl ((upd f119 (7 : Int32).toNatClampNeg (vp_nar .byte x125)))))] H := hP
  have hD : va_D A [(h0, .inr (5, fs120)), (tp, .inl (cA 3, 700, .inl ((upd f119 (7 : Int32).toNatClampNeg (vp_nar .byte x125)))))] := hD
  generalize (upd f119 (7 : Int32).toNatClampNeg (vp_nar .byte x125)) = f126 at hP hD
  refine lv_aload_n hx hb dX5_append_30 rfl (lv_at hl 1 rfl) ?_
  refine lv_dup hx hb dX5_append_31 rfl ?_
  refine va_get (D := G) (ci := 5) (v := .int 7) (C := RX5) (T := TX5) (N := 8) hx hb hT ku_5 hown hK hP 0 rfl rfl 0 (by decide) (hT _ kw_13_19) (fun _ h9 => h9) (fh_at hf 0 rfl) dX5_append_32 ?_
  refine lv_iconst (v := 1) hx hb dX5_append_35 (by decide) ?_
  refine lv_iadd hx hb dX5_append_36 ?_
  refine tq_i (w := 8) (by decide) ?_
  refine va_put (D := G) (ci := 5) (v := .int 8) (ty := .int) (C := RX5) (T := TX5) (N := 8) hx hb hT ku_5 tyX5 tyX5_ok nmX5 hown hK hP hD hS 0 rfl rfl 0 (by decide) (hT _ kw_13_19) (fun _ h9 => h9) rfl (by decide +kernel) rfl rfl (fh_lt hf (by decide)) dX5_append_37 (fun H locs hP hD hS => ?_)
  have hP : va_P G vwCl [(h0, .inr (5, (fs120.set 0 (.int 8)))), (tp, .inl (cA 3, 700, .inl f126))] H := hP
  have hD : va_D A [(h0, .inr (5, (fs120.set 0 (.int 8)))), (tp, .inl (cA 3, 700, .inl f126))] := hD
  have hf := fh_set (l' := [(0, .int 8), (4, .ref tp)]) hf 0 (.int 8) (by decide) rfl
  have ho128 := fo_mono (k2 := [0]) (fo_set ho121 0 (.int 8)) (by decide)
  generalize (fs120.set 0 (.int 8)) = fs127 at hP hD hf ho128
  refine lv_iinc (v := (-8)) (lv' := [(2, .int (-8)), (0, .ref h0), (1, .int x)]) hx hb dX5_append_40 hl (k := 0) rfl (by decide) (by decide) rfl (fun ls hl => ?_)
  refine lv_goto (tgt := 3) hx hb dX5_append_43 (by decide) ?_
  refine lv_iload_n hx hb dX5_append_3 rfl (lv_at hl 0 rfl) ?_
  refine lv_if_lt (tgt := 46) hx hb dX5_append_4 (by decide) (fun c129 => ?_) (fun c129 => absurd (by decide) c129)
  have qho128 := fo_mono (k2 := [0]) ho128 (by decide)
  exact W.vret hx hb hr (fun t ht hW => ⟨⟨(fs127, f126), rfl, ⟨qho128, fh_sub hf [0] rfl⟩, by rw [ht]; exact hP, hD⟩, hS.F ht⟩) hS.2.2 dX5_append_46

set_option maxHeartbeats 4000000 in
set_option maxRecDepth 100000 in
theorem c_X5_append_8 (l : Launch) (G : va_G) (cA : Nat → ClassId) (sz : Nat) (h0 : Nat) (x : Int32) (fs : List Value) (tp : Nat) (ft : Nat → Int32) (hf : fh fs 8 [(0, .int 8), (4, .ref tp)]) : Met l yX5_append (.code yX5_append cX5_append 3 none :: T0) ({ frames := 0, cells := 0, slots := 0, locals := 0 }) (tqP G cA [.ref h0, .int x] [(h0, .inr (5, fs)), (tp, .inl (cA 3, 700, .inl ft))] sz) (tqQv G cA (fun (u : List Value × (Nat → Int32)) => fo fs u.1 [0] ∧ fh u.1 8 [(0, .int 12)]) (fun (u : List Value × (Nat → Int32)) => [(h0, .inr (5, u.1)), (tp, .inl (cA 3, 700, .inl u.2))]) (va_A [(h0, .inr (5, fs)), (tp, .inl (cA 3, 700, .inl ft))] sz)) 0 0 (va_A [(h0, .inr (5, fs)), (tp, .inl (cA 3, 700, .inl ft))] sz) := by
  refine Met.ofW (cc := cX5_append) (maxL := 3) (ret := none) (by decide) rfl ?_
  intro p e s m args below meth c s₁ B hml hv
  obtain ⟨rfl, hsz, hP, hK, hD0, hN⟩ := hv
  have hx := B.exec
  have hb := B.bytes
  have hr := B.returns
  have hts := atoms_spec (ws := .code yX5_append cX5_append 3 none :: T0) B.pre
  have hT : ∀ w ∈ T0, w.before _ s = true := fun w h => hts w (List.mem_cons_of_mem _ h)
  have hown : s.vm.findClass RX5 = some m.cls := findClass_of_methodNamed B.named
  have hlocks := B.notSynchronized
  subst hsz
  have hD := hD0.self (sz := s.heap.size)
  generalize hAe : va_A [(h0, .inr (5, fs)), (tp, .inl (cA 3, 700, .inl ft))] s.heap.size = A at hD ⊢
  have hA : ∀ q : Nat, s.heap.size ≤ q → A q := fun q h => by rw [← hAe]; exact Or.inr h
  have hS : va_S A s.heap s.heap [] := va_S.rf
  have hl := lv_entry ([.ref h0, .int x]) (n := 3) (Nat.le_of_ble_eq_true rfl)
  rw [lg_entry_eq]
  generalize (lg_sl ([.ref h0, .int x]) ++ List.replicate (3 - (lg_sl ([.ref h0, .int x])).length) Slot.unset).toArray = ls at hl ⊢
  have hl : lv_has ls 3 [(0, .ref h0), (1, .int x)] := hl
  obtain ⟨H, hH⟩ : ∃ z, z = s.heap := ⟨_, rfl⟩
  rw [← hH] at hP
  have hS : va_S A s.heap H [] := by rw [hH]; exact hS
  suffices hgo : W p l e _ s m _ below meth c H [] 0 0 _ _ by rw [hH] at hgo; exact hgo
  have hO := hN.2.2.2.2
  have ho_hf := fo_refl fs
  refine lv_bipush (v := 24) hx hb dX5_append_0 (by decide) ?_
  refine lv_istore_n (lv' := [(2, .int 24), (0, .ref h0), (1, .int x)]) hx hb dX5_append_2 rfl hl (by decide) rfl (fun ls hl => ?_)
  refine lv_iload_n hx hb dX5_append_3 rfl (lv_at hl 0 rfl) ?_
  refine lv_if_lt (tgt := 46) hx hb dX5_append_4 (by decide) (fun c101 => absurd c101 (by decide)) (fun c101 => ?_)
  refine lv_aload_n hx hb dX5_append_7 rfl (lv_at hl 1 rfl) ?_
  refine va_get (D := G) (ci := 5) (v := .int 8) (C := RX5) (T := TX5) (N := 8) hx hb hT ku_5 hown hK hP 0 rfl rfl 0 (by decide) (hT _ kw_13_19) (fun _ h9 => h9) (fh_at hf 0 rfl) dX5_append_8 ?_
  refine lv_sipush (v := 700) hx hb dX5_append_11 (by decide) ?_
  refine lv_icmp_ge (tgt := 46) hx hb dX5_append_14 (by decide) (fun c102 => absurd c102 (by decide)) (fun c102 => ?_)
  refine lv_aload_n hx hb dX5_append_17 rfl (lv_at hl 1 rfl) ?_
  refine va_get (D := G) (ci := 5) (v := .ref tp) (C := RX5) (T := TX5) (N := 8) hx hb hT ku_5 hown hK hP 0 rfl rfl 4 (by decide) (hT _ kw_3_11) (fun _ h9 => h9) (fh_at hf 1 rfl) dX5_append_18 ?_
  refine lv_aload_n hx hb dX5_append_21 rfl (lv_at hl 1 rfl) ?_
  refine va_get (D := G) (ci := 5) (v := .int 8) (C := RX5) (T := TX5) (N := 8) hx hb hT ku_5 hown hK hP 0 rfl rfl 0 (by decide) (hT _ kw_13_19) (fun _ h9 => h9) (fh_at hf 0 rfl) dX5_append_22 ?_
  refine lv_iload_n hx hb dX5_append_25 rfl (lv_at hl 2 rfl) ?_
  refine lv_iload_n hx hb dX5_append_26 rfl (lv_at hl 0 rfl) ?_
  refine lv_iushr hx hb dX5_append_27 rfl ?_
  refine lv_topi (fun x103 ex103 => ?_)
  refine lv_i2b hx hb dX5_append_28 rfl ?_
  refine lv_topi (fun x104 ex104 => ?_)
  refine va_bast (i := 8) hx hb hK hP hD hS 1 3 rfl rfl (tq_in (by decide)) dX5_append_29 (fun H locs hP hD hS => ?_)
  have hP : va_P G vwCl [(h0, .inr (5, fs)), (tp, .inl (cA 3, 700, .inl ((upd ft (8 : Int32).toNatClampNeg (vp_nar .byte x104)))))] H := hP
  have hD : va_D A [(h0, .inr (5, fs)), (tp, .inl (cA 3, 700, .inl ((upd ft (8 : Int32).toNatClampNeg (vp_nar .byte x104)))))] := hD
  generalize (upd ft (8 : Int32).toNatClampNeg (vp_nar .byte x104)) = f105 at hP hD
  refine lv_aload_n hx hb dX5_append_30 rfl (lv_at hl 1 rfl) ?_
  refine lv_dup hx hb dX5_append_31 rfl ?_
  refine va_get (D := G) (ci := 5) (v := .int 8) (C := RX5) (T := TX5) (N := 8) hx hb hT ku_5 hown hK hP 0 rfl rfl 0 (by decide) (hT _ kw_13_19) (fun _ h9 => h9) (fh_at hf 0 rfl) dX5_append_32 ?_
  refine lv_iconst (v := 1) hx hb dX5_append_35 (by decide) ?_
  refine lv_iadd hx hb dX5_append_36 ?_
  refine tq_i (w := 9) (by decide) ?_
  refine va_put (D := G) (ci := 5) (v := .int 9) (ty := .int) (C := RX5) (T := TX5) (N := 8) hx hb hT ku_5 tyX5 tyX5_ok nmX5 hown hK hP hD hS 0 rfl rfl 0 (by decide) (hT _ kw_13_19) (fun _ h9 => h9) rfl (by decide +kernel) rfl rfl (fh_lt hf (by decide)) dX5_append_37 (fun H locs hP hD hS => ?_)
  have hP : va_P G vwCl [(h0, .inr (5, (fs.set 0 (.int 9)))), (tp, .inl (cA 3, 700, .inl f105))] H := hP
  have hD : va_D A [(h0, .inr (5, (fs.set 0 (.int 9)))), (tp, .inl (cA 3, 700, .inl f105))] := hD
  have hf := fh_set (l' := [(0, .int 9), (4, .ref tp)]) hf 0 (.int 9) (by decide) rfl
  have ho107 := fo_set ho_hf 0 (.int 9)
  generalize (fs.set 0 (.int 9)) = fs106 at hP hD hf ho107
  refine lv_iinc (v := 16) (lv' := [(2, .int 16), (0, .ref h0), (1, .int x)]) hx hb dX5_append_40 hl (k := 0) rfl (by decide) (by decide) rfl (fun ls hl => ?_)
  refine lv_goto (tgt := 3) hx hb dX5_append_43 (by decide) ?_
  refine lv_iload_n hx hb dX5_append_3 rfl (lv_at hl 0 rfl) ?_
  refine lv_if_lt (tgt := 46) hx hb dX5_append_4 (by decide) (fun c108 => absurd c108 (by decide)) (fun c108 => ?_)
  refine lv_aload_n hx hb dX5_append_7 rfl (lv_at hl 1 rfl) ?_
  refine va_get (D := G) (ci := 5) (v := .int 9) (C := RX5) (T := TX5) (N := 8) hx hb hT ku_5 hown hK hP 0 rfl rfl 0 (by decide) (hT _ kw_13_19) (fun _ h9 => h9) (fh_at hf 0 rfl) dX5_append_8 ?_
  refine lv_sipush (v := 700) hx hb dX5_append_11 (by decide) ?_
  refine lv_icmp_ge (tgt := 46) hx hb dX5_append_14 (by decide) (fun c109 => absurd c109 (by decide)) (fun c109 => ?_)
  refine lv_aload_n hx hb dX5_append_17 rfl (lv_at hl 1 rfl) ?_
  refine va_get (D := G) (ci := 5) (v := .ref tp) (C := RX5) (T := TX5) (N := 8) hx hb hT ku_5 hown hK hP 0 rfl rfl 4 (by decide) (hT _ kw_3_11) (fun _ h9 => h9) (fh_at hf 1 rfl) dX5_append_18 ?_
  refine lv_aload_n hx hb dX5_append_21 rfl (lv_at hl 1 rfl) ?_
  refine va_get (D := G) (ci := 5) (v := .int 9) (C := RX5) (T := TX5) (N := 8) hx hb hT ku_5 hown hK hP 0 rfl rfl 0 (by decide) (hT _ kw_13_19) (fun _ h9 => h9) (fh_at hf 0 rfl) dX5_append_22 ?_
  refine lv_iload_n hx hb dX5_append_25 rfl (lv_at hl 2 rfl) ?_
  refine lv_iload_n hx hb dX5_append_26 rfl (lv_at hl 0 rfl) ?_
  refine lv_iushr hx hb dX5_append_27 rfl ?_
  refine lv_topi (fun x110 ex110 => ?_)
  refine lv_i2b hx hb dX5_append_28 rfl ?_
  refine lv_topi (fun x111 ex111 => ?_)
  refine va_bast (i := 9) hx hb hK hP hD hS 1 3 rfl rfl (tq_in (by decide)) dX5_append_29 (fun H locs hP hD hS => ?_)
  have hP : va_P G vwCl [(h0, .inr (5, fs106)), (tp, .inl (cA 3, 700, .inl ((upd f105 (9 : Int32).toNatClampNeg (vp_nar .byte x111)))))] H := hP
  have hD : va_D A [(h0, .inr (5, fs106)), (tp, .inl (cA 3, 700, .inl ((upd f105 (9 : Int32).toNatClampNeg (vp_nar .byte x111)))))] := hD
  generalize (upd f105 (9 : Int32).toNatClampNeg (vp_nar .byte x111)) = f112 at hP hD
  refine lv_aload_n hx hb dX5_append_30 rfl (lv_at hl 1 rfl) ?_
  refine lv_dup hx hb dX5_append_31 rfl ?_
  refine va_get (D := G) (ci := 5) (v := .int 9) (C := RX5) (T := TX5) (N := 8) hx hb hT ku_5 hown hK hP 0 rfl rfl 0 (by decide) (hT _ kw_13_19) (fun _ h9 => h9) (fh_at hf 0 rfl) dX5_append_32 ?_
  refine lv_iconst (v := 1) hx hb dX5_append_35 (by decide) ?_
  refine lv_iadd hx hb dX5_append_36 ?_
  refine tq_i (w := 10) (by decide) ?_
  refine va_put (D := G) (ci := 5) (v := .int 10) (ty := .int) (C := RX5) (T := TX5) (N := 8) hx hb hT ku_5 tyX5 tyX5_ok nmX5 hown hK hP hD hS 0 rfl rfl 0 (by decide) (hT _ kw_13_19) (fun _ h9 => h9) rfl (by decide +kernel) rfl rfl (fh_lt hf (by decide)) dX5_append_37 (fun H locs hP hD hS => ?_)
  have hP : va_P G vwCl [(h0, .inr (5, (fs106.set 0 (.int 10)))), (tp, .inl (cA 3, 700, .inl f112))] H := hP
  have hD : va_D A [(h0, .inr (5, (fs106.set 0 (.int 10)))), (tp, .inl (cA 3, 700, .inl f112))] := hD
  have hf := fh_set (l' := [(0, .int 10), (4, .ref tp)]) hf 0 (.int 10) (by decide) rfl
  have ho114 := fo_mono (k2 := [0]) (fo_set ho107 0 (.int 10)) (by decide)
  generalize (fs106.set 0 (.int 10)) = fs113 at hP hD hf ho114
  refine lv_iinc (v := 8) (lv' := [(2, .int 8), (0, .ref h0), (1, .int x)]) hx hb dX5_append_40 hl (k := 0) rfl (by decide) (by decide) rfl (fun ls hl => ?_)
  refine lv_goto (tgt := 3) hx hb dX5_append_43 (by decide) ?_
  refine lv_iload_n hx hb dX5_append_3 rfl (lv_at hl 0 rfl) ?_
  refine lv_if_lt (tgt := 46) hx hb dX5_append_4 (by decide) (fun c115 => absurd c115 (by decide)) (fun c115 => ?_)
  refine lv_aload_n hx hb dX5_append_7 rfl (lv_at hl 1 rfl) ?_
  refine va_get (D := G) (ci := 5) (v := .int 10) (C := RX5) (T := TX5) (N := 8) hx hb hT ku_5 hown hK hP 0 rfl rfl 0 (by decide) (hT _ kw_13_19) (fun _ h9 => h9) (fh_at hf 0 rfl) dX5_append_8 ?_
  refine lv_sipush (v := 700) hx hb dX5_append_11 (by decide) ?_
  refine lv_icmp_ge (tgt := 46) hx hb dX5_append_14 (by decide) (fun c116 => absurd c116 (by decide)) (fun c116 => ?_)
  refine lv_aload_n hx hb dX5_append_17 rfl (lv_at hl 1 rfl) ?_
  refine va_get (D := G) (ci := 5) (v := .ref tp) (C := RX5) (T := TX5) (N := 8) hx hb hT ku_5 hown hK hP 0 rfl rfl 4 (by decide) (hT _ kw_3_11) (fun _ h9 => h9) (fh_at hf 1 rfl) dX5_append_18 ?_
  refine lv_aload_n hx hb dX5_append_21 rfl (lv_at hl 1 rfl) ?_
  refine va_get (D := G) (ci := 5) (v := .int 10) (C := RX5) (T := TX5) (N := 8) hx hb hT ku_5 hown hK hP 0 rfl rfl 0 (by decide) (hT _ kw_13_19) (fun _ h9 => h9) (fh_at hf 0 rfl) dX5_append_22 ?_
  refine lv_iload_n hx hb dX5_append_25 rfl (lv_at hl 2 rfl) ?_
  refine lv_iload_n hx hb dX5_append_26 rfl (lv_at hl 0 rfl) ?_
  refine lv_iushr hx hb dX5_append_27 rfl ?_
  refine lv_topi (fun x117 ex117 => ?_)
  refine lv_i2b hx hb dX5_append_28 rfl ?_
  refine lv_topi (fun x118 ex118 => ?_)
  refine va_bast (i := 10) hx hb hK hP hD hS 1 3 rfl rfl (tq_in (by decide)) dX5_append_29 (fun H locs hP hD hS => ?_)
  have hP : va_P G vwCl [(h0, .inr (5, fs113)), (tp, .inl (cA 3, 700, .inl ((upd f112 (10 : Int32).toNatClampNeg (vp_nar .byte x118)))))] H := hP
  have hD : va_D A [(h0, .inr (5, fs113)), (tp, .inl (cA 3, 700, .inl ((upd f112 (10 : Int32).toNatClampNeg (vp_nar .byte x118)))))] := hD
  generalize (upd f112 (10 : Int32).toNatClampNeg (vp_nar .byte x118)) = f119 at hP hD
  refine lv_aload_n hx hb dX5_append_30 rfl (lv_at hl 1 rfl) ?_
  refine lv_dup hx hb dX5_append_31 rfl ?_
  refine va_get (D := G) (ci := 5) (v := .int 10) (C := RX5) (T := TX5) (N := 8) hx hb hT ku_5 hown hK hP 0 rfl rfl 0 (by decide) (hT _ kw_13_19) (fun _ h9 => h9) (fh_at hf 0 rfl) dX5_append_32 ?_
  refine lv_iconst (v := 1) hx hb dX5_append_35 (by decide) ?_
  refine lv_iadd hx hb dX5_append_36 ?_
  refine tq_i (w := 11) (by decide) ?_
  refine va_put (D := G) (ci := 5) (v := .int 11) (ty := .int) (C := RX5) (T := TX5) (N := 8) hx hb hT ku_5 tyX5 tyX5_ok nmX5 hown hK hP hD hS 0 rfl rfl 0 (by decide) (hT _ kw_13_19) (fun _ h9 => h9) rfl (by decide +kernel) rfl rfl (fh_lt hf (by decide)) dX5_append_37 (fun H locs hP hD hS => ?_)
  have hP : va_P G vwCl [(h0, .inr (5, (fs113.set 0 (.int 11)))), (tp, .inl (cA 3, 700, .inl f119))] H := hP
  have hD : va_D A [(h0, .inr (5, (fs113.set 0 (.int 11)))), (tp, .inl (cA 3, 700, .inl f119))] := hD
  have hf := fh_set (l' := [(0, .int 11), (4, .ref tp)]) hf 0 (.int 11) (by decide) rfl
  have ho121 := fo_mono (k2 := [0]) (fo_set ho114 0 (.int 11)) (by decide)
  generalize (fs113.set 0 (.int 11)) = fs120 at hP hD hf ho121
  refine lv_iinc (v := 0) (lv' := [(2, .int 0), (0, .ref h0), (1, .int x)]) hx hb dX5_append_40 hl (k := 0) rfl (by decide) (by decide) rfl (fun ls hl => ?_)
  refine lv_goto (tgt := 3) hx hb dX5_append_43 (by decide) ?_
  refine lv_iload_n hx hb dX5_append_3 rfl (lv_at hl 0 rfl) ?_
  refine lv_if_lt (tgt := 46) hx hb dX5_append_4 (by decide) (fun c122 => absurd c122 (by decide)) (fun c122 => ?_)
  refine lv_aload_n hx hb dX5_append_7 rfl (lv_at hl 1 rfl) ?_
  refine va_get (D := G) (ci := 5) (v := .int 11) (C := RX5) (T := TX5) (N := 8) hx hb hT ku_5 hown hK hP 0 rfl rfl 0 (by decide) (hT _ kw_13_19) (fun _ h9 => h9) (fh_at hf 0 rfl) dX5_append_8 ?_
  refine lv_sipush (v := 700) hx hb dX5_append_11 (by decide) ?_
  refine lv_icmp_ge (tgt := 46) hx hb dX5_append_14 (by decide) (fun c123 => absurd c123 (by decide)) (fun c123 => ?_)
  refine lv_aload_n hx hb dX5_append_17 rfl (lv_at hl 1 rfl) ?_
  refine va_get (D := G) (ci := 5) (v := .ref tp) (C := RX5) (T := TX5) (N := 8) hx hb hT ku_5 hown hK hP 0 rfl rfl 4 (by decide) (hT _ kw_3_11) (fun _ h9 => h9) (fh_at hf 1 rfl) dX5_append_18 ?_
  refine lv_aload_n hx hb dX5_append_21 rfl (lv_at hl 1 rfl) ?_
  refine va_get (D := G) (ci := 5) (v := .int 11) (C := RX5) (T := TX5) (N := 8) hx hb hT ku_5 hown hK hP 0 rfl rfl 0 (by decide) (hT _ kw_13_19) (fun _ h9 => h9) (fh_at hf 0 rfl) dX5_append_22 ?_
  refine lv_iload_n hx hb dX5_append_25 rfl (lv_at hl 2 rfl) ?_
  refine lv_iload_n hx hb dX5_append_26 rfl (lv_at hl 0 rfl) ?_
  refine lv_iushr hx hb dX5_append_27 rfl ?_
  refine lv_topi (fun x124 ex124 => ?_)
  refine lv_i2b hx hb dX5_append_28 rfl ?_
  refine lv_topi (fun x125 ex125 => ?_)
  refine va_bast (i := 11) hx hb hK hP hD hS 1 3 rfl rfl (tq_in (by decide)) dX5_append_29 (fun H locs hP hD hS => ?_)
  have hP : va_P G vwCl [(h0, .inr (5, fs120)), (tp, .inl (cA 3, 700, .inl ((upd f119 (11 : Int32).toNatClampNeg (vp_nar .byte x125)))))] H := hP
  have hD : va_D A [(h0, .inr (5, fs120)), (tp, .inl (cA 3, 700, .inl ((upd f119 (11 : Int32).toNatClampNeg (vp_nar .byte x125)))))] := hD
  generalize (upd f119 (11 : Int32).toNatClampNeg (vp_nar .byte x125)) = f126 at hP hD
  refine lv_aload_n hx hb dX5_append_30 rfl (lv_at hl 1 rfl) ?_
  refine lv_dup hx hb dX5_append_31 rfl ?_
  refine va_get (D := G) (ci := 5) (v := .int 11) (C := RX5) (T := TX5) (N := 8) hx hb hT ku_5 hown hK hP 0 rfl rfl 0 (by decide) (hT _ kw_13_19) (fun _ h9 => h9) (fh_at hf 0 rfl) dX5_append_32 ?_
  refine lv_iconst (v := 1) hx hb dX5_append_35 (by decide) ?_
  refine lv_iadd hx hb dX5_append_36 ?_
  refine tq_i (w := 12) (by decide) ?_
  refine va_put (D := G) (ci := 5) (v := .int 12) (ty := .int) (C := RX5) (T := TX5) (N := 8) hx hb hT ku_5 tyX5 tyX5_ok nmX5 hown hK hP hD hS 0 rfl rfl 0 (by decide) (hT _ kw_13_19) (fun _ h9 => h9) rfl (by decide +kernel) rfl rfl (fh_lt hf (by decide)) dX5_append_37 (fun H locs hP hD hS => ?_)
  have hP : va_P G vwCl [(h0, .inr (5, (fs120.set 0 (.int 12)))), (tp, .inl (cA 3, 700, .inl f126))] H := hP
  have hD : va_D A [(h0, .inr (5, (fs120.set 0 (.int 12)))), (tp, .inl (cA 3, 700, .inl f126))] := hD
  have hf := fh_set (l' := [(0, .int 12), (4, .ref tp)]) hf 0 (.int 12) (by decide) rfl
  have ho128 := fo_mono (k2 := [0]) (fo_set ho121 0 (.int 12)) (by decide)
  generalize (fs120.set 0 (.int 12)) = fs127 at hP hD hf ho128
  refine lv_iinc (v := (-8)) (lv' := [(2, .int (-8)), (0, .ref h0), (1, .int x)]) hx hb dX5_append_40 hl (k := 0) rfl (by decide) (by decide) rfl (fun ls hl => ?_)
  refine lv_goto (tgt := 3) hx hb dX5_append_43 (by decide) ?_
  refine lv_iload_n hx hb dX5_append_3 rfl (lv_at hl 0 rfl) ?_
  refine lv_if_lt (tgt := 46) hx hb dX5_append_4 (by decide) (fun c129 => ?_) (fun c129 => absurd (by decide) c129)
  have qho128 := fo_mono (k2 := [0]) ho128 (by decide)
  exact W.vret hx hb hr (fun t ht hW => ⟨⟨(fs127, f126), rfl, ⟨qho128, fh_sub hf [0] rfl⟩, by rw [ht]; exact hP, hD⟩, hS.F ht⟩) hS.2.2 dX5_append_46

set_option maxHeartbeats 4000000 in
set_option maxRecDepth 100000 in
theorem c_X5_append_12 (l : Launch) (G : va_G) (cA : Nat → ClassId) (sz : Nat) (h0 : Nat) (x : Int32) (fs : List Value) (tp : Nat) (ft : Nat → Int32) (hf : fh fs 8 [(0, .int 12), (4, .ref tp)]) : Met l yX5_append (.code yX5_append cX5_append 3 none :: T0) ({ frames := 0, cells := 0, slots := 0, locals := 0 }) (tqP G cA [.ref h0, .int x] [(h0, .inr (5, fs)), (tp, .inl (cA 3, 700, .inl ft))] sz) (tqQv G cA (fun (u : List Value × (Nat → Int32)) => fo fs u.1 [0] ∧ fh u.1 8 [(0, .int 16)]) (fun (u : List Value × (Nat → Int32)) => [(h0, .inr (5, u.1)), (tp, .inl (cA 3, 700, .inl u.2))]) (va_A [(h0, .inr (5, fs)), (tp, .inl (cA 3, 700, .inl ft))] sz)) 0 0 (va_A [(h0, .inr (5, fs)), (tp, .inl (cA 3, 700, .inl ft))] sz) := by
  refine Met.ofW (cc := cX5_append) (maxL := 3) (ret := none) (by decide) rfl ?_
  intro p e s m args below meth c s₁ B hml hv
  obtain ⟨rfl, hsz, hP, hK, hD0, hN⟩ := hv
  have hx := B.exec
  have hb := B.bytes
  have hr := B.returns
  have hts := atoms_spec (ws := .code yX5_append cX5_append 3 none :: T0) B.pre
  have hT : ∀ w ∈ T0, w.before _ s = true := fun w h => hts w (List.mem_cons_of_mem _ h)
  have hown : s.vm.findClass RX5 = some m.cls := findClass_of_methodNamed B.named
  have hlocks := B.notSynchronized
  subst hsz
  have hD := hD0.self (sz := s.heap.size)
  generalize hAe : va_A [(h0, .inr (5, fs)), (tp, .inl (cA 3, 700, .inl ft))] s.heap.size = A at hD ⊢
  have hA : ∀ q : Nat, s.heap.size ≤ q → A q := fun q h => by rw [← hAe]; exact Or.inr h
  have hS : va_S A s.heap s.heap [] := va_S.rf
  have hl := lv_entry ([.ref h0, .int x]) (n := 3) (Nat.le_of_ble_eq_true rfl)
  rw [lg_entry_eq]
  generalize (lg_sl ([.ref h0, .int x]) ++ List.replicate (3 - (lg_sl ([.ref h0, .int x])).length) Slot.unset).toArray = ls at hl ⊢
  have hl : lv_has ls 3 [(0, .ref h0), (1, .int x)] := hl
  obtain ⟨H, hH⟩ : ∃ z, z = s.heap := ⟨_, rfl⟩
  rw [← hH] at hP
  have hS : va_S A s.heap H [] := by rw [hH]; exact hS
  suffices hgo : W p l e _ s m _ below meth c H [] 0 0 _ _ by rw [hH] at hgo; exact hgo
  have hO := hN.2.2.2.2
  have ho_hf := fo_refl fs
  refine lv_bipush (v := 24) hx hb dX5_append_0 (by decide) ?_
  refine lv_istore_n (lv' := [(2, .int 24), (0, .ref h0), (1, .int x)]) hx hb dX5_append_2 rfl hl (by decide) rfl (fun ls hl => ?_)
  refine lv_iload_n hx hb dX5_append_3 rfl (lv_at hl 0 rfl) ?_
  refine lv_if_lt (tgt := 46) hx hb dX5_append_4 (by decide) (fun c101 => absurd c101 (by decide)) (fun c101 => ?_)
  refine lv_aload_n hx hb dX5_append_7 rfl (lv_at hl 1 rfl) ?_
  refine va_get (D := G) (ci := 5) (v := .int 12) (C := RX5) (T := TX5) (N := 8) hx hb hT ku_5 hown hK hP 0 rfl rfl 0 (by decide) (hT _ kw_13_19) (fun _ h9 => h9) (fh_at hf 0 rfl) dX5_append_8 ?_
  refine lv_sipush (v := 700) hx hb dX5_append_11 (by decide) ?_
  refine lv_icmp_ge (tgt := 46) hx hb dX5_append_14 (by decide) (fun c102 => absurd c102 (by decide)) (fun c102 => ?_)
  refine lv_aload_n hx hb dX5_append_17 rfl (lv_at hl 1 rfl) ?_
  refine va_get (D := G) (ci := 5) (v := .ref tp) (C := RX5) (T := TX5) (N := 8) hx hb hT ku_5 hown hK hP 0 rfl rfl 4 (by decide) (hT _ kw_3_11) (fun _ h9 => h9) (fh_at hf 1 rfl) dX5_append_18 ?_
  refine lv_aload_n hx hb dX5_append_21 rfl (lv_at hl 1 rfl) ?_
  refine va_get (D := G) (ci := 5) (v := .int 12) (C := RX5) (T := TX5) (N := 8) hx hb hT ku_5 hown hK hP 0 rfl rfl 0 (by decide) (hT _ kw_13_19) (fun _ h9 => h9) (fh_at hf 0 rfl) dX5_append_22 ?_
  refine lv_iload_n hx hb dX5_append_25 rfl (lv_at hl 2 rfl) ?_
  refine lv_iload_n hx hb dX5_append_26 rfl (lv_at hl 0 rfl) ?_
  refine lv_iushr hx hb dX5_append_27 rfl ?_
  refine lv_topi (fun x103 ex103 => ?_)
  refine lv_i2b hx hb dX5_append_28 rfl ?_
  refine lv_topi (fun x104 ex104 => ?_)
  refine va_bast (i := 12) hx hb hK hP hD hS 1 3 rfl rfl (tq_in (by decide)) dX5_append_29 (fun H locs hP hD hS => ?_)
  have hP : va_P G vwCl [(h0, .inr (5, fs)), (tp, .inl (cA 3, 700, .inl ((upd ft (12 : Int32).toNatClampNeg (vp_nar .byte x104)))))] H := hP
  have hD : va_D A [(h0, .inr (5, fs)), (tp, .inl (cA 3, 700, .inl ((upd ft (12 : Int32).toNatClampNeg (vp_nar .byte x104)))))] := hD
  generalize (upd ft (12 : Int32).toNatClampNeg (vp_nar .byte x104)) = f105 at hP hD
  refine lv_aload_n hx hb dX5_append_30 rfl (lv_at hl 1 rfl) ?_
  refine lv_dup hx hb dX5_append_31 rfl ?_
  refine va_get (D := G) (ci := 5) (v := .int 12) (C := RX5) (T := TX5) (N := 8) hx hb hT ku_5 hown hK hP 0 rfl rfl 0 (by decide) (hT _ kw_13_19) (fun _ h9 => h9) (fh_at hf 0 rfl) dX5_append_32 ?_
  refine lv_iconst (v := 1) hx hb dX5_append_35 (by decide) ?_
  refine lv_iadd hx hb dX5_append_36 ?_
  refine tq_i (w := 13) (by decide) ?_
  refine va_put (D := G) (ci := 5) (v := .int 13) (ty := .int) (C := RX5) (T := TX5) (N := 8) hx hb hT ku_5 tyX5 tyX5_ok nmX5 hown hK hP hD hS 0 rfl rfl 0 (by decide) (hT _ kw_13_19) (fun _ h9 => h9) rfl (by decide +kernel) rfl rfl (fh_lt hf (by decide)) dX5_append_37 (fun H locs hP hD hS => ?_)
  have hP : va_P G vwCl [(h0, .inr (5, (fs.set 0 (.int 13)))), (tp, .inl (cA 3, 700, .inl f105))] H := hP
  have hD : va_D A [(h0, .inr (5, (fs.set 0 (.int 13)))), (tp, .inl (cA 3, 700, .inl f105))] := hD
  have hf := fh_set (l' := [(0, .int 13), (4, .ref tp)]) hf 0 (.int 13) (by decide) rfl
  have ho107 := fo_set ho_hf 0 (.int 13)
  generalize (fs.set 0 (.int 13)) = fs106 at hP hD hf ho107
  refine lv_iinc (v := 16) (lv' := [(2, .int 16), (0, .ref h0), (1, .int x)]) hx hb dX5_append_40 hl (k := 0) rfl (by decide) (by decide) rfl (fun ls hl => ?_)
  refine lv_goto (tgt := 3) hx hb dX5_append_43 (by decide) ?_
  refine lv_iload_n hx hb dX5_append_3 rfl (lv_at hl 0 rfl) ?_
  refine lv_if_lt (tgt := 46) hx hb dX5_append_4 (by decide) (fun c108 => absurd c108 (by decide)) (fun c108 => ?_)
  refine lv_aload_n hx hb dX5_append_7 rfl (lv_at hl 1 rfl) ?_
  refine va_get (D := G) (ci := 5) (v := .int 13) (C := RX5) (T := TX5) (N := 8) hx hb hT ku_5 hown hK hP 0 rfl rfl 0 (by decide) (hT _ kw_13_19) (fun _ h9 => h9) (fh_at hf 0 rfl) dX5_append_8 ?_
  refine lv_sipush (v := 700) hx hb dX5_append_11 (by decide) ?_
  refine lv_icmp_ge (tgt := 46) hx hb dX5_append_14 (by decide) (fun c109 => absurd c109 (by decide)) (fun c109 => ?_)
  refine lv_aload_n hx hb dX5_append_17 rfl (lv_at hl 1 rfl) ?_
  refine va_get (D := G) (ci := 5) (v := .ref tp) (C := RX5) (T := TX5) (N := 8) hx hb hT ku_5 hown hK hP 0 rfl rfl 4 (by decide) (hT _ kw_3_11) (fun _ h9 => h9) (fh_at hf 1 rfl) dX5_append_18 ?_
  refine lv_aload_n hx hb dX5_append_21 rfl (lv_at hl 1 rfl) ?_
  refine va_get (D := G) (ci := 5) (v := .int 13) (C := RX5) (T := TX5) (N := 8) hx hb hT ku_5 hown hK hP 0 rfl rfl 0 (by decide) (hT _ kw_13_19) (fun _ h9 => h9) (fh_at hf 0 rfl) dX5_append_22 ?_
  refine lv_iload_n hx hb dX5_append_25 rfl (lv_at hl 2 rfl) ?_
  refine lv_iload_n hx hb dX5_append_26 rfl (lv_at hl 0 rfl) ?_
  refine lv_iushr hx hb dX5_append_27 rfl ?_
  refine lv_topi (fun x110 ex110 => ?_)
  refine lv_i2b hx hb dX5_append_28 rfl ?_
  refine lv_topi (fun x111 ex111 => ?_)
  refine va_bast (i := 13) hx hb hK hP hD hS 1 3 rfl rfl (tq_in (by decide)) dX5_append_29 (fun H locs hP hD hS => ?_)
  have hP : va_P G vwCl [(h0, .inr (5, fs106)), (tp, .inl (cA 3, 700, .inl ((upd f105 (13 : Int32).toNatClampNeg (vp_nar .byte x111)))))] H := hP
  have hD : va_D A [(h0, .inr (5, fs106)), (tp, .inl (cA 3, 700, .inl ((upd f105 (13 : Int32).toNatClampNeg (vp_nar .byte x111)))))] := hD
  generalize (upd f105 (13 : Int32).toNatClampNeg (vp_nar .byte x111)) = f112 at hP hD
  refine lv_aload_n hx hb dX5_append_30 rfl (lv_at hl 1 rfl) ?_
  refine lv_dup hx hb dX5_append_31 rfl ?_
  refine va_get (D := G) (ci := 5) (v := .int 13) (C := RX5) (T := TX5) (N := 8) hx hb hT ku_5 hown hK hP 0 rfl rfl 0 (by decide) (hT _ kw_13_19) (fun _ h9 => h9) (fh_at hf 0 rfl) dX5_append_32 ?_
  refine lv_iconst (v := 1) hx hb dX5_append_35 (by decide) ?_
  refine lv_iadd hx hb dX5_append_36 ?_
  refine tq_i (w := 14) (by decide) ?_
  refine va_put (D := G) (ci := 5) (v := .int 14) (ty := .int) (C := RX5) (T := TX5) (N := 8) hx hb hT ku_5 tyX5 tyX5_ok nmX5 hown hK hP hD hS 0 rfl rfl 0 (by decide) (hT _ kw_13_19) (fun _ h9 => h9) rfl (by decide +kernel) rfl rfl (fh_lt hf (by decide)) dX5_append_37 (fun H locs hP hD hS => ?_)
  have hP : va_P G vwCl [(h0, .inr (5, (fs106.set 0 (.int 14)))), (tp, .inl (cA 3, 700, .inl f112))] H := hP
  have hD : va_D A [(h0, .inr (5, (fs106.set 0 (.int 14)))), (tp, .inl (cA 3, 700, .inl f112))] := hD
  have hf := fh_set (l' := [(0, .int 14), (4, .ref tp)]) hf 0 (.int 14) (by decide) rfl
  have ho114 := fo_mono (k2 := [0]) (fo_set ho107 0 (.int 14)) (by decide)
  generalize (fs106.set 0 (.int 14)) = fs113 at hP hD hf ho114
  refine lv_iinc (v := 8) (lv' := [(2, .int 8), (0, .ref h0), (1, .int x)]) hx hb dX5_append_40 hl (k := 0) rfl (by decide) (by decide) rfl (fun ls hl => ?_)
  refine lv_goto (tgt := 3) hx hb dX5_append_43 (by decide) ?_
  refine lv_iload_n hx hb dX5_append_3 rfl (lv_at hl 0 rfl) ?_
  refine lv_if_lt (tgt := 46) hx hb dX5_append_4 (by decide) (fun c115 => absurd c115 (by decide)) (fun c115 => ?_)
  refine lv_aload_n hx hb dX5_append_7 rfl (lv_at hl 1 rfl) ?_
  refine va_get (D := G) (ci := 5) (v := .int 14) (C := RX5) (T := TX5) (N := 8) hx hb hT ku_5 hown hK hP 0 rfl rfl 0 (by decide) (hT _ kw_13_19) (fun _ h9 => h9) (fh_at hf 0 rfl) dX5_append_8 ?_
  refine lv_sipush (v := 700) hx hb dX5_append_11 (by decide) ?_
  refine lv_icmp_ge (tgt := 46) hx hb dX5_append_14 (by decide) (fun c116 => absurd c116 (by decide)) (fun c116 => ?_)
  refine lv_aload_n hx hb dX5_append_17 rfl (lv_at hl 1 rfl) ?_
  refine va_get (D := G) (ci := 5) (v := .ref tp) (C := RX5) (T := TX5) (N := 8) hx hb hT ku_5 hown hK hP 0 rfl rfl 4 (by decide) (hT _ kw_3_11) (fun _ h9 => h9) (fh_at hf 1 rfl) dX5_append_18 ?_
  refine lv_aload_n hx hb dX5_append_21 rfl (lv_at hl 1 rfl) ?_
  refine va_get (D := G) (ci := 5) (v := .int 14) (C := RX5) (T := TX5) (N := 8) hx hb hT ku_5 hown hK hP 0 rfl rfl 0 (by decide) (hT _ kw_13_19) (fun _ h9 => h9) (fh_at hf 0 rfl) dX5_append_22 ?_
  refine lv_iload_n hx hb dX5_append_25 rfl (lv_at hl 2 rfl) ?_
  refine lv_iload_n hx hb dX5_append_26 rfl (lv_at hl 0 rfl) ?_
  refine lv_iushr hx hb dX5_append_27 rfl ?_
  refine lv_topi (fun x117 ex117 => ?_)
  refine lv_i2b hx hb dX5_append_28 rfl ?_
  refine lv_topi (fun x118 ex118 => ?_)
  refine va_bast (i := 14) hx hb hK hP hD hS 1 3 rfl rfl (tq_in (by decide)) dX5_append_29 (fun H locs hP hD hS => ?_)
  have hP : va_P G vwCl [(h0, .inr (5, fs113)), (tp, .inl (cA 3, 700, .inl ((upd f112 (14 : Int32).toNatClampNeg (vp_nar .byte x118)))))] H := hP
  have hD : va_D A [(h0, .inr (5, fs113)), (tp, .inl (cA 3, 700, .inl ((upd f112 (14 : Int32).toNatClampNeg (vp_nar .byte x118)))))] := hD
  generalize (upd f112 (14 : Int32).toNatClampNeg (vp_nar .byte x118)) = f119 at hP hD
  refine lv_aload_n hx hb dX5_append_30 rfl (lv_at hl 1 rfl) ?_
  refine lv_dup hx hb dX5_append_31 rfl ?_
  refine va_get (D := G) (ci := 5) (v := .int 14) (C := RX5) (T := TX5) (N := 8) hx hb hT ku_5 hown hK hP 0 rfl rfl 0 (by decide) (hT _ kw_13_19) (fun _ h9 => h9) (fh_at hf 0 rfl) dX5_append_32 ?_
  refine lv_iconst (v := 1) hx hb dX5_append_35 (by decide) ?_
  refine lv_iadd hx hb dX5_append_36 ?_
  refine tq_i (w := 15) (by decide) ?_
  refine va_put (D := G) (ci := 5) (v := .int 15) (ty := .int) (C := RX5) (T := TX5) (N := 8) hx hb hT ku_5 tyX5 tyX5_ok nmX5 hown hK hP hD hS 0 rfl rfl 0 (by decide) (hT _ kw_13_19) (fun _ h9 => h9) rfl (by decide +kernel) rfl rfl (fh_lt hf (by decide)) dX5_append_37 (fun H locs hP hD hS => ?_)
  have hP : va_P G vwCl [(h0, .inr (5, (fs113.set 0 (.int 15)))), (tp, .inl (cA 3, 700, .inl f119))] H := hP
  have hD : va_D A [(h0, .inr (5, (fs113.set 0 (.int 15)))), (tp, .inl (cA 3, 700, .inl f119))] := hD
  have hf := fh_set (l' := [(0, .int 15), (4, .ref tp)]) hf 0 (.int 15) (by decide) rfl
  have ho121 := fo_mono (k2 := [0]) (fo_set ho114 0 (.int 15)) (by decide)
  generalize (fs113.set 0 (.int 15)) = fs120 at hP hD hf ho121
  refine lv_iinc (v := 0) (lv' := [(2, .int 0), (0, .ref h0), (1, .int x)]) hx hb dX5_append_40 hl (k := 0) rfl (by decide) (by decide) rfl (fun ls hl => ?_)
  refine lv_goto (tgt := 3) hx hb dX5_append_43 (by decide) ?_
  refine lv_iload_n hx hb dX5_append_3 rfl (lv_at hl 0 rfl) ?_
  refine lv_if_lt (tgt := 46) hx hb dX5_append_4 (by decide) (fun c122 => absurd c122 (by decide)) (fun c122 => ?_)
  refine lv_aload_n hx hb dX5_append_7 rfl (lv_at hl 1 rfl) ?_
  refine va_get (D := G) (ci := 5) (v := .int 15) (C := RX5) (T := TX5) (N := 8) hx hb hT ku_5 hown hK hP 0 rfl rfl 0 (by decide) (hT _ kw_13_19) (fun _ h9 => h9) (fh_at hf 0 rfl) dX5_append_8 ?_
  refine lv_sipush (v := 700) hx hb dX5_append_11 (by decide) ?_
  refine lv_icmp_ge (tgt := 46) hx hb dX5_append_14 (by decide) (fun c123 => absurd c123 (by decide)) (fun c123 => ?_)
  refine lv_aload_n hx hb dX5_append_17 rfl (lv_at hl 1 rfl) ?_
  refine va_get (D := G) (ci := 5) (v := .ref tp) (C := RX5) (T := TX5) (N := 8) hx hb hT ku_5 hown hK hP 0 rfl rfl 4 (by decide) (hT _ kw_3_11) (fun _ h9 => h9) (fh_at hf 1 rfl) dX5_append_18 ?_
  refine lv_aload_n hx hb dX5_append_21 rfl (lv_at hl 1 rfl) ?_
  refine va_get (D := G) (ci := 5) (v := .int 15) (C := RX5) (T := TX5) (N := 8) hx hb hT ku_5 hown hK hP 0 rfl rfl 0 (by decide) (hT _ kw_13_19) (fun _ h9 => h9) (fh_at hf 0 rfl) dX5_append_22 ?_
  refine lv_iload_n hx hb dX5_append_25 rfl (lv_at hl 2 rfl) ?_
  refine lv_iload_n hx hb dX5_append_26 rfl (lv_at hl 0 rfl) ?_
  refine lv_iushr hx hb dX5_append_27 rfl ?_
  refine lv_topi (fun x124 ex124 => ?_)
  refine lv_i2b hx hb dX5_append_28 rfl ?_
  refine lv_topi (fun x125 ex125 => ?_)
  refine va_bast (i := 15) hx hb hK hP hD hS 1 3 rfl rfl (tq_in (by decide)) dX5_append_29 (fun H locs hP hD hS => ?_)
  have hP : va_P G vwCl [(h0, .inr (5, fs120)), (tp, .inl (cA 3, 700, .inl ((upd f119 (15 : Int32).toNatClampNeg (vp_nar .byte x125)))))] H := hP
  have hD : va_D A [(h0, .inr (5, fs120)), (tp, .inl (cA 3, 700, .inl ((upd f119 (15 : Int32).toNatClampNeg (vp_nar .byte x125)))))] := hD
  generalize (upd f119 (15 : Int32).toNatClampNeg (vp_nar .byte x125)) = f126 at hP hD
  refine lv_aload_n hx hb dX5_append_30 rfl (lv_at hl 1 rfl) ?_
  refine lv_dup hx hb dX5_append_31 rfl ?_
  refine va_get (D := G) (ci := 5) (v := .int 15) (C := RX5) (T := TX5) (N := 8) hx hb hT ku_5 hown hK hP 0 rfl rfl 0 (by decide) (hT _ kw_13_19) (fun _ h9 => h9) (fh_at hf 0 rfl) dX5_append_32 ?_
  refine lv_iconst (v := 1) hx hb dX5_append_35 (by decide) ?_
  refine lv_iadd hx hb dX5_append_36 ?_
  refine tq_i (w := 16) (by decide) ?_
  refine va_put (D := G) (ci := 5) (v := .int 16) (ty := .int) (C := RX5) (T := TX5) (N := 8) hx hb hT ku_5 tyX5 tyX5_ok nmX5 hown hK hP hD hS 0 rfl rfl 0 (by decide) (hT _ kw_13_19) (fun _ h9 => h9) rfl (by decide +kernel) rfl rfl (fh_lt hf (by decide)) dX5_append_37 (fun H locs hP hD hS => ?_)
  have hP : va_P G vwCl [(h0, .inr (5, (fs120.set 0 (.int 16)))), (tp, .inl (cA 3, 700, .inl f126))] H := hP
  have hD : va_D A [(h0, .inr (5, (fs120.set 0 (.int 16)))), (tp, .inl (cA 3, 700, .inl f126))] := hD
  have hf := fh_set (l' := [(0, .int 16), (4, .ref tp)]) hf 0 (.int 16) (by decide) rfl
  have ho128 := fo_mono (k2 := [0]) (fo_set ho121 0 (.int 16)) (by decide)
  generalize (fs120.set 0 (.int 16)) = fs127 at hP hD hf ho128
  refine lv_iinc (v := (-8)) (lv' := [(2, .int (-8)), (0, .ref h0), (1, .int x)]) hx hb dX5_append_40 hl (k := 0) rfl (by decide) (by decide) rfl (fun ls hl => ?_)
  refine lv_goto (tgt := 3) hx hb dX5_append_43 (by decide) ?_
  refine lv_iload_n hx hb dX5_append_3 rfl (lv_at hl 0 rfl) ?_
  refine lv_if_lt (tgt := 46) hx hb dX5_append_4 (by decide) (fun c129 => ?_) (fun c129 => absurd (by decide) c129)
  have qho128 := fo_mono (k2 := [0]) ho128 (by decide)
  exact W.vret hx hb hr (fun t ht hW => ⟨⟨(fs127, f126), rfl, ⟨qho128, fh_sub hf [0] rfl⟩, by rw [ht]; exact hP, hD⟩, hS.F ht⟩) hS.2.2 dX5_append_46

set_option maxHeartbeats 4000000 in
set_option maxRecDepth 100000 in
theorem c_X5_append_16 (l : Launch) (G : va_G) (cA : Nat → ClassId) (sz : Nat) (h0 : Nat) (x : Int32) (fs : List Value) (tp : Nat) (ft : Nat → Int32) (hf : fh fs 8 [(0, .int 16), (4, .ref tp)]) : Met l yX5_append (.code yX5_append cX5_append 3 none :: T0) ({ frames := 0, cells := 0, slots := 0, locals := 0 }) (tqP G cA [.ref h0, .int x] [(h0, .inr (5, fs)), (tp, .inl (cA 3, 700, .inl ft))] sz) (tqQv G cA (fun (u : List Value × (Nat → Int32)) => fo fs u.1 [0] ∧ fh u.1 8 [(0, .int 20)]) (fun (u : List Value × (Nat → Int32)) => [(h0, .inr (5, u.1)), (tp, .inl (cA 3, 700, .inl u.2))]) (va_A [(h0, .inr (5, fs)), (tp, .inl (cA 3, 700, .inl ft))] sz)) 0 0 (va_A [(h0, .inr (5, fs)), (tp, .inl (cA 3, 700, .inl ft))] sz) := by
  refine Met.ofW (cc := cX5_append) (maxL := 3) (ret := none) (by decide) rfl ?_
  intro p e s m args below meth c s₁ B hml hv
  obtain ⟨rfl, hsz, hP, hK, hD0, hN⟩ := hv
  have hx := B.exec
  have hb := B.bytes
  have hr := B.returns
  have hts := atoms_spec (ws := .code yX5_append cX5_append 3 none :: T0) B.pre
  have hT : ∀ w ∈ T0, w.before _ s = true := fun w h => hts w (List.mem_cons_of_mem _ h)
  have hown : s.vm.findClass RX5 = some m.cls := findClass_of_methodNamed B.named
  have hlocks := B.notSynchronized
  subst hsz
  have hD := hD0.self (sz := s.heap.size)
  generalize hAe : va_A [(h0, .inr (5, fs)), (tp, .inl (cA 3, 700, .inl ft))] s.heap.size = A at hD ⊢
  have hA : ∀ q : Nat, s.heap.size ≤ q → A q := fun q h => by rw [← hAe]; exact Or.inr h
  have hS : va_S A s.heap s.heap [] := va_S.rf
  have hl := lv_entry ([.ref h0, .int x]) (n := 3) (Nat.le_of_ble_eq_true rfl)
  rw [lg_entry_eq]
  generalize (lg_sl ([.ref h0, .int x]) ++ List.replicate (3 - (lg_sl ([.ref h0, .int x])).length) Slot.unset).toArray = ls at hl ⊢
  have hl : lv_has ls 3 [(0, .ref h0), (1, .int x)] := hl
  obtain ⟨H, hH⟩ : ∃ z, z = s.heap := ⟨_, rfl⟩
  rw [← hH] at hP
  have hS : va_S A s.heap H [] := by rw [hH]; exact hS
  suffices hgo : W p l e _ s m _ below meth c H [] 0 0 _ _ by rw [hH] at hgo; exact hgo
  have hO := hN.2.2.2.2
  have ho_hf := fo_refl fs
  refine lv_bipush (v := 24) hx hb dX5_append_0 (by decide) ?_
  refine lv_istore_n (lv' := [(2, .int 24), (0, .ref h0), (1, .int x)]) hx hb dX5_append_2 rfl hl (by decide) rfl (fun ls hl => ?_)
  refine lv_iload_n hx hb dX5_append_3 rfl (lv_at hl 0 rfl) ?_
  refine lv_if_lt (tgt := 46) hx hb dX5_append_4 (by decide) (fun c101 => absurd c101 (by decide)) (fun c101 => ?_)
  refine lv_aload_n hx hb dX5_append_7 rfl (lv_at hl 1 rfl) ?_
  refine va_get (D := G) (ci := 5) (v := .int 16) (C := RX5) (T := TX5) (N := 8) hx hb hT ku_5 hown hK hP 0 rfl rfl 0 (by decide) (hT _ kw_13_19) (fun _ h9 => h9) (fh_at hf 0 rfl) dX5_append_8 ?_
  refine lv_sipush (v := 700) hx hb dX5_append_11 (by decide) ?_
  refine lv_icmp_ge (tgt := 46) hx hb dX5_append_14 (by decide) (fun c102 => absurd c102 (by decide)) (fun c102 => ?_)
  refine lv_aload_n hx hb dX5_append_17 rfl (lv_at hl 1 rfl) ?_
  refine va_get (D := G) (ci := 5) (v := .ref tp) (C := RX5) (T := TX5) (N := 8) hx hb hT ku_5 hown hK hP 0 rfl rfl 4 (by decide) (hT _ kw_3_11) (fun _ h9 => h9) (fh_at hf 1 rfl) dX5_append_18 ?_
  refine lv_aload_n hx hb dX5_append_21 rfl (lv_at hl 1 rfl) ?_
  refine va_get (D := G) (ci := 5) (v := .int 16) (C := RX5) (T := TX5) (N := 8) hx hb hT ku_5 hown hK hP 0 rfl rfl 0 (by decide) (hT _ kw_13_19) (fun _ h9 => h9) (fh_at hf 0 rfl) dX5_append_22 ?_
  refine lv_iload_n hx hb dX5_append_25 rfl (lv_at hl 2 rfl) ?_
  refine lv_iload_n hx hb dX5_append_26 rfl (lv_at hl 0 rfl) ?_
  refine lv_iushr hx hb dX5_append_27 rfl ?_
  refine lv_topi (fun x103 ex103 => ?_)
  refine lv_i2b hx hb dX5_append_28 rfl ?_
  refine lv_topi (fun x104 ex104 => ?_)
  refine va_bast (i := 16) hx hb hK hP hD hS 1 3 rfl rfl (tq_in (by decide)) dX5_append_29 (fun H locs hP hD hS => ?_)
  have hP : va_P G vwCl [(h0, .inr (5, fs)), (tp, .inl (cA 3, 700, .inl ((upd ft (16 : Int32).toNatClampNeg (vp_nar .byte x104)))))] H := hP
  have hD : va_D A [(h0, .inr (5, fs)), (tp, .inl (cA 3, 700, .inl ((upd ft (16 : Int32).toNatClampNeg (vp_nar .byte x104)))))] := hD
  generalize (upd ft (16 : Int32).toNatClampNeg (vp_nar .byte x104)) = f105 at hP hD
  refine lv_aload_n hx hb dX5_append_30 rfl (lv_at hl 1 rfl) ?_
  refine lv_dup hx hb dX5_append_31 rfl ?_
  refine va_get (D := G) (ci := 5) (v := .int 16) (C := RX5) (T := TX5) (N := 8) hx hb hT ku_5 hown hK hP 0 rfl rfl 0 (by decide) (hT _ kw_13_19) (fun _ h9 => h9) (fh_at hf 0 rfl) dX5_append_32 ?_
  refine lv_iconst (v := 1) hx hb dX5_append_35 (by decide) ?_
  refine lv_iadd hx hb dX5_append_36 ?_
  refine tq_i (w := 17) (by decide) ?_
  refine va_put (D := G) (ci := 5) (v := .int 17) (ty := .int) (C := RX5) (T := TX5) (N := 8) hx hb hT ku_5 tyX5 tyX5_ok nmX5 hown hK hP hD hS 0 rfl rfl 0 (by decide) (hT _ kw_13_19) (fun _ h9 => h9) rfl (by decide +kernel) rfl rfl (fh_lt hf (by decide)) dX5_append_37 (fun H locs hP hD hS => ?_)
  have hP : va_P G vwCl [(h0, .inr (5, (fs.set 0 (.int 17)))), (tp, .inl (cA 3, 700, .inl f105))] H := hP
  have hD : va_D A [(h0, .inr (5, (fs.set 0 (.int 17)))), (tp, .inl (cA 3, 700, .inl f105))] := hD
  have hf := fh_set (l' := [(0, .int 17), (4, .ref tp)]) hf 0 (.int 17) (by decide) rfl
  have ho107 := fo_set ho_hf 0 (.int 17)
  generalize (fs.set 0 (.int 17)) = fs106 at hP hD hf ho107
  refine lv_iinc (v := 16) (lv' := [(2, .int 16), (0, .ref h0), (1, .int x)]) hx hb dX5_append_40 hl (k := 0) rfl (by decide) (by decide) rfl (fun ls hl => ?_)
  refine lv_goto (tgt := 3) hx hb dX5_append_43 (by decide) ?_
  refine lv_iload_n hx hb dX5_append_3 rfl (lv_at hl 0 rfl) ?_
  refine lv_if_lt (tgt := 46) hx hb dX5_append_4 (by decide) (fun c108 => absurd c108 (by decide)) (fun c108 => ?_)
  refine lv_aload_n hx hb dX5_append_7 rfl (lv_at hl 1 rfl) ?_
  refine va_get (D := G) (ci := 5) (v := .int 17) (C := RX5) (T := TX5) (N := 8) hx hb hT ku_5 hown hK hP 0 rfl rfl 0 (by decide) (hT _ kw_13_19) (fun _ h9 => h9) (fh_at hf 0 rfl) dX5_append_8 ?_
  refine lv_sipush (v := 700) hx hb dX5_append_11 (by decide) ?_
  refine lv_icmp_ge (tgt := 46) hx hb dX5_append_14 (by decide) (fun c109 => absurd c109 (by decide)) (fun c109 => ?_)
  refine lv_aload_n hx hb dX5_append_17 rfl (lv_at hl 1 rfl) ?_
  refine va_get (D := G) (ci := 5) (v := .ref tp) (C := RX5) (T := TX5) (N := 8) hx hb hT ku_5 hown hK hP 0 rfl rfl 4 (by decide) (hT _ kw_3_11) (fun _ h9 => h9) (fh_at hf 1 rfl) dX5_append_18 ?_
  refine lv_aload_n hx hb dX5_append_21 rfl (lv_at hl 1 rfl) ?_
  refine va_get (D := G) (ci := 5) (v := .int 17) (C := RX5) (T := TX5) (N := 8) hx hb hT ku_5 hown hK hP 0 rfl rfl 0 (by decide) (hT _ kw_13_19) (fun _ h9 => h9) (fh_at hf 0 rfl) dX5_append_22 ?_
  refine lv_iload_n hx hb dX5_append_25 rfl (lv_at hl 2 rfl) ?_
  refine lv_iload_n hx hb dX5_append_26 rfl (lv_at hl 0 rfl) ?_
  refine lv_iushr hx hb dX5_append_27 rfl ?_
  refine lv_topi (fun x110 ex110 => ?_)
  refine lv_i2b hx hb dX5_append_28 rfl ?_
  refine lv_topi (fun x111 ex111 => ?_)
  refine va_bast (i := 17) hx hb hK hP hD hS 1 3 rfl rfl (tq_in (by decide)) dX5_append_29 (fun H locs hP hD hS => ?_)
  have hP : va_P G vwCl [(h0, .inr (5, fs106)), (tp, .inl (cA 3, 700, .inl ((upd f105 (17 : Int32).toNatClampNeg (vp_nar .byte x111)))))] H := hP
  have hD : va_D A [(h0, .inr (5, fs106)), (tp, .inl (cA 3, 700, .inl ((upd f105 (17 : Int32).toNatClampNeg (vp_nar .byte x111)))))] := hD
  generalize (upd f105 (17 : Int32).toNatClampNeg (vp_nar .byte x111)) = f112 at hP hD
  refine lv_aload_n hx hb dX5_append_30 rfl (lv_at hl 1 rfl) ?_
  refine lv_dup hx hb dX5_append_31 rfl ?_
  refine va_get (D := G) (ci := 5) (v := .int 17) (C := RX5) (T := TX5) (N := 8) hx hb hT ku_5 hown hK hP 0 rfl rfl 0 (by decide) (hT _ kw_13_19) (fun _ h9 => h9) (fh_at hf 0 rfl) dX5_append_32 ?_
  refine lv_iconst (v := 1) hx hb dX5_append_35 (by decide) ?_
  refine lv_iadd hx hb dX5_append_36 ?_
  refine tq_i (w := 18) (by decide) ?_
  refine va_put (D := G) (ci := 5) (v := .int 18) (ty := .int) (C := RX5) (T := TX5) (N := 8) hx hb hT ku_5 tyX5 tyX5_ok nmX5 hown hK hP hD hS 0 rfl rfl 0 (by decide) (hT _ kw_13_19) (fun _ h9 => h9) rfl (by decide +kernel) rfl rfl (fh_lt hf (by decide)) dX5_append_37 (fun H locs hP hD hS => ?_)
  have hP : va_P G vwCl [(h0, .inr (5, (fs106.set 0 (.int 18)))), (tp, .inl (cA 3, 700, .inl f112))] H := hP
  have hD : va_D A [(h0, .inr (5, (fs106.set 0 (.int 18)))), (tp, .inl (cA 3, 700, .inl f112))] := hD
  have hf := fh_set (l' := [(0, .int 18), (4, .ref tp)]) hf 0 (.int 18) (by decide) rfl
  have ho114 := fo_mono (k2 := [0]) (fo_set ho107 0 (.int 18)) (by decide)
  generalize (fs106.set 0 (.int 18)) = fs113 at hP hD hf ho114
  refine lv_iinc (v := 8) (lv' := [(2, .int 8), (0, .ref h0), (1, .int x)]) hx hb dX5_append_40 hl (k := 0) rfl (by decide) (by decide) rfl (fun ls hl => ?_)
  refine lv_goto (tgt := 3) hx hb dX5_append_43 (by decide) ?_
  refine lv_iload_n hx hb dX5_append_3 rfl (lv_at hl 0 rfl) ?_
  refine lv_if_lt (tgt := 46) hx hb dX5_append_4 (by decide) (fun c115 => absurd c115 (by decide)) (fun c115 => ?_)
  refine lv_aload_n hx hb dX5_append_7 rfl (lv_at hl 1 rfl) ?_
  refine va_get (D := G) (ci := 5) (v := .int 18) (C := RX5) (T := TX5) (N := 8) hx hb hT ku_5 hown hK hP 0 rfl rfl 0 (by decide) (hT _ kw_13_19) (fun _ h9 => h9) (fh_at hf 0 rfl) dX5_append_8 ?_
  refine lv_sipush (v := 700) hx hb dX5_append_11 (by decide) ?_
  refine lv_icmp_ge (tgt := 46) hx hb dX5_append_14 (by decide) (fun c116 => absurd c116 (by decide)) (fun c116 => ?_)
  refine lv_aload_n hx hb dX5_append_17 rfl (lv_at hl 1 rfl) ?_
  refine va_get (D := G) (ci := 5) (v := .ref tp) (C := RX5) (T := TX5) (N := 8) hx hb hT ku_5 hown hK hP 0 rfl rfl 4 (by decide) (hT _ kw_3_11) (fun _ h9 => h9) (fh_at hf 1 rfl) dX5_append_18 ?_
  refine lv_aload_n hx hb dX5_append_21 rfl (lv_at hl 1 rfl) ?_
  refine va_get (D := G) (ci := 5) (v := .int 18) (C := RX5) (T := TX5) (N := 8) hx hb hT ku_5 hown hK hP 0 rfl rfl 0 (by decide) (hT _ kw_13_19) (fun _ h9 => h9) (fh_at hf 0 rfl) dX5_append_22 ?_
  refine lv_iload_n hx hb dX5_append_25 rfl (lv_at hl 2 rfl) ?_
  refine lv_iload_n hx hb dX5_append_26 rfl (lv_at hl 0 rfl) ?_
  refine lv_iushr hx hb dX5_append_27 rfl ?_
  refine lv_topi (fun x117 ex117 => ?_)
  refine lv_i2b hx hb dX5_append_28 rfl ?_
  refine lv_topi (fun x118 ex118 => ?_)
  refine va_bast (i := 18) hx hb hK hP hD hS 1 3 rfl rfl (tq_in (by decide)) dX5_append_29 (fun H locs hP hD hS => ?_)
  have hP : va_P G vwCl [(h0, .inr (5, fs113)), (tp, .inl (cA 3, 700, .inl ((upd f112 (18 : Int32).toNatClampNeg (vp_nar .byte x118)))))] H := hP
  have hD : va_D A [(h0, .inr (5, fs113)), (tp, .inl (cA 3, 700, .inl ((upd f112 (18 : Int32).toNatClampNeg (vp_nar .byte x118)))))] := hD
  generalize (upd f112 (18 : Int32).toNatClampNeg (vp_nar .byte x118)) = f119 at hP hD
  refine lv_aload_n hx hb dX5_append_30 rfl (lv_at hl 1 rfl) ?_
  refine lv_dup hx hb dX5_append_31 rfl ?_
  refine va_get (D := G) (ci := 5) (v := .int 18) (C := RX5) (T := TX5) (N := 8) hx hb hT ku_5 hown hK hP 0 rfl rfl 0 (by decide) (hT _ kw_13_19) (fun _ h9 => h9) (fh_at hf 0 rfl) dX5_append_32 ?_
  refine lv_iconst (v := 1) hx hb dX5_append_35 (by decide) ?_
  refine lv_iadd hx hb dX5_append_36 ?_
  refine tq_i (w := 19) (by decide) ?_
  refine va_put (D := G) (ci := 5) (v := .int 19) (ty := .int) (C := RX5) (T := TX5) (N := 8) hx hb hT ku_5 tyX5 tyX5_ok nmX5 hown hK hP hD hS 0 rfl rfl 0 (by decide) (hT _ kw_13_19) (fun _ h9 => h9) rfl (by decide +kernel) rfl rfl (fh_lt hf (by decide)) dX5_append_37 (fun H locs hP hD hS => ?_)
  have hP : va_P G vwCl [(h0, .inr (5, (fs113.set 0 (.int 19)))), (tp, .inl (cA 3, 700, .inl f119))] H := hP
  have hD : va_D A [(h0, .inr (5, (fs113.set 0 (.int 19)))), (tp, .inl (cA 3, 700, .inl f119))] := hD
  have hf := fh_set (l' := [(0, .int 19), (4, .ref tp)]) hf 0 (.int 19) (by decide) rfl
  have ho121 := fo_mono (k2 := [0]) (fo_set ho114 0 (.int 19)) (by decide)
  generalize (fs113.set 0 (.int 19)) = fs120 at hP hD hf ho121
  refine lv_iinc (v := 0) (lv' := [(2, .int 0), (0, .ref h0), (1, .int x)]) hx hb dX5_append_40 hl (k := 0) rfl (by decide) (by decide) rfl (fun ls hl => ?_)
  refine lv_goto (tgt := 3) hx hb dX5_append_43 (by decide) ?_
  refine lv_iload_n hx hb dX5_append_3 rfl (lv_at hl 0 rfl) ?_
  refine lv_if_lt (tgt := 46) hx hb dX5_append_4 (by decide) (fun c122 => absurd c122 (by decide)) (fun c122 => ?_)
  refine lv_aload_n hx hb dX5_append_7 rfl (lv_at hl 1 rfl) ?_
  refine va_get (D := G) (ci := 5) (v := .int 19) (C := RX5) (T := TX5) (N := 8) hx hb hT ku_5 hown hK hP 0 rfl rfl 0 (by decide) (hT _ kw_13_19) (fun _ h9 => h9) (fh_at hf 0 rfl) dX5_append_8 ?_
  refine lv_sipush (v := 700) hx hb dX5_append_11 (by decide) ?_
  refine lv_icmp_ge (tgt := 46) hx hb dX5_append_14 (by decide) (fun c123 => absurd c123 (by decide)) (fun c123 => ?_)
  refine lv_aload_n hx hb dX5_append_17 rfl (lv_at hl 1 rfl) ?_
  refine va_get (D := G) (ci := 5) (v := .ref tp) (C := RX5) (T := TX5) (N := 8) hx hb hT ku_5 hown hK hP 0 rfl rfl 4 (by decide) (hT _ kw_3_11) (fun _ h9 => h9) (fh_at hf 1 rfl) dX5_append_18 ?_
  refine lv_aload_n hx hb dX5_append_21 rfl (lv_at hl 1 rfl) ?_
  refine va_get (D := G) (ci := 5) (v := .int 19) (C := RX5) (T := TX5) (N := 8) hx hb hT ku_5 hown hK hP 0 rfl rfl 0 (by decide) (hT _ kw_13_19) (fun _ h9 => h9) (fh_at hf 0 rfl) dX5_append_22 ?_
  refine lv_iload_n hx hb dX5_append_25 rfl (lv_at hl 2 rfl) ?_
  refine lv_iload_n hx hb dX5_append_26 rfl (lv_at hl 0 rfl) ?_
  refine lv_iushr hx hb dX5_append_27 rfl ?_
  refine lv_topi (fun x124 ex124 => ?_)
  refine lv_i2b hx hb dX5_append_28 rfl ?_
  refine lv_topi (fun x125 ex125 => ?_)
  refine va_bast (i := 19) hx hb hK hP hD hS 1 3 rfl rfl (tq_in (by decide)) dX5_append_29 (fun H locs hP hD hS => ?_)
  have hP : va_P G vwCl [(h0, .inr (5, fs120)), (tp, .inl (cA 3, 700, .inl ((upd f119 (19 : Int32).toNatClampNeg (vp_nar .byte x125)))))] H := hP
  have hD : va_D A [(h0, .inr (5, fs120)), (tp, .inl (cA 3, 700, .inl ((upd f119 (19 : Int32).toNatClampNeg (vp_nar .byte x125)))))] := hD
  generalize (upd f119 (19 : Int32).toNatClampNeg (vp_nar .byte x125)) = f126 at hP hD
  refine lv_aload_n hx hb dX5_append_30 rfl (lv_at hl 1 rfl) ?_
  refine lv_dup hx hb dX5_append_31 rfl ?_
  refine va_get (D := G) (ci := 5) (v := .int 19) (C := RX5) (T := TX5) (N := 8) hx hb hT ku_5 hown hK hP 0 rfl rfl 0 (by decide) (hT _ kw_13_19) (fun _ h9 => h9) (fh_at hf 0 rfl) dX5_append_32 ?_
  refine lv_iconst (v := 1) hx hb dX5_append_35 (by decide) ?_
  refine lv_iadd hx hb dX5_append_36 ?_
  refine tq_i (w := 20) (by decide) ?_
  refine va_put (D := G) (ci := 5) (v := .int 20) (ty := .int) (C := RX5) (T := TX5) (N := 8) hx hb hT ku_5 tyX5 tyX5_ok nmX5 hown hK hP hD hS 0 rfl rfl 0 (by decide) (hT _ kw_13_19) (fun _ h9 => h9) rfl (by decide +kernel) rfl rfl (fh_lt hf (by decide)) dX5_append_37 (fun H locs hP hD hS => ?_)
  have hP : va_P G vwCl [(h0, .inr (5, (fs120.set 0 (.int 20)))), (tp, .inl (cA 3, 700, .inl f126))] H := hP
  have hD : va_D A [(h0, .inr (5, (fs120.set 0 (.int 20)))), (tp, .inl (cA 3, 700, .inl f126))] := hD
  have hf := fh_set (l' := [(0, .int 20), (4, .ref tp)]) hf 0 (.int 20) (by decide) rfl
  have ho128 := fo_mono (k2 := [0]) (fo_set ho121 0 (.int 20)) (by decide)
  generalize (fs120.set 0 (.int 20)) = fs127 at hP hD hf ho128
  refine lv_iinc (v := (-8)) (lv' := [(2, .int (-8)), (0, .ref h0), (1, .int x)]) hx hb dX5_append_40 hl (k := 0) rfl (by decide) (by decide) rfl (fun ls hl => ?_)
  refine lv_goto (tgt := 3) hx hb dX5_append_43 (by decide) ?_
  refine lv_iload_n hx hb dX5_append_3 rfl (lv_at hl 0 rfl) ?_
  refine lv_if_lt (tgt := 46) hx hb dX5_append_4 (by decide) (fun c129 => ?_) (fun c129 => absurd (by decide) c129)
  have qho128 := fo_mono (k2 := [0]) ho128 (by decide)
  exact W.vret hx hb hr (fun t ht hW => ⟨⟨(fs127, f126), rfl, ⟨qho128, fh_sub hf [0] rfl⟩, by rw [ht]; exact hP, hD⟩, hS.F ht⟩) hS.2.2 dX5_append_46

set_option maxHeartbeats 4000000 in
set_option maxRecDepth 100000 in
theorem c_X7_feed (l : Launch) (G : va_G) (cA : Nat → ClassId) (sz : Nat) (h0 : Nat) (x : Int32) (y : Int32) (z : Int32) (w : Int32) (v : Int32) (fs : List Value) (rd : Nat) (rs : List Value) (tk : Nat) (ks : List Value) (tp : Nat) (ft : Nat → Int32) (hf : fh fs 12 [(0, .ref rd)]) (hrd : fh rs 10 [(0, .ref tk)]) (htk : fh ks 8 [(0, .int 0), (4, .ref tp)]) : Met l yX7_feed (.code yX7_feed cX7_feed 7 (some .int) :: T0) ({ frames := 1, cells := 0, slots := 0, locals := 22 }) (tqP G cA [.ref h0, .int x, .int y, .int z, .int w, .int v] [(h0, .inr (7, fs)), (rd, .inr (3, rs)), (tk, .inr (5, ks)), (tp, .inl (cA 3, 700, .inl ft))] sz) (tqQi G cA (fun (r : Int32) (u : Unit) => r = 20) (fun (u : Unit) => []) (va_A [(h0, .inr (7, fs)), (rd, .inr (3, rs)), (tk, .inr (5, ks)), (tp, .inl (cA 3, 700, .inl ft))] sz)) 0 0 (va_A [(h0, .inr (7, fs)), (rd, .inr (3, rs)), (tk, .inr (5, ks)), (tp, .inl (cA 3, 700, .inl ft))] sz) := by
  refine Met.ofW (cc := cX7_feed) (maxL := 7) (ret := (some .int)) (by decide) rfl ?_
  intro p e s m args below meth c s₁ B hml hv
  obtain ⟨rfl, hsz, hP, hK, hD0, hN⟩ := hv
  have hx := B.exec
  have hb := B.bytes
  have hr := B.returns
  have hts := atoms_spec (ws := .code yX7_feed cX7_feed 7 (some .int) :: T0) B.pre
  have hT : ∀ w ∈ T0, w.before _ s = true := fun w h => hts w (List.mem_cons_of_mem _ h)
  have hown : s.vm.findClass RX7 = some m.cls := findClass_of_methodNamed B.named
  have hlocks := B.notSynchronized
  subst hsz
  have hD := hD0.self (sz := s.heap.size)
  generalize hAe : va_A [(h0, .inr (7, fs)), (rd, .inr (3, rs)), (tk, .inr (5, ks)), (tp, .inl (cA 3, 700, .inl ft))] s.heap.size = A at hD ⊢
  have hA : ∀ q : Nat, s.heap.size ≤ q → A q := fun q h => by rw [← hAe]; exact Or.inr h
  have hS : va_S A s.heap s.heap [] := va_S.rf
  have hl := lv_entry ([.ref h0, .int x, .int y, .int z, .int w, .int v]) (n := 7) (Nat.le_of_ble_eq_true rfl)
  rw [lg_entry_eq]
  generalize (lg_sl ([.ref h0, .int x, .int y, .int z, .int w, .int v]) ++ List.replicate (7 - (lg_sl ([.ref h0, .int x, .int y, .int z, .int w, .int v])).length) Slot.unset).toArray = ls at hl ⊢
  have hl : lv_has ls 7 [(0, .ref h0), (1, .int x), (2, .int y), (3, .int z), (4, .int w), (5, .int v)] := hl
  obtain ⟨H, hH⟩ : ∃ z, z = s.heap := ⟨_, rfl⟩
  rw [← hH] at hP
  have hS : va_S A s.heap H [] := by rw [hH]; exact hS
  suffices hgo : W p l e _ s m _ below meth c H [] 0 0 _ _ by rw [hH] at hgo; exact hgo
  have hO := hN.2.2.2.2
  have ho_hf := fo_refl fs
  have ho_hrd := fo_refl rs
  have ho_htk := fo_refl ks
  refine lv_aload_n hx hb dX7_feed_0 rfl (lv_at hl 0 rfl) ?_
  refine va_get (D := G) (ci := 7) (v := .ref rd) (C := RX7) (T := TX7) (N := 12) hx hb hT ku_7 hown hK hP 0 rfl rfl 0 (by decide) (hT _ kw_1_16) (fun _ h9 => h9) (fh_at hf 0 rfl) dX7_feed_1 ?_
  refine va_get (D := G) (ci := 3) (v := .ref tk) (C := RX3) (T := TX3) (N := 10) hx hb hT ku_3 hown hK hP 1 rfl rfl 0 (by decide) (hT _ kw_13_13) (fun _ h9 => h9) (fh_at hrd 0 rfl) dX7_feed_4 ?_
  refine lv_astore (lv' := [(6, .ref tk), (0, .ref h0), (1, .int x), (2, .int y), (3, .int z), (4, .int w), (5, .int v)]) hx hb dX7_feed_7 hl (by decide) rfl (fun ls hl => ?_)
  refine lv_aload hx hb dX7_feed_9 (lv_at hl 0 rfl) ?_
  refine va_get (D := G) (ci := 5) (v := .int 0) (C := RX5) (T := TX5) (N := 8) hx hb hT ku_5 hown hK hP 2 rfl rfl 0 (by decide) (hT _ kw_13_14) (fun _ h9 => h9) (fh_at htk 0 rfl) dX7_feed_11 ?_
  refine lv_bipush (v := 20) hx hb dX7_feed_14 (by decide) ?_
  refine lv_iadd hx hb dX7_feed_16 ?_
  refine tq_i (w := 20) (by decide) ?_
  refine lv_sipush (v := 700) hx hb dX7_feed_17 (by decide) ?_
  refine lv_icmp_le (tgt := 25) hx hb dX7_feed_20 (by decide) (fun c101 => ?_) (fun c101 => absurd (by decide) c101)
  refine lv_aload hx hb dX7_feed_25 (lv_at hl 0 rfl) ?_
  refine lv_iload_n hx hb dX7_feed_27 rfl (lv_at hl 2 rfl) ?_
  refine tq_cv (wr := [(h0, .inr (7, fs)), (rd, .inr (3, rs))]) hP hD hS hA [2, 3] [0, 1] rfl rfl (by decide) (by decide) (va_runV (As := [.int x]) (rest := []) ⟨hx, hb, hml, hown, hT⟩ (c_X5_append_0 l G cA H.size tk x ks tp ft (fh_sub htk [0, 1] rfl)) (cwV 1 hT (tq_gV kw_13_15 kw_13_16 kw_13_17 kw_2_22 kw_13_18) rfl rfl rfl (by decide +kernel) ⟨Nat.le_of_ble_eq_true rfl, Nat.le_of_ble_eq_true rfl⟩) ⟨(tq_pre (isC := [2, 3]) hP hD hK hN rfl (by decide)).1, va_recv hK hP (ci := 5) (q0 := 2) rfl rfl, (tq_pre (isC := [2, 3]) hP hD hK hN rfl (by decide)).2⟩ rfl rfl hl.1 rfl (lv_room (Nat.le_of_ble_eq_true rfl)) dX7_feed_28 ⟨Nat.le_of_ble_eq_true rfl, Nat.le_of_ble_eq_true rfl⟩) (fun u102 H locs hw103 hP hD hS => ?_)
  refine W.widen (k := 0) (n := 0) (Nat.le_of_ble_eq_true rfl) (Nat.le_of_ble_eq_true rfl) ?_
  obtain ⟨g104, g105⟩ := u102
  obtain ⟨ho106, hf107⟩ := hw103
  try dsimp only at hP hD ho106 hf107
  have hf107 := fh_app (fo_fh (l' := [(4, .ref tp)]) htk ho106 rfl) hf107
  have ho108 := fo_mono (k2 := [0]) (fo_trans ho_htk ho106) (by decide)
  have hf107 : fh g104 8 [(4, .ref tp), (0, .int 4)] := hf107
  have hP : va_P G vwCl [(h0, .inr (7, fs)), (rd, .inr (3, rs)), (tk, .inr (5, g104)), (tp, .inl (cA 3, 700, .inl g105))] H := hP
  have hD : va_D A [(h0, .inr (7, fs)), (rd, .inr (3, rs)), (tk, .inr (5, g104)), (tp, .inl (cA 3, 700, .inl g105))] := hD
  refine lv_aload hx hb dX7_feed_31 (lv_at hl 0 rfl) ?_
  refine lv_iload_n hx hb dX7_feed_33 rfl (lv_at hl 3 rfl) ?_
  refine tq_cv (wr := [(h0, .inr (7, fs)), (rd, .inr (3, rs))]) hP hD hS hA [2, 3] [0, 1] rfl rfl (by decide) (by decide) (va_runV (As := [.int y]) (rest := []) ⟨hx, hb, hml, hown, hT⟩ (c_X5_append_4 l G cA H.size tk y g104 tp g105 (fh_sub hf107 [1, 0] rfl)) (cwV 1 hT (tq_gV kw_13_15 kw_13_16 kw_13_17 kw_2_22 kw_13_18) rfl rfl rfl (by decide +kernel) ⟨Nat.le_of_ble_eq_true rfl, Nat.le_of_ble_eq_true rfl⟩) ⟨(tq_pre (isC := [2, 3]) hP hD hK hN rfl (by decide)).1, va_recv hK hP (ci := 5) (q0 := 2) rfl rfl, (tq_pre (isC := [2, 3]) hP hD hK hN rfl (by decide)).2⟩ rfl rfl hl.1 rfl (lv_room (Nat.le_of_ble_eq_true rfl)) dX7_feed_34 ⟨Nat.le_of_ble_eq_true rfl, Nat.le_of_ble_eq_true rfl⟩) (fun u109 H locs hw110 hP hD hS => ?_)
  refine W.widen (k := 0) (n := 0) (Nat.le_of_ble_eq_true rfl) (Nat.le_of_ble_eq_true rfl) ?_
  obtain ⟨g111, g112⟩ := u109
  obtain ⟨ho113, hf114⟩ := hw110
  try dsimp only at hP hD ho113 hf114
  have hf114 := fh_app (fo_fh (l' := [(4, .ref tp)]) hf107 ho113 rfl) hf114
  have ho115 := fo_mono (k2 := [0]) (fo_trans ho108 ho113) (by decide)
  have hf114 : fh g111 8 [(4, .ref tp), (0, .int 8)] := hf114
  have hP : va_P G vwCl [(h0, .inr (7, fs)), (rd, .inr (3, rs)), (tk, .inr (5, g111)), (tp, .inl (cA 3, 700, .inl g112))] H := hP
  have hD : va_D A [(h0, .inr (7, fs)), (rd, .inr (3, rs)), (tk, .inr (5, g111)), (tp, .inl (cA 3, 700, .inl g112))] := hD
  refine lv_aload hx hb dX7_feed_37 (lv_at hl 0 rfl) ?_
  refine lv_iload_n hx hb dX7_feed_39 rfl (lv_at hl 4 rfl) ?_
  refine tq_cv (wr := [(h0, .inr (7, fs)), (rd, .inr (3, rs))]) hP hD hS hA [2, 3] [0, 1] rfl rfl (by decide) (by decide) (va_runV (As := [.int z]) (rest := []) ⟨hx, hb, hml, hown, hT⟩ (c_X5_append_8 l G cA H.size tk z g111 tp g112 (fh_sub hf114 [1, 0] rfl)) (cwV 1 hT (tq_gV kw_13_15 kw_13_16 kw_13_17 kw_2_22 kw_13_18) rfl rfl rfl (by decide +kernel) ⟨Nat.le_of_ble_eq_true rfl, Nat.le_of_ble_eq_true rfl⟩) ⟨(tq_pre (isC := [2, 3]) hP hD hK hN rfl (by decide)).1, va_recv hK hP (ci := 5) (q0 := 2) rfl rfl, (tq_pre (isC := [2, 3]) hP hD hK hN rfl (by decide)).2⟩ rfl rfl hl.1 rfl (lv_room (Nat.le_of_ble_eq_true rfl)) dX7_feed_40 ⟨Nat.le_of_ble_eq_true rfl, Nat.le_of_ble_eq_true rfl⟩) (fun u116 H locs hw117 hP hD hS => ?_)
  refine W.widen (k := 0) (n := 0) (Nat.le_of_ble_eq_true rfl) (Nat.le_of_ble_eq_true rfl) ?_
  obtain ⟨g118, g119⟩ := u116
  obtain ⟨ho120, hf121⟩ := hw117
  try dsimp only at hP hD ho120 hf121
  have hf121 := fh_app (fo_fh (l' := [(4, .ref tp)]) hf114 ho120 rfl) hf121
  have ho122 := fo_mono (k2 := [0]) (fo_trans ho115 ho120) (by decide)
  have hf121 : fh g118 8 [(4, .ref tp), (0, .int 12)] := hf121
  have hP : va_P G vwCl [(h0, .inr (7, fs)), (rd, .inr (3, rs)), (tk, .inr (5, g118)), (tp, .inl (cA 3, 700, .inl g119))] H := hP
  have hD : va_D A [(h0, .inr (7, fs)), (rd, .inr (3, rs)), (tk, .inr (5, g118)), (tp, .inl (cA 3, 700, .inl g119))] := hD
  refine lv_aload hx hb dX7_feed_43 (lv_at hl 0 rfl) ?_
  refine lv_iload hx hb dX7_feed_45 (lv_at hl 5 rfl) ?_
  refine tq_cv (wr := [(h0, .inr (7, fs)), (rd, .inr (3, rs))]) hP hD hS hA [2, 3] [0, 1] rfl rfl (by decide) (by decide) (va_runV (As := [.int w]) (rest := []) ⟨hx, hb, hml, hown, hT⟩ (c_X5_append_12 l G cA H.size tk w g118 tp g119 (fh_sub hf121 [1, 0] rfl)) (cwV 1 hT (tq_gV kw_13_15 kw_13_16 kw_13_17 kw_2_22 kw_13_18) rfl rfl rfl (by decide +kernel) ⟨Nat.le_of_ble_eq_true rfl, Nat.le_of_ble_eq_true rfl⟩) ⟨(tq_pre (isC := [2, 3]) hP hD hK hN rfl (by decide)).1, va_recv hK hP (ci := 5) (q0 := 2) rfl rfl, (tq_pre (isC := [2, 3]) hP hD hK hN rfl (by decide)).2⟩ rfl rfl hl.1 rfl (lv_room (Nat.le_of_ble_eq_true rfl)) dX7_feed_47 ⟨Nat.le_of_ble_eq_true rfl, Nat.le_of_ble_eq_true rfl⟩) (fun u123 H locs hw124 hP hD hS => ?_)
  refine W.widen (k := 0) (n := 0) (Nat.le_of_ble_eq_true rfl) (Nat.le_of_ble_eq_true rfl) ?_
  obtain ⟨g125, g126⟩ := u123
  obtain ⟨ho127, hf128⟩ := hw124
  try dsimp only at hP hD ho127 hf128
  have hf128 := fh_app (fo_fh (l' := [(4, .ref tp)]) hf121 ho127 rfl) hf128
  have ho129 := fo_mono (k2 := [0]) (fo_trans ho122 ho127) (by decide)
  have hf128 : fh g125 8 [(4, .ref tp), (0, .int 16)] := hf128
  have hP : va_P G vwCl [(h0, .inr (7, fs)), (rd, .inr (3, rs)), (tk, .inr (5, g125)), (tp, .inl (cA 3, 700, .inl g126))] H := hP
  have hD : va_D A [(h0, .inr (7, fs)), (rd, .inr (3, rs)), (tk, .inr (5, g125)), (tp, .inl (cA 3, 700, .inl g126))] := hD
  refine lv_aload hx hb dX7_feed_50 (lv_at hl 0 rfl) ?_
  refine lv_iload hx hb dX7_feed_52 (lv_at hl 6 rfl) ?_
  refine tq_cv (wr := [(h0, .inr (7, fs)), (rd, .inr (3, rs))]) hP hD hS hA [2, 3] [0, 1] rfl rfl (by decide) (by decide) (va_runV (As := [.int v]) (rest := []) ⟨hx, hb, hml, hown, hT⟩ (c_X5_append_16 l G cA H.size tk v g125 tp g126 (fh_sub hf128 [1, 0] rfl)) (cwV 1 hT (tq_gV kw_13_15 kw_13_16 kw_13_17 kw_2_22 kw_13_18) rfl rfl rfl (by decide +kernel) ⟨Nat.le_of_ble_eq_true rfl, Nat.le_of_ble_eq_true rfl⟩) ⟨(tq_pre (isC := [2, 3]) hP hD hK hN rfl (by decide)).1, va_recv hK hP (ci := 5) (q0 := 2) rfl rfl, (tq_pre (isC := [2, 3]) hP hD hK hN rfl (by decide)).2⟩ rfl rfl hl.1 rfl (lv_room (Nat.le_of_ble_eq_true rfl)) dX7_feed_54 ⟨Nat.le_of_ble_eq_true rfl, Nat.le_of_ble_eq_true rfl⟩) (fun u130 H locs hw131 hP hD hS => ?_)
  refine W.widen (k := 0) (n := 0) (Nat.le_of_ble_eq_true rfl) (Nat.le_of_ble_eq_true rfl) ?_
  obtain ⟨g132, g133⟩ := u130
  obtain ⟨ho134, hf135⟩ := hw131
  try dsimp only at hP hD ho134 hf135
  have hf135 := fh_app (fo_fh (l' := [(4, .ref tp)]) hf128 ho134 rfl) hf135
  have ho136 := fo_mono (k2 := [0]) (fo_trans ho129 ho134) (by decide)
  have hf135 : fh g132 8 [(4, .ref tp), (0, .int 20)] := hf135
  have hP : va_P G vwCl [(h0, .inr (7, fs)), (rd, .inr (3, rs)), (tk, .inr (5, g132)), (tp, .inl (cA 3, 700, .inl g133))] H := hP
  have hD : va_D A [(h0, .inr (7, fs)), (rd, .inr (3, rs)), (tk, .inr (5, g132)), (tp, .inl (cA 3, 700, .inl g133))] := hD
  refine lv_aload hx hb dX7_feed_57 (lv_at hl 0 rfl) ?_
  refine va_get (D := G) (ci := 5) (v := .int 20) (C := RX5) (T := TX5) (N := 8) hx hb hT ku_5 hown hK hP 2 rfl rfl 0 (by decide) (hT _ kw_13_14) (fun _ h9 => h9) (fh_at hf135 1 rfl) dX7_feed_59 ?_
  have hP9 : va_P G vwCl [] H := fun k q h => by simp at h
  have hD9 : va_D A [] := ⟨fun i j p q h => by simp at h, fun k q h => by simp at h⟩
  exact W.iret (v := 20) hx hb hr (fun t ht hW => ⟨⟨20, (), rfl, rfl, by rw [ht]; exact hP9, hD9⟩, hS.F ht⟩) hS.2.2 dX7_feed_62

set_option maxHeartbeats 4000000 in
set_option maxRecDepth 100000 in
theorem c_X7_fault (l : Launch) (G : va_G) (cA : Nat → ClassId) (sz : Nat) (h0 : Nat) (x : Int32) (fs : List Value) (rd : Nat) (rs : List Value) (hf : fh fs 12 [(0, .ref rd)]) (hrd : fh rs 10 [(1, .int 0), (2, .int (-1))]) : Met l yX7_fault (.code yX7_fault cX7_fault 2 (some .int) :: T0) ({ frames := 0, cells := 0, slots := 0, locals := 0 }) (tqP G cA [.ref h0, .int x] [(h0, .inr (7, fs)), (rd, .inr (3, rs))] sz) (tqQi G cA (fun (r : Int32) (u : Unit) => r = ((sp_fault x))) (fun (u : Unit) => []) (va_A [(h0, .inr (7, fs)), (rd, .inr (3, rs))] sz)) 0 0 (va_A [(h0, .inr (7, fs)), (rd, .inr (3, rs))] sz) := by
  refine Met.ofW (cc := cX7_fault) (maxL := 2) (ret := (some .int)) (by decide) rfl ?_
  intro p e s m args below meth c s₁ B hml hv
  obtain ⟨rfl, hsz, hP, hK, hD0, hN⟩ := hv
  have hx := B.exec
  have hb := B.bytes
  have hr := B.returns
  have hts := atoms_spec (ws := .code yX7_fault cX7_fault 2 (some .int) :: T0) B.pre
  have hT : ∀ w ∈ T0, w.before _ s = true := fun w h => hts w (List.mem_cons_of_mem _ h)
  have hown : s.vm.findClass RX7 = some m.cls := findClass_of_methodNamed B.named
  have hlocks := B.notSynchronized
  subst hsz
  have hD := hD0.self (sz := s.heap.size)
  generalize hAe : va_A [(h0, .inr (7, fs)), (rd, .inr (3, rs))] s.heap.size = A at hD ⊢
  have hA : ∀ q : Nat, s.heap.size ≤ q → A q := fun q h => by rw [← hAe]; exact Or.inr h
  have hS : va_S A s.heap s.heap [] := va_S.rf
  have hl := lv_entry ([.ref h0, .int x]) (n := 2) (Nat.le_of_ble_eq_true rfl)
  rw [lg_entry_eq]
  generalize (lg_sl ([.ref h0, .int x]) ++ List.replicate (2 - (lg_sl ([.ref h0, .int x])).length) Slot.unset).toArray = ls at hl ⊢
  have hl : lv_has ls 2 [(0, .ref h0), (1, .int x)] := hl
  obtain ⟨H, hH⟩ : ∃ z, z = s.heap := ⟨_, rfl⟩
  rw [← hH] at hP
  have hS : va_S A s.heap H [] := by rw [hH]; exact hS
  suffices hgo : W p l e _ s m _ below meth c H [] 0 0 _ _ by rw [hH] at hgo; exact hgo
  have hO := hN.2.2.2.2
  have ho_hf := fo_refl fs
  have ho_hrd := fo_refl rs
  refine lv_iload_n hx hb dX7_fault_0 rfl (lv_at hl 1 rfl) ?_
  refine lv_if_ne (tgt := 12) hx hb dX7_fault_1 (by decide) (fun c101 => ?_) (fun c101 => ?_)
  · have k101 := tq_eqn (a := x.toInt) (b := 0) rfl (by decide) c101
    refine lv_iload_n hx hb dX7_fault_12 rfl (lv_at hl 1 rfl) ?_
    refine lv_iconst (v := 1) hx hb dX7_fault_13 (by decide) ?_
    refine lv_icmp_ne (tgt := 27) hx hb dX7_fault_14 (by decide) (fun c102 => ?_) (fun c102 => ?_)
    · have k102 := tq_eqn (a := x.toInt) (b := 1) rfl (by decide) c102
      refine lv_iconst (v := (-1)) hx hb dX7_fault_27 (by decide) ?_
      have hP9 : va_P G vwCl [] H := fun k q h => by simp at h
      have hD9 : va_D A [] := ⟨fun i j p q h => by simp at h, fun k q h => by simp at h⟩
      exact W.iret (v := (-1)) hx hb hr (fun t ht hW => ⟨⟨(-1), (), rfl, (by unfold sp_fault; (repeat' split) <;> first | rfl | (exfalso; omega) | decide), by rw [ht]; exact hP9, hD9⟩, hS.F ht⟩) hS.2.2 dX7_fault_28
    · have k102 := tq_eq (a := x.toInt) (b := 1) rfl (by decide) c102
      refine lv_aload_n hx hb dX7_fault_17 rfl (lv_at hl 0 rfl) ?_
      refine va_get (D := G) (ci := 7) (v := .ref rd) (C := RX7) (T := TX7) (N := 12) hx hb hT ku_7 hown hK hP 0 rfl rfl 0 (by decide) (hT _ kw_1_16) (fun _ h9 => h9) (fh_at hf 0 rfl) dX7_fault_18 ?_
      refine va_get (D := G) (ci := 3) (v := .int (-1)) (C := RX3) (T := TX3) (N := 10) hx hb hT ku_3 hown hK hP 1 rfl rfl 2 (by decide) (hT _ kw_27_18) (fun _ h9 => h9) (fh_at hrd 1 rfl) dX7_fault_21 ?_
      refine lv_goto (tgt := 28) hx hb dX7_fault_24 (by decide) ?_
      have hP9 : va_P G vwCl [] H := fun k q h => by simp at h
      have hD9 : va_D A [] := ⟨fun i j p q h => by simp at h, fun k q h => by simp at h⟩
      exact W.iret (v := (-1)) hx hb hr (fun t ht hW => ⟨⟨(-1), (), rfl, (by unfold sp_fault; (repeat' split) <;> first | rfl | (exfalso; omega) | decide), by rw [ht]; exact hP9, hD9⟩, hS.F ht⟩) hS.2.2 dX7_fault_28
  · have k101 := tq_eq (a := x.toInt) (b := 0) rfl (by decide) c101
    refine lv_aload_n hx hb dX7_fault_4 rfl (lv_at hl 0 rfl) ?_
    refine va_get (D := G) (ci := 7) (v := .ref rd) (C := RX7) (T := TX7) (N := 12) hx hb hT ku_7 hown hK hP 0 rfl rfl 0 (by decide) (hT _ kw_1_16) (fun _ h9 => h9) (fh_at hf 0 rfl) dX7_fault_5 ?_
    refine va_get (D := G) (ci := 3) (v := .int 0) (C := RX3) (T := TX3) (N := 10) hx hb hT ku_3 hown hK hP 1 rfl rfl 1 (by decide) (hT _ kw_27_17) (fun _ h9 => h9) (fh_at hrd 0 rfl) dX7_fault_8 ?_
    have hP9 : va_P G vwCl [] H := fun k q h => by simp at h
    have hD9 : va_D A [] := ⟨fun i j p q h => by simp at h, fun k q h => by simp at h⟩
    exact W.iret (v := 0) hx hb hr (fun t ht hW => ⟨⟨0, (), rfl, (by unfold sp_fault; (repeat' split) <;> first | rfl | (exfalso; omega) | decide), by rw [ht]; exact hP9, hD9⟩, hS.F ht⟩) hS.2.2 dX7_fault_11

set_option maxHeartbeats 4000000 in
set_option maxRecDepth 100000 in
theorem c_X7_named (l : Launch) (G : va_G) (cA : Nat → ClassId) (sz : Nat) (h0 : Nat) (x : Int32) (fs : List Value) (pa : Nat) (ps : List Value) (hf : fh fs 12 [(1, .ref pa)]) (hp : fh ps 19 [(1, .int 0)]) : Met l yX7_named (.code yX7_named cX7_named 2 (some .int) :: T0) ({ frames := 1, cells := 0, slots := 0, locals := 22 }) (tqP G cA [.ref h0, .int x] [(h0, .inr (7, fs)), (pa, .inr (2, ps))] sz) (tqQi G cA (fun (r : Int32) (u : Unit) => r = (-1)) (fun (u : Unit) => []) (va_A [(h0, .inr (7, fs)), (pa, .inr (2, ps))] sz)) 0 0 (va_A [(h0, .inr (7, fs)), (pa, .inr (2, ps))] sz) := by
  refine Met.ofW (cc := cX7_named) (maxL := 2) (ret := (some .int)) (by decide) rfl ?_
  intro p e s m args below meth c s₁ B hml hv
  obtain ⟨rfl, hsz, hP, hK, hD0, hN⟩ := hv
  have hx := B.exec
  have hb := B.bytes
  have hr := B.returns
  have hts := atoms_spec (ws := .code yX7_named cX7_named 2 (some .int) :: T0) B.pre
  have hT : ∀ w ∈ T0, w.before _ s = true := fun w h => hts w (List.mem_cons_of_mem _ h)
  have hown : s.vm.findClass RX7 = some m.cls := findClass_of_methodNamed B.named
  have hlocks := B.notSynchronized
  subst hsz
  have hD := hD0.self (sz := s.heap.size)
  generalize hAe : va_A [(h0, .inr (7, fs)), (pa, .inr (2, ps))] s.heap.size = A at hD ⊢
  have hA : ∀ q : Nat, s.heap.size ≤ q → A q := fun q h => by rw [← hAe]; exact Or.inr h
  have hS : va_S A s.heap s.heap [] := va_S.rf
  have hl := lv_entry ([.ref h0, .int x]) (n := 2) (Nat.le_of_ble_eq_true rfl)
  rw [lg_entry_eq]
  generalize (lg_sl ([.ref h0, .int x]) ++ List.replicate (2 - (lg_sl ([.ref h0, .int x])).length) Slot.unset).toArray = ls at hl ⊢
  have hl : lv_has ls 2 [(0, .ref h0), (1, .int x)] := hl
  obtain ⟨H, hH⟩ : ∃ z, z = s.heap := ⟨_, rfl⟩
  rw [← hH] at hP
  have hS : va_S A s.heap H [] := by rw [hH]; exact hS
  suffices hgo : W p l e _ s m _ below meth c H [] 0 0 _ _ by rw [hH] at hgo; exact hgo
  have hO := hN.2.2.2.2
  have ho_hf := fo_refl fs
  have ho_hp := fo_refl ps
  refine lv_aload_n hx hb dX7_named_0 rfl (lv_at hl 0 rfl) ?_
  refine va_get (D := G) (ci := 7) (v := .ref pa) (C := RX7) (T := TX7) (N := 12) hx hb hT ku_7 hown hK hP 0 rfl rfl 1 (by decide) (hT _ kw_1_20) (fun _ h9 => h9) (fh_at hf 0 rfl) dX7_named_1 ?_
  refine lv_iload_n hx hb dX7_named_4 rfl (lv_at hl 1 rfl) ?_
  refine tq_ci (wr := [(h0, .inr (7, fs))]) hP hD hS hA [1] [0] rfl rfl (by decide) (by decide) (va_runV (As := [.int x]) (rest := []) ⟨hx, hb, hml, hown, hT⟩ (c_X2_personNamed l G cA H.size pa x ps (fh_sub hp [0] rfl)) (cwV 1 hT (tq_gV kw_28_3 kw_17_19 kw_17_20 kw_1_19 kw_17_21) rfl rfl rfl (by decide +kernel) ⟨Nat.le_of_ble_eq_true rfl, Nat.le_of_ble_eq_true rfl⟩) ⟨(tq_pre (isC := [1]) hP hD hK hN rfl (by decide)).1, va_recv hK hP (ci := 2) (q0 := 1) rfl rfl, (tq_pre (isC := [1]) hP hD hK hN rfl (by decide)).2⟩ rfl rfl hl.1 rfl (lv_room (Nat.le_of_ble_eq_true rfl)) dX7_named_5 ⟨Nat.le_of_ble_eq_true rfl, Nat.le_of_ble_eq_true rfl⟩) (fun r101 u102 H locs hw103 hP hD hS => ?_)
  refine W.widen (k := 0) (n := 0) (Nat.le_of_ble_eq_true rfl) (Nat.le_of_ble_eq_true rfl) ?_
  have hr104 := hw103
  subst hr104
  have hP : va_P G vwCl [(h0, .inr (7, fs)), (pa, .inr (2, ps))] H := hP
  have hD : va_D A [(h0, .inr (7, fs)), (pa, .inr (2, ps))] := hD
  have hP9 : va_P G vwCl [] H := fun k q h => by simp at h
  have hD9 : va_D A [] := ⟨fun i j p q h => by simp at h, fun k q h => by simp at h⟩
  exact W.iret (v := (-1)) hx hb hr (fun t ht hW => ⟨⟨(-1), (), rfl, rfl, by rw [ht]; exact hP9, hD9⟩, hS.F ht⟩) hS.2.2 dX7_named_8

set_option maxHeartbeats 4000000 in
set_option maxRecDepth 100000 in
theorem c_X7_piece (l : Launch) (G : va_G) (cA : Nat → ClassId) (sz : Nat) (h0 : Nat) (x : Int32) (y : Int32) (fs : List Value) (pa : Nat) (ps : List Value) (hf : fh fs 12 [(1, .ref pa)]) (hp : fh ps 19 [(2, .int 0)]) : Met l yX7_piece (.code yX7_piece cX7_piece 3 (some .int) :: T0) ({ frames := 1, cells := 0, slots := 0, locals := 21 }) (tqP G cA [.ref h0, .int x, .int y] [(h0, .inr (7, fs)), (pa, .inr (2, ps))] sz) (tqQi G cA (fun (r : Int32) (u : Unit) => r = (-1)) (fun (u : Unit) => []) (va_A [(h0, .inr (7, fs)), (pa, .inr (2, ps))] sz)) 0 0 (va_A [(h0, .inr (7, fs)), (pa, .inr (2, ps))] sz) := by
  refine Met.ofW (cc := cX7_piece) (maxL := 3) (ret := (some .int)) (by decide) rfl ?_
  intro p e s m args below meth c s₁ B hml hv
  obtain ⟨rfl, hsz, hP, hK, hD0, hN⟩ := hv
  have hx := B.exec
  have hb := B.bytes
  have hr := B.returns
  have hts := atoms_spec (ws := .code yX7_piece cX7_piece 3 (some .int) :: T0) B.pre
  have hT : ∀ w ∈ T0, w.before _ s = true := fun w h => hts w (List.mem_cons_of_mem _ h)
  have hown : s.vm.findClass RX7 = some m.cls := findClass_of_methodNamed B.named
  have hlocks := B.notSynchronized
  subst hsz
  have hD := hD0.self (sz := s.heap.size)
  generalize hAe : va_A [(h0, .inr (7, fs)), (pa, .inr (2, ps))] s.heap.size = A at hD ⊢
  have hA : ∀ q : Nat, s.heap.size ≤ q → A q := fun q h => by rw [← hAe]; exact Or.inr h
  have hS : va_S A s.heap s.heap [] := va_S.rf
  have hl := lv_entry ([.ref h0, .int x, .int y]) (n := 3) (Nat.le_of_ble_eq_true rfl)
  rw [lg_entry_eq]
  generalize (lg_sl ([.ref h0, .int x, .int y]) ++ List.replicate (3 - (lg_sl ([.ref h0, .int x, .int y])).length) Slot.unset).toArray = ls at hl ⊢
  have hl : lv_has ls 3 [(0, .ref h0), (1, .int x), (2, .int y)] := hl
  obtain ⟨H, hH⟩ : ∃ z, z = s.heap := ⟨_, rfl⟩
  rw [← hH] at hP
  have hS : va_S A s.heap H [] := by rw [hH]; exact hS
  suffices hgo : W p l e _ s m _ below meth c H [] 0 0 _ _ by rw [hH] at hgo; exact hgo
  have hO := hN.2.2.2.2
  have ho_hf := fo_refl fs
  have ho_hp := fo_refl ps
  refine lv_aload_n hx hb dX7_piece_0 rfl (lv_at hl 0 rfl) ?_
  refine lv_iload_n hx hb dX7_piece_1 rfl (lv_at hl 1 rfl) ?_
  refine tq_ci (wr := []) hP hD hS hA [0, 1] [] rfl rfl (by decide) (by decide) (va_runV (As := [.int x]) (rest := []) ⟨hx, hb, hml, hown, hT⟩ (c_X7_isPiece l G cA H.size h0 x fs pa ps (fh_sub hf [0] rfl) (fh_sub hp [0] rfl)) (cwV 1 hT (tq_gV kw_30_9 kw_30_10 kw_30_11 kw_1_2 kw_30_12) rfl rfl rfl (by decide +kernel) ⟨Nat.le_of_ble_eq_true rfl, Nat.le_of_ble_eq_true rfl⟩) ⟨(tq_pre (isC := [0, 1]) hP hD hK hN rfl (by decide)).1, va_recv hK hP (ci := 7) (q0 := 0) rfl rfl, (tq_pre (isC := [0, 1]) hP hD hK hN rfl (by decide)).2⟩ rfl rfl hl.1 rfl (lv_room (Nat.le_of_ble_eq_true rfl)) dX7_piece_2 ⟨Nat.le_of_ble_eq_true rfl, Nat.le_of_ble_eq_true rfl⟩) (fun r101 u102 H locs hw103 hP hD hS => ?_)
  refine W.widen (k := 0) (n := 0) (Nat.le_of_ble_eq_true rfl) (Nat.le_of_ble_eq_true rfl) ?_
  have hr104 := hw103
  subst hr104
  have hP : va_P G vwCl [(h0, .inr (7, fs)), (pa, .inr (2, ps))] H := hP
  have hD : va_D A [(h0, .inr (7, fs)), (pa, .inr (2, ps))] := hD
  refine lv_if_ne (tgt := 10) hx hb dX7_piece_5 (by decide) (fun c105 => absurd (by decide) c105) (fun c105 => ?_)
  refine lv_iconst (v := (-1)) hx hb dX7_piece_8 (by decide) ?_
  have hP9 : va_P G vwCl [] H := fun k q h => by simp at h
  have hD9 : va_D A [] := ⟨fun i j p q h => by simp at h, fun k q h => by simp at h⟩
  exact W.iret (v := (-1)) hx hb hr (fun t ht hW => ⟨⟨(-1), (), rfl, rfl, by rw [ht]; exact hP9, hD9⟩, hS.F ht⟩) hS.2.2 dX7_piece_9

set_option maxHeartbeats 4000000 in
set_option maxRecDepth 100000 in
theorem c_X7_place (l : Launch) (G : va_G) (cA : Nat → ClassId) (sz : Nat) (h0 : Nat) (x : Int32) (y : Int32) (fs : List Value) (pa : Nat) (ps : List Value) (hf : fh fs 12 [(1, .ref pa)]) (hp : fh ps 19 [(0, .int 0)]) : Met l yX7_place (.code yX7_place cX7_place 3 (some .int) :: T0) ({ frames := 1, cells := 0, slots := 0, locals := 21 }) (tqP G cA [.ref h0, .int x, .int y] [(h0, .inr (7, fs)), (pa, .inr (2, ps))] sz) (tqQi G cA (fun (r : Int32) (u : Unit) => r = (-1)) (fun (u : Unit) => []) (va_A [(h0, .inr (7, fs)), (pa, .inr (2, ps))] sz)) 0 0 (va_A [(h0, .inr (7, fs)), (pa, .inr (2, ps))] sz) := by
  refine Met.ofW (cc := cX7_place) (maxL := 3) (ret := (some .int)) (by decide) rfl ?_
  intro p e s m args below meth c s₁ B hml hv
  obtain ⟨rfl, hsz, hP, hK, hD0, hN⟩ := hv
  have hx := B.exec
  have hb := B.bytes
  have hr := B.returns
  have hts := atoms_spec (ws := .code yX7_place cX7_place 3 (some .int) :: T0) B.pre
  have hT : ∀ w ∈ T0, w.before _ s = true := fun w h => hts w (List.mem_cons_of_mem _ h)
  have hown : s.vm.findClass RX7 = some m.cls := findClass_of_methodNamed B.named
  have hlocks := B.notSynchronized
  subst hsz
  have hD := hD0.self (sz := s.heap.size)
  generalize hAe : va_A [(h0, .inr (7, fs)), (pa, .inr (2, ps))] s.heap.size = A at hD ⊢
  have hA : ∀ q : Nat, s.heap.size ≤ q → A q := fun q h => by rw [← hAe]; exact Or.inr h
  have hS : va_S A s.heap s.heap [] := va_S.rf
  have hl := lv_entry ([.ref h0, .int x, .int y]) (n := 3) (Nat.le_of_ble_eq_true rfl)
  rw [lg_entry_eq]
  generalize (lg_sl ([.ref h0, .int x, .int y]) ++ List.replicate (3 - (lg_sl ([.ref h0, .int x, .int y])).length) Slot.unset).toArray = ls at hl ⊢
  have hl : lv_has ls 3 [(0, .ref h0), (1, .int x), (2, .int y)] := hl
  obtain ⟨H, hH⟩ : ∃ z, z = s.heap := ⟨_, rfl⟩
  rw [← hH] at hP
  have hS : va_S A s.heap H [] := by rw [hH]; exact hS
  suffices hgo : W p l e _ s m _ below meth c H [] 0 0 _ _ by rw [hH] at hgo; exact hgo
  have hO := hN.2.2.2.2
  have ho_hf := fo_refl fs
  have ho_hp := fo_refl ps
  refine lv_aload_n hx hb dX7_place_0 rfl (lv_at hl 0 rfl) ?_
  refine lv_iload_n hx hb dX7_place_1 rfl (lv_at hl 1 rfl) ?_
  refine tq_ci (wr := []) hP hD hS hA [0, 1] [] rfl rfl (by decide) (by decide) (va_runV (As := [.int x]) (rest := []) ⟨hx, hb, hml, hown, hT⟩ (c_X7_isPlace l G cA H.size h0 x fs pa ps (fh_sub hf [0] rfl) (fh_sub hp [0] rfl)) (cwV 1 hT (tq_gV kw_32_2 kw_32_3 kw_32_4 kw_1_2 kw_32_5) rfl rfl rfl (by decide +kernel) ⟨Nat.le_of_ble_eq_true rfl, Nat.le_of_ble_eq_true rfl⟩) ⟨(tq_pre (isC := [0, 1]) hP hD hK hN rfl (by decide)).1, va_recv hK hP (ci := 7) (q0 := 0) rfl rfl, (tq_pre (isC := [0, 1]) hP hD hK hN rfl (by decide)).2⟩ rfl rfl hl.1 rfl (lv_room (Nat.le_of_ble_eq_true rfl)) dX7_place_2 ⟨Nat.le_of_ble_eq_true rfl, Nat.le_of_ble_eq_true rfl⟩) (fun r101 u102 H locs hw103 hP hD hS => ?_)
  refine W.widen (k := 0) (n := 0) (Nat.le_of_ble_eq_true rfl) (Nat.le_of_ble_eq_true rfl) ?_
  have hr104 := hw103
  subst hr104
  have hP : va_P G vwCl [(h0, .inr (7, fs)), (pa, .inr (2, ps))] H := hP
  have hD : va_D A [(h0, .inr (7, fs)), (pa, .inr (2, ps))] := hD
  refine lv_if_ne (tgt := 10) hx hb dX7_place_5 (by decide) (fun c105 => absurd (by decide) c105) (fun c105 => ?_)
  refine lv_iconst (v := (-1)) hx hb dX7_place_8 (by decide) ?_
  have hP9 : va_P G vwCl [] H := fun k q h => by simp at h
  have hD9 : va_D A [] := ⟨fun i j p q h => by simp at h, fun k q h => by simp at h⟩
  exact W.iret (v := (-1)) hx hb hr (fun t ht hW => ⟨⟨(-1), (), rfl, rfl, by rw [ht]; exact hP9, hD9⟩, hS.F ht⟩) hS.2.2 dX7_place_9

set_option maxHeartbeats 4000000 in
set_option maxRecDepth 100000 in
theorem c_X7_waits (l : Launch) (G : va_G) (cA : Nat → ClassId) (sz : Nat) (h0 : Nat) (x : Int32) (fs : List Value) (pa : Nat) (ps : List Value) (sa : Nat) (fsec : Nat → Int32) (hf : fh fs 12 [(1, .ref pa)]) (hp : fh ps 19 [(17, .ref sa)]) (hsec : ∀ j, j < 21 → fsec j = 60) : Met l yX7_waits (.code yX7_waits cX7_waits 2 (some .int) :: T0) ({ frames := 0, cells := 0, slots := 0, locals := 0 }) (tqP G cA [.ref h0, .int x] [(h0, .inr (7, fs)), (pa, .inr (2, ps)), (sa, .inl (cA 0, 21, .inl fsec))] sz) (tqQi G cA (fun (r : Int32) (u : Unit) => r = ((sp_waits x))) (fun (u : Unit) => []) (va_A [(h0, .inr (7, fs)), (pa, .inr (2, ps)), (sa, .inl (cA 0, 21, .inl fsec))] sz)) 0 0 (va_A [(h0, .inr (7, fs)), (pa, .inr (2, ps)), (sa, .inl (cA 0, 21, .inl fsec))] sz) := by
  refine Met.ofW (cc := cX7_waits) (maxL := 2) (ret := (some .int)) (by decide) rfl ?_
  intro p e s m args below meth c s₁ B hml hv
  obtain ⟨rfl, hsz, hP, hK, hD0, hN⟩ := hv
  have hx := B.exec
  have hb := B.bytes
  have hr := B.returns
  have hts := atoms_spec (ws := .code yX7_waits cX7_waits 2 (some .int) :: T0) B.pre
  have hT : ∀ w ∈ T0, w.before _ s = true := fun w h => hts w (List.mem_cons_of_mem _ h)
  have hown : s.vm.findClass RX7 = some m.cls := findClass_of_methodNamed B.named
  have hlocks := B.notSynchronized
  subst hsz
  have hD := hD0.self (sz := s.heap.size)
  generalize hAe : va_A [(h0, .inr (7, fs)), (pa, .inr (2, ps)), (sa, .inl (cA 0, 21, .inl fsec))] s.heap.size = A at hD ⊢
  have hA : ∀ q : Nat, s.heap.size ≤ q → A q := fun q h => by rw [← hAe]; exact Or.inr h
  have hS : va_S A s.heap s.heap [] := va_S.rf
  have hl := lv_entry ([.ref h0, .int x]) (n := 2) (Nat.le_of_ble_eq_true rfl)
  rw [lg_entry_eq]
  generalize (lg_sl ([.ref h0, .int x]) ++ List.replicate (2 - (lg_sl ([.ref h0, .int x])).length) Slot.unset).toArray = ls at hl ⊢
  have hl : lv_has ls 2 [(0, .ref h0), (1, .int x)] := hl
  obtain ⟨H, hH⟩ : ∃ z, z = s.heap := ⟨_, rfl⟩
  rw [← hH] at hP
  have hS : va_S A s.heap H [] := by rw [hH]; exact hS
  suffices hgo : W p l e _ s m _ below meth c H [] 0 0 _ _ by rw [hH] at hgo; exact hgo
  have hO := hN.2.2.2.2
  have ho_hf := fo_refl fs
  have ho_hp := fo_refl ps
  refine lv_iload_n hx hb dX7_waits_0 rfl (lv_at hl 1 rfl) ?_
  refine lv_if_lt (tgt := 10) hx hb dX7_waits_1 (by decide) (fun c101 => ?_) (fun c101 => ?_)
  · have k101 := tq_lt (a := x.toInt) (b := 0) rfl (by decide) c101
    refine lv_iconst (v := (-1)) hx hb dX7_waits_10 (by decide) ?_
    refine lv_goto (tgt := 23) hx hb dX7_waits_11 (by decide) ?_
    have hP9 : va_P G vwCl [] H := fun k q h => by simp at h
    have hD9 : va_D A [] := ⟨fun i j p q h => by simp at h, fun k q h => by simp at h⟩
    exact W.iret (v := (-1)) hx hb hr (fun t ht hW => ⟨⟨(-1), (), rfl, (by unfold sp_waits; (repeat' split) <;> first | rfl | (exfalso; omega) | decide), by rw [ht]; exact hP9, hD9⟩, hS.F ht⟩) hS.2.2 dX7_waits_23
  · have k101 := tq_ltn (a := x.toInt) (b := 0) rfl (by decide) c101
    refine lv_iload_n hx hb dX7_waits_4 rfl (lv_at hl 1 rfl) ?_
    refine lv_bipush (v := 20) hx hb dX7_waits_5 (by decide) ?_
    refine lv_icmp_le (tgt := 14) hx hb dX7_waits_7 (by decide) (fun c102 => ?_) (fun c102 => ?_)
    · have k102 := tq_le (a := x.toInt) (b := 20) rfl (by decide) c102
      refine lv_aload_n hx hb dX7_waits_14 rfl (lv_at hl 0 rfl) ?_
      refine va_get (D := G) (ci := 7) (v := .ref pa) (C := RX7) (T := TX7) (N := 12) hx hb hT ku_7 hown hK hP 0 rfl rfl 1 (by decide) (hT _ kw_1_20) (fun _ h9 => h9) (fh_at hf 0 rfl) dX7_waits_15 ?_
      refine va_get (D := G) (ci := 2) (v := .ref sa) (C := RX2) (T := TX2) (N := 19) hx hb hT ku_2 hown hK hP 1 rfl rfl 17 (by decide) (hT _ kw_33_3) (fun _ h9 => h9) (fh_at hp 0 rfl) dX7_waits_18 ?_
      refine lv_iload_n hx hb dX7_waits_21 rfl (lv_at hl 1 rfl) ?_
      have hin103 : vp_in x 21 := vp_in_iff.mpr ⟨by omega, by omega⟩
      refine va_iald (i := x) hx hb hK hP 2 0 rfl rfl hin103 dX7_waits_22 ?_
      refine tq_i (w := 60) (hsec _ (tq_cx (by omega) (by decide))) ?_
      have hP9 : va_P G vwCl [] H := fun k q h => by simp at h
      have hD9 : va_D A [] := ⟨fun i j p q h => by simp at h, fun k q h => by simp at h⟩
      exact W.iret (v := 60) hx hb hr (fun t ht hW => ⟨⟨60, (), rfl, (by unfold sp_waits; (repeat' split) <;> first | rfl | (exfalso; omega) | decide), by rw [ht]; exact hP9, hD9⟩, hS.F ht⟩) hS.2.2 dX7_waits_23
    · have k102 := tq_len (a := x.toInt) (b := 20) rfl (by decide) c102
      refine lv_iconst (v := (-1)) hx hb dX7_waits_10 (by decide) ?_
      refine lv_goto (tgt := 23) hx hb dX7_waits_11 (by decide) ?_
      have hP9 : va_P G vwCl [] H := fun k q h => by simp at h
      have hD9 : va_D A [] := ⟨fun i j p q h => by simp at h, fun k q h => by simp at h⟩
      exact W.iret (v := (-1)) hx hb hr (fun t ht hW => ⟨⟨(-1), (), rfl, (by unfold sp_waits; (repeat' split) <;> first | rfl | (exfalso; omega) | decide), by rw [ht]; exact hP9, hD9⟩, hS.F ht⟩) hS.2.2 dX7_waits_23

set_option maxHeartbeats 4000000 in
set_option maxRecDepth 100000 in
theorem c_X7_law (l : Launch) (G : va_G) (cA : Nat → ClassId) (sz : Nat) (h0 : Nat) (x : Int32) (y : Int32) (fs : List Value) (pa : Nat) (ps : List Value) (hf : fh fs 12 [(1, .ref pa)]) (hp : fh ps 19 [(2, .int 0)]) : Met l yX7_law (.code yX7_law cX7_law 3 (some .long) :: T0) ({ frames := 1, cells := 0, slots := 0, locals := 21 }) (tqP G cA [.ref h0, .int x, .int y] [(h0, .inr (7, fs)), (pa, .inr (2, ps))] sz) (tqQl G cA (fun (r : Int64) (u : Unit) => r = (-9223372036854775808)) (fun (u : Unit) => []) (va_A [(h0, .inr (7, fs)), (pa, .inr (2, ps))] sz)) 0 0 (va_A [(h0, .inr (7, fs)), (pa, .inr (2, ps))] sz) := by
  refine Met.ofW (cc := cX7_law) (maxL := 3) (ret := (some .long)) (by decide) rfl ?_
  intro p e s m args below meth c s₁ B hml hv
  obtain ⟨rfl, hsz, hP, hK, hD0, hN⟩ := hv
  have hx := B.exec
  have hb := B.bytes
  have hr := B.returns
  have hts := atoms_spec (ws := .code yX7_law cX7_law 3 (some .long) :: T0) B.pre
  have hT : ∀ w ∈ T0, w.before _ s = true := fun w h => hts w (List.mem_cons_of_mem _ h)
  have hown : s.vm.findClass RX7 = some m.cls := findClass_of_methodNamed B.named
  have hlocks := B.notSynchronized
  subst hsz
  have hD := hD0.self (sz := s.heap.size)
  generalize hAe : va_A [(h0, .inr (7, fs)), (pa, .inr (2, ps))] s.heap.size = A at hD ⊢
  have hA : ∀ q : Nat, s.heap.size ≤ q → A q := fun q h => by rw [← hAe]; exact Or.inr h
  have hS : va_S A s.heap s.heap [] := va_S.rf
  have hl := lv_entry ([.ref h0, .int x, .int y]) (n := 3) (Nat.le_of_ble_eq_true rfl)
  rw [lg_entry_eq]
  generalize (lg_sl ([.ref h0, .int x, .int y]) ++ List.replicate (3 - (lg_sl ([.ref h0, .int x, .int y])).length) Slot.unset).toArray = ls at hl ⊢
  have hl : lv_has ls 3 [(0, .ref h0), (1, .int x), (2, .int y)] := hl
  obtain ⟨H, hH⟩ : ∃ z, z = s.heap := ⟨_, rfl⟩
  rw [← hH] at hP
  have hS : va_S A s.heap H [] := by rw [hH]; exact hS
  suffices hgo : W p l e _ s m _ below meth c H [] 0 0 _ _ by rw [hH] at hgo; exact hgo
  have hO := hN.2.2.2.2
  have ho_hf := fo_refl fs
  have ho_hp := fo_refl ps
  refine lv_iload_n hx hb dX7_law_0 rfl (lv_at hl 1 rfl) ?_
  refine lv_if_lt (tgt := 17) hx hb dX7_law_1 (by decide) (fun c101 => ?_) (fun c101 => ?_)
  · have k101 := tq_lt (a := x.toInt) (b := 0) rfl (by decide) c101
    refine lv_ldc2 (v := (-9223372036854775808)) hx hb hown (hT _ kw_33_12) dX7_law_17 ?_
    have hP9 : va_P G vwCl [] H := fun k q h => by simp at h
    have hD9 : va_D A [] := ⟨fun i j p q h => by simp at h, fun k q h => by simp at h⟩
    exact W.lret (v := (-9223372036854775808)) hx hb hr (fun t ht hW => ⟨⟨(-9223372036854775808), (), rfl, rfl, by rw [ht]; exact hP9, hD9⟩, hS.F ht⟩) hS.2.2 dX7_law_20
  · have k101 := tq_ltn (a := x.toInt) (b := 0) rfl (by decide) c101
    refine lv_iload_n hx hb dX7_law_4 rfl (lv_at hl 1 rfl) ?_
    refine lv_iconst (v := 3) hx hb dX7_law_5 (by decide) ?_
    refine lv_icmp_ge (tgt := 17) hx hb dX7_law_6 (by decide) (fun c102 => ?_) (fun c102 => ?_)
    · have k102 := tq_le (a := 3) (b := x.toInt) (by decide) rfl c102
      refine lv_ldc2 (v := (-9223372036854775808)) hx hb hown (hT _ kw_33_12) dX7_law_17 ?_
      have hP9 : va_P G vwCl [] H := fun k q h => by simp at h
      have hD9 : va_D A [] := ⟨fun i j p q h => by simp at h, fun k q h => by simp at h⟩
      exact W.lret (v := (-9223372036854775808)) hx hb hr (fun t ht hW => ⟨⟨(-9223372036854775808), (), rfl, rfl, by rw [ht]; exact hP9, hD9⟩, hS.F ht⟩) hS.2.2 dX7_law_20
    · have k102 := tq_len (a := 3) (b := x.toInt) (by decide) rfl c102
      refine lv_aload_n hx hb dX7_law_9 rfl (lv_at hl 0 rfl) ?_
      refine lv_iload_n hx hb dX7_law_10 rfl (lv_at hl 2 rfl) ?_
      refine tq_ci (wr := []) hP hD hS hA [0, 1] [] rfl rfl (by decide) (by decide) (va_runV (As := [.int y]) (rest := []) ⟨hx, hb, hml, hown, hT⟩ (c_X7_isPiece l G cA H.size h0 y fs pa ps (fh_sub hf [0] rfl) (fh_sub hp [0] rfl)) (cwV 1 hT (tq_gV kw_30_9 kw_30_10 kw_30_11 kw_1_2 kw_30_12) rfl rfl rfl (by decide +kernel) ⟨Nat.le_of_ble_eq_true rfl, Nat.le_of_ble_eq_true rfl⟩) ⟨(tq_pre (isC := [0, 1]) hP hD hK hN rfl (by decide)).1, va_recv hK hP (ci := 7) (q0 := 0) rfl rfl, (tq_pre (isC := [0, 1]) hP hD hK hN rfl (by decide)).2⟩ rfl rfl hl.1 rfl (lv_room (Nat.le_of_ble_eq_true rfl)) dX7_law_11 ⟨Nat.le_of_ble_eq_true rfl, Nat.le_of_ble_eq_true rfl⟩) (fun r103 u104 H locs hw105 hP hD hS => ?_)
      refine W.widen (k := 0) (n := 0) (Nat.le_of_ble_eq_true rfl) (Nat.le_of_ble_eq_true rfl) ?_
      have hr106 := hw105
      subst hr106
      have hP : va_P G vwCl [(h0, .inr (7, fs)), (pa, .inr (2, ps))] H := hP
      have hD : va_D A [(h0, .inr (7, fs)), (pa, .inr (2, ps))] := hD
      refine lv_if_ne (tgt := 21) hx hb dX7_law_14 (by decide) (fun c107 => absurd (by decide) c107) (fun c107 => ?_)
      refine lv_ldc2 (v := (-9223372036854775808)) hx hb hown (hT _ kw_33_12) dX7_law_17 ?_
      have hP9 : va_P G vwCl [] H := fun k q h => by simp at h
      have hD9 : va_D A [] := ⟨fun i j p q h => by simp at h, fun k q h => by simp at h⟩
      exact W.lret (v := (-9223372036854775808)) hx hb hr (fun t ht hW => ⟨⟨(-9223372036854775808), (), rfl, rfl, by rw [ht]; exact hP9, hD9⟩, hS.F ht⟩) hS.2.2 dX7_law_20

set_option maxHeartbeats 4000000 in
set_option maxRecDepth 100000 in
theorem c_X7_move (l : Launch) (G : va_G) (cA : Nat → ClassId) (sz : Nat) (h0 : Nat) (x : Int32) (y : Int32) (fs : List Value) (pa : Nat) (ps : List Value) (hf : fh fs 12 [(1, .ref pa)]) (hp : fh ps 19 [(2, .int 0)]) : Met l yX7_move (.code yX7_move cX7_move 3 (some .boolean) :: T0) ({ frames := 1, cells := 0, slots := 0, locals := 21 }) (tqP G cA [.ref h0, .int x, .int y] [(h0, .inr (7, fs)), (pa, .inr (2, ps))] sz) (tqQi G cA (fun (r : Int32) (u : Unit) => r = 0) (fun (u : Unit) => []) (va_A [(h0, .inr (7, fs)), (pa, .inr (2, ps))] sz)) 0 0 (va_A [(h0, .inr (7, fs)), (pa, .inr (2, ps))] sz) := by
  refine Met.ofW (cc := cX7_move) (maxL := 3) (ret := (some .boolean)) (by decide) rfl ?_
  intro p e s m args below meth c s₁ B hml hv
  obtain ⟨rfl, hsz, hP, hK, hD0, hN⟩ := hv
  have hx := B.exec
  have hb := B.bytes
  have hr := B.returns
  have hts := atoms_spec (ws := .code yX7_move cX7_move 3 (some .boolean) :: T0) B.pre
  have hT : ∀ w ∈ T0, w.before _ s = true := fun w h => hts w (List.mem_cons_of_mem _ h)
  have hown : s.vm.findClass RX7 = some m.cls := findClass_of_methodNamed B.named
  have hlocks := B.notSynchronized
  subst hsz
  have hD := hD0.self (sz := s.heap.size)
  generalize hAe : va_A [(h0, .inr (7, fs)), (pa, .inr (2, ps))] s.heap.size = A at hD ⊢
  have hA : ∀ q : Nat, s.heap.size ≤ q → A q := fun q h => by rw [← hAe]; exact Or.inr h
  have hS : va_S A s.heap s.heap [] := va_S.rf
  have hl := lv_entry ([.ref h0, .int x, .int y]) (n := 3) (Nat.le_of_ble_eq_true rfl)
  rw [lg_entry_eq]
  generalize (lg_sl ([.ref h0, .int x, .int y]) ++ List.replicate (3 - (lg_sl ([.ref h0, .int x, .int y])).length) Slot.unset).toArray = ls at hl ⊢
  have hl : lv_has ls 3 [(0, .ref h0), (1, .int x), (2, .int y)] := hl
  obtain ⟨H, hH⟩ : ∃ z, z = s.heap := ⟨_, rfl⟩
  rw [← hH] at hP
  have hS : va_S A s.heap H [] := by rw [hH]; exact hS
  suffices hgo : W p l e _ s m _ below meth c H [] 0 0 _ _ by rw [hH] at hgo; exact hgo
  have hO := hN.2.2.2.2
  have ho_hf := fo_refl fs
  have ho_hp := fo_refl ps
  refine lv_aload_n hx hb dX7_move_0 rfl (lv_at hl 0 rfl) ?_
  refine lv_iload_n hx hb dX7_move_1 rfl (lv_at hl 1 rfl) ?_
  refine tq_ci (wr := []) hP hD hS hA [0, 1] [] rfl rfl (by decide) (by decide) (va_runV (As := [.int x]) (rest := []) ⟨hx, hb, hml, hown, hT⟩ (c_X7_isPiece l G cA H.size h0 x fs pa ps (fh_sub hf [0] rfl) (fh_sub hp [0] rfl)) (cwV 1 hT (tq_gV kw_30_9 kw_30_10 kw_30_11 kw_1_2 kw_30_12) rfl rfl rfl (by decide +kernel) ⟨Nat.le_of_ble_eq_true rfl, Nat.le_of_ble_eq_true rfl⟩) ⟨(tq_pre (isC := [0, 1]) hP hD hK hN rfl (by decide)).1, va_recv hK hP (ci := 7) (q0 := 0) rfl rfl, (tq_pre (isC := [0, 1]) hP hD hK hN rfl (by decide)).2⟩ rfl rfl hl.1 rfl (lv_room (Nat.le_of_ble_eq_true rfl)) dX7_move_2 ⟨Nat.le_of_ble_eq_true rfl, Nat.le_of_ble_eq_true rfl⟩) (fun r101 u102 H locs hw103 hP hD hS => ?_)
  refine W.widen (k := 0) (n := 0) (Nat.le_of_ble_eq_true rfl) (Nat.le_of_ble_eq_true rfl) ?_
  have hr104 := hw103
  subst hr104
  have hP : va_P G vwCl [(h0, .inr (7, fs)), (pa, .inr (2, ps))] H := hP
  have hD : va_D A [(h0, .inr (7, fs)), (pa, .inr (2, ps))] := hD
  refine lv_if_eq (tgt := 40) hx hb dX7_move_5 (by decide) (fun c105 => ?_) (fun c105 => absurd (by decide) c105)
  refine lv_iconst (v := 0) hx hb dX7_move_40 (by decide) ?_
  have hP9 : va_P G vwCl [] H := fun k q h => by simp at h
  have hD9 : va_D A [] := ⟨fun i j p q h => by simp at h, fun k q h => by simp at h⟩
  exact W.zret (v := 0) (ty := .boolean) hx hb hr rfl (fun t ht hW => ⟨⟨0, (), rfl, rfl, by rw [ht]; exact hP9, hD9⟩, hS.F ht⟩) hS.2.2 dX7_move_41

set_option maxHeartbeats 4000000 in
set_option maxRecDepth 100000 in
theorem c_X7_turn (l : Launch) (G : va_G) (cA : Nat → ClassId) (sz : Nat) (h0 : Nat) (x : Int32) (fs : List Value) (pa : Nat) (ps : List Value) (hf : fh fs 12 [(1, .ref pa)]) (hp : fh ps 19 [(0, .int 0)]) : Met l yX7_turn (.code yX7_turn cX7_turn 3 (some .int) :: T0) ({ frames := 1, cells := 0, slots := 0, locals := 21 }) (tqP G cA [.ref h0, .int x] [(h0, .inr (7, fs)), (pa, .inr (2, ps))] sz) (tqQi G cA (fun (r : Int32) (u : Unit) => r = (-1)) (fun (u : Unit) => []) (va_A [(h0, .inr (7, fs)), (pa, .inr (2, ps))] sz)) 0 0 (va_A [(h0, .inr (7, fs)), (pa, .inr (2, ps))] sz) := by
  refine Met.ofW (cc := cX7_turn) (maxL := 3) (ret := (some .int)) (by decide) rfl ?_
  intro p e s m args below meth c s₁ B hml hv
  obtain ⟨rfl, hsz, hP, hK, hD0, hN⟩ := hv
  have hx := B.exec
  have hb := B.bytes
  have hr := B.returns
  have hts := atoms_spec (ws := .code yX7_turn cX7_turn 3 (some .int) :: T0) B.pre
  have hT : ∀ w ∈ T0, w.before _ s = true := fun w h => hts w (List.mem_cons_of_mem _ h)
  have hown : s.vm.findClass RX7 = some m.cls := findClass_of_methodNamed B.named
  have hlocks := B.notSynchronized
  subst hsz
  have hD := hD0.self (sz := s.heap.size)
  generalize hAe : va_A [(h0, .inr (7, fs)), (pa, .inr (2, ps))] s.heap.size = A at hD ⊢
  have hA : ∀ q : Nat, s.heap.size ≤ q → A q := fun q h => by rw [← hAe]; exact Or.inr h
  have hS : va_S A s.heap s.heap [] := va_S.rf
  have hl := lv_entry ([.ref h0, .int x]) (n := 3) (Nat.le_of_ble_eq_true rfl)
  rw [lg_entry_eq]
  generalize (lg_sl ([.ref h0, .int x]) ++ List.replicate (3 - (lg_sl ([.ref h0, .int x])).length) Slot.unset).toArray = ls at hl ⊢
  have hl : lv_has ls 3 [(0, .ref h0), (1, .int x)] := hl
  obtain ⟨H, hH⟩ : ∃ z, z = s.heap := ⟨_, rfl⟩
  rw [← hH] at hP
  have hS : va_S A s.heap H [] := by rw [hH]; exact hS
  suffices hgo : W p l e _ s m _ below meth c H [] 0 0 _ _ by rw [hH] at hgo; exact hgo
  have hO := hN.2.2.2.2
  have ho_hf := fo_refl fs
  have ho_hp := fo_refl ps
  refine lv_aload_n hx hb dX7_turn_0 rfl (lv_at hl 0 rfl) ?_
  refine lv_iload_n hx hb dX7_turn_1 rfl (lv_at hl 1 rfl) ?_
  refine tq_ci (wr := []) hP hD hS hA [0, 1] [] rfl rfl (by decide) (by decide) (va_runV (As := [.int x]) (rest := []) ⟨hx, hb, hml, hown, hT⟩ (c_X7_isPlace l G cA H.size h0 x fs pa ps (fh_sub hf [0] rfl) (fh_sub hp [0] rfl)) (cwV 1 hT (tq_gV kw_32_2 kw_32_3 kw_32_4 kw_1_2 kw_32_5) rfl rfl rfl (by decide +kernel) ⟨Nat.le_of_ble_eq_true rfl, Nat.le_of_ble_eq_true rfl⟩) ⟨(tq_pre (isC := [0, 1]) hP hD hK hN rfl (by decide)).1, va_recv hK hP (ci := 7) (q0 := 0) rfl rfl, (tq_pre (isC := [0, 1]) hP hD hK hN rfl (by decide)).2⟩ rfl rfl hl.1 rfl (lv_room (Nat.le_of_ble_eq_true rfl)) dX7_turn_2 ⟨Nat.le_of_ble_eq_true rfl, Nat.le_of_ble_eq_true rfl⟩) (fun r101 u102 H locs hw103 hP hD hS => ?_)
  refine W.widen (k := 0) (n := 0) (Nat.le_of_ble_eq_true rfl) (Nat.le_of_ble_eq_true rfl) ?_
  have hr104 := hw103
  subst hr104
  have hP : va_P G vwCl [(h0, .inr (7, fs)), (pa, .inr (2, ps))] H := hP
  have hD : va_D A [(h0, .inr (7, fs)), (pa, .inr (2, ps))] := hD
  refine lv_if_ne (tgt := 10) hx hb dX7_turn_5 (by decide) (fun c105 => absurd (by decide) c105) (fun c105 => ?_)
  refine lv_iconst (v := (-1)) hx hb dX7_turn_8 (by decide) ?_
  have hP9 : va_P G vwCl [] H := fun k q h => by simp at h
  have hD9 : va_D A [] := ⟨fun i j p q h => by simp at h, fun k q h => by simp at h⟩
  exact W.iret (v := (-1)) hx hb hr (fun t ht hW => ⟨⟨(-1), (), rfl, rfl, by rw [ht]; exact hP9, hD9⟩, hS.F ht⟩) hS.2.2 dX7_turn_9

set_option maxHeartbeats 4000000 in
set_option maxRecDepth 100000 in
theorem c_X7_help (l : Launch) (G : va_G) (cA : Nat → ClassId) (sz : Nat) (h0 : Nat) (x : Int32) (y : Int32) (fs : List Value) (pa : Nat) (ps : List Value) (hf : fh fs 12 [(1, .ref pa)]) (hp : fh ps 19 [(1, .int 0)]) : Met l yX7_help (.code yX7_help cX7_help 3 (some .boolean) :: T0) ({ frames := 1, cells := 0, slots := 0, locals := 21 }) (tqP G cA [.ref h0, .int x, .int y] [(h0, .inr (7, fs)), (pa, .inr (2, ps))] sz) (tqQi G cA (fun (r : Int32) (u : Unit) => r = 0) (fun (u : Unit) => []) (va_A [(h0, .inr (7, fs)), (pa, .inr (2, ps))] sz)) 0 0 (va_A [(h0, .inr (7, fs)), (pa, .inr (2, ps))] sz) := by
  refine Met.ofW (cc := cX7_help) (maxL := 3) (ret := (some .boolean)) (by decide) rfl ?_
  intro p e s m args below meth c s₁ B hml hv
  obtain ⟨rfl, hsz, hP, hK, hD0, hN⟩ := hv
  have hx := B.exec
  have hb := B.bytes
  have hr := B.returns
  have hts := atoms_spec (ws := .code yX7_help cX7_help 3 (some .boolean) :: T0) B.pre
  have hT : ∀ w ∈ T0, w.before _ s = true := fun w h => hts w (List.mem_cons_of_mem _ h)
  have hown : s.vm.findClass RX7 = some m.cls := findClass_of_methodNamed B.named
  have hlocks := B.notSynchronized
  subst hsz
  have hD := hD0.self (sz := s.heap.size)
  generalize hAe : va_A [(h0, .inr (7, fs)), (pa, .inr (2, ps))] s.heap.size = A at hD ⊢
  have hA : ∀ q : Nat, s.heap.size ≤ q → A q := fun q h => by rw [← hAe]; exact Or.inr h
  have hS : va_S A s.heap s.heap [] := va_S.rf
  have hl := lv_entry ([.ref h0, .int x, .int y]) (n := 3) (Nat.le_of_ble_eq_true rfl)
  rw [lg_entry_eq]
  generalize (lg_sl ([.ref h0, .int x, .int y]) ++ List.replicate (3 - (lg_sl ([.ref h0, .int x, .int y])).length) Slot.unset).toArray = ls at hl ⊢
  have hl : lv_has ls 3 [(0, .ref h0), (1, .int x), (2, .int y)] := hl
  obtain ⟨H, hH⟩ : ∃ z, z = s.heap := ⟨_, rfl⟩
  rw [← hH] at hP
  have hS : va_S A s.heap H [] := by rw [hH]; exact hS
  suffices hgo : W p l e _ s m _ below meth c H [] 0 0 _ _ by rw [hH] at hgo; exact hgo
  have hO := hN.2.2.2.2
  have ho_hf := fo_refl fs
  have ho_hp := fo_refl ps
  refine lv_aload_n hx hb dX7_help_0 rfl (lv_at hl 0 rfl) ?_
  refine lv_iload_n hx hb dX7_help_1 rfl (lv_at hl 1 rfl) ?_
  refine tq_ci (wr := []) hP hD hS hA [0, 1] [] rfl rfl (by decide) (by decide) (va_runV (As := [.int x]) (rest := []) ⟨hx, hb, hml, hown, hT⟩ (c_X7_isPerson l G cA H.size h0 x fs pa ps (fh_sub hf [0] rfl) (fh_sub hp [0] rfl)) (cwV 1 hT (tq_gV kw_29_3 kw_29_4 kw_29_5 kw_1_2 kw_29_6) rfl rfl rfl (by decide +kernel) ⟨Nat.le_of_ble_eq_true rfl, Nat.le_of_ble_eq_true rfl⟩) ⟨(tq_pre (isC := [0, 1]) hP hD hK hN rfl (by decide)).1, va_recv hK hP (ci := 7) (q0 := 0) rfl rfl, (tq_pre (isC := [0, 1]) hP hD hK hN rfl (by decide)).2⟩ rfl rfl hl.1 rfl (lv_room (Nat.le_of_ble_eq_true rfl)) dX7_help_2 ⟨Nat.le_of_ble_eq_true rfl, Nat.le_of_ble_eq_true rfl⟩) (fun r101 u102 H locs hw103 hP hD hS => ?_)
  refine W.widen (k := 0) (n := 0) (Nat.le_of_ble_eq_true rfl) (Nat.le_of_ble_eq_true rfl) ?_
  have hr104 := hw103
  subst hr104
  have hP : va_P G vwCl [(h0, .inr (7, fs)), (pa, .inr (2, ps))] H := hP
  have hD : va_D A [(h0, .inr (7, fs)), (pa, .inr (2, ps))] := hD
  refine lv_if_eq (tgt := 32) hx hb dX7_help_5 (by decide) (fun c105 => ?_) (fun c105 => absurd (by decide) c105)
  refine lv_iconst (v := 0) hx hb dX7_help_32 (by decide) ?_
  have hP9 : va_P G vwCl [] H := fun k q h => by simp at h
  have hD9 : va_D A [] := ⟨fun i j p q h => by simp at h, fun k q h => by simp at h⟩
  exact W.zret (v := 0) (ty := .boolean) hx hb hr rfl (fun t ht hW => ⟨⟨0, (), rfl, rfl, by rw [ht]; exact hP9, hD9⟩, hS.F ht⟩) hS.2.2 dX7_help_33

set_option maxHeartbeats 4000000 in
set_option maxRecDepth 100000 in
theorem c_X7_undo (l : Launch) (G : va_G) (cA : Nat → ClassId) (sz : Nat) (h0 : Nat) (fs : List Value) (ch : Nat) (cs : List Value) (hf : fh fs 12 [(7, .ref ch)]) (hch : fh cs 3 [(0, .int 0)]) : Met l yX7_undo (.code yX7_undo cX7_undo 1 (some .int) :: T0) ({ frames := 0, cells := 0, slots := 0, locals := 0 }) (tqP G cA [.ref h0] [(h0, .inr (7, fs)), (ch, .inr (0, cs))] sz) (tqQi G cA (fun (r : Int32) (u : Unit) => r = (-1)) (fun (u : Unit) => []) (va_A [(h0, .inr (7, fs)), (ch, .inr (0, cs))] sz)) 0 0 (va_A [(h0, .inr (7, fs)), (ch, .inr (0, cs))] sz) := by
  refine Met.ofW (cc := cX7_undo) (maxL := 1) (ret := (some .int)) (by decide) rfl ?_
  intro p e s m args below meth c s₁ B hml hv
  obtain ⟨rfl, hsz, hP, hK, hD0, hN⟩ := hv
  have hx := B.exec
  have hb := B.bytes
  have hr := B.returns
  have hts := atoms_spec (ws := .code yX7_undo cX7_undo 1 (some .int) :: T0) B.pre
  have hT : ∀ w ∈ T0, w.before _ s = true := fun w h => hts w (List.mem_cons_of_mem _ h)
  have hown : s.vm.findClass RX7 = some m.cls := findClass_of_methodNamed B.named
  have hlocks := B.notSynchronized
  subst hsz
  have hD := hD0.self (sz := s.heap.size)
  generalize hAe : va_A [(h0, .inr (7, fs)), (ch, .inr (0, cs))] s.heap.size = A at hD ⊢
  have hA : ∀ q : Nat, s.heap.size ≤ q → A q := fun q h => by rw [← hAe]; exact Or.inr h
  have hS : va_S A s.heap s.heap [] := va_S.rf
  have hl := lv_entry ([.ref h0]) (n := 1) (Nat.le_of_ble_eq_true rfl)
  rw [lg_entry_eq]
  generalize (lg_sl ([.ref h0]) ++ List.replicate (1 - (lg_sl ([.ref h0])).length) Slot.unset).toArray = ls at hl ⊢
  have hl : lv_has ls 1 [(0, .ref h0)] := hl
  obtain ⟨H, hH⟩ : ∃ z, z = s.heap := ⟨_, rfl⟩
  rw [← hH] at hP
  have hS : va_S A s.heap H [] := by rw [hH]; exact hS
  suffices hgo : W p l e _ s m _ below meth c H [] 0 0 _ _ by rw [hH] at hgo; exact hgo
  have hO := hN.2.2.2.2
  have ho_hf := fo_refl fs
  have ho_hch := fo_refl cs
  refine lv_aload_n hx hb dX7_undo_0 rfl (lv_at hl 0 rfl) ?_
  refine va_get (D := G) (ci := 7) (v := .ref ch) (C := RX7) (T := TX7) (N := 12) hx hb hT ku_7 hown hK hP 0 rfl rfl 7 (by decide) (hT _ kw_2_8) (fun _ h9 => h9) (fh_at hf 0 rfl) dX7_undo_1 ?_
  refine va_get (D := G) (ci := 0) (v := .int 0) (C := RX0) (T := TX0) (N := 3) hx hb hT ku_0 hown hK hP 1 rfl rfl 0 (by decide) (hT _ kw_14_7) (fun _ h9 => h9) (fh_at hch 0 rfl) dX7_undo_4 ?_
  refine lv_if_ne (tgt := 12) hx hb dX7_undo_7 (by decide) (fun c101 => absurd (by decide) c101) (fun c101 => ?_)
  refine lv_iconst (v := (-1)) hx hb dX7_undo_10 (by decide) ?_
  have hP9 : va_P G vwCl [] H := fun k q h => by simp at h
  have hD9 : va_D A [] := ⟨fun i j p q h => by simp at h, fun k q h => by simp at h⟩
  exact W.iret (v := (-1)) hx hb hr (fun t ht hW => ⟨⟨(-1), (), rfl, rfl, by rw [ht]; exact hP9, hD9⟩, hS.F ht⟩) hS.2.2 dX7_undo_11

set_option maxHeartbeats 4000000 in
set_option maxRecDepth 100000 in
theorem c_X7_back (l : Launch) (G : va_G) (cA : Nat → ClassId) (sz : Nat) (h0 : Nat) (fs : List Value) (hf : fh fs 12 [(4, .int 0)]) : Met l yX7_back (.code yX7_back cX7_back 1 (some .int) :: T0) ({ frames := 0, cells := 0, slots := 0, locals := 0 }) (tqP G cA [.ref h0] [(h0, .inr (7, fs))] sz) (tqQi G cA (fun (r : Int32) (u : Unit) => r = (-1)) (fun (u : Unit) => []) (va_A [(h0, .inr (7, fs))] sz)) 0 0 (va_A [(h0, .inr (7, fs))] sz) := by
  refine Met.ofW (cc := cX7_back) (maxL := 1) (ret := (some .int)) (by decide) rfl ?_
  intro p e s m args below meth c s₁ B hml hv
  obtain ⟨rfl, hsz, hP, hK, hD0, hN⟩ := hv
  have hx := B.exec
  have hb := B.bytes
  have hr := B.returns
  have hts := atoms_spec (ws := .code yX7_back cX7_back 1 (some .int) :: T0) B.pre
  have hT : ∀ w ∈ T0, w.before _ s = true := fun w h => hts w (List.mem_cons_of_mem _ h)
  have hown : s.vm.findClass RX7 = some m.cls := findClass_of_methodNamed B.named
  have hlocks := B.notSynchronized
  subst hsz
  have hD := hD0.self (sz := s.heap.size)
  generalize hAe : va_A [(h0, .inr (7, fs))] s.heap.size = A at hD ⊢
  have hA : ∀ q : Nat, s.heap.size ≤ q → A q := fun q h => by rw [← hAe]; exact Or.inr h
  have hS : va_S A s.heap s.heap [] := va_S.rf
  have hl := lv_entry ([.ref h0]) (n := 1) (Nat.le_of_ble_eq_true rfl)
  rw [lg_entry_eq]
  generalize (lg_sl ([.ref h0]) ++ List.replicate (1 - (lg_sl ([.ref h0])).length) Slot.unset).toArray = ls at hl ⊢
  have hl : lv_has ls 1 [(0, .ref h0)] := hl
  obtain ⟨H, hH⟩ : ∃ z, z = s.heap := ⟨_, rfl⟩
  rw [← hH] at hP
  have hS : va_S A s.heap H [] := by rw [hH]; exact hS
  suffices hgo : W p l e _ s m _ below meth c H [] 0 0 _ _ by rw [hH] at hgo; exact hgo
  have hO := hN.2.2.2.2
  have ho_hf := fo_refl fs
  refine lv_aload_n hx hb dX7_back_0 rfl (lv_at hl 0 rfl) ?_
  refine va_get (D := G) (ci := 7) (v := .int 0) (C := RX7) (T := TX7) (N := 12) hx hb hT ku_7 hown hK hP 0 rfl rfl 4 (by decide) (hT _ kw_2_2) (fun _ h9 => h9) (fh_at hf 0 rfl) dX7_back_1 ?_
  refine lv_if_ne (tgt := 9) hx hb dX7_back_4 (by decide) (fun c101 => absurd (by decide) c101) (fun c101 => ?_)
  refine lv_iconst (v := (-1)) hx hb dX7_back_7 (by decide) ?_
  have hP9 : va_P G vwCl [] H := fun k q h => by simp at h
  have hD9 : va_D A [] := ⟨fun i j p q h => by simp at h, fun k q h => by simp at h⟩
  exact W.iret (v := (-1)) hx hb hr (fun t ht hW => ⟨⟨(-1), (), rfl, rfl, by rw [ht]; exact hP9, hD9⟩, hS.F ht⟩) hS.2.2 dX7_back_8

set_option maxHeartbeats 4000000 in
set_option maxRecDepth 100000 in
theorem c_X7_mine (l : Launch) (G : va_G) (cA : Nat → ClassId) (sz : Nat) (h0 : Nat) (x : Int32) (y : Int32) (fs : List Value) (pa : Nat) (ps : List Value) (hf : fh fs 12 [(1, .ref pa)]) (hp : fh ps 19 [(2, .int 0)]) : Met l yX7_mine (.code yX7_mine cX7_mine 4 (some .int) :: T0) ({ frames := 2, cells := 0, slots := 0, locals := 42 }) (tqP G cA [.ref h0, .int x, .int y] [(h0, .inr (7, fs)), (pa, .inr (2, ps))] sz) (tqQi G cA (fun (r : Int32) (u : Unit) => r = (-1)) (fun (u : Unit) => []) (va_A [(h0, .inr (7, fs)), (pa, .inr (2, ps))] sz)) 0 0 (va_A [(h0, .inr (7, fs)), (pa, .inr (2, ps))] sz) := by
  refine Met.ofW (cc := cX7_mine) (maxL := 4) (ret := (some .int)) (by decide) rfl ?_
  intro p e s m args below meth c s₁ B hml hv
  obtain ⟨rfl, hsz, hP, hK, hD0, hN⟩ := hv
  have hx := B.exec
  have hb := B.bytes
  have hr := B.returns
  have hts := atoms_spec (ws := .code yX7_mine cX7_mine 4 (some .int) :: T0) B.pre
  have hT : ∀ w ∈ T0, w.before _ s = true := fun w h => hts w (List.mem_cons_of_mem _ h)
  have hown : s.vm.findClass RX7 = some m.cls := findClass_of_methodNamed B.named
  have hlocks := B.notSynchronized
  subst hsz
  have hD := hD0.self (sz := s.heap.size)
  generalize hAe : va_A [(h0, .inr (7, fs)), (pa, .inr (2, ps))] s.heap.size = A at hD ⊢
  have hA : ∀ q : Nat, s.heap.size ≤ q → A q := fun q h => by rw [← hAe]; exact Or.inr h
  have hS : va_S A s.heap s.heap [] := va_S.rf
  have hl := lv_entry ([.ref h0, .int x, .int y]) (n := 4) (Nat.le_of_ble_eq_true rfl)
  rw [lg_entry_eq]
  generalize (lg_sl ([.ref h0, .int x, .int y]) ++ List.replicate (4 - (lg_sl ([.ref h0, .int x, .int y])).length) Slot.unset).toArray = ls at hl ⊢
  have hl : lv_has ls 4 [(0, .ref h0), (1, .int x), (2, .int y)] := hl
  obtain ⟨H, hH⟩ : ∃ z, z = s.heap := ⟨_, rfl⟩
  rw [← hH] at hP
  have hS : va_S A s.heap H [] := by rw [hH]; exact hS
  suffices hgo : W p l e _ s m _ below meth c H [] 0 0 _ _ by rw [hH] at hgo; exact hgo
  have hO := hN.2.2.2.2
  have ho_hf := fo_refl fs
  have ho_hp := fo_refl ps
  refine lv_iload_n hx hb dX7_mine_0 rfl (lv_at hl 2 rfl) ?_
  refine lv_if_lt (tgt := 17) hx hb dX7_mine_1 (by decide) (fun c101 => ?_) (fun c101 => ?_)
  · have k101 := tq_lt (a := y.toInt) (b := 0) rfl (by decide) c101
    refine lv_iconst (v := (-1)) hx hb dX7_mine_17 (by decide) ?_
    have hP9 : va_P G vwCl [] H := fun k q h => by simp at h
    have hD9 : va_D A [] := ⟨fun i j p q h => by simp at h, fun k q h => by simp at h⟩
    exact W.iret (v := (-1)) hx hb hr (fun t ht hW => ⟨⟨(-1), (), rfl, rfl, by rw [ht]; exact hP9, hD9⟩, hS.F ht⟩) hS.2.2 dX7_mine_18
  · have k101 := tq_ltn (a := y.toInt) (b := 0) rfl (by decide) c101
    refine lv_iload_n hx hb dX7_mine_4 rfl (lv_at hl 2 rfl) ?_
    refine lv_iconst (v := 3) hx hb dX7_mine_5 (by decide) ?_
    refine lv_icmp_gt (tgt := 17) hx hb dX7_mine_6 (by decide) (fun c102 => ?_) (fun c102 => ?_)
    · have k102 := tq_lt (a := 3) (b := y.toInt) (by decide) rfl c102
      refine lv_iconst (v := (-1)) hx hb dX7_mine_17 (by decide) ?_
      have hP9 : va_P G vwCl [] H := fun k q h => by simp at h
      have hD9 : va_D A [] := ⟨fun i j p q h => by simp at h, fun k q h => by simp at h⟩
      exact W.iret (v := (-1)) hx hb hr (fun t ht hW => ⟨⟨(-1), (), rfl, rfl, by rw [ht]; exact hP9, hD9⟩, hS.F ht⟩) hS.2.2 dX7_mine_18
    · have k102 := tq_ltn (a := 3) (b := y.toInt) (by decide) rfl c102
      refine lv_aload_n hx hb dX7_mine_9 rfl (lv_at hl 0 rfl) ?_
      refine lv_iload_n hx hb dX7_mine_10 rfl (lv_at hl 1 rfl) ?_
      refine tq_ci (wr := []) hP hD hS hA [0, 1] [] rfl rfl (by decide) (by decide) (va_runV (As := [.int x]) (rest := []) ⟨hx, hb, hml, hown, hT⟩ (c_X7_comesNow l G cA H.size h0 x fs pa ps (fh_sub hf [0] rfl) (fh_sub hp [0] rfl)) (cwV 1 hT (tq_gV kw_46_11 kw_46_12 kw_46_13 kw_1_2 kw_46_14) rfl rfl rfl (by decide +kernel) ⟨Nat.le_of_ble_eq_true rfl, Nat.le_of_ble_eq_true rfl⟩) ⟨(tq_pre (isC := [0, 1]) hP hD hK hN rfl (by decide)).1, va_recv hK hP (ci := 7) (q0 := 0) rfl rfl, (tq_pre (isC := [0, 1]) hP hD hK hN rfl (by decide)).2⟩ rfl rfl hl.1 rfl (lv_room (Nat.le_of_ble_eq_true rfl)) dX7_mine_11 ⟨Nat.le_of_ble_eq_true rfl, Nat.le_of_ble_eq_true rfl⟩) (fun r103 u104 H locs hw105 hP hD hS => ?_)
      refine W.widen (k := 0) (n := 0) (Nat.le_of_ble_eq_true rfl) (Nat.le_of_ble_eq_true rfl) ?_
      have hr106 := hw105
      subst hr106
      have hP : va_P G vwCl [(h0, .inr (7, fs)), (pa, .inr (2, ps))] H := hP
      have hD : va_D A [(h0, .inr (7, fs)), (pa, .inr (2, ps))] := hD
      refine lv_if_ne (tgt := 19) hx hb dX7_mine_14 (by decide) (fun c107 => absurd (by decide) c107) (fun c107 => ?_)
      refine lv_iconst (v := (-1)) hx hb dX7_mine_17 (by decide) ?_
      have hP9 : va_P G vwCl [] H := fun k q h => by simp at h
      have hD9 : va_D A [] := ⟨fun i j p q h => by simp at h, fun k q h => by simp at h⟩
      exact W.iret (v := (-1)) hx hb hr (fun t ht hW => ⟨⟨(-1), (), rfl, rfl, by rw [ht]; exact hP9, hD9⟩, hS.F ht⟩) hS.2.2 dX7_mine_18

set_option maxHeartbeats 4000000 in
set_option maxRecDepth 100000 in
theorem c_X7_when (l : Launch) (G : va_G) (cA : Nat → ClassId) (sz : Nat) (h0 : Nat) (x : Int32) (y : Int32) (fs : List Value) (pa : Nat) (ps : List Value) (hf : fh fs 12 [(1, .ref pa)]) (hp : fh ps 19 [(0, .int 0)]) : Met l yX7_when (.code yX7_when cX7_when 8 (some .int) :: T0) ({ frames := 1, cells := 0, slots := 0, locals := 21 }) (tqP G cA [.ref h0, .int x, .int y] [(h0, .inr (7, fs)), (pa, .inr (2, ps))] sz) (tqQi G cA (fun (r : Int32) (u : Unit) => r = (-1)) (fun (u : Unit) => []) (va_A [(h0, .inr (7, fs)), (pa, .inr (2, ps))] sz)) 0 0 (va_A [(h0, .inr (7, fs)), (pa, .inr (2, ps))] sz) := by
  refine Met.ofW (cc := cX7_when) (maxL := 8) (ret := (some .int)) (by decide) rfl ?_
  intro p e s m args below meth c s₁ B hml hv
  obtain ⟨rfl, hsz, hP, hK, hD0, hN⟩ := hv
  have hx := B.exec
  have hb := B.bytes
  have hr := B.returns
  have hts := atoms_spec (ws := .code yX7_when cX7_when 8 (some .int) :: T0) B.pre
  have hT : ∀ w ∈ T0, w.before _ s = true := fun w h => hts w (List.mem_cons_of_mem _ h)
  have hown : s.vm.findClass RX7 = some m.cls := findClass_of_methodNamed B.named
  have hlocks := B.notSynchronized
  subst hsz
  have hD := hD0.self (sz := s.heap.size)
  generalize hAe : va_A [(h0, .inr (7, fs)), (pa, .inr (2, ps))] s.heap.size = A at hD ⊢
  have hA : ∀ q : Nat, s.heap.size ≤ q → A q := fun q h => by rw [← hAe]; exact Or.inr h
  have hS : va_S A s.heap s.heap [] := va_S.rf
  have hl := lv_entry ([.ref h0, .int x, .int y]) (n := 8) (Nat.le_of_ble_eq_true rfl)
  rw [lg_entry_eq]
  generalize (lg_sl ([.ref h0, .int x, .int y]) ++ List.replicate (8 - (lg_sl ([.ref h0, .int x, .int y])).length) Slot.unset).toArray = ls at hl ⊢
  have hl : lv_has ls 8 [(0, .ref h0), (1, .int x), (2, .int y)] := hl
  obtain ⟨H, hH⟩ : ∃ z, z = s.heap := ⟨_, rfl⟩
  rw [← hH] at hP
  have hS : va_S A s.heap H [] := by rw [hH]; exact hS
  suffices hgo : W p l e _ s m _ below meth c H [] 0 0 _ _ by rw [hH] at hgo; exact hgo
  have hO := hN.2.2.2.2
  have ho_hf := fo_refl fs
  have ho_hp := fo_refl ps
  refine lv_aload_n hx hb dX7_when_0 rfl (lv_at hl 0 rfl) ?_
  refine lv_iload_n hx hb dX7_when_1 rfl (lv_at hl 1 rfl) ?_
  refine tq_ci (wr := []) hP hD hS hA [0, 1] [] rfl rfl (by decide) (by decide) (va_runV (As := [.int x]) (rest := []) ⟨hx, hb, hml, hown, hT⟩ (c_X7_isPlace l G cA H.size h0 x fs pa ps (fh_sub hf [0] rfl) (fh_sub hp [0] rfl)) (cwV 1 hT (tq_gV kw_32_2 kw_32_3 kw_32_4 kw_1_2 kw_32_5) rfl rfl rfl (by decide +kernel) ⟨Nat.le_of_ble_eq_true rfl, Nat.le_of_ble_eq_true rfl⟩) ⟨(tq_pre (isC := [0, 1]) hP hD hK hN rfl (by decide)).1, va_recv hK hP (ci := 7) (q0 := 0) rfl rfl, (tq_pre (isC := [0, 1]) hP hD hK hN rfl (by decide)).2⟩ rfl rfl hl.1 rfl (lv_room (Nat.le_of_ble_eq_true rfl)) dX7_when_2 ⟨Nat.le_of_ble_eq_true rfl, Nat.le_of_ble_eq_true rfl⟩) (fun r101 u102 H locs hw103 hP hD hS => ?_)
  refine W.widen (k := 0) (n := 0) (Nat.le_of_ble_eq_true rfl) (Nat.le_of_ble_eq_true rfl) ?_
  have hr104 := hw103
  subst hr104
  have hP : va_P G vwCl [(h0, .inr (7, fs)), (pa, .inr (2, ps))] H := hP
  have hD : va_D A [(h0, .inr (7, fs)), (pa, .inr (2, ps))] := hD
  refine lv_if_eq (tgt := 17) hx hb dX7_when_5 (by decide) (fun c105 => ?_) (fun c105 => absurd (by decide) c105)
  refine lv_iconst (v := (-1)) hx hb dX7_when_17 (by decide) ?_
  have hP9 : va_P G vwCl [] H := fun k q h => by simp at h
  have hD9 : va_D A [] := ⟨fun i j p q h => by simp at h, fun k q h => by simp at h⟩
  exact W.iret (v := (-1)) hx hb hr (fun t ht hW => ⟨⟨(-1), (), rfl, rfl, by rw [ht]; exact hP9, hD9⟩, hS.F ht⟩) hS.2.2 dX7_when_18

set_option maxHeartbeats 4000000 in
set_option maxRecDepth 100000 in
theorem c_X7_rests (l : Launch) (G : va_G) (cA : Nat → ClassId) (sz : Nat) (h0 : Nat) (x : Int32) (y : Int32) (fs : List Value) (pa : Nat) (ps : List Value) (hf : fh fs 12 [(1, .ref pa)]) (hp : fh ps 19 [(2, .int 0)]) : Met l yX7_rests (.code yX7_rests cX7_rests 5 (some .int) :: T0) ({ frames := 3, cells := 0, slots := 0, locals := 64 }) (tqP G cA [.ref h0, .int x, .int y] [(h0, .inr (7, fs)), (pa, .inr (2, ps))] sz) (tqQi G cA (fun (r : Int32) (u : Unit) => r = (-1)) (fun (u : Unit) => []) (va_A [(h0, .inr (7, fs)), (pa, .inr (2, ps))] sz)) 0 0 (va_A [(h0, .inr (7, fs)), (pa, .inr (2, ps))] sz) := by
  refine Met.ofW (cc := cX7_rests) (maxL := 5) (ret := (some .int)) (by decide) rfl ?_
  intro p e s m args below meth c s₁ B hml hv
  obtain ⟨rfl, hsz, hP, hK, hD0, hN⟩ := hv
  have hx := B.exec
  have hb := B.bytes
  have hr := B.returns
  have hts := atoms_spec (ws := .code yX7_rests cX7_rests 5 (some .int) :: T0) B.pre
  have hT : ∀ w ∈ T0, w.before _ s = true := fun w h => hts w (List.mem_cons_of_mem _ h)
  have hown : s.vm.findClass RX7 = some m.cls := findClass_of_methodNamed B.named
  have hlocks := B.notSynchronized
  subst hsz
  have hD := hD0.self (sz := s.heap.size)
  generalize hAe : va_A [(h0, .inr (7, fs)), (pa, .inr (2, ps))] s.heap.size = A at hD ⊢
  have hA : ∀ q : Nat, s.heap.size ≤ q → A q := fun q h => by rw [← hAe]; exact Or.inr h
  have hS : va_S A s.heap s.heap [] := va_S.rf
  have hl := lv_entry ([.ref h0, .int x, .int y]) (n := 5) (Nat.le_of_ble_eq_true rfl)
  rw [lg_entry_eq]
  generalize (lg_sl ([.ref h0, .int x, .int y]) ++ List.replicate (5 - (lg_sl ([.ref h0, .int x, .int y])).length) Slot.unset).toArray = ls at hl ⊢
  have hl : lv_has ls 5 [(0, .ref h0), (1, .int x), (2, .int y)] := hl
  obtain ⟨H, hH⟩ : ∃ z, z = s.heap := ⟨_, rfl⟩
  rw [← hH] at hP
  have hS : va_S A s.heap H [] := by rw [hH]; exact hS
  suffices hgo : W p l e _ s m _ below meth c H [] 0 0 _ _ by rw [hH] at hgo; exact hgo
  have hO := hN.2.2.2.2
  have ho_hf := fo_refl fs
  have ho_hp := fo_refl ps
  refine lv_aload_n hx hb dX7_rests_0 rfl (lv_at hl 0 rfl) ?_
  refine lv_iload_n hx hb dX7_rests_1 rfl (lv_at hl 1 rfl) ?_
  refine lv_iload_n hx hb dX7_rests_2 rfl (lv_at hl 2 rfl) ?_
  refine tq_ci (wr := []) hP hD hS hA [0, 1] [] rfl rfl (by decide) (by decide) (va_runV (As := [.int x, .int y]) (rest := []) ⟨hx, hb, hml, hown, hT⟩ (c_X7_canChoose l G cA H.size h0 x y fs pa ps (fh_sub hf [0] rfl) (fh_sub hp [0] rfl)) (cwV 2 hT (tq_gV kw_49_21 kw_49_22 kw_49_23 kw_1_2 kw_50_0) rfl rfl rfl (by decide +kernel) ⟨Nat.le_of_ble_eq_true rfl, Nat.le_of_ble_eq_true rfl⟩) ⟨(tq_pre (isC := [0, 1]) hP hD hK hN rfl (by decide)).1, va_recv hK hP (ci := 7) (q0 := 0) rfl rfl, (tq_pre (isC := [0, 1]) hP hD hK hN rfl (by decide)).2⟩ rfl rfl hl.1 rfl (lv_room (Nat.le_of_ble_eq_true rfl)) dX7_rests_3 ⟨Nat.le_of_ble_eq_true rfl, Nat.le_of_ble_eq_true rfl⟩) (fun r101 u102 H locs hw103 hP hD hS => ?_)
  refine W.widen (k := 0) (n := 0) (Nat.le_of_ble_eq_true rfl) (Nat.le_of_ble_eq_true rfl) ?_
  have hr104 := hw103
  subst hr104
  have hP : va_P G vwCl [(h0, .inr (7, fs)), (pa, .inr (2, ps))] H := hP
  have hD : va_D A [(h0, .inr (7, fs)), (pa, .inr (2, ps))] := hD
  refine lv_if_ne (tgt := 11) hx hb dX7_rests_6 (by decide) (fun c105 => absurd (by decide) c105) (fun c105 => ?_)
  refine lv_iconst (v := (-1)) hx hb dX7_rests_9 (by decide) ?_
  have hP9 : va_P G vwCl [] H := fun k q h => by simp at h
  have hD9 : va_D A [] := ⟨fun i j p q h => by simp at h, fun k q h => by simp at h⟩
  exact W.iret (v := (-1)) hx hb hr (fun t ht hW => ⟨⟨(-1), (), rfl, rfl, by rw [ht]; exact hP9, hD9⟩, hS.F ht⟩) hS.2.2 dX7_rests_10

set_option maxHeartbeats 4000000 in
set_option maxRecDepth 100000 in
theorem c_X7_rest (l : Launch) (G : va_G) (cA : Nat → ClassId) (sz : Nat) (h0 : Nat) (x : Int32) (y : Int32) (z : Int32) (fs : List Value) (pa : Nat) (ps : List Value) (hf : fh fs 12 [(1, .ref pa)]) (hp : fh ps 19 [(2, .int 0)]) : Met l yX7_rest (.code yX7_rest cX7_rest 6 (some .int) :: T0) ({ frames := 3, cells := 0, slots := 0, locals := 64 }) (tqP G cA [.ref h0, .int x, .int y, .int z] [(h0, .inr (7, fs)), (pa, .inr (2, ps))] sz) (tqQi G cA (fun (r : Int32) (u : Unit) => r = (-1)) (fun (u : Unit) => []) (va_A [(h0, .inr (7, fs)), (pa, .inr (2, ps))] sz)) 0 0 (va_A [(h0, .inr (7, fs)), (pa, .inr (2, ps))] sz) := by
  refine Met.ofW (cc := cX7_rest) (maxL := 6) (ret := (some .int)) (by decide) rfl ?_
  intro p e s m args below meth c s₁ B hml hv
  obtain ⟨rfl, hsz, hP, hK, hD0, hN⟩ := hv
  have hx := B.exec
  have hb := B.bytes
  have hr := B.returns
  have hts := atoms_spec (ws := .code yX7_rest cX7_rest 6 (some .int) :: T0) B.pre
  have hT : ∀ w ∈ T0, w.before _ s = true := fun w h => hts w (List.mem_cons_of_mem _ h)
  have hown : s.vm.findClass RX7 = some m.cls := findClass_of_methodNamed B.named
  have hlocks := B.notSynchronized
  subst hsz
  have hD := hD0.self (sz := s.heap.size)
  generalize hAe : va_A [(h0, .inr (7, fs)), (pa, .inr (2, ps))] s.heap.size = A at hD ⊢
  have hA : ∀ q : Nat, s.heap.size ≤ q → A q := fun q h => by rw [← hAe]; exact Or.inr h
  have hS : va_S A s.heap s.heap [] := va_S.rf
  have hl := lv_entry ([.ref h0, .int x, .int y, .int z]) (n := 6) (Nat.le_of_ble_eq_true rfl)
  rw [lg_entry_eq]
  generalize (lg_sl ([.ref h0, .int x, .int y, .int z]) ++ List.replicate (6 - (lg_sl ([.ref h0, .int x, .int y, .int z])).length) Slot.unset).toArray = ls at hl ⊢
  have hl : lv_has ls 6 [(0, .ref h0), (1, .int x), (2, .int y), (3, .int z)] := hl
  obtain ⟨H, hH⟩ : ∃ z, z = s.heap := ⟨_, rfl⟩
  rw [← hH] at hP
  have hS : va_S A s.heap H [] := by rw [hH]; exact hS
  suffices hgo : W p l e _ s m _ below meth c H [] 0 0 _ _ by rw [hH] at hgo; exact hgo
  have hO := hN.2.2.2.2
  have ho_hf := fo_refl fs
  have ho_hp := fo_refl ps
  refine lv_iload_n hx hb dX7_rest_0 rfl (lv_at hl 3 rfl) ?_
  refine lv_if_lt (tgt := 13) hx hb dX7_rest_1 (by decide) (fun c101 => ?_) (fun c101 => ?_)
  · have k101 := tq_lt (a := z.toInt) (b := 0) rfl (by decide) c101
    refine lv_iconst (v := (-1)) hx hb dX7_rest_13 (by decide) ?_
    have hP9 : va_P G vwCl [] H := fun k q h => by simp at h
    have hD9 : va_D A [] := ⟨fun i j p q h => by simp at h, fun k q h => by simp at h⟩
    exact W.iret (v := (-1)) hx hb hr (fun t ht hW => ⟨⟨(-1), (), rfl, rfl, by rw [ht]; exact hP9, hD9⟩, hS.F ht⟩) hS.2.2 dX7_rest_14
  · have k101 := tq_ltn (a := z.toInt) (b := 0) rfl (by decide) c101
    refine lv_aload_n hx hb dX7_rest_4 rfl (lv_at hl 0 rfl) ?_
    refine lv_iload_n hx hb dX7_rest_5 rfl (lv_at hl 1 rfl) ?_
    refine lv_iload_n hx hb dX7_rest_6 rfl (lv_at hl 2 rfl) ?_
    refine tq_ci (wr := []) hP hD hS hA [0, 1] [] rfl rfl (by decide) (by decide) (va_runV (As := [.int x, .int y]) (rest := []) ⟨hx, hb, hml, hown, hT⟩ (c_X7_canChoose l G cA H.size h0 x y fs pa ps (fh_sub hf [0] rfl) (fh_sub hp [0] rfl)) (cwV 2 hT (tq_gV kw_49_21 kw_49_22 kw_49_23 kw_1_2 kw_50_0) rfl rfl rfl (by decide +kernel) ⟨Nat.le_of_ble_eq_true rfl, Nat.le_of_ble_eq_true rfl⟩) ⟨(tq_pre (isC := [0, 1]) hP hD hK hN rfl (by decide)).1, va_recv hK hP (ci := 7) (q0 := 0) rfl rfl, (tq_pre (isC := [0, 1]) hP hD hK hN rfl (by decide)).2⟩ rfl rfl hl.1 rfl (lv_room (Nat.le_of_ble_eq_true rfl)) dX7_rest_7 ⟨Nat.le_of_ble_eq_true rfl, Nat.le_of_ble_eq_true rfl⟩) (fun r102 u103 H locs hw104 hP hD hS => ?_)
    refine W.widen (k := 0) (n := 0) (Nat.le_of_ble_eq_true rfl) (Nat.le_of_ble_eq_true rfl) ?_
    have hr105 := hw104
    subst hr105
    have hP : va_P G vwCl [(h0, .inr (7, fs)), (pa, .inr (2, ps))] H := hP
    have hD : va_D A [(h0, .inr (7, fs)), (pa, .inr (2, ps))] := hD
    refine lv_if_ne (tgt := 15) hx hb dX7_rest_10 (by decide) (fun c106 => absurd (by decide) c106) (fun c106 => ?_)
    refine lv_iconst (v := (-1)) hx hb dX7_rest_13 (by decide) ?_
    have hP9 : va_P G vwCl [] H := fun k q h => by simp at h
    have hD9 : va_D A [] := ⟨fun i j p q h => by simp at h, fun k q h => by simp at h⟩
    exact W.iret (v := (-1)) hx hb hr (fun t ht hW => ⟨⟨(-1), (), rfl, rfl, by rw [ht]; exact hP9, hD9⟩, hS.F ht⟩) hS.2.2 dX7_rest_14

set_option maxHeartbeats 4000000 in
set_option maxRecDepth 100000 in
theorem c_X7_see (l : Launch) (G : va_G) (cA : Nat → ClassId) (sz : Nat) (h0 : Nat) (x : Int32) (y : Int32) (z : Int32) (w : Int32) (fs : List Value) (pa : Nat) (ps : List Value) (hf : fh fs 12 [(1, .ref pa)]) (hp : fh ps 19 [(2, .int 0), (0, .int 0)]) : Met l yX7_see (.code yX7_see cX7_see 5 (some .int) :: T0) ({ frames := 1, cells := 0, slots := 0, locals := 21 }) (tqP G cA [.ref h0, .int x, .int y, .int z, .int w] [(h0, .inr (7, fs)), (pa, .inr (2, ps))] sz) (tqQi G cA (fun (r : Int32) (u : Unit) => r = (-1)) (fun (u : Unit) => []) (va_A [(h0, .inr (7, fs)), (pa, .inr (2, ps))] sz)) 0 0 (va_A [(h0, .inr (7, fs)), (pa, .inr (2, ps))] sz) := by
  refine Met.ofW (cc := cX7_see) (maxL := 5) (ret := (some .int)) (by decide) rfl ?_
  intro p e s m args below meth c s₁ B hml hv
  obtain ⟨rfl, hsz, hP, hK, hD0, hN⟩ := hv
  have hx := B.exec
  have hb := B.bytes
  have hr := B.returns
  have hts := atoms_spec (ws := .code yX7_see cX7_see 5 (some .int) :: T0) B.pre
  have hT : ∀ w ∈ T0, w.before _ s = true := fun w h => hts w (List.mem_cons_of_mem _ h)
  have hown : s.vm.findClass RX7 = some m.cls := findClass_of_methodNamed B.named
  have hlocks := B.notSynchronized
  subst hsz
  have hD := hD0.self (sz := s.heap.size)
  generalize hAe : va_A [(h0, .inr (7, fs)), (pa, .inr (2, ps))] s.heap.size = A at hD ⊢
  have hA : ∀ q : Nat, s.heap.size ≤ q → A q := fun q h => by rw [← hAe]; exact Or.inr h
  have hS : va_S A s.heap s.heap [] := va_S.rf
  have hl := lv_entry ([.ref h0, .int x, .int y, .int z, .int w]) (n := 5) (Nat.le_of_ble_eq_true rfl)
  rw [lg_entry_eq]
  generalize (lg_sl ([.ref h0, .int x, .int y, .int z, .int w]) ++ List.replicate (5 - (lg_sl ([.ref h0, .int x, .int y, .int z, .int w])).length) Slot.unset).toArray = ls at hl ⊢
  have hl : lv_has ls 5 [(0, .ref h0), (1, .int x), (2, .int y), (3, .int z), (4, .int w)] := hl
  obtain ⟨H, hH⟩ : ∃ z, z = s.heap := ⟨_, rfl⟩
  rw [← hH] at hP
  have hS : va_S A s.heap H [] := by rw [hH]; exact hS
  suffices hgo : W p l e _ s m _ below meth c H [] 0 0 _ _ by rw [hH] at hgo; exact hgo
  have hO := hN.2.2.2.2
  have ho_hf := fo_refl fs
  have ho_hp := fo_refl ps
  refine lv_iload_n hx hb dX7_see_0 rfl (lv_at hl 1 rfl) ?_
  refine lv_if_lt (tgt := 26) hx hb dX7_see_1 (by decide) (fun c101 => ?_) (fun c101 => ?_)
  · have k101 := tq_lt (a := x.toInt) (b := 0) rfl (by decide) c101
    refine lv_iconst (v := (-1)) hx hb dX7_see_26 (by decide) ?_
    have hP9 : va_P G vwCl [] H := fun k q h => by simp at h
    have hD9 : va_D A [] := ⟨fun i j p q h => by simp at h, fun k q h => by simp at h⟩
    exact W.iret (v := (-1)) hx hb hr (fun t ht hW => ⟨⟨(-1), (), rfl, rfl, by rw [ht]; exact hP9, hD9⟩, hS.F ht⟩) hS.2.2 dX7_see_27
  · have k101 := tq_ltn (a := x.toInt) (b := 0) rfl (by decide) c101
    refine lv_iload_n hx hb dX7_see_4 rfl (lv_at hl 1 rfl) ?_
    refine lv_bipush (v := 20) hx hb dX7_see_5 (by decide) ?_
    refine lv_icmp_ge (tgt := 26) hx hb dX7_see_7 (by decide) (fun c102 => ?_) (fun c102 => ?_)
    · have k102 := tq_le (a := 20) (b := x.toInt) (by decide) rfl c102
      refine lv_iconst (v := (-1)) hx hb dX7_see_26 (by decide) ?_
      have hP9 : va_P G vwCl [] H := fun k q h => by simp at h
      have hD9 : va_D A [] := ⟨fun i j p q h => by simp at h, fun k q h => by simp at h⟩
      exact W.iret (v := (-1)) hx hb hr (fun t ht hW => ⟨⟨(-1), (), rfl, rfl, by rw [ht]; exact hP9, hD9⟩, hS.F ht⟩) hS.2.2 dX7_see_27
    · have k102 := tq_len (a := 20) (b := x.toInt) (by decide) rfl c102
      refine lv_aload_n hx hb dX7_see_10 rfl (lv_at hl 0 rfl) ?_
      refine lv_iload_n hx hb dX7_see_11 rfl (lv_at hl 2 rfl) ?_
      refine tq_ci (wr := []) hP hD hS hA [0, 1] [] rfl rfl (by decide) (by decide) (va_runV (As := [.int y]) (rest := []) ⟨hx, hb, hml, hown, hT⟩ (c_X7_isPiece l G cA H.size h0 y fs pa ps (fh_sub hf [0] rfl) (fh_sub hp [0] rfl)) (cwV 1 hT (tq_gV kw_30_9 kw_30_10 kw_30_11 kw_1_2 kw_30_12) rfl rfl rfl (by decide +kernel) ⟨Nat.le_of_ble_eq_true rfl, Nat.le_of_ble_eq_true rfl⟩) ⟨(tq_pre (isC := [0, 1]) hP hD hK hN rfl (by decide)).1, va_recv hK hP (ci := 7) (q0 := 0) rfl rfl, (tq_pre (isC := [0, 1]) hP hD hK hN rfl (by decide)).2⟩ rfl rfl hl.1 rfl (lv_room (Nat.le_of_ble_eq_true rfl)) dX7_see_12 ⟨Nat.le_of_ble_eq_true rfl, Nat.le_of_ble_eq_true rfl⟩) (fun r103 u104 H locs hw105 hP hD hS => ?_)
      refine W.widen (k := 0) (n := 0) (Nat.le_of_ble_eq_true rfl) (Nat.le_of_ble_eq_true rfl) ?_
      have hr106 := hw105
      subst hr106
      have hP : va_P G vwCl [(h0, .inr (7, fs)), (pa, .inr (2, ps))] H := hP
      have hD : va_D A [(h0, .inr (7, fs)), (pa, .inr (2, ps))] := hD
      refine lv_if_eq (tgt := 26) hx hb dX7_see_15 (by decide) (fun c107 => ?_) (fun c107 => absurd (by decide) c107)
      refine lv_iconst (v := (-1)) hx hb dX7_see_26 (by decide) ?_
      have hP9 : va_P G vwCl [] H := fun k q h => by simp at h
      have hD9 : va_D A [] := ⟨fun i j p q h => by simp at h, fun k q h => by simp at h⟩
      exact W.iret (v := (-1)) hx hb hr (fun t ht hW => ⟨⟨(-1), (), rfl, rfl, by rw [ht]; exact hP9, hD9⟩, hS.F ht⟩) hS.2.2 dX7_see_27

set_option maxHeartbeats 4000000 in
set_option maxRecDepth 100000 in
theorem c_X7_strike (l : Launch) (G : va_G) (cA : Nat → ClassId) (sz : Nat) (h0 : Nat) (x : Int32) (fs : List Value) (sg : Nat) (gs : List Value) (hf : fh fs 12 [(8, .ref sg)]) (hsg : fh gs 7 [(0, .int 0)]) : Met l yX7_strike (.code yX7_strike cX7_strike 2 (some .int) :: T0) ({ frames := 0, cells := 0, slots := 0, locals := 0 }) (tqP G cA [.ref h0, .int x] [(h0, .inr (7, fs)), (sg, .inr (4, gs))] sz) (tqQi G cA (fun (r : Int32) (u : Unit) => r = (-1)) (fun (u : Unit) => []) (va_A [(h0, .inr (7, fs)), (sg, .inr (4, gs))] sz)) 0 0 (va_A [(h0, .inr (7, fs)), (sg, .inr (4, gs))] sz) := by
  refine Met.ofW (cc := cX7_strike) (maxL := 2) (ret := (some .int)) (by decide) rfl ?_
  intro p e s m args below meth c s₁ B hml hv
  obtain ⟨rfl, hsz, hP, hK, hD0, hN⟩ := hv
  have hx := B.exec
  have hb := B.bytes
  have hr := B.returns
  have hts := atoms_spec (ws := .code yX7_strike cX7_strike 2 (some .int) :: T0) B.pre
  have hT : ∀ w ∈ T0, w.before _ s = true := fun w h => hts w (List.mem_cons_of_mem _ h)
  have hown : s.vm.findClass RX7 = some m.cls := findClass_of_methodNamed B.named
  have hlocks := B.notSynchronized
  subst hsz
  have hD := hD0.self (sz := s.heap.size)
  generalize hAe : va_A [(h0, .inr (7, fs)), (sg, .inr (4, gs))] s.heap.size = A at hD ⊢
  have hA : ∀ q : Nat, s.heap.size ≤ q → A q := fun q h => by rw [← hAe]; exact Or.inr h
  have hS : va_S A s.heap s.heap [] := va_S.rf
  have hl := lv_entry ([.ref h0, .int x]) (n := 2) (Nat.le_of_ble_eq_true rfl)
  rw [lg_entry_eq]
  generalize (lg_sl ([.ref h0, .int x]) ++ List.replicate (2 - (lg_sl ([.ref h0, .int x])).length) Slot.unset).toArray = ls at hl ⊢
  have hl : lv_has ls 2 [(0, .ref h0), (1, .int x)] := hl
  obtain ⟨H, hH⟩ : ∃ z, z = s.heap := ⟨_, rfl⟩
  rw [← hH] at hP
  have hS : va_S A s.heap H [] := by rw [hH]; exact hS
  suffices hgo : W p l e _ s m _ below meth c H [] 0 0 _ _ by rw [hH] at hgo; exact hgo
  have hO := hN.2.2.2.2
  have ho_hf := fo_refl fs
  have ho_hsg := fo_refl gs
  refine lv_iload_n hx hb dX7_strike_0 rfl (lv_at hl 1 rfl) ?_
  refine lv_if_lt (tgt := 15) hx hb dX7_strike_1 (by decide) (fun c101 => ?_) (fun c101 => ?_)
  · have k101 := tq_lt (a := x.toInt) (b := 0) rfl (by decide) c101
    refine lv_iconst (v := (-1)) hx hb dX7_strike_15 (by decide) ?_
    have hP9 : va_P G vwCl [] H := fun k q h => by simp at h
    have hD9 : va_D A [] := ⟨fun i j p q h => by simp at h, fun k q h => by simp at h⟩
    exact W.iret (v := (-1)) hx hb hr (fun t ht hW => ⟨⟨(-1), (), rfl, rfl, by rw [ht]; exact hP9, hD9⟩, hS.F ht⟩) hS.2.2 dX7_strike_16
  · have k101 := tq_ltn (a := x.toInt) (b := 0) rfl (by decide) c101
    refine lv_iload_n hx hb dX7_strike_4 rfl (lv_at hl 1 rfl) ?_
    refine lv_aload_n hx hb dX7_strike_5 rfl (lv_at hl 0 rfl) ?_
    refine va_get (D := G) (ci := 7) (v := .ref sg) (C := RX7) (T := TX7) (N := 12) hx hb hT ku_7 hown hK hP 0 rfl rfl 8 (by decide) (hT _ kw_2_12) (fun _ h9 => h9) (fh_at hf 0 rfl) dX7_strike_6 ?_
    refine va_get (D := G) (ci := 4) (v := .int 0) (C := RX4) (T := TX4) (N := 7) hx hb hT ku_4 hown hK hP 1 rfl rfl 0 (by decide) (hT _ kw_54_21) (fun _ h9 => h9) (fh_at hsg 0 rfl) dX7_strike_9 ?_
    refine lv_icmp_lt (tgt := 17) hx hb dX7_strike_12 (by decide) (fun c102 => ?_) (fun c102 => ?_)
    · have k102 := tq_lt (a := x.toInt) (b := 0) rfl (by decide) c102
      exfalso
      omega
    · have k102 := tq_ltn (a := x.toInt) (b := 0) rfl (by decide) c102
      refine lv_iconst (v := (-1)) hx hb dX7_strike_15 (by decide) ?_
      have hP9 : va_P G vwCl [] H := fun k q h => by simp at h
      have hD9 : va_D A [] := ⟨fun i j p q h => by simp at h, fun k q h => by simp at h⟩
      exact W.iret (v := (-1)) hx hb hr (fun t ht hW => ⟨⟨(-1), (), rfl, rfl, by rw [ht]; exact hP9, hD9⟩, hS.F ht⟩) hS.2.2 dX7_strike_16

set_option maxHeartbeats 4000000 in
set_option maxRecDepth 100000 in
theorem c_X7_known (l : Launch) (G : va_G) (cA : Nat → ClassId) (sz : Nat) (h0 : Nat) (x : Int32) (fs : List Value) (sg : Nat) (gs : List Value) (hf : fh fs 12 [(8, .ref sg)]) (hsg : fh gs 7 [(0, .int 0)]) : Met l yX7_known (.code yX7_known cX7_known 2 (some .boolean) :: T0) ({ frames := 0, cells := 0, slots := 0, locals := 0 }) (tqP G cA [.ref h0, .int x] [(h0, .inr (7, fs)), (sg, .inr (4, gs))] sz) (tqQi G cA (fun (r : Int32) (u : Unit) => r = ((sp_known x))) (fun (u : Unit) => []) (va_A [(h0, .inr (7, fs)), (sg, .inr (4, gs))] sz)) 0 0 (va_A [(h0, .inr (7, fs)), (sg, .inr (4, gs))] sz) := by
  refine Met.ofW (cc := cX7_known) (maxL := 2) (ret := (some .boolean)) (by decide) rfl ?_
  intro p e s m args below meth c s₁ B hml hv
  obtain ⟨rfl, hsz, hP, hK, hD0, hN⟩ := hv
  have hx := B.exec
  have hb := B.bytes
  have hr := B.returns
  have hts := atoms_spec (ws := .code yX7_known cX7_known 2 (some .boolean) :: T0) B.pre
  have hT : ∀ w ∈ T0, w.before _ s = true := fun w h => hts w (List.mem_cons_of_mem _ h)
  have hown : s.vm.findClass RX7 = some m.cls := findClass_of_methodNamed B.named
  have hlocks := B.notSynchronized
  subst hsz
  have hD := hD0.self (sz := s.heap.size)
  generalize hAe : va_A [(h0, .inr (7, fs)), (sg, .inr (4, gs))] s.heap.size = A at hD ⊢
  have hA : ∀ q : Nat, s.heap.size ≤ q → A q := fun q h => by rw [← hAe]; exact Or.inr h
  have hS : va_S A s.heap s.heap [] := va_S.rf
  have hl := lv_entry ([.ref h0, .int x]) (n := 2) (Nat.le_of_ble_eq_true rfl)
  rw [lg_entry_eq]
  generalize (lg_sl ([.ref h0, .int x]) ++ List.replicate (2 - (lg_sl ([.ref h0, .int x])).length) Slot.unset).toArray = ls at hl ⊢
  have hl : lv_has ls 2 [(0, .ref h0), (1, .int x)] := hl
  obtain ⟨H, hH⟩ : ∃ z, z = s.heap := ⟨_, rfl⟩
  rw [← hH] at hP
  have hS : va_S A s.heap H [] := by rw [hH]; exact hS
  suffices hgo : W p l e _ s m _ below meth c H [] 0 0 _ _ by rw [hH] at hgo; exact hgo
  have hO := hN.2.2.2.2
  have ho_hf := fo_refl fs
  have ho_hsg := fo_refl gs
  refine lv_iload_n hx hb dX7_known_0 rfl (lv_at hl 1 rfl) ?_
  refine lv_iconst (v := (-1)) hx hb dX7_known_1 (by decide) ?_
  refine lv_icmp_lt (tgt := 16) hx hb dX7_known_2 (by decide) (fun c101 => ?_) (fun c101 => ?_)
  · have k101 := tq_lt (a := x.toInt) (b := (-1)) rfl (by decide) c101
    refine lv_iconst (v := 0) hx hb dX7_known_16 (by decide) ?_
    have hP9 : va_P G vwCl [] H := fun k q h => by simp at h
    have hD9 : va_D A [] := ⟨fun i j p q h => by simp at h, fun k q h => by simp at h⟩
    exact W.zret (v := 0) (ty := .boolean) hx hb hr rfl (fun t ht hW => ⟨⟨0, (), rfl, (by unfold sp_known; (repeat' split) <;> first | rfl | (exfalso; omega) | decide), by rw [ht]; exact hP9, hD9⟩, hS.F ht⟩) hS.2.2 dX7_known_17
  · have k101 := tq_ltn (a := x.toInt) (b := (-1)) rfl (by decide) c101
    refine lv_iload_n hx hb dX7_known_5 rfl (lv_at hl 1 rfl) ?_
    refine lv_aload_n hx hb dX7_known_6 rfl (lv_at hl 0 rfl) ?_
    refine va_get (D := G) (ci := 7) (v := .ref sg) (C := RX7) (T := TX7) (N := 12) hx hb hT ku_7 hown hK hP 0 rfl rfl 8 (by decide) (hT _ kw_2_12) (fun _ h9 => h9) (fh_at hf 0 rfl) dX7_known_7 ?_
    refine va_get (D := G) (ci := 4) (v := .int 0) (C := RX4) (T := TX4) (N := 7) hx hb hT ku_4 hown hK hP 1 rfl rfl 0 (by decide) (hT _ kw_54_21) (fun _ h9 => h9) (fh_at hsg 0 rfl) dX7_known_10 ?_
    refine lv_icmp_le (tgt := 18) hx hb dX7_known_13 (by decide) (fun c102 => ?_) (fun c102 => ?_)
    · have k102 := tq_le (a := x.toInt) (b := 0) rfl (by decide) c102
      refine lv_aload_n hx hb dX7_known_18 rfl (lv_at hl 0 rfl) ?_
      refine va_get (D := G) (ci := 7) (v := .ref sg) (C := RX7) (T := TX7) (N := 12) hx hb hT ku_7 hown hK hP 0 rfl rfl 8 (by decide) (hT _ kw_2_12) (fun _ h9 => h9) (fh_at hf 0 rfl) dX7_known_19 ?_
      refine lv_iload_n hx hb dX7_known_22 rfl (lv_at hl 1 rfl) ?_
      refine va_put (D := G) (ci := 4) (v := .int x) (ty := .int) (C := RX4) (T := TX4) (N := 7) hx hb hT ku_4 tyX4 tyX4_ok nmX4 hown hK hP hD hS 1 rfl rfl 1 (by decide) (hT _ kw_55_6) (fun _ h9 => h9) rfl (by decide +kernel) rfl rfl (fh_lt hsg (by decide)) dX7_known_23 (fun H locs hP hD hS => ?_)
      have hP : va_P G vwCl [(h0, .inr (7, fs)), (sg, .inr (4, (gs.set 1 (.int x))))] H := hP
      have hD : va_D A [(h0, .inr (7, fs)), (sg, .inr (4, (gs.set 1 (.int x))))] := hD
      have hsg := fh_set (l' := [(1, .int x), (0, .int 0)]) hsg 1 (.int x) (by decide) rfl
      have ho104 := fo_set ho_hsg 1 (.int x)
      generalize (gs.set 1 (.int x)) = fs103 at hP hD hsg ho104
      refine lv_iconst (v := 1) hx hb dX7_known_26 (by decide) ?_
      have hP9 : va_P G vwCl [] H := fun k q h => by simp at h
      have hD9 : va_D A [] := ⟨fun i j p q h => by simp at h, fun k q h => by simp at h⟩
      exact W.zret (v := 1) (ty := .boolean) hx hb hr rfl (fun t ht hW => ⟨⟨1, (), rfl, (by unfold sp_known; (repeat' split) <;> first | rfl | (exfalso; omega) | decide), by rw [ht]; exact hP9, hD9⟩, hS.F ht⟩) hS.2.2 dX7_known_27
    · have k102 := tq_len (a := x.toInt) (b := 0) rfl (by decide) c102
      refine lv_iconst (v := 0) hx hb dX7_known_16 (by decide) ?_
      have hP9 : va_P G vwCl [] H := fun k q h => by simp at h
      have hD9 : va_D A [] := ⟨fun i j p q h => by simp at h, fun k q h => by simp at h⟩
      exact W.zret (v := 0) (ty := .boolean) hx hb hr rfl (fun t ht hW => ⟨⟨0, (), rfl, (by unfold sp_known; (repeat' split) <;> first | rfl | (exfalso; omega) | decide), by rw [ht]; exact hP9, hD9⟩, hS.F ht⟩) hS.2.2 dX7_known_17

set_option maxHeartbeats 4000000 in
set_option maxRecDepth 100000 in
theorem c_X7_got (l : Launch) (G : va_G) (cA : Nat → ClassId) (sz : Nat) (h0 : Nat) (x : Int32) (fs : List Value) (pa : Nat) (ps : List Value) (hf : fh fs 12 [(1, .ref pa)]) (hp : fh ps 19 [(1, .int 0)]) : Met l yX7_got (.code yX7_got cX7_got 4 (some .int) :: T0) ({ frames := 1, cells := 0, slots := 0, locals := 21 }) (tqP G cA [.ref h0, .int x] [(h0, .inr (7, fs)), (pa, .inr (2, ps))] sz) (tqQi G cA (fun (r : Int32) (u : Unit) => r = (-1)) (fun (u : Unit) => []) (va_A [(h0, .inr (7, fs)), (pa, .inr (2, ps))] sz)) 0 0 (va_A [(h0, .inr (7, fs)), (pa, .inr (2, ps))] sz) := by
  refine Met.ofW (cc := cX7_got) (maxL := 4) (ret := (some .int)) (by decide) rfl ?_
  intro p e s m args below meth c s₁ B hml hv
  obtain ⟨rfl, hsz, hP, hK, hD0, hN⟩ := hv
  have hx := B.exec
  have hb := B.bytes
  have hr := B.returns
  have hts := atoms_spec (ws := .code yX7_got cX7_got 4 (some .int) :: T0) B.pre
  have hT : ∀ w ∈ T0, w.before _ s = true := fun w h => hts w (List.mem_cons_of_mem _ h)
  have hown : s.vm.findClass RX7 = some m.cls := findClass_of_methodNamed B.named
  have hlocks := B.notSynchronized
  subst hsz
  have hD := hD0.self (sz := s.heap.size)
  generalize hAe : va_A [(h0, .inr (7, fs)), (pa, .inr (2, ps))] s.heap.size = A at hD ⊢
  have hA : ∀ q : Nat, s.heap.size ≤ q → A q := fun q h => by rw [← hAe]; exact Or.inr h
  have hS : va_S A s.heap s.heap [] := va_S.rf
  have hl := lv_entry ([.ref h0, .int x]) (n := 4) (Nat.le_of_ble_eq_true rfl)
  rw [lg_entry_eq]
  generalize (lg_sl ([.ref h0, .int x]) ++ List.replicate (4 - (lg_sl ([.ref h0, .int x])).length) Slot.unset).toArray = ls at hl ⊢
  have hl : lv_has ls 4 [(0, .ref h0), (1, .int x)] := hl
  obtain ⟨H, hH⟩ : ∃ z, z = s.heap := ⟨_, rfl⟩
  rw [← hH] at hP
  have hS : va_S A s.heap H [] := by rw [hH]; exact hS
  suffices hgo : W p l e _ s m _ below meth c H [] 0 0 _ _ by rw [hH] at hgo; exact hgo
  have hO := hN.2.2.2.2
  have ho_hf := fo_refl fs
  have ho_hp := fo_refl ps
  refine lv_aload_n hx hb dX7_got_0 rfl (lv_at hl 0 rfl) ?_
  refine lv_iload_n hx hb dX7_got_1 rfl (lv_at hl 1 rfl) ?_
  refine tq_ci (wr := []) hP hD hS hA [0, 1] [] rfl rfl (by decide) (by decide) (va_runV (As := [.int x]) (rest := []) ⟨hx, hb, hml, hown, hT⟩ (c_X7_isPerson l G cA H.size h0 x fs pa ps (fh_sub hf [0] rfl) (fh_sub hp [0] rfl)) (cwV 1 hT (tq_gV kw_29_3 kw_29_4 kw_29_5 kw_1_2 kw_29_6) rfl rfl rfl (by decide +kernel) ⟨Nat.le_of_ble_eq_true rfl, Nat.le_of_ble_eq_true rfl⟩) ⟨(tq_pre (isC := [0, 1]) hP hD hK hN rfl (by decide)).1, va_recv hK hP (ci := 7) (q0 := 0) rfl rfl, (tq_pre (isC := [0, 1]) hP hD hK hN rfl (by decide)).2⟩ rfl rfl hl.1 rfl (lv_room (Nat.le_of_ble_eq_true rfl)) dX7_got_2 ⟨Nat.le_of_ble_eq_true rfl, Nat.le_of_ble_eq_true rfl⟩) (fun r101 u102 H locs hw103 hP hD hS => ?_)
  refine W.widen (k := 0) (n := 0) (Nat.le_of_ble_eq_true rfl) (Nat.le_of_ble_eq_true rfl) ?_
  have hr104 := hw103
  subst hr104
  have hP : va_P G vwCl [(h0, .inr (7, fs)), (pa, .inr (2, ps))] H := hP
  have hD : va_D A [(h0, .inr (7, fs)), (pa, .inr (2, ps))] := hD
  refine lv_if_ne (tgt := 10) hx hb dX7_got_5 (by decide) (fun c105 => absurd (by decide) c105) (fun c105 => ?_)
  refine lv_iconst (v := (-1)) hx hb dX7_got_8 (by decide) ?_
  have hP9 : va_P G vwCl [] H := fun k q h => by simp at h
  have hD9 : va_D A [] := ⟨fun i j p q h => by simp at h, fun k q h => by simp at h⟩
  exact W.iret (v := (-1)) hx hb hr (fun t ht hW => ⟨⟨(-1), (), rfl, rfl, by rw [ht]; exact hP9, hD9⟩, hS.F ht⟩) hS.2.2 dX7_got_9

set_option maxHeartbeats 4000000 in
set_option maxRecDepth 100000 in
theorem c_X7_chance (l : Launch) (G : va_G) (cA : Nat → ClassId) (sz : Nat) (h0 : Nat) (x : Int32) (y : Int32) (fs : List Value) (pa : Nat) (ps : List Value) (hf : fh fs 12 [(1, .ref pa)]) (hp : fh ps 19 [(2, .int 0)]) : Met l yX7_chance (.code yX7_chance cX7_chance 6 (some .int) :: T0) ({ frames := 1, cells := 0, slots := 0, locals := 21 }) (tqP G cA [.ref h0, .int x, .int y] [(h0, .inr (7, fs)), (pa, .inr (2, ps))] sz) (tqQi G cA (fun (r : Int32) (u : Unit) => r = (-1)) (fun (u : Unit) => []) (va_A [(h0, .inr (7, fs)), (pa, .inr (2, ps))] sz)) 0 0 (va_A [(h0, .inr (7, fs)), (pa, .inr (2, ps))] sz) := by
  refine Met.ofW (cc := cX7_chance) (maxL := 6) (ret := (some .int)) (by decide) rfl ?_
  intro p e s m args below meth c s₁ B hml hv
  obtain ⟨rfl, hsz, hP, hK, hD0, hN⟩ := hv
  have hx := B.exec
  have hb := B.bytes
  have hr := B.returns
  have hts := atoms_spec (ws := .code yX7_chance cX7_chance 6 (some .int) :: T0) B.pre
  have hT : ∀ w ∈ T0, w.before _ s = true := fun w h => hts w (List.mem_cons_of_mem _ h)
  have hown : s.vm.findClass RX7 = some m.cls := findClass_of_methodNamed B.named
  have hlocks := B.notSynchronized
  subst hsz
  have hD := hD0.self (sz := s.heap.size)
  generalize hAe : va_A [(h0, .inr (7, fs)), (pa, .inr (2, ps))] s.heap.size = A at hD ⊢
  have hA : ∀ q : Nat, s.heap.size ≤ q → A q := fun q h => by rw [← hAe]; exact Or.inr h
  have hS : va_S A s.heap s.heap [] := va_S.rf
  have hl := lv_entry ([.ref h0, .int x, .int y]) (n := 6) (Nat.le_of_ble_eq_true rfl)
  rw [lg_entry_eq]
  generalize (lg_sl ([.ref h0, .int x, .int y]) ++ List.replicate (6 - (lg_sl ([.ref h0, .int x, .int y])).length) Slot.unset).toArray = ls at hl ⊢
  have hl : lv_has ls 6 [(0, .ref h0), (1, .int x), (2, .int y)] := hl
  obtain ⟨H, hH⟩ : ∃ z, z = s.heap := ⟨_, rfl⟩
  rw [← hH] at hP
  have hS : va_S A s.heap H [] := by rw [hH]; exact hS
  suffices hgo : W p l e _ s m _ below meth c H [] 0 0 _ _ by rw [hH] at hgo; exact hgo
  have hO := hN.2.2.2.2
  have ho_hf := fo_refl fs
  have ho_hp := fo_refl ps
  refine lv_iload_n hx hb dX7_chance_0 rfl (lv_at hl 1 rfl) ?_
  refine lv_if_lt (tgt := 12) hx hb dX7_chance_1 (by decide) (fun c101 => ?_) (fun c101 => ?_)
  · have k101 := tq_lt (a := x.toInt) (b := 0) rfl (by decide) c101
    refine lv_iconst (v := (-1)) hx hb dX7_chance_12 (by decide) ?_
    have hP9 : va_P G vwCl [] H := fun k q h => by simp at h
    have hD9 : va_D A [] := ⟨fun i j p q h => by simp at h, fun k q h => by simp at h⟩
    exact W.iret (v := (-1)) hx hb hr (fun t ht hW => ⟨⟨(-1), (), rfl, rfl, by rw [ht]; exact hP9, hD9⟩, hS.F ht⟩) hS.2.2 dX7_chance_13
  · have k101 := tq_ltn (a := x.toInt) (b := 0) rfl (by decide) c101
    refine lv_aload_n hx hb dX7_chance_4 rfl (lv_at hl 0 rfl) ?_
    refine lv_iload_n hx hb dX7_chance_5 rfl (lv_at hl 2 rfl) ?_
    refine tq_ci (wr := []) hP hD hS hA [0, 1] [] rfl rfl (by decide) (by decide) (va_runV (As := [.int y]) (rest := []) ⟨hx, hb, hml, hown, hT⟩ (c_X7_isPiece l G cA H.size h0 y fs pa ps (fh_sub hf [0] rfl) (fh_sub hp [0] rfl)) (cwV 1 hT (tq_gV kw_30_9 kw_30_10 kw_30_11 kw_1_2 kw_30_12) rfl rfl rfl (by decide +kernel) ⟨Nat.le_of_ble_eq_true rfl, Nat.le_of_ble_eq_true rfl⟩) ⟨(tq_pre (isC := [0, 1]) hP hD hK hN rfl (by decide)).1, va_recv hK hP (ci := 7) (q0 := 0) rfl rfl, (tq_pre (isC := [0, 1]) hP hD hK hN rfl (by decide)).2⟩ rfl rfl hl.1 rfl (lv_room (Nat.le_of_ble_eq_true rfl)) dX7_chance_6 ⟨Nat.le_of_ble_eq_true rfl, Nat.le_of_ble_eq_true rfl⟩) (fun r102 u103 H locs hw104 hP hD hS => ?_)
    refine W.widen (k := 0) (n := 0) (Nat.le_of_ble_eq_true rfl) (Nat.le_of_ble_eq_true rfl) ?_
    have hr105 := hw104
    subst hr105
    have hP : va_P G vwCl [(h0, .inr (7, fs)), (pa, .inr (2, ps))] H := hP
    have hD : va_D A [(h0, .inr (7, fs)), (pa, .inr (2, ps))] := hD
    refine lv_if_ne (tgt := 14) hx hb dX7_chance_9 (by decide) (fun c106 => absurd (by decide) c106) (fun c106 => ?_)
    refine lv_iconst (v := (-1)) hx hb dX7_chance_12 (by decide) ?_
    have hP9 : va_P G vwCl [] H := fun k q h => by simp at h
    have hD9 : va_D A [] := ⟨fun i j p q h => by simp at h, fun k q h => by simp at h⟩
    exact W.iret (v := (-1)) hx hb hr (fun t ht hW => ⟨⟨(-1), (), rfl, rfl, by rw [ht]; exact hP9, hD9⟩, hS.F ht⟩) hS.2.2 dX7_chance_13

set_option maxHeartbeats 4000000 in
set_option maxRecDepth 100000 in
theorem c_X7_count (l : Launch) (G : va_G) (cA : Nat → ClassId) (sz : Nat) (h0 : Nat) (x : Int32) (fs : List Value) (pa : Nat) (t0 : Nat) (sg : Nat) (ch : Nat) (ps : List Value) (ts0 : List Value) (gs : List Value) (cs : List Value) (hf : fh fs 12 [(1, .ref pa), (2, .ref t0), (8, .ref sg), (7, .ref ch)]) (hp : fh ps 19 [(0, .int 0), (1, .int 0), (2, .int 0), (3, .int 0), (4, .int 0)]) (ht0 : fh ts0 20 [(0, .int 0), (1, .int 0), (19, .ref pa)]) (hsg : fh gs 7 [(0, .int 0), (1, .int (-1))]) (hch : fh cs 3 [(0, .int 0)]) : Met l yX7_count (.code yX7_count cX7_count 2 (some .int) :: T0) ({ frames := 1, cells := 0, slots := 0, locals := 23 }) (tqP G cA [.ref h0, .int x] [(h0, .inr (7, fs)), (pa, .inr (2, ps)), (t0, .inr (6, ts0)), (sg, .inr (4, gs)), (ch, .inr (0, cs))] sz) (tqQi G cA (fun (r : Int32) (u : Unit) => r = ((sp_count x))) (fun (u : Unit) => []) (va_A [(h0, .inr (7, fs)), (pa, .inr (2, ps)), (t0, .inr (6, ts0)), (sg, .inr (4, gs)), (ch, .inr (0, cs))] sz)) 0 0 (va_A [(h0, .inr (7, fs)), (pa, .inr (2, ps)), (t0, .inr (6, ts0)), (sg, .inr (4, gs)), (ch, .inr (0, cs))] sz) := by
  refine Met.ofW (cc := cX7_count) (maxL := 2) (ret := (some .int)) (by decide) rfl ?_
  intro p e s m args below meth c s₁ B hml hv
  obtain ⟨rfl, hsz, hP, hK, hD0, hN⟩ := hv
  have hx := B.exec
  have hb := B.bytes
  have hr := B.returns
  have hts := atoms_spec (ws := .code yX7_count cX7_count 2 (some .int) :: T0) B.pre
  have hT : ∀ w ∈ T0, w.before _ s = true := fun w h => hts w (List.mem_cons_of_mem _ h)
  have hown : s.vm.findClass RX7 = some m.cls := findClass_of_methodNamed B.named
  have hlocks := B.notSynchronized
  subst hsz
  have hD := hD0.self (sz := s.heap.size)
  generalize hAe : va_A [(h0, .inr (7, fs)), (pa, .inr (2, ps)), (t0, .inr (6, ts0)), (sg, .inr (4, gs)), (ch, .inr (0, cs))] s.heap.size = A at hD ⊢
  have hA : ∀ q : Nat, s.heap.size ≤ q → A q := fun q h => by rw [← hAe]; exact Or.inr h
  have hS : va_S A s.heap s.heap [] := va_S.rf
  have hl := lv_entry ([.ref h0, .int x]) (n := 2) (Nat.le_of_ble_eq_true rfl)
  rw [lg_entry_eq]
  generalize (lg_sl ([.ref h0, .int x]) ++ List.replicate (2 - (lg_sl ([.ref h0, .int x])).length) Slot.unset).toArray = ls at hl ⊢
  have hl : lv_has ls 2 [(0, .ref h0), (1, .int x)] := hl
  obtain ⟨H, hH⟩ : ∃ z, z = s.heap := ⟨_, rfl⟩
  rw [← hH] at hP
  have hS : va_S A s.heap H [] := by rw [hH]; exact hS
  suffices hgo : W p l e _ s m _ below meth c H [] 0 0 _ _ by rw [hH] at hgo; exact hgo
  have hO := hN.2.2.2.2
  have ho_hf := fo_refl fs
  have ho_hp := fo_refl ps
  have ho_ht0 := fo_refl ts0
  have ho_hsg := fo_refl gs
  have ho_hch := fo_refl cs
  refine lv_iload_n hx hb dX7_count_0 rfl (lv_at hl 1 rfl) ?_
  have k101 : (x.toInt < 0 ∨ 15 < x.toInt) ∨ x.toInt = 0 ∨ x.toInt = 1 ∨ x.toInt = 2 ∨ x.toInt = 3 ∨ x.toInt = 4 ∨ x.toInt = 5 ∨ x.toInt = 6 ∨ x.toInt = 7 ∨ x.toInt = 8 ∨ x.toInt = 9 ∨ x.toInt = 10 ∨ x.toInt = 11 ∨ x.toInt = 12 ∨ x.toInt = 13 ∨ x.toInt = 14 ∨ x.toInt = 15 := by omega
  rcases k101 with k101 | k101 | k101 | k101 | k101 | k101 | k101 | k101 | k101 | k101 | k101 | k101 | k101 | k101 | k101 | k101 | k101
  · refine lv_tableOut (tgt := 182) hx hb dX7_count_1 k101 (by decide) ?_
    refine lv_iconst (v := (-1)) hx hb dX7_count_182 (by decide) ?_
    have hP9 : va_P G vwCl [] H := fun k q h => by simp at h
    have hD9 : va_D A [] := ⟨fun i j p q h => by simp at h, fun k q h => by simp at h⟩
    exact W.iret (v := (-1)) hx hb hr (fun t ht hW => ⟨⟨(-1), (), rfl, (by unfold sp_count; (repeat' split) <;> first | rfl | (exfalso; omega) | decide), by rw [ht]; exact hP9, hD9⟩, hS.F ht⟩) hS.2.2 dX7_count_183
  · refine lv_tableIn (off := 79) (tgt := 80) hx hb dX7_count_1 (by omega) (by omega) (by rw [k101]; rfl) (by decide) ?_
    refine lv_aload_n hx hb dX7_count_80 rfl (lv_at hl 0 rfl) ?_
    refine va_get (D := G) (ci := 7) (v := .ref pa) (C := RX7) (T := TX7) (N := 12) hx hb hT ku_7 hown hK hP 0 rfl rfl 1 (by decide) (hT _ kw_1_20) (fun _ h9 => h9) (fh_at hf 0 rfl) dX7_count_81 ?_
    refine va_get (D := G) (ci := 2) (v := .int 0) (C := RX2) (T := TX2) (N := 19) hx hb hT ku_2 hown hK hP 1 rfl rfl 0 (by decide) (hT _ kw_32_6) (fun _ h9 => h9) (fh_at hp 0 rfl) dX7_count_84 ?_
    have hP9 : va_P G vwCl [] H := fun k q h => by simp at h
    have hD9 : va_D A [] := ⟨fun i j p q h => by simp at h, fun k q h => by simp at h⟩
    exact W.iret (v := 0) hx hb hr (fun t ht hW => ⟨⟨0, (), rfl, (by unfold sp_count; (repeat' split) <;> first | rfl | (exfalso; omega) | decide), by rw [ht]; exact hP9, hD9⟩, hS.F ht⟩) hS.2.2 dX7_count_87
  · refine lv_tableIn (off := 87) (tgt := 88) hx hb dX7_count_1 (by omega) (by omega) (by rw [k101]; rfl) (by decide) ?_
    refine lv_aload_n hx hb dX7_count_88 rfl (lv_at hl 0 rfl) ?_
    refine va_get (D := G) (ci := 7) (v := .ref pa) (C := RX7) (T := TX7) (N := 12) hx hb hT ku_7 hown hK hP 0 rfl rfl 1 (by decide) (hT _ kw_1_20) (fun _ h9 => h9) (fh_at hf 0 rfl) dX7_count_89 ?_
    refine va_get (D := G) (ci := 2) (v := .int 0) (C := RX2) (T := TX2) (N := 19) hx hb hT ku_2 hown hK hP 1 rfl rfl 1 (by decide) (hT _ kw_29_7) (fun _ h9 => h9) (fh_at hp 1 rfl) dX7_count_92 ?_
    have hP9 : va_P G vwCl [] H := fun k q h => by simp at h
    have hD9 : va_D A [] := ⟨fun i j p q h => by simp at h, fun k q h => by simp at h⟩
    exact W.iret (v := 0) hx hb hr (fun t ht hW => ⟨⟨0, (), rfl, (by unfold sp_count; (repeat' split) <;> first | rfl | (exfalso; omega) | decide), by rw [ht]; exact hP9, hD9⟩, hS.F ht⟩) hS.2.2 dX7_count_95
  · refine lv_tableIn (off := 95) (tgt := 96) hx hb dX7_count_1 (by omega) (by omega) (by rw [k101]; rfl) (by decide) ?_
    refine lv_aload_n hx hb dX7_count_96 rfl (lv_at hl 0 rfl) ?_
    refine va_get (D := G) (ci := 7) (v := .ref pa) (C := RX7) (T := TX7) (N := 12) hx hb hT ku_7 hown hK hP 0 rfl rfl 1 (by decide) (hT _ kw_1_20) (fun _ h9 => h9) (fh_at hf 0 rfl) dX7_count_97 ?_
    refine va_get (D := G) (ci := 2) (v := .int 0) (C := RX2) (T := TX2) (N := 19) hx hb hT ku_2 hown hK hP 1 rfl rfl 2 (by decide) (hT _ kw_30_13) (fun _ h9 => h9) (fh_at hp 2 rfl) dX7_count_100 ?_
    have hP9 : va_P G vwCl [] H := fun k q h => by simp at h
    have hD9 : va_D A [] := ⟨fun i j p q h => by simp at h, fun k q h => by simp at h⟩
    exact W.iret (v := 0) hx hb hr (fun t ht hW => ⟨⟨0, (), rfl, (by unfold sp_count; (repeat' split) <;> first | rfl | (exfalso; omega) | decide), by rw [ht]; exact hP9, hD9⟩, hS.F ht⟩) hS.2.2 dX7_count_103
  · refine lv_tableIn (off := 103) (tgt := 104) hx hb dX7_count_1 (by omega) (by omega) (by rw [k101]; rfl) (by decide) ?_
    refine lv_aload_n hx hb dX7_count_104 rfl (lv_at hl 0 rfl) ?_
    refine va_get (D := G) (ci := 7) (v := .ref pa) (C := RX7) (T := TX7) (N := 12) hx hb hT ku_7 hown hK hP 0 rfl rfl 1 (by decide) (hT _ kw_1_20) (fun _ h9 => h9) (fh_at hf 0 rfl) dX7_count_105 ?_
    refine va_get (D := G) (ci := 2) (v := .int 0) (C := RX2) (T := TX2) (N := 19) hx hb hT ku_2 hown hK hP 1 rfl rfl 3 (by decide) (hT _ kw_59_23) (fun _ h9 => h9) (fh_at hp 3 rfl) dX7_count_108 ?_
    have hP9 : va_P G vwCl [] H := fun k q h => by simp at h
    have hD9 : va_D A [] := ⟨fun i j p q h => by simp at h, fun k q h => by simp at h⟩
    exact W.iret (v := 0) hx hb hr (fun t ht hW => ⟨⟨0, (), rfl, (by unfold sp_count; (repeat' split) <;> first | rfl | (exfalso; omega) | decide), by rw [ht]; exact hP9, hD9⟩, hS.F ht⟩) hS.2.2 dX7_count_111
  · refine lv_tableIn (off := 111) (tgt := 112) hx hb dX7_count_1 (by omega) (by omega) (by rw [k101]; rfl) (by decide) ?_
    refine lv_aload_n hx hb dX7_count_112 rfl (lv_at hl 0 rfl) ?_
    refine va_get (D := G) (ci := 7) (v := .ref t0) (C := RX7) (T := TX7) (N := 12) hx hb hT ku_7 hown hK hP 0 rfl rfl 2 (by decide) (hT _ kw_2_0) (fun _ h9 => h9) (fh_at hf 1 rfl) dX7_count_113 ?_
    refine va_get (D := G) (ci := 6) (v := .int 0) (C := RX6) (T := TX6) (N := 20) hx hb hT ku_6 hown hK hP 2 rfl rfl 0 (by decide) (hT _ kw_40_9) (fun _ h9 => h9) (fh_at ht0 0 rfl) dX7_count_116 ?_
    have hP9 : va_P G vwCl [] H := fun k q h => by simp at h
    have hD9 : va_D A [] := ⟨fun i j p q h => by simp at h, fun k q h => by simp at h⟩
    exact W.iret (v := 0) hx hb hr (fun t ht hW => ⟨⟨0, (), rfl, (by unfold sp_count; (repeat' split) <;> first | rfl | (exfalso; omega) | decide), by rw [ht]; exact hP9, hD9⟩, hS.F ht⟩) hS.2.2 dX7_count_119
  · refine lv_tableIn (off := 119) (tgt := 120) hx hb dX7_count_1 (by omega) (by omega) (by rw [k101]; rfl) (by decide) ?_
    refine lv_aload_n hx hb dX7_count_120 rfl (lv_at hl 0 rfl) ?_
    refine va_get (D := G) (ci := 7) (v := .ref t0) (C := RX7) (T := TX7) (N := 12) hx hb hT ku_7 hown hK hP 0 rfl rfl 2 (by decide) (hT _ kw_2_0) (fun _ h9 => h9) (fh_at hf 1 rfl) dX7_count_121 ?_
    refine va_get (D := G) (ci := 6) (v := .int 0) (C := RX6) (T := TX6) (N := 20) hx hb hT ku_6 hown hK hP 2 rfl rfl 1 (by decide) (hT _ kw_46_20) (fun _ h9 => h9) (fh_at ht0 1 rfl) dX7_count_124 ?_
    have hP9 : va_P G vwCl [] H := fun k q h => by simp at h
    have hD9 : va_D A [] := ⟨fun i j p q h => by simp at h, fun k q h => by simp at h⟩
    exact W.iret (v := 0) hx hb hr (fun t ht hW => ⟨⟨0, (), rfl, (by unfold sp_count; (repeat' split) <;> first | rfl | (exfalso; omega) | decide), by rw [ht]; exact hP9, hD9⟩, hS.F ht⟩) hS.2.2 dX7_count_127
  · refine lv_tableIn (off := 127) (tgt := 128) hx hb dX7_count_1 (by omega) (by omega) (by rw [k101]; rfl) (by decide) ?_
    refine lv_aload_n hx hb dX7_count_128 rfl (lv_at hl 0 rfl) ?_
    refine va_get (D := G) (ci := 7) (v := .ref t0) (C := RX7) (T := TX7) (N := 12) hx hb hT ku_7 hown hK hP 0 rfl rfl 2 (by decide) (hT _ kw_2_0) (fun _ h9 => h9) (fh_at hf 1 rfl) dX7_count_129 ?_
    refine lv_iload_n hx hb dX7_count_132 rfl (lv_at hl 1 rfl) ?_
    refine lv_bipush (v := 6) hx hb dX7_count_133 (by decide) ?_
    refine lv_isub hx hb dX7_count_135 ?_
    refine lv_topi (fun x102 ex102 => ?_)
    refine lv_iconst (v := 1) hx hb dX7_count_136 (by decide) ?_
    refine lv_iadd hx hb dX7_count_137 ?_
    refine lv_topi (fun x103 ex103 => ?_)
    refine tq_ci (wr := [(h0, .inr (7, fs)), (sg, .inr (4, gs)), (ch, .inr (0, cs))]) hP hD hS hA [2, 1] [0, 3, 4] rfl rfl (by decide) (by decide) (va_runV (As := [.int x103]) (rest := []) ⟨hx, hb, hml, hown, hT⟩ (c_X6_piecesThatAre l G cA H.size t0 x103 ts0 pa ps (fh_sub ht0 [2] rfl) (fh_sub hp [0, 1, 2] rfl)) (cwV 1 hT (tq_gV kw_60_1 kw_60_2 kw_60_3 kw_1_23 kw_60_4) rfl rfl rfl (by decide +kernel) ⟨Nat.le_of_ble_eq_true rfl, Nat.le_of_ble_eq_true rfl⟩) ⟨(tq_pre (isC := [2, 1]) hP hD hK hN rfl (by decide)).1, va_recv hK hP (ci := 6) (q0 := 2) rfl rfl, (tq_pre (isC := [2, 1]) hP hD hK hN rfl (by decide)).2⟩ rfl rfl hl.1 rfl (lv_room (Nat.le_of_ble_eq_true rfl)) dX7_count_138 ⟨Nat.le_of_ble_eq_true rfl, Nat.le_of_ble_eq_true rfl⟩) (fun r104 u105 H locs hw106 hP hD hS => ?_)
    refine W.widen (k := 0) (n := 0) (Nat.le_of_ble_eq_true rfl) (Nat.le_of_ble_eq_true rfl) ?_
    have hr107 := hw106
    subst hr107
    have hP : va_P G vwCl [(h0, .inr (7, fs)), (sg, .inr (4, gs)), (ch, .inr (0, cs)), (t0, .inr (6, ts0)), (pa, .inr (2, ps))] H := hP
    have hD : va_D A [(h0, .inr (7, fs)), (sg, .inr (4, gs)), (ch, .inr (0, cs)), (t0, .inr (6, ts0)), (pa, .inr (2, ps))] := hD
    have hP9 : va_P G vwCl [] H := fun k q h => by simp at h
    have hD9 : va_D A [] := ⟨fun i j p q h => by simp at h, fun k q h => by simp at h⟩
    exact W.iret (v := 0) hx hb hr (fun t ht hW => ⟨⟨0, (), rfl, (by unfold sp_count; (repeat' split) <;> first | rfl | (exfalso; omega) | decide), by rw [ht]; exact hP9, hD9⟩, hS.F ht⟩) hS.2.2 dX7_count_141
  · refine lv_tableIn (off := 127) (tgt := 128) hx hb dX7_count_1 (by omega) (by omega) (by rw [k101]; rfl) (by decide) ?_
    refine lv_aload_n hx hb dX7_count_128 rfl (lv_at hl 0 rfl) ?_
    refine va_get (D := G) (ci := 7) (v := .ref t0) (C := RX7) (T := TX7) (N := 12) hx hb hT ku_7 hown hK hP 0 rfl rfl 2 (by decide) (hT _ kw_2_0) (fun _ h9 => h9) (fh_at hf 1 rfl) dX7_count_129 ?_
    refine lv_iload_n hx hb dX7_count_132 rfl (lv_at hl 1 rfl) ?_
    refine lv_bipush (v := 6) hx hb dX7_count_133 (by decide) ?_
    refine lv_isub hx hb dX7_count_135 ?_
    refine lv_topi (fun x108 ex108 => ?_)
    refine lv_iconst (v := 1) hx hb dX7_count_136 (by decide) ?_
    refine lv_iadd hx hb dX7_count_137 ?_
    refine lv_topi (fun x109 ex109 => ?_)
    refine tq_ci (wr := [(h0, .inr (7, fs)), (sg, .inr (4, gs)), (ch, .inr (0, cs))]) hP hD hS hA [2, 1] [0, 3, 4] rfl rfl (by decide) (by decide) (va_runV (As := [.int x109]) (rest := []) ⟨hx, hb, hml, hown, hT⟩ (c_X6_piecesThatAre l G cA H.size t0 x109 ts0 pa ps (fh_sub ht0 [2] rfl) (fh_sub hp [0, 1, 2] rfl)) (cwV 1 hT (tq_gV kw_60_1 kw_60_2 kw_60_3 kw_1_23 kw_60_4) rfl rfl rfl (by decide +kernel) ⟨Nat.le_of_ble_eq_true rfl, Nat.le_of_ble_eq_true rfl⟩) ⟨(tq_pre (isC := [2, 1]) hP hD hK hN rfl (by decide)).1, va_recv hK hP (ci := 6) (q0 := 2) rfl rfl, (tq_pre (isC := [2, 1]) hP hD hK hN rfl (by decide)).2⟩ rfl rfl hl.1 rfl (lv_room (Nat.le_of_ble_eq_true rfl)) dX7_count_138 ⟨Nat.le_of_ble_eq_true rfl, Nat.le_of_ble_eq_true rfl⟩) (fun r110 u111 H locs hw112 hP hD hS => ?_)
    refine W.widen (k := 0) (n := 0) (Nat.le_of_ble_eq_true rfl) (Nat.le_of_ble_eq_true rfl) ?_
    have hr113 := hw112
    subst hr113
    have hP : va_P G vwCl [(h0, .inr (7, fs)), (sg, .inr (4, gs)), (ch, .inr (0, cs)), (t0, .inr (6, ts0)), (pa, .inr (2, ps))] H := hP
    have hD : va_D A [(h0, .inr (7, fs)), (sg, .inr (4, gs)), (ch, .inr (0, cs)), (t0, .inr (6, ts0)), (pa, .inr (2, ps))] := hD
    have hP9 : va_P G vwCl [] H := fun k q h => by simp at h
    have hD9 : va_D A [] := ⟨fun i j p q h => by simp at h, fun k q h => by simp at h⟩
    exact W.iret (v := 0) hx hb hr (fun t ht hW => ⟨⟨0, (), rfl, (by unfold sp_count; (repeat' split) <;> first | rfl | (exfalso; omega) | decide), by rw [ht]; exact hP9, hD9⟩, hS.F ht⟩) hS.2.2 dX7_count_141
  · refine lv_tableIn (off := 127) (tgt := 128) hx hb dX7_count_1 (by omega) (by omega) (by rw [k101]; rfl) (by decide) ?_
    refine lv_aload_n hx hb dX7_count_128 rfl (lv_at hl 0 rfl) ?_
    refine va_get (D := G) (ci := 7) (v := .ref t0) (C := RX7) (T := TX7) (N := 12) hx hb hT ku_7 hown hK hP 0 rfl rfl 2 (by decide) (hT _ kw_2_0) (fun _ h9 => h9) (fh_at hf 1 rfl) dX7_count_129 ?_
    refine lv_iload_n hx hb dX7_count_132 rfl (lv_at hl 1 rfl) ?_
    refine lv_bipush (v := 6) hx hb dX7_count_133 (by decide) ?_
    refine lv_isub hx hb dX7_count_135 ?_
    refine lv_topi (fun x114 ex114 => ?_)
    refine lv_iconst (v := 1) hx hb dX7_count_136 (by decide) ?_
    refine lv_iadd hx hb dX7_count_137 ?_
    refine lv_topi (fun x115 ex115 => ?_)
    refine tq_ci (wr := [(h0, .inr (7, fs)), (sg, .inr (4, gs)), (ch, .inr (0, cs))]) hP hD hS hA [2, 1] [0, 3, 4] rfl rfl (by decide) (by decide) (va_runV (As := [.int x115]) (rest := []) ⟨hx, hb, hml, hown, hT⟩ (c_X6_piecesThatAre l G cA H.size t0 x115 ts0 pa ps (fh_sub ht0 [2] rfl) (fh_sub hp [0, 1, 2] rfl)) (cwV 1 hT (tq_gV kw_60_1 kw_60_2 kw_60_3 kw_1_23 kw_60_4) rfl rfl rfl (by decide +kernel) ⟨Nat.le_of_ble_eq_true rfl, Nat.le_of_ble_eq_true rfl⟩) ⟨(tq_pre (isC := [2, 1]) hP hD hK hN rfl (by decide)).1, va_recv hK hP (ci := 6) (q0 := 2) rfl rfl, (tq_pre (isC := [2, 1]) hP hD hK hN rfl (by decide)).2⟩ rfl rfl hl.1 rfl (lv_room (Nat.le_of_ble_eq_true rfl)) dX7_count_138 ⟨Nat.le_of_ble_eq_true rfl, Nat.le_of_ble_eq_true rfl⟩) (fun r116 u117 H locs hw118 hP hD hS => ?_)
    refine W.widen (k := 0) (n := 0) (Nat.le_of_ble_eq_true rfl) (Nat.le_of_ble_eq_true rfl) ?_
    have hr119 := hw118
    subst hr119
    have hP : va_P G vwCl [(h0, .inr (7, fs)), (sg, .inr (4, gs)), (ch, .inr (0, cs)), (t0, .inr (6, ts0)), (pa, .inr (2, ps))] H := hP
    have hD : va_D A [(h0, .inr (7, fs)), (sg, .inr (4, gs)), (ch, .inr (0, cs)), (t0, .inr (6, ts0)), (pa, .inr (2, ps))] := hD
    have hP9 : va_P G vwCl [] H := fun k q h => by simp at h
    have hD9 : va_D A [] := ⟨fun i j p q h => by simp at h, fun k q h => by simp at h⟩
    exact W.iret (v := 0) hx hb hr (fun t ht hW => ⟨⟨0, (), rfl, (by unfold sp_count; (repeat' split) <;> first | rfl | (exfalso; omega) | decide), by rw [ht]; exact hP9, hD9⟩, hS.F ht⟩) hS.2.2 dX7_count_141
  · refine lv_tableIn (off := 127) (tgt := 128) hx hb dX7_count_1 (by omega) (by omega) (by rw [k101]; rfl) (by decide) ?_
    refine lv_aload_n hx hb dX7_count_128 rfl (lv_at hl 0 rfl) ?_
    refine va_get (D := G) (ci := 7) (v := .ref t0) (C := RX7) (T := TX7) (N := 12) hx hb hT ku_7 hown hK hP 0 rfl rfl 2 (by decide) (hT _ kw_2_0) (fun _ h9 => h9) (fh_at hf 1 rfl) dX7_count_129 ?_
    refine lv_iload_n hx hb dX7_count_132 rfl (lv_at hl 1 rfl) ?_
    refine lv_bipush (v := 6) hx hb dX7_count_133 (by decide) ?_
    refine lv_isub hx hb dX7_count_135 ?_
    refine lv_topi (fun x120 ex120 => ?_)
    refine lv_iconst (v := 1) hx hb dX7_count_136 (by decide) ?_
    refine lv_iadd hx hb dX7_count_137 ?_
    refine lv_topi (fun x121 ex121 => ?_)
    refine tq_ci (wr := [(h0, .inr (7, fs)), (sg, .inr (4, gs)), (ch, .inr (0, cs))]) hP hD hS hA [2, 1] [0, 3, 4] rfl rfl (by decide) (by decide) (va_runV (As := [.int x121]) (rest := []) ⟨hx, hb, hml, hown, hT⟩ (c_X6_piecesThatAre l G cA H.size t0 x121 ts0 pa ps (fh_sub ht0 [2] rfl) (fh_sub hp [0, 1, 2] rfl)) (cwV 1 hT (tq_gV kw_60_1 kw_60_2 kw_60_3 kw_1_23 kw_60_4) rfl rfl rfl (by decide +kernel) ⟨Nat.le_of_ble_eq_true rfl, Nat.le_of_ble_eq_true rfl⟩) ⟨(tq_pre (isC := [2, 1]) hP hD hK hN rfl (by decide)).1, va_recv hK hP (ci := 6) (q0 := 2) rfl rfl, (tq_pre (isC := [2, 1]) hP hD hK hN rfl (by decide)).2⟩ rfl rfl hl.1 rfl (lv_room (Nat.le_of_ble_eq_true rfl)) dX7_count_138 ⟨Nat.le_of_ble_eq_true rfl, Nat.le_of_ble_eq_true rfl⟩) (fun r122 u123 H locs hw124 hP hD hS => ?_)
    refine W.widen (k := 0) (n := 0) (Nat.le_of_ble_eq_true rfl) (Nat.le_of_ble_eq_true rfl) ?_
    have hr125 := hw124
    subst hr125
    have hP : va_P G vwCl [(h0, .inr (7, fs)), (sg, .inr (4, gs)), (ch, .inr (0, cs)), (t0, .inr (6, ts0)), (pa, .inr (2, ps))] H := hP
    have hD : va_D A [(h0, .inr (7, fs)), (sg, .inr (4, gs)), (ch, .inr (0, cs)), (t0, .inr (6, ts0)), (pa, .inr (2, ps))] := hD
    have hP9 : va_P G vwCl [] H := fun k q h => by simp at h
    have hD9 : va_D A [] := ⟨fun i j p q h => by simp at h, fun k q h => by simp at h⟩
    exact W.iret (v := 0) hx hb hr (fun t ht hW => ⟨⟨0, (), rfl, (by unfold sp_count; (repeat' split) <;> first | rfl | (exfalso; omega) | decide), by rw [ht]; exact hP9, hD9⟩, hS.F ht⟩) hS.2.2 dX7_count_141
  · refine lv_tableIn (off := 127) (tgt := 128) hx hb dX7_count_1 (by omega) (by omega) (by rw [k101]; rfl) (by decide) ?_
    refine lv_aload_n hx hb dX7_count_128 rfl (lv_at hl 0 rfl) ?_
    refine va_get (D := G) (ci := 7) (v := .ref t0) (C := RX7) (T := TX7) (N := 12) hx hb hT ku_7 hown hK hP 0 rfl rfl 2 (by decide) (hT _ kw_2_0) (fun _ h9 => h9) (fh_at hf 1 rfl) dX7_count_129 ?_
    refine lv_iload_n hx hb dX7_count_132 rfl (lv_at hl 1 rfl) ?_
    refine lv_bipush (v := 6) hx hb dX7_count_133 (by decide) ?_
    refine lv_isub hx hb dX7_count_135 ?_
    refine lv_topi (fun x126 ex126 => ?_)
    refine lv_iconst (v := 1) hx hb dX7_count_136 (by decide) ?_
    refine lv_iadd hx hb dX7_count_137 ?_
    refine lv_topi (fun x127 ex127 => ?_)
    refine tq_ci (wr := [(h0, .inr (7, fs)), (sg, .inr (4, gs)), (ch, .inr (0, cs))]) hP hD hS hA [2, 1] [0, 3, 4] rfl rfl (by decide) (by decide) (va_runV (As := [.int x127]) (rest := []) ⟨hx, hb, hml, hown, hT⟩ (c_X6_piecesThatAre l G cA H.size t0 x127 ts0 pa ps (fh_sub ht0 [2] rfl) (fh_sub hp [0, 1, 2] rfl)) (cwV 1 hT (tq_gV kw_60_1 kw_60_2 kw_60_3 kw_1_23 kw_60_4) rfl rfl rfl (by decide +kernel) ⟨Nat.le_of_ble_eq_true rfl, Nat.le_of_ble_eq_true rfl⟩) ⟨(tq_pre (isC := [2, 1]) hP hD hK hN rfl (by decide)).1, va_recv hK hP (ci := 6) (q0 := 2) rfl rfl, (tq_pre (isC := [2, 1]) hP hD hK hN rfl (by decide)).2⟩ rfl rfl hl.1 rfl (lv_room (Nat.le_of_ble_eq_true rfl)) dX7_count_138 ⟨Nat.le_of_ble_eq_true rfl, Nat.le_of_ble_eq_true rfl⟩) (fun r128 u129 H locs hw130 hP hD hS => ?_)
    refine W.widen (k := 0) (n := 0) (Nat.le_of_ble_eq_true rfl) (Nat.le_of_ble_eq_true rfl) ?_
    have hr131 := hw130
    subst hr131
    have hP : va_P G vwCl [(h0, .inr (7, fs)), (sg, .inr (4, gs)), (ch, .inr (0, cs)), (t0, .inr (6, ts0)), (pa, .inr (2, ps))] H := hP
    have hD : va_D A [(h0, .inr (7, fs)), (sg, .inr (4, gs)), (ch, .inr (0, cs)), (t0, .inr (6, ts0)), (pa, .inr (2, ps))] := hD
    have hP9 : va_P G vwCl [] H := fun k q h => by simp at h
    have hD9 : va_D A [] := ⟨fun i j p q h => by simp at h, fun k q h => by simp at h⟩
    exact W.iret (v := 0) hx hb hr (fun t ht hW => ⟨⟨0, (), rfl, (by unfold sp_count; (repeat' split) <;> first | rfl | (exfalso; omega) | decide), by rw [ht]; exact hP9, hD9⟩, hS.F ht⟩) hS.2.2 dX7_count_141
  · refine lv_tableIn (off := 141) (tgt := 142) hx hb dX7_count_1 (by omega) (by omega) (by rw [k101]; rfl) (by decide) ?_
    refine lv_aload_n hx hb dX7_count_142 rfl (lv_at hl 0 rfl) ?_
    refine va_get (D := G) (ci := 7) (v := .ref t0) (C := RX7) (T := TX7) (N := 12) hx hb hT ku_7 hown hK hP 0 rfl rfl 2 (by decide) (hT _ kw_2_0) (fun _ h9 => h9) (fh_at hf 1 rfl) dX7_count_143 ?_
    refine tq_ci (wr := [(h0, .inr (7, fs)), (sg, .inr (4, gs)), (ch, .inr (0, cs))]) hP hD hS hA [2, 1] [0, 3, 4] rfl rfl (by decide) (by decide) (va_runV (As := []) (rest := []) ⟨hx, hb, hml, hown, hT⟩ (c_X6_personsAboard l G cA H.size t0 ts0 pa ps (fh_sub ht0 [2] rfl) (fh_sub hp [0, 1, 2] rfl)) (cwV 0 hT (tq_gV kw_60_5 kw_60_6 kw_60_7 kw_1_23 kw_60_8) rfl rfl rfl (by decide +kernel) ⟨Nat.le_of_ble_eq_true rfl, Nat.le_of_ble_eq_true rfl⟩) ⟨(tq_pre (isC := [2, 1]) hP hD hK hN rfl (by decide)).1, va_recv hK hP (ci := 6) (q0 := 2) rfl rfl, (tq_pre (isC := [2, 1]) hP hD hK hN rfl (by decide)).2⟩ rfl rfl hl.1 rfl (lv_room (Nat.le_of_ble_eq_true rfl)) dX7_count_146 ⟨Nat.le_of_ble_eq_true rfl, Nat.le_of_ble_eq_true rfl⟩) (fun r132 u133 H locs hw134 hP hD hS => ?_)
    refine W.widen (k := 0) (n := 0) (Nat.le_of_ble_eq_true rfl) (Nat.le_of_ble_eq_true rfl) ?_
    have hr135 := hw134
    subst hr135
    have hP : va_P G vwCl [(h0, .inr (7, fs)), (sg, .inr (4, gs)), (ch, .inr (0, cs)), (t0, .inr (6, ts0)), (pa, .inr (2, ps))] H := hP
    have hD : va_D A [(h0, .inr (7, fs)), (sg, .inr (4, gs)), (ch, .inr (0, cs)), (t0, .inr (6, ts0)), (pa, .inr (2, ps))] := hD
    have hP9 : va_P G vwCl [] H := fun k q h => by simp at h
    have hD9 : va_D A [] := ⟨fun i j p q h => by simp at h, fun k q h => by simp at h⟩
    exact W.iret (v := 0) hx hb hr (fun t ht hW => ⟨⟨0, (), rfl, (by unfold sp_count; (repeat' split) <;> first | rfl | (exfalso; omega) | decide), by rw [ht]; exact hP9, hD9⟩, hS.F ht⟩) hS.2.2 dX7_count_149
  · refine lv_tableIn (off := 149) (tgt := 150) hx hb dX7_count_1 (by omega) (by omega) (by rw [k101]; rfl) (by decide) ?_
    refine lv_aload_n hx hb dX7_count_150 rfl (lv_at hl 0 rfl) ?_
    refine va_get (D := G) (ci := 7) (v := .ref pa) (C := RX7) (T := TX7) (N := 12) hx hb hT ku_7 hown hK hP 0 rfl rfl 1 (by decide) (hT _ kw_1_20) (fun _ h9 => h9) (fh_at hf 0 rfl) dX7_count_151 ?_
    refine va_get (D := G) (ci := 2) (v := .int 0) (C := RX2) (T := TX2) (N := 19) hx hb hT ku_2 hown hK hP 1 rfl rfl 4 (by decide) (hT _ kw_60_0) (fun _ h9 => h9) (fh_at hp 4 rfl) dX7_count_154 ?_
    have hP9 : va_P G vwCl [] H := fun k q h => by simp at h
    have hD9 : va_D A [] := ⟨fun i j p q h => by simp at h, fun k q h => by simp at h⟩
    exact W.iret (v := 0) hx hb hr (fun t ht hW => ⟨⟨0, (), rfl, (by unfold sp_count; (repeat' split) <;> first | rfl | (exfalso; omega) | decide), by rw [ht]; exact hP9, hD9⟩, hS.F ht⟩) hS.2.2 dX7_count_157
  · refine lv_tableIn (off := 157) (tgt := 158) hx hb dX7_count_1 (by omega) (by omega) (by rw [k101]; rfl) (by decide) ?_
    refine lv_aload_n hx hb dX7_count_158 rfl (lv_at hl 0 rfl) ?_
    refine va_get (D := G) (ci := 7) (v := .ref sg) (C := RX7) (T := TX7) (N := 12) hx hb hT ku_7 hown hK hP 0 rfl rfl 8 (by decide) (hT _ kw_2_12) (fun _ h9 => h9) (fh_at hf 2 rfl) dX7_count_159 ?_
    refine va_get (D := G) (ci := 4) (v := .int 0) (C := RX4) (T := TX4) (N := 7) hx hb hT ku_4 hown hK hP 3 rfl rfl 0 (by decide) (hT _ kw_54_21) (fun _ h9 => h9) (fh_at hsg 0 rfl) dX7_count_162 ?_
    have hP9 : va_P G vwCl [] H := fun k q h => by simp at h
    have hD9 : va_D A [] := ⟨fun i j p q h => by simp at h, fun k q h => by simp at h⟩
    exact W.iret (v := 0) hx hb hr (fun t ht hW => ⟨⟨0, (), rfl, (by unfold sp_count; (repeat' split) <;> first | rfl | (exfalso; omega) | decide), by rw [ht]; exact hP9, hD9⟩, hS.F ht⟩) hS.2.2 dX7_count_165
  · refine lv_tableIn (off := 165) (tgt := 166) hx hb dX7_count_1 (by omega) (by omega) (by rw [k101]; rfl) (by decide) ?_
    refine lv_aload_n hx hb dX7_count_166 rfl (lv_at hl 0 rfl) ?_
    refine va_get (D := G) (ci := 7) (v := .ref sg) (C := RX7) (T := TX7) (N := 12) hx hb hT ku_7 hown hK hP 0 rfl rfl 8 (by decide) (hT _ kw_2_12) (fun _ h9 => h9) (fh_at hf 2 rfl) dX7_count_167 ?_
    refine tq_ci (wr := [(h0, .inr (7, fs)), (pa, .inr (2, ps)), (t0, .inr (6, ts0)), (ch, .inr (0, cs))]) hP hD hS hA [3] [0, 1, 2, 4] rfl rfl (by decide) (by decide) (va_runV (As := []) (rest := []) ⟨hx, hb, hml, hown, hT⟩ (c_X4_regarded l G cA H.size sg gs (fh_sub hsg [0, 1] rfl)) (cwV 0 hT (tq_gV kw_60_9 kw_55_20 kw_55_21 kw_2_11 kw_55_22) rfl rfl rfl (by decide +kernel) ⟨Nat.le_of_ble_eq_true rfl, Nat.le_of_ble_eq_true rfl⟩) ⟨(tq_pre (isC := [3]) hP hD hK hN rfl (by decide)).1, va_recv hK hP (ci := 4) (q0 := 3) rfl rfl, (tq_pre (isC := [3]) hP hD hK hN rfl (by decide)).2⟩ rfl rfl hl.1 rfl (lv_room (Nat.le_of_ble_eq_true rfl)) dX7_count_170 ⟨Nat.le_of_ble_eq_true rfl, Nat.le_of_ble_eq_true rfl⟩) (fun r136 u137 H locs hw138 hP hD hS => ?_)
    refine W.widen (k := 0) (n := 0) (Nat.le_of_ble_eq_true rfl) (Nat.le_of_ble_eq_true rfl) ?_
    have hr139 := hw138
    subst hr139
    have hP : va_P G vwCl [(h0, .inr (7, fs)), (pa, .inr (2, ps)), (t0, .inr (6, ts0)), (ch, .inr (0, cs)), (sg, .inr (4, gs))] H := hP
    have hD : va_D A [(h0, .inr (7, fs)), (pa, .inr (2, ps)), (t0, .inr (6, ts0)), (ch, .inr (0, cs)), (sg, .inr (4, gs))] := hD
    have hP9 : va_P G vwCl [] H := fun k q h => by simp at h
    have hD9 : va_D A [] := ⟨fun i j p q h => by simp at h, fun k q h => by simp at h⟩
    exact W.iret (v := 0) hx hb hr (fun t ht hW => ⟨⟨0, (), rfl, (by unfold sp_count; (repeat' split) <;> first | rfl | (exfalso; omega) | decide), by rw [ht]; exact hP9, hD9⟩, hS.F ht⟩) hS.2.2 dX7_count_173
  · refine lv_tableIn (off := 173) (tgt := 174) hx hb dX7_count_1 (by omega) (by omega) (by rw [k101]; rfl) (by decide) ?_
    refine lv_aload_n hx hb dX7_count_174 rfl (lv_at hl 0 rfl) ?_
    refine va_get (D := G) (ci := 7) (v := .ref ch) (C := RX7) (T := TX7) (N := 12) hx hb hT ku_7 hown hK hP 0 rfl rfl 7 (by decide) (hT _ kw_2_8) (fun _ h9 => h9) (fh_at hf 3 rfl) dX7_count_175 ?_
    refine va_get (D := G) (ci := 0) (v := .int 0) (C := RX0) (T := TX0) (N := 3) hx hb hT ku_0 hown hK hP 4 rfl rfl 0 (by decide) (hT _ kw_14_7) (fun _ h9 => h9) (fh_at hch 0 rfl) dX7_count_178 ?_
    have hP9 : va_P G vwCl [] H := fun k q h => by simp at h
    have hD9 : va_D A [] := ⟨fun i j p q h => by simp at h, fun k q h => by simp at h⟩
    exact W.iret (v := 0) hx hb hr (fun t ht hW => ⟨⟨0, (), rfl, (by unfold sp_count; (repeat' split) <;> first | rfl | (exfalso; omega) | decide), by rw [ht]; exact hP9, hD9⟩, hS.F ht⟩) hS.2.2 dX7_count_181
