set_option maxHeartbeats 4000000 in
set_option maxRecDepth 100000 in
theorem c_X8_feed (l : Launch) (G : va_G) (cA : Nat → ClassId) (sz : Nat) (h0 : Nat) (x : Int32) (y : Int32) (z : Int32) (w : Int32) (v : Int32) (fs : List Value) (m0 : Nat) (mf0 : Nat → Int32) (hf : fh fs 91 [(0, .ref m0), (1, .int 0)]) : Met l yX8_feed (.code yX8_feed cX8_feed 8 (some .int) :: T0) ({ frames := 0, cells := 0, slots := 0, locals := 0 }) (tqP G cA [.ref h0, .int x, .int y, .int z, .int w, .int v] [(h0, .inr (8, fs)), (m0, .inl (cA 0, 700, .inl mf0))] sz) (tqQi G cA (fun (r : Int32) (u : Unit) => r = 20) (fun (u : Unit) => []) (va_A [(h0, .inr (8, fs)), (m0, .inl (cA 0, 700, .inl mf0))] sz)) 0 0 (va_A [(h0, .inr (8, fs)), (m0, .inl (cA 0, 700, .inl mf0))] sz) := by
  refine Met.ofW (cc := cX8_feed) (maxL := 8) (ret := (some .int)) (by decide) rfl ?_
  intro p e s m args below meth c s₁ B hml hv
  obtain ⟨rfl, hsz, hP, hK, hD0, hN⟩ := hv
  have hx := B.exec
  have hb := B.bytes
  have hr := B.returns
  have hts := atoms_spec (ws := .code yX8_feed cX8_feed 8 (some .int) :: T0) B.pre
  have hT : ∀ w ∈ T0, w.before _ s = true := fun w h => hts w (List.mem_cons_of_mem _ h)
  have hown : s.vm.findClass RX8 = some m.cls := findClass_of_methodNamed B.named
  have hlocks := B.notSynchronized
  subst hsz
  have hD := hD0.self (sz := s.heap.size)
  generalize hAe : va_A [(h0, .inr (8, fs)), (m0, .inl (cA 0, 700, .inl mf0))] s.heap.size = A at hD ⊢
  have hA : ∀ q : Nat, s.heap.size ≤ q → A q := fun q h => by rw [← hAe]; exact Or.inr h
  have hS : va_S A s.heap s.heap [] := va_S.rf
  have hl := lv_entry ([.ref h0, .int x, .int y, .int z, .int w, .int v]) (n := 8) (Nat.le_of_ble_eq_true rfl)
  rw [lg_entry_eq]
  generalize (lg_sl ([.ref h0, .int x, .int y, .int z, .int w, .int v]) ++ List.replicate (8 - (lg_sl ([.ref h0, .int x, .int y, .int z, .int w, .int v])).length) Slot.unset).toArray = ls at hl ⊢
  have hl : lv_has ls 8 [(0, .ref h0), (1, .int x), (2, .int y), (3, .int z), (4, .int w), (5, .int v)] := hl
  obtain ⟨H, hH⟩ : ∃ z, z = s.heap := ⟨_, rfl⟩
  rw [← hH] at hP
  have hS : va_S A s.heap H [] := by rw [hH]; exact hS
  suffices hgo : W p l e _ s m _ below meth c H [] 0 0 _ _ by rw [hH] at hgo; exact hgo
  have hO := hN.2.2.2.2
  have ho_hf := fo_refl fs
  refine lv_aload_n hx hb dX8_feed_0 rfl (lv_at hl 0 rfl) ?_
  refine lv_iconst (v := 0) hx hb dX8_feed_1 (by decide) ?_
  refine va_put (D := G) (ci := 8) (v := .int 0) (ty := .int) (C := RX8) (T := TX8) (N := 91) hx hb hT ku_8 tyX8 tyX8_ok nmX8 hown hK hP hD hS 0 rfl rfl 2 (by decide) (hT _ kw_14_0) (fun _ h9 => h9) rfl (by decide +kernel) rfl rfl (fh_lt hf (by decide)) dX8_feed_2 (fun H locs hP hD hS => ?_)
  have hP : va_P G vwCl [(h0, .inr (8, (fs.set 2 (.int 0)))), (m0, .inl (cA 0, 700, .inl mf0))] H := hP
  have hD : va_D A [(h0, .inr (8, (fs.set 2 (.int 0)))), (m0, .inl (cA 0, 700, .inl mf0))] := hD
  have hf := fh_set (l' := [(2, .int 0), (0, .ref m0), (1, .int 0)]) hf 2 (.int 0) (by decide) rfl
  have ho102 := fo_set ho_hf 2 (.int 0)
  generalize (fs.set 2 (.int 0)) = fs101 at hP hD hf ho102
  refine lv_aload_n hx hb dX8_feed_5 rfl (lv_at hl 0 rfl) ?_
  refine va_get (D := G) (ci := 8) (v := .int 0) (C := RX8) (T := TX8) (N := 91) hx hb hT ku_8 hown hK hP 0 rfl rfl 1 (by decide) (hT _ kw_14_1) (fun _ h9 => h9) (fh_at hf 2 rfl) dX8_feed_6 ?_
  refine lv_bipush (v := 20) hx hb dX8_feed_9 (by decide) ?_
  refine lv_iadd hx hb dX8_feed_11 ?_
  refine tq_i (w := 20) (by decide) ?_
  refine lv_sipush (v := 700) hx hb dX8_feed_12 (by decide) ?_
  refine lv_icmp_le (tgt := 20) hx hb dX8_feed_15 (by decide) (fun c103 => ?_) (fun c103 => absurd (by decide) c103)
  refine lv_iconst (v := 0) hx hb dX8_feed_20 (by decide) ?_
  refine lv_istore (lv' := [(6, .int 0), (0, .ref h0), (1, .int x), (2, .int y), (3, .int z), (4, .int w), (5, .int v)]) hx hb dX8_feed_21 hl (by decide) rfl (fun ls hl => ?_)
  refine lv_iload hx hb dX8_feed_23 (lv_at hl 0 rfl) ?_
  refine lv_bipush (v := 20) hx hb dX8_feed_25 (by decide) ?_
  refine lv_icmp_ge (tgt := 113) hx hb dX8_feed_27 (by decide) (fun c104 => absurd c104 (by decide)) (fun c104 => ?_)
  refine lv_iload hx hb dX8_feed_30 (lv_at hl 0 rfl) ?_
  refine lv_iconst (v := 4) hx hb dX8_feed_32 (by decide) ?_
  refine lv_icmp_ge (tgt := 40) hx hb dX8_feed_33 (by decide) (fun c105 => absurd c105 (by decide)) (fun c105 => ?_)
  refine lv_iload_n hx hb dX8_feed_36 rfl (lv_at hl 2 rfl) ?_
  refine lv_goto (tgt := 76) hx hb dX8_feed_37 (by decide) ?_
  refine lv_istore (lv' := [(7, .int x), (6, .int 0), (0, .ref h0), (1, .int x), (2, .int y), (3, .int z), (4, .int w), (5, .int v)]) hx hb dX8_feed_76 hl (by decide) rfl (fun ls hl => ?_)
  refine lv_aload_n hx hb dX8_feed_78 rfl (lv_at hl 2 rfl) ?_
  refine va_get (D := G) (ci := 8) (v := .ref m0) (C := RX8) (T := TX8) (N := 91) hx hb hT ku_8 hown hK hP 0 rfl rfl 0 (by decide) (hT _ kw_9_10) (fun _ h9 => h9) (fh_at hf 1 rfl) dX8_feed_79 ?_
  refine lv_aload_n hx hb dX8_feed_82 rfl (lv_at hl 2 rfl) ?_
  refine va_get (D := G) (ci := 8) (v := .int 0) (C := RX8) (T := TX8) (N := 91) hx hb hT ku_8 hown hK hP 0 rfl rfl 1 (by decide) (hT _ kw_14_1) (fun _ h9 => h9) (fh_at hf 2 rfl) dX8_feed_83 ?_
  refine lv_iload hx hb dX8_feed_86 (lv_at hl 1 rfl) ?_
  refine lv_iadd hx hb dX8_feed_88 ?_
  refine tq_i (w := 0) (by decide) ?_
  refine lv_iload hx hb dX8_feed_89 (lv_at hl 0 rfl) ?_
  refine lv_bipush (v := 24) hx hb dX8_feed_91 (by decide) ?_
  refine lv_bipush (v := 8) hx hb dX8_feed_93 (by decide) ?_
  refine lv_iload hx hb dX8_feed_95 (lv_at hl 1 rfl) ?_
  refine lv_iconst (v := 4) hx hb dX8_feed_97 (by decide) ?_
  refine lv_irem hx hb dX8_feed_98 (by decide) ?_
  refine tq_i (w := 0) (by decide) ?_
  refine lv_imul hx hb dX8_feed_99 ?_
  refine tq_i (w := 0) (by decide) ?_
  refine lv_isub hx hb dX8_feed_100 ?_
  refine tq_i (w := 24) (by decide) ?_
  refine lv_ishr hx hb dX8_feed_101 ?_
  refine lv_topi (fun x106 ex106 => ?_)
  refine lv_sipush (v := 255) hx hb dX8_feed_102 (by decide) ?_
  refine lv_iand hx hb dX8_feed_105 ?_
  refine lv_topi (fun x107 ex107 => ?_)
  refine va_iast (i := 0) hx hb hK hP hD hS 1 0 rfl rfl (tq_in (by decide)) dX8_feed_106 (fun H locs hP hD hS => ?_)
  have hP : va_P G vwCl [(h0, .inr (8, fs101)), (m0, .inl (cA 0, 700, .inl ((upd mf0 (0 : Int32).toNatClampNeg x107))))] H := hP
  have hD : va_D A [(h0, .inr (8, fs101)), (m0, .inl (cA 0, 700, .inl ((upd mf0 (0 : Int32).toNatClampNeg x107))))] := hD
  generalize (upd mf0 (0 : Int32).toNatClampNeg x107) = f108 at hP hD
  refine lv_iinc (v := 1) (lv' := [(6, .int 1), (7, .int x), (0, .ref h0), (1, .int x), (2, .int y), (3, .int z), (4, .int w), (5, .int v)]) hx hb dX8_feed_107 hl (k := 1) rfl (by decide) (by decide) rfl (fun ls hl => ?_)
  refine lv_goto (tgt := 23) hx hb dX8_feed_110 (by decide) ?_
  refine lv_iload hx hb dX8_feed_23 (lv_at hl 0 rfl) ?_
  refine lv_bipush (v := 20) hx hb dX8_feed_25 (by decide) ?_
  refine lv_icmp_ge (tgt := 113) hx hb dX8_feed_27 (by decide) (fun c109 => absurd c109 (by decide)) (fun c109 => ?_)
  refine lv_iload hx hb dX8_feed_30 (lv_at hl 0 rfl) ?_
  refine lv_iconst (v := 4) hx hb dX8_feed_32 (by decide) ?_
  refine lv_icmp_ge (tgt := 40) hx hb dX8_feed_33 (by decide) (fun c110 => absurd c110 (by decide)) (fun c110 => ?_)
  refine lv_iload_n hx hb dX8_feed_36 rfl (lv_at hl 3 rfl) ?_
  refine lv_goto (tgt := 76) hx hb dX8_feed_37 (by decide) ?_
  refine lv_istore (lv' := [(7, .int x), (6, .int 1), (0, .ref h0), (1, .int x), (2, .int y), (3, .int z), (4, .int w), (5, .int v)]) hx hb dX8_feed_76 hl (by decide) rfl (fun ls hl => ?_)
  refine lv_aload_n hx hb dX8_feed_78 rfl (lv_at hl 2 rfl) ?_
  refine va_get (D := G) (ci := 8) (v := .ref m0) (C := RX8) (T := TX8) (N := 91) hx hb hT ku_8 hown hK hP 0 rfl rfl 0 (by decide) (hT _ kw_9_10) (fun _ h9 => h9) (fh_at hf 1 rfl) dX8_feed_79 ?_
  refine lv_aload_n hx hb dX8_feed_82 rfl (lv_at hl 2 rfl) ?_
  refine va_get (D := G) (ci := 8) (v := .int 0) (C := RX8) (T := TX8) (N := 91) hx hb hT ku_8 hown hK hP 0 rfl rfl 1 (by decide) (hT _ kw_14_1) (fun _ h9 => h9) (fh_at hf 2 rfl) dX8_feed_83 ?_
  refine lv_iload hx hb dX8_feed_86 (lv_at hl 1 rfl) ?_
  refine lv_iadd hx hb dX8_feed_88 ?_
  refine tq_i (w := 1) (by decide) ?_
  refine lv_iload hx hb dX8_feed_89 (lv_at hl 0 rfl) ?_
  refine lv_bipush (v := 24) hx hb dX8_feed_91 (by decide) ?_
  refine lv_bipush (v := 8) hx hb dX8_feed_93 (by decide) ?_
  refine lv_iload hx hb dX8_feed_95 (lv_at hl 1 rfl) ?_
  refine lv_iconst (v := 4) hx hb dX8_feed_97 (by decide) ?_
  refine lv_irem hx hb dX8_feed_98 (by decide) ?_
  refine tq_i (w := 1) (by decide) ?_
  refine lv_imul hx hb dX8_feed_99 ?_
  refine tq_i (w := 8) (by decide) ?_
  refine lv_isub hx hb dX8_feed_100 ?_
  refine tq_i (w := 16) (by decide) ?_
  refine lv_ishr hx hb dX8_feed_101 ?_
  refine lv_topi (fun x111 ex111 => ?_)
  refine lv_sipush (v := 255) hx hb dX8_feed_102 (by decide) ?_
  refine lv_iand hx hb dX8_feed_105 ?_
  refine lv_topi (fun x112 ex112 => ?_)
  refine va_iast (i := 1) hx hb hK hP hD hS 1 0 rfl rfl (tq_in (by decide)) dX8_feed_106 (fun H locs hP hD hS => ?_)
  have hP : va_P G vwCl [(h0, .inr (8, fs101)), (m0, .inl (cA 0, 700, .inl ((upd f108 (1 : Int32).toNatClampNeg x112))))] H := hP
  have hD : va_D A [(h0, .inr (8, fs101)), (m0, .inl (cA 0, 700, .inl ((upd f108 (1 : Int32).toNatClampNeg x112))))] := hD
  generalize (upd f108 (1 : Int32).toNatClampNeg x112) = f113 at hP hD
  refine lv_iinc (v := 2) (lv' := [(6, .int 2), (7, .int x), (0, .ref h0), (1, .int x), (2, .int y), (3, .int z), (4, .int w), (5, .int v)]) hx hb dX8_feed_107 hl (k := 1) rfl (by decide) (by decide) rfl (fun ls hl => ?_)
  refine lv_goto (tgt := 23) hx hb dX8_feed_110 (by decide) ?_
  refine lv_iload hx hb dX8_feed_23 (lv_at hl 0 rfl) ?_
  refine lv_bipush (v := 20) hx hb dX8_feed_25 (by decide) ?_
  refine lv_icmp_ge (tgt := 113) hx hb dX8_feed_27 (by decide) (fun c114 => absurd c114 (by decide)) (fun c114 => ?_)
  refine lv_iload hx hb dX8_feed_30 (lv_at hl 0 rfl) ?_
  refine lv_iconst (v := 4) hx hb dX8_feed_32 (by decide) ?_
  refine lv_icmp_ge (tgt := 40) hx hb dX8_feed_33 (by decide) (fun c115 => absurd c115 (by decide)) (fun c115 => ?_)
  refine lv_iload_n hx hb dX8_feed_36 rfl (lv_at hl 3 rfl) ?_
  refine lv_goto (tgt := 76) hx hb dX8_feed_37 (by decide) ?_
  refine lv_istore (lv' := [(7, .int x), (6, .int 2), (0, .ref h0), (1, .int x), (2, .int y), (3, .int z), (4, .int w), (5, .int v)]) hx hb dX8_feed_76 hl (by decide) rfl (fun ls hl => ?_)
  refine lv_aload_n hx hb dX8_feed_78 rfl (lv_at hl 2 rfl) ?_
  refine va_get (D := G) (ci := 8) (v := .ref m0) (C := RX8) (T := TX8) (N := 91) hx hb hT ku_8 hown hK hP 0 rfl rfl 0 (by decide) (hT _ kw_9_10) (fun _ h9 => h9) (fh_at hf 1 rfl) dX8_feed_79 ?_
  refine lv_aload_n hx hb dX8_feed_82 rfl (lv_at hl 2 rfl) ?_
  refine va_get (D := G) (ci := 8) (v := .int 0) (C := RX8) (T := TX8) (N := 91) hx hb hT ku_8 hown hK hP 0 rfl rfl 1 (by decide) (hT _ kw_14_1) (fun _ h9 => h9) (fh_at hf 2 rfl) dX8_feed_83 ?_
  refine lv_iload hx hb dX8_feed_86 (lv_at hl 1 rfl) ?_
  refine lv_iadd hx hb dX8_feed_88 ?_
  refine tq_i (w := 2) (by decide) ?_
  refine lv_iload hx hb dX8_feed_89 (lv_at hl 0 rfl) ?_
  refine lv_bipush (v := 24) hx hb dX8_feed_91 (by decide) ?_
  refine lv_bipush (v := 8) hx hb dX8_feed_93 (by decide) ?_
  refine lv_iload hx hb dX8_feed_95 (lv_at hl 1 rfl) ?_
  refine lv_iconst (v := 4) hx hb dX8_feed_97 (by decide) ?_
  refine lv_irem hx hb dX8_feed_98 (by decide) ?_
  refine tq_i (w := 2) (by decide) ?_
  refine lv_imul hx hb dX8_feed_99 ?_
  refine tq_i (w := 16) (by decide) ?_
  refine lv_isub hx hb dX8_feed_100 ?_
  refine tq_i (w := 8) (by decide) ?_
  refine lv_ishr hx hb dX8_feed_101 ?_
  refine lv_topi (fun x116 ex116 => ?_)
  refine lv_sipush (v := 255) hx hb dX8_feed_102 (by decide) ?_
  refine lv_iand hx hb dX8_feed_105 ?_
  refine lv_topi (fun x117 ex117 => ?_)
  refine va_iast (i := 2) hx hb hK hP hD hS 1 0 rfl rfl (tq_in (by decide)) dX8_feed_106 (fun H locs hP hD hS => ?_)
  have hP : va_P G vwCl [(h0, .inr (8, fs101)), (m0, .inl (cA 0, 700, .inl ((upd f113 (2 : Int32).toNatClampNeg x117))))] H := hP
  have hD : va_D A [(h0, .inr (8, fs101)), (m0, .inl (cA 0, 700, .inl ((upd f113 (2 : Int32).toNatClampNeg x117))))] := hD
  generalize (upd f113 (2 : Int32).toNatClampNeg x117) = f118 at hP hD
  refine lv_iinc (v := 3) (lv' := [(6, .int 3), (7, .int x), (0, .ref h0), (1, .int x), (2, .int y), (3, .int z), (4, .int w), (5, .int v)]) hx hb dX8_feed_107 hl (k := 1) rfl (by decide) (by decide) rfl (fun ls hl => ?_)
  refine lv_goto (tgt := 23) hx hb dX8_feed_110 (by decide) ?_
  refine lv_iload hx hb dX8_feed_23 (lv_at hl 0 rfl) ?_
  refine lv_bipush (v := 20) hx hb dX8_feed_25 (by decide) ?_
  refine lv_icmp_ge (tgt := 113) hx hb dX8_feed_27 (by decide) (fun c119 => absurd c119 (by decide)) (fun c119 => ?_)
  refine lv_iload hx hb dX8_feed_30 (lv_at hl 0 rfl) ?_
  refine lv_iconst (v := 4) hx hb dX8_feed_32 (by decide) ?_
  refine lv_icmp_ge (tgt := 40) hx hb dX8_feed_33 (by decide) (fun c120 => absurd c120 (by decide)) (fun c120 => ?_)
  refine lv_iload_n hx hb dX8_feed_36 rfl (lv_at hl 3 rfl) ?_
  refine lv_goto (tgt := 76) hx hb dX8_feed_37 (by decide) ?_
  refine lv_istore (lv' := [(7, .int x), (6, .int 3), (0, .ref h0), (1, .int x), (2, .int y), (3, .int z), (4, .int w), (5, .int v)]) hx hb dX8_feed_76 hl (by decide) rfl (fun ls hl => ?_)
  refine lv_aload_n hx hb dX8_feed_78 rfl (lv_at hl 2 rfl) ?_
  refine va_get (D := G) (ci := 8) (v := .ref m0) (C := RX8) (T := TX8) (N := 91) hx hb hT ku_8 hown hK hP 0 rfl rfl 0 (by decide) (hT _ kw_9_10) (fun _ h9 => h9) (fh_at hf 1 rfl) dX8_feed_79 ?_
  refine lv_aload_n hx hb dX8_feed_82 rfl (lv_at hl 2 rfl) ?_
  refine va_get (D := G) (ci := 8) (v := .int 0) (C := RX8) (T := TX8) (N := 91) hx hb hT ku_8 hown hK hP 0 rfl rfl 1 (by decide) (hT _ kw_14_1) (fun _ h9 => h9) (fh_at hf 2 rfl) dX8_feed_83 ?_
  refine lv_iload hx hb dX8_feed_86 (lv_at hl 1 rfl) ?_
  refine lv_iadd hx hb dX8_feed_88 ?_
  refine tq_i (w := 3) (by decide) ?_
  refine lv_iload hx hb dX8_feed_89 (lv_at hl 0 rfl) ?_
  refine lv_bipush (v := 24) hx hb dX8_feed_91 (by decide) ?_
  refine lv_bipush (v := 8) hx hb dX8_feed_93 (by decide) ?_
  refine lv_iload hx hb dX8_feed_95 (lv_at hl 1 rfl) ?_
  refine lv_iconst (v := 4) hx hb dX8_feed_97 (by decide) ?_
  refine lv_irem hx hb dX8_feed_98 (by decide) ?_
  refine tq_i (w := 3) (by decide) ?_
  refine lv_imul hx hb dX8_feed_99 ?_
  refine tq_i (w := 24) (by decide) ?_
  refine lv_isub hx hb dX8_feed_100 ?_
  refine tq_i (w := 0) (by decide) ?_
  refine lv_ishr hx hb dX8_feed_101 ?_
  refine lv_topi (fun x121 ex121 => ?_)
  refine lv_sipush (v := 255) hx hb dX8_feed_102 (by decide) ?_
  refine lv_iand hx hb dX8_feed_105 ?_
  refine lv_topi (fun x122 ex122 => ?_)
  refine va_iast (i := 3) hx hb hK hP hD hS 1 0 rfl rfl (tq_in (by decide)) dX8_feed_106 (fun H locs hP hD hS => ?_)
  have hP : va_P G vwCl [(h0, .inr (8, fs101)), (m0, .inl (cA 0, 700, .inl ((upd f118 (3 : Int32).toNatClampNeg x122))))] H := hP
  have hD : va_D A [(h0, .inr (8, fs101)), (m0, .inl (cA 0, 700, .inl ((upd f118 (3 : Int32).toNatClampNeg x122))))] := hD
  generalize (upd f118 (3 : Int32).toNatClampNeg x122) = f123 at hP hD
  refine lv_iinc (v := 4) (lv' := [(6, .int 4), (7, .int x), (0, .ref h0), (1, .int x), (2, .int y), (3, .int z), (4, .int w), (5, .int v)]) hx hb dX8_feed_107 hl (k := 1) rfl (by decide) (by decide) rfl (fun ls hl => ?_)
  refine lv_goto (tgt := 23) hx hb dX8_feed_110 (by decide) ?_
  refine lv_iload hx hb dX8_feed_23 (lv_at hl 0 rfl) ?_
  refine lv_bipush (v := 20) hx hb dX8_feed_25 (by decide) ?_
  refine lv_icmp_ge (tgt := 113) hx hb dX8_feed_27 (by decide) (fun c124 => absurd c124 (by decide)) (fun c124 => ?_)
  refine lv_iload hx hb dX8_feed_30 (lv_at hl 0 rfl) ?_
  refine lv_iconst (v := 4) hx hb dX8_feed_32 (by decide) ?_
  refine lv_icmp_ge (tgt := 40) hx hb dX8_feed_33 (by decide) (fun c125 => ?_) (fun c125 => absurd (by decide) c125)
  refine lv_iload hx hb dX8_feed_40 (lv_at hl 0 rfl) ?_
  refine lv_bipush (v := 8) hx hb dX8_feed_42 (by decide) ?_
  refine lv_icmp_ge (tgt := 51) hx hb dX8_feed_44 (by decide) (fun c126 => absurd c126 (by decide)) (fun c126 => ?_)
  refine lv_iload_n hx hb dX8_feed_47 rfl (lv_at hl 4 rfl) ?_
  refine lv_goto (tgt := 76) hx hb dX8_feed_48 (by decide) ?_
  refine lv_istore (lv' := [(7, .int y), (6, .int 4), (0, .ref h0), (1, .int x), (2, .int y), (3, .int z), (4, .int w), (5, .int v)]) hx hb dX8_feed_76 hl (by decide) rfl (fun ls hl => ?_)
  refine lv_aload_n hx hb dX8_feed_78 rfl (lv_at hl 2 rfl) ?_
  refine va_get (D := G) (ci := 8) (v := .ref m0) (C := RX8) (T := TX8) (N := 91) hx hb hT ku_8 hown hK hP 0 rfl rfl 0 (by decide) (hT _ kw_9_10) (fun _ h9 => h9) (fh_at hf 1 rfl) dX8_feed_79 ?_
  refine lv_aload_n hx hb dX8_feed_82 rfl (lv_at hl 2 rfl) ?_
  refine va_get (D := G) (ci := 8) (v := .int 0) (C := RX8) (T := TX8) (N := 91) hx hb hT ku_8 hown hK hP 0 rfl rfl 1 (by decide) (hT _ kw_14_1) (fun _ h9 => h9) (fh_at hf 2 rfl) dX8_feed_83 ?_
  refine lv_iload hx hb dX8_feed_86 (lv_at hl 1 rfl) ?_
  refine lv_iadd hx hb dX8_feed_88 ?_
  refine tq_i (w := 4) (by decide) ?_
  refine lv_iload hx hb dX8_feed_89 (lv_at hl 0 rfl) ?_
  refine lv_bipush (v := 24) hx hb dX8_feed_91 (by decide) ?_
  refine lv_bipush (v := 8) hx hb dX8_feed_93 (by decide) ?_
  refine lv_iload hx hb dX8_feed_95 (lv_at hl 1 rfl) ?_
  refine lv_iconst (v := 4) hx hb dX8_feed_97 (by decide) ?_
  refine lv_irem hx hb dX8_feed_98 (by decide) ?_
  refine tq_i (w := 0) (by decide) ?_
  refine lv_imul hx hb dX8_feed_99 ?_
  refine tq_i (w := 0) (by decide) ?_
  refine lv_isub hx hb dX8_feed_100 ?_
  refine tq_i (w := 24) (by decide) ?_
  refine lv_ishr hx hb dX8_feed_101 ?_
  refine lv_topi (fun x127 ex127 => ?_)
  refine lv_sipush (v := 255) hx hb dX8_feed_102 (by decide) ?_
  refine lv_iand hx hb dX8_feed_105 ?_
  refine lv_topi (fun x128 ex128 => ?_)
  refine va_iast (i := 4) hx hb hK hP hD hS 1 0 rfl rfl (tq_in (by decide)) dX8_feed_106 (fun H locs hP hD hS => ?_)
  have hP : va_P G vwCl [(h0, .inr (8, fs101)), (m0, .inl (cA 0, 700, .inl ((upd f123 (4 : Int32).toNatClampNeg x128))))] H := hP
  have hD : va_D A [(h0, .inr (8, fs101)), (m0, .inl (cA 0, 700, .inl ((upd f123 (4 : Int32).toNatClampNeg x128))))] := hD
  generalize (upd f123 (4 : Int32).toNatClampNeg x128) = f129 at hP hD
  refine lv_iinc (v := 5) (lv' := [(6, .int 5), (7, .int y), (0, .ref h0), (1, .int x), (2, .int y), (3, .int z), (4, .int w), (5, .int v)]) hx hb dX8_feed_107 hl (k := 1) rfl (by decide) (by decide) rfl (fun ls hl => ?_)
  refine lv_goto (tgt := 23) hx hb dX8_feed_110 (by decide) ?_
  refine lv_iload hx hb dX8_feed_23 (lv_at hl 0 rfl) ?_
  refine lv_bipush (v := 20) hx hb dX8_feed_25 (by decide) ?_
  refine lv_icmp_ge (tgt := 113) hx hb dX8_feed_27 (by decide) (fun c130 => absurd c130 (by decide)) (fun c130 => ?_)
  refine lv_iload hx hb dX8_feed_30 (lv_at hl 0 rfl) ?_
  refine lv_iconst (v := 4) hx hb dX8_feed_32 (by decide) ?_
  refine lv_icmp_ge (tgt := 40) hx hb dX8_feed_33 (by decide) (fun c131 => ?_) (fun c131 => absurd (by decide) c131)
  refine lv_iload hx hb dX8_feed_40 (lv_at hl 0 rfl) ?_
  refine lv_bipush (v := 8) hx hb dX8_feed_42 (by decide) ?_
  refine lv_icmp_ge (tgt := 51) hx hb dX8_feed_44 (by decide) (fun c132 => absurd c132 (by decide)) (fun c132 => ?_)
  refine lv_iload_n hx hb dX8_feed_47 rfl (lv_at hl 4 rfl) ?_
  refine lv_goto (tgt := 76) hx hb dX8_feed_48 (by decide) ?_
  refine lv_istore (lv' := [(7, .int y), (6, .int 5), (0, .ref h0), (1, .int x), (2, .int y), (3, .int z), (4, .int w), (5, .int v)]) hx hb dX8_feed_76 hl (by decide) rfl (fun ls hl => ?_)
  refine lv_aload_n hx hb dX8_feed_78 rfl (lv_at hl 2 rfl) ?_
  refine va_get (D := G) (ci := 8) (v := .ref m0) (C := RX8) (T := TX8) (N := 91) hx hb hT ku_8 hown hK hP 0 rfl rfl 0 (by decide) (hT _ kw_9_10) (fun _ h9 => h9) (fh_at hf 1 rfl) dX8_feed_79 ?_
  refine lv_aload_n hx hb dX8_feed_82 rfl (lv_at hl 2 rfl) ?_
  refine va_get (D := G) (ci := 8) (v := .int 0) (C := RX8) (T := TX8) (N := 91) hx hb hT ku_8 hown hK hP 0 rfl rfl 1 (by decide) (hT _ kw_14_1) (fun _ h9 => h9) (fh_at hf 2 rfl) dX8_feed_83 ?_
  refine lv_iload hx hb dX8_feed_86 (lv_at hl 1 rfl) ?_
  refine lv_iadd hx hb dX8_feed_88 ?_
  refine tq_i (w := 5) (by decide) ?_
  refine lv_iload hx hb dX8_feed_89 (lv_at hl 0 rfl) ?_
  refine lv_bipush (v := 24) hx hb dX8_feed_91 (by decide) ?_
  refine lv_bipush (v := 8) hx hb dX8_feed_93 (by decide) ?_
  refine lv_iload hx hb dX8_feed_95 (lv_at hl 1 rfl) ?_
  refine lv_iconst (v := 4) hx hb dX8_feed_97 (by decide) ?_
  refine lv_irem hx hb dX8_feed_98 (by decide) ?_
  refine tq_i (w := 1) (by decide) ?_
  refine lv_imul hx hb dX8_feed_99 ?_
  refine tq_i (w := 8) (by decide) ?_
  refine lv_isub hx hb dX8_feed_100 ?_
  refine tq_i (w := 16) (by decide) ?_
  refine lv_ishr hx hb dX8_feed_101 ?_
  refine lv_topi (fun x133 ex133 => ?_)
  refine lv_sipush (v := 255) hx hb dX8_feed_102 (by decide) ?_
  refine lv_iand hx hb dX8_feed_105 ?_
  refine lv_topi (fun x134 ex134 => ?_)
  refine va_iast (i := 5) hx hb hK hP hD hS 1 0 rfl rfl (tq_in (by decide)) dX8_feed_106 (fun H locs hP hD hS => ?_)
  have hP : va_P G vwCl [(h0, .inr (8, fs101)), (m0, .inl (cA 0, 700, .inl ((upd f129 (5 : Int32).toNatClampNeg x134))))] H := hP
  have hD : va_D A [(h0, .inr (8, fs101)), (m0, .inl (cA 0, 700, .inl ((upd f129 (5 : Int32).toNatClampNeg x134))))] := hD
  generalize (upd f129 (5 : Int32).toNatClampNeg x134) = f135 at hP hD
  refine lv_iinc (v := 6) (lv' := [(6, .int 6), (7, .int y), (0, .ref h0), (1, .int x), (2, .int y), (3, .int z), (4, .int w), (5, .int v)]) hx hb dX8_feed_107 hl (k := 1) rfl (by decide) (by decide) rfl (fun ls hl => ?_)
  refine lv_goto (tgt := 23) hx hb dX8_feed_110 (by decide) ?_
  refine lv_iload hx hb dX8_feed_23 (lv_at hl 0 rfl) ?_
  refine lv_bipush (v := 20) hx hb dX8_feed_25 (by decide) ?_
  refine lv_icmp_ge (tgt := 113) hx hb dX8_feed_27 (by decide) (fun c136 => absurd c136 (by decide)) (fun c136 => ?_)
  refine lv_iload hx hb dX8_feed_30 (lv_at hl 0 rfl) ?_
  refine lv_iconst (v := 4) hx hb dX8_feed_32 (by decide) ?_
  refine lv_icmp_ge (tgt := 40) hx hb dX8_feed_33 (by decide) (fun c137 => ?_) (fun c137 => absurd (by decide) c137)
  refine lv_iload hx hb dX8_feed_40 (lv_at hl 0 rfl) ?_
  refine lv_bipush (v := 8) hx hb dX8_feed_42 (by decide) ?_
  refine lv_icmp_ge (tgt := 51) hx hb dX8_feed_44 (by decide) (fun c138 => absurd c138 (by decide)) (fun c138 => ?_)
  refine lv_iload_n hx hb dX8_feed_47 rfl (lv_at hl 4 rfl) ?_
  refine lv_goto (tgt := 76) hx hb dX8_feed_48 (by decide) ?_
  refine lv_istore (lv' := [(7, .int y), (6, .int 6), (0, .ref h0), (1, .int x), (2, .int y), (3, .int z), (4, .int w), (5, .int v)]) hx hb dX8_feed_76 hl (by decide) rfl (fun ls hl => ?_)
  refine lv_aload_n hx hb dX8_feed_78 rfl (lv_at hl 2 rfl) ?_
  refine va_get (D := G) (ci := 8) (v := .ref m0) (C := RX8) (T := TX8) (N := 91) hx hb hT ku_8 hown hK hP 0 rfl rfl 0 (by decide) (hT _ kw_9_10) (fun _ h9 => h9) (fh_at hf 1 rfl) dX8_feed_79 ?_
  refine lv_aload_n hx hb dX8_feed_82 rfl (lv_at hl 2 rfl) ?_
  refine va_get (D := G) (ci := 8) (v := .int 0) (C := RX8) (T := TX8) (N := 91) hx hb hT ku_8 hown hK hP 0 rfl rfl 1 (by decide) (hT _ kw_14_1) (fun _ h9 => h9) (fh_at hf 2 rfl) dX8_feed_83 ?_
  refine lv_iload hx hb dX8_feed_86 (lv_at hl 1 rfl) ?_
  refine lv_iadd hx hb dX8_feed_88 ?_
  refine tq_i (w := 6) (by decide) ?_
  refine lv_iload hx hb dX8_feed_89 (lv_at hl 0 rfl) ?_
  refine lv_bipush (v := 24) hx hb dX8_feed_91 (by decide) ?_
  refine lv_bipush (v := 8) hx hb dX8_feed_93 (by decide) ?_
  refine lv_iload hx hb dX8_feed_95 (lv_at hl 1 rfl) ?_
  refine lv_iconst (v := 4) hx hb dX8_feed_97 (by decide) ?_
  refine lv_irem hx hb dX8_feed_98 (by decide) ?_
  refine tq_i (w := 2) (by decide) ?_
  refine lv_imul hx hb dX8_feed_99 ?_
  refine tq_i (w := 16) (by decide) ?_
  refine lv_isub hx hb dX8_feed_100 ?_
  refine tq_i (w := 8) (by decide) ?_
  refine lv_ishr hx hb dX8_feed_101 ?_
  refine lv_topi (fun x139 ex139 => ?_)
  refine lv_sipush (v := 255) hx hb dX8_feed_102 (by decide) ?_
  refine lv_iand hx hb dX8_feed_105 ?_
  refine lv_topi (fun x140 ex140 => ?_)
  refine va_iast (i := 6) hx hb hK hP hD hS 1 0 rfl rfl (tq_in (by decide)) dX8_feed_106 (fun H locs hP hD hS => ?_)
  have hP : va_P G vwCl [(h0, .inr (8, fs101)), (m0, .inl (cA 0, 700, .inl ((upd f135 (6 : Int32).toNatClampNeg x140))))] H := hP
  have hD : va_D A [(h0, .inr (8, fs101)), (m0, .inl (cA 0, 700, .inl ((upd f135 (6 : Int32).toNatClampNeg x140))))] := hD
  generalize (upd f135 (6 : Int32).toNatClampNeg x140) = f141 at hP hD
  refine lv_iinc (v := 7) (lv' := [(6, .int 7), (7, .int y), (0, .ref h0), (1, .int x), (2, .int y), (3, .int z), (4, .int w), (5, .int v)]) hx hb dX8_feed_107 hl (k := 1) rfl (by decide) (by decide) rfl (fun ls hl => ?_)
  refine lv_goto (tgt := 23) hx hb dX8_feed_110 (by decide) ?_
  refine lv_iload hx hb dX8_feed_23 (lv_at hl 0 rfl) ?_
  refine lv_bipush (v := 20) hx hb dX8_feed_25 (by decide) ?_
  refine lv_icmp_ge (tgt := 113) hx hb dX8_feed_27 (by decide) (fun c142 => absurd c142 (by decide)) (fun c142 => ?_)
  refine lv_iload hx hb dX8_feed_30 (lv_at hl 0 rfl) ?_
  refine lv_iconst (v := 4) hx hb dX8_feed_32 (by decide) ?_
  refine lv_icmp_ge (tgt := 40) hx hb dX8_feed_33 (by decide) (fun c143 => ?_) (fun c143 => absurd (by decide) c143)
  refine lv_iload hx hb dX8_feed_40 (lv_at hl 0 rfl) ?_
  refine lv_bipush (v := 8) hx hb dX8_feed_42 (by decide) ?_
  refine lv_icmp_ge (tgt := 51) hx hb dX8_feed_44 (by decide) (fun c144 => absurd c144 (by decide)) (fun c144 => ?_)
  refine lv_iload_n hx hb dX8_feed_47 rfl (lv_at hl 4 rfl) ?_
  refine lv_goto (tgt := 76) hx hb dX8_feed_48 (by decide) ?_
  refine lv_istore (lv' := [(7, .int y), (6, .int 7), (0, .ref h0), (1, .int x), (2, .int y), (3, .int z), (4, .int w), (5, .int v)]) hx hb dX8_feed_76 hl (by decide) rfl (fun ls hl => ?_)
  refine lv_aload_n hx hb dX8_feed_78 rfl (lv_at hl 2 rfl) ?_
  refine va_get (D := G) (ci := 8) (v := .ref m0) (C := RX8) (T := TX8) (N := 91) hx hb hT ku_8 hown hK hP 0 rfl rfl 0 (by decide) (hT _ kw_9_10) (fun _ h9 => h9) (fh_at hf 1 rfl) dX8_feed_79 ?_
  refine lv_aload_n hx hb dX8_feed_82 rfl (lv_at hl 2 rfl) ?_
  refine va_get (D := G) (ci := 8) (v := .int 0) (C := RX8) (T := TX8) (N := 91) hx hb hT ku_8 hown hK hP 0 rfl rfl 1 (by decide) (hT _ kw_14_1) (fun _ h9 => h9) (fh_at hf 2 rfl) dX8_feed_83 ?_
  refine lv_iload hx hb dX8_feed_86 (lv_at hl 1 rfl) ?_
  refine lv_iadd hx hb dX8_feed_88 ?_
  refine tq_i (w := 7) (by decide) ?_
  refine lv_iload hx hb dX8_feed_89 (lv_at hl 0 rfl) ?_
  refine lv_bipush (v := 24) hx hb dX8_feed_91 (by decide) ?_
  refine lv_bipush (v := 8) hx hb dX8_feed_93 (by decide) ?_
  refine lv_iload hx hb dX8_feed_95 (lv_at hl 1 rfl) ?_
  refine lv_iconst (v := 4) hx hb dX8_feed_97 (by decide) ?_
  refine lv_irem hx hb dX8_feed_98 (by decide) ?_
  refine tq_i (w := 3) (by decide) ?_
  refine lv_imul hx hb dX8_feed_99 ?_
  refine tq_i (w := 24) (by decide) ?_
  refine lv_isub hx hb dX8_feed_100 ?_
  refine tq_i (w := 0) (by decide) ?_
  refine lv_ishr hx hb dX8_feed_101 ?_
  refine lv_topi (fun x145 ex145 => ?_)
  refine lv_sipush (v := 255) hx hb dX8_feed_102 (by decide) ?_
  refine lv_iand hx hb dX8_feed_105 ?_
  refine lv_topi (fun x146 ex146 => ?_)
  refine va_iast (i := 7) hx hb hK hP hD hS 1 0 rfl rfl (tq_in (by decide)) dX8_feed_106 (fun H locs hP hD hS => ?_)
  have hP : va_P G vwCl [(h0, .inr (8, fs101)), (m0, .inl (cA 0, 700, .inl ((upd f141 (7 : Int32).toNatClampNeg x146))))] H := hP
  have hD : va_D A [(h0, .inr (8, fs101)), (m0, .inl (cA 0, 700, .inl ((upd f141 (7 : Int32).toNatClampNeg x146))))] := hD
  generalize (upd f141 (7 : Int32).toNatClampNeg x146) = f147 at hP hD
  refine lv_iinc (v := 8) (lv' := [(6, .int 8), (7, .int y), (0, .ref h0), (1, .int x), (2, .int y), (3, .int z), (4, .int w), (5, .int v)]) hx hb dX8_feed_107 hl (k := 1) rfl (by decide) (by decide) rfl (fun ls hl => ?_)
  refine lv_goto (tgt := 23) hx hb dX8_feed_110 (by decide) ?_
  refine lv_iload hx hb dX8_feed_23 (lv_at hl 0 rfl) ?_
  refine lv_bipush (v := 20) hx hb dX8_feed_25 (by decide) ?_
  refine lv_icmp_ge (tgt := 113) hx hb dX8_feed_27 (by decide) (fun c148 => absurd c148 (by decide)) (fun c148 => ?_)
  refine lv_iload hx hb dX8_feed_30 (lv_at hl 0 rfl) ?_
  refine lv_iconst (v := 4) hx hb dX8_feed_32 (by decide) ?_
  refine lv_icmp_ge (tgt := 40) hx hb dX8_feed_33 (by decide) (fun c149 => ?_) (fun c149 => absurd (by decide) c149)
  refine lv_iload hx hb dX8_feed_40 (lv_at hl 0 rfl) ?_
  refine lv_bipush (v := 8) hx hb dX8_feed_42 (by decide) ?_
  refine lv_icmp_ge (tgt := 51) hx hb dX8_feed_44 (by decide) (fun c150 => ?_) (fun c150 => absurd (by decide) c150)
  refine lv_iload hx hb dX8_feed_51 (lv_at hl 0 rfl) ?_
  refine lv_bipush (v := 12) hx hb dX8_feed_53 (by decide) ?_
  refine lv_icmp_ge (tgt := 62) hx hb dX8_feed_55 (by decide) (fun c151 => absurd c151 (by decide)) (fun c151 => ?_)
  refine lv_iload_n hx hb dX8_feed_58 rfl (lv_at hl 5 rfl) ?_
  refine lv_goto (tgt := 76) hx hb dX8_feed_59 (by decide) ?_
  refine lv_istore (lv' := [(7, .int z), (6, .int 8), (0, .ref h0), (1, .int x), (2, .int y), (3, .int z), (4, .int w), (5, .int v)]) hx hb dX8_feed_76 hl (by decide) rfl (fun ls hl => ?_)
  refine lv_aload_n hx hb dX8_feed_78 rfl (lv_at hl 2 rfl) ?_
  refine va_get (D := G) (ci := 8) (v := .ref m0) (C := RX8) (T := TX8) (N := 91) hx hb hT ku_8 hown hK hP 0 rfl rfl 0 (by decide) (hT _ kw_9_10) (fun _ h9 => h9) (fh_at hf 1 rfl) dX8_feed_79 ?_
  refine lv_aload_n hx hb dX8_feed_82 rfl (lv_at hl 2 rfl) ?_
  refine va_get (D := G) (ci := 8) (v := .int 0) (C := RX8) (T := TX8) (N := 91) hx hb hT ku_8 hown hK hP 0 rfl rfl 1 (by decide) (hT _ kw_14_1) (fun _ h9 => h9) (fh_at hf 2 rfl) dX8_feed_83 ?_
  refine lv_iload hx hb dX8_feed_86 (lv_at hl 1 rfl) ?_
  refine lv_iadd hx hb dX8_feed_88 ?_
  refine tq_i (w := 8) (by decide) ?_
  refine lv_iload hx hb dX8_feed_89 (lv_at hl 0 rfl) ?_
  refine lv_bipush (v := 24) hx hb dX8_feed_91 (by decide) ?_
  refine lv_bipush (v := 8) hx hb dX8_feed_93 (by decide) ?_
  refine lv_iload hx hb dX8_feed_95 (lv_at hl 1 rfl) ?_
  refine lv_iconst (v := 4) hx hb dX8_feed_97 (by decide) ?_
  refine lv_irem hx hb dX8_feed_98 (by decide) ?_
  refine tq_i (w := 0) (by decide) ?_
  refine lv_imul hx hb dX8_feed_99 ?_
  refine tq_i (w := 0) (by decide) ?_
  refine lv_isub hx hb dX8_feed_100 ?_
  refine tq_i (w := 24) (by decide) ?_
  refine lv_ishr hx hb dX8_feed_101 ?_
  refine lv_topi (fun x152 ex152 => ?_)
  refine lv_sipush (v := 255) hx hb dX8_feed_102 (by decide) ?_
  refine lv_iand hx hb dX8_feed_105 ?_
  refine lv_topi (fun x153 ex153 => ?_)
  refine va_iast (i := 8) hx hb hK hP hD hS 1 0 rfl rfl (tq_in (by decide)) dX8_feed_106 (fun H locs hP hD hS => ?_)
  have hP : va_P G vwCl [(h0, .inr (8, fs101)), (m0, .inl (cA 0, 700, .inl ((upd f147 (8 : Int32).toNatClampNeg x153))))] H := hP
  have hD : va_D A [(h0, .inr (8, fs101)), (m0, .inl (cA 0, 700, .inl ((upd f147 (8 : Int32).toNatClampNeg x153))))] := hD
  generalize (upd f147 (8 : Int32).toNatClampNeg x153) = f154 at hP hD
  refine lv_iinc (v := 9) (lv' := [(6, .int 9), (7, .int z), (0, .ref h0), (1, .int x), (2, .int y), (3, .int z), (4, .int w), (5, .int v)]) hx hb dX8_feed_107 hl (k := 1) rfl (by decide) (by decide) rfl (fun ls hl => ?_)
  refine lv_goto (tgt := 23) hx hb dX8_feed_110 (by decide) ?_
  refine lv_iload hx hb dX8_feed_23 (lv_at hl 0 rfl) ?_
  refine lv_bipush (v := 20) hx hb dX8_feed_25 (by decide) ?_
  refine lv_icmp_ge (tgt := 113) hx hb dX8_feed_27 (by decide) (fun c155 => absurd c155 (by decide)) (fun c155 => ?_)
  refine lv_iload hx hb dX8_feed_30 (lv_at hl 0 rfl) ?_
  refine lv_iconst (v := 4) hx hb dX8_feed_32 (by decide) ?_
  refine lv_icmp_ge (tgt := 40) hx hb dX8_feed_33 (by decide) (fun c156 => ?_) (fun c156 => absurd (by decide) c156)
  refine lv_iload hx hb dX8_feed_40 (lv_at hl 0 rfl) ?_
  refine lv_bipush (v := 8) hx hb dX8_feed_42 (by decide) ?_
  refine lv_icmp_ge (tgt := 51) hx hb dX8_feed_44 (by decide) (fun c157 => ?_) (fun c157 => absurd (by decide) c157)
  refine lv_iload hx hb dX8_feed_51 (lv_at hl 0 rfl) ?_
  refine lv_bipush (v := 12) hx hb dX8_feed_53 (by decide) ?_
  refine lv_icmp_ge (tgt := 62) hx hb dX8_feed_55 (by decide) (fun c158 => absurd c158 (by decide)) (fun c158 => ?_)
  refine lv_iload_n hx hb dX8_feed_58 rfl (lv_at hl 5 rfl) ?_
  refine lv_goto (tgt := 76) hx hb dX8_feed_59 (by decide) ?_
  refine lv_istore (lv' := [(7, .int z), (6, .int 9), (0, .ref h0), (1, .int x), (2, .int y), (3, .int z), (4, .int w), (5, .int v)]) hx hb dX8_feed_76 hl (by decide) rfl (fun ls hl => ?_)
  refine lv_aload_n hx hb dX8_feed_78 rfl (lv_at hl 2 rfl) ?_
  refine va_get (D := G) (ci := 8) (v := .ref m0) (C := RX8) (T := TX8) (N := 91) hx hb hT ku_8 hown hK hP 0 rfl rfl 0 (by decide) (hT _ kw_9_10) (fun _ h9 => h9) (fh_at hf 1 rfl) dX8_feed_79 ?_
  refine lv_aload_n hx hb dX8_feed_82 rfl (lv_at hl 2 rfl) ?_
  refine va_get (D := G) (ci := 8) (v := .int 0) (C := RX8) (T := TX8) (N := 91) hx hb hT ku_8 hown hK hP 0 rfl rfl 1 (by decide) (hT _ kw_14_1) (fun _ h9 => h9) (fh_at hf 2 rfl) dX8_feed_83 ?_
  refine lv_iload hx hb dX8_feed_86 (lv_at hl 1 rfl) ?_
  refine lv_iadd hx hb dX8_feed_88 ?_
  refine tq_i (w := 9) (by decide) ?_
  refine lv_iload hx hb dX8_feed_89 (lv_at hl 0 rfl) ?_
  refine lv_bipush (v := 24) hx hb dX8_feed_91 (by decide) ?_
  refine lv_bipush (v := 8) hx hb dX8_feed_93 (by decide) ?_
  refine lv_iload hx hb dX8_feed_95 (lv_at hl 1 rfl) ?_
  refine lv_iconst (v := 4) hx hb dX8_feed_97 (by decide) ?_
  refine lv_irem hx hb dX8_feed_98 (by decide) ?_
  refine tq_i (w := 1) (by decide) ?_
  refine lv_imul hx hb dX8_feed_99 ?_
  refine tq_i (w := 8) (by decide) ?_
  refine lv_isub hx hb dX8_feed_100 ?_
  refine tq_i (w := 16) (by decide) ?_
  refine lv_ishr hx hb dX8_feed_101 ?_
  refine lv_topi (fun x159 ex159 => ?_)
  refine lv_sipush (v := 255) hx hb dX8_feed_102 (by decide) ?_
  refine lv_iand hx hb dX8_feed_105 ?_
  refine lv_topi (fun x160 ex160 => ?_)
  refine va_iast (i := 9) hx hb hK hP hD hS 1 0 rfl rfl (tq_in (by decide)) dX8_feed_106 (fun H locs hP hD hS => ?_)
  have hP : va_P G vwCl [(h0, .inr (8, fs101)), (m0, .inl (cA 0, 700, .inl ((upd f154 (9 : Int32).toNatClampNeg x160))))] H := hP
  have hD : va_D A [(h0, .inr (8, fs101)), (m0, .inl (cA 0, 700, .inl ((upd f154 (9 : Int32).toNatClampNeg x160))))] := hD
  generalize (upd f154 (9 : Int32).toNatClampNeg x160) = f161 at hP hD
  refine lv_iinc (v := 10) (lv' := [(6, .int 10), (7, .int z), (0, .ref h0), (1, .int x), (2, .int y), (3, .int z), (4, .int w), (5, .int v)]) hx hb dX8_feed_107 hl (k := 1) rfl (by decide) (by decide) rfl (fun ls hl => ?_)
  refine lv_goto (tgt := 23) hx hb dX8_feed_110 (by decide) ?_
  refine lv_iload hx hb dX8_feed_23 (lv_at hl 0 rfl) ?_
  refine lv_bipush (v := 20) hx hb dX8_feed_25 (by decide) ?_
  refine lv_icmp_ge (tgt := 113) hx hb dX8_feed_27 (by decide) (fun c162 => absurd c162 (by decide)) (fun c162 => ?_)
  refine lv_iload hx hb dX8_feed_30 (lv_at hl 0 rfl) ?_
  refine lv_iconst (v := 4) hx hb dX8_feed_32 (by decide) ?_
  refine lv_icmp_ge (tgt := 40) hx hb dX8_feed_33 (by decide) (fun c163 => ?_) (fun c163 => absurd (by decide) c163)
  refine lv_iload hx hb dX8_feed_40 (lv_at hl 0 rfl) ?_
  refine lv_bipush (v := 8) hx hb dX8_feed_42 (by decide) ?_
  refine lv_icmp_ge (tgt := 51) hx hb dX8_feed_44 (by decide) (fun c164 => ?_) (fun c164 => absurd (by decide) c164)
  refine lv_iload hx hb dX8_feed_51 (lv_at hl 0 rfl) ?_
  refine lv_bipush (v := 12) hx hb dX8_feed_53 (by decide) ?_
  refine lv_icmp_ge (tgt := 62) hx hb dX8_feed_55 (by decide) (fun c165 => absurd c165 (by decide)) (fun c165 => ?_)
  refine lv_iload_n hx hb dX8_feed_58 rfl (lv_at hl 5 rfl) ?_
  refine lv_goto (tgt := 76) hx hb dX8_feed_59 (by decide) ?_
  refine lv_istore (lv' := [(7, .int z), (6, .int 10), (0, .ref h0), (1, .int x), (2, .int y), (3, .int z), (4, .int w), (5, .int v)]) hx hb dX8_feed_76 hl (by decide) rfl (fun ls hl => ?_)
  refine lv_aload_n hx hb dX8_feed_78 rfl (lv_at hl 2 rfl) ?_
  refine va_get (D := G) (ci := 8) (v := .ref m0) (C := RX8) (T := TX8) (N := 91) hx hb hT ku_8 hown hK hP 0 rfl rfl 0 (by decide) (hT _ kw_9_10) (fun _ h9 => h9) (fh_at hf 1 rfl) dX8_feed_79 ?_
  refine lv_aload_n hx hb dX8_feed_82 rfl (lv_at hl 2 rfl) ?_
  refine va_get (D := G) (ci := 8) (v := .int 0) (C := RX8) (T := TX8) (N := 91) hx hb hT ku_8 hown hK hP 0 rfl rfl 1 (by decide) (hT _ kw_14_1) (fun _ h9 => h9) (fh_at hf 2 rfl) dX8_feed_83 ?_
  refine lv_iload hx hb dX8_feed_86 (lv_at hl 1 rfl) ?_
  refine lv_iadd hx hb dX8_feed_88 ?_
  refine tq_i (w := 10) (by decide) ?_
  refine lv_iload hx hb dX8_feed_89 (lv_at hl 0 rfl) ?_
  refine lv_bipush (v := 24) hx hb dX8_feed_91 (by decide) ?_
  refine lv_bipush (v := 8) hx hb dX8_feed_93 (by decide) ?_
  refine lv_iload hx hb dX8_feed_95 (lv_at hl 1 rfl) ?_
  refine lv_iconst (v := 4) hx hb dX8_feed_97 (by decide) ?_
  refine lv_irem hx hb dX8_feed_98 (by decide) ?_
  refine tq_i (w := 2) (by decide) ?_
  refine lv_imul hx hb dX8_feed_99 ?_
  refine tq_i (w := 16) (by decide) ?_
  refine lv_isub hx hb dX8_feed_100 ?_
  refine tq_i (w := 8) (by decide) ?_
  refine lv_ishr hx hb dX8_feed_101 ?_
  refine lv_topi (fun x166 ex166 => ?_)
  refine lv_sipush (v := 255) hx hb dX8_feed_102 (by decide) ?_
  refine lv_iand hx hb dX8_feed_105 ?_
  refine lv_topi (fun x167 ex167 => ?_)
  refine va_iast (i := 10) hx hb hK hP hD hS 1 0 rfl rfl (tq_in (by decide)) dX8_feed_106 (fun H locs hP hD hS => ?_)
  have hP : va_P G vwCl [(h0, .inr (8, fs101)), (m0, .inl (cA 0, 700, .inl ((upd f161 (10 : Int32).toNatClampNeg x167))))] H := hP
  have hD : va_D A [(h0, .inr (8, fs101)), (m0, .inl (cA 0, 700, .inl ((upd f161 (10 : Int32).toNatClampNeg x167))))] := hD
  generalize (upd f161 (10 : Int32).toNatClampNeg x167) = f168 at hP hD
  refine lv_iinc (v := 11) (lv' := [(6, .int 11), (7, .int z), (0, .ref h0), (1, .int x), (2, .int y), (3, .int z), (4, .int w), (5, .int v)]) hx hb dX8_feed_107 hl (k := 1) rfl (by decide) (by decide) rfl (fun ls hl => ?_)
  refine lv_goto (tgt := 23) hx hb dX8_feed_110 (by decide) ?_
  refine lv_iload hx hb dX8_feed_23 (lv_at hl 0 rfl) ?_
  refine lv_bipush (v := 20) hx hb dX8_feed_25 (by decide) ?_
  refine lv_icmp_ge (tgt := 113) hx hb dX8_feed_27 (by decide) (fun c169 => absurd c169 (by decide)) (fun c169 => ?_)
  refine lv_iload hx hb dX8_feed_30 (lv_at hl 0 rfl) ?_
  refine lv_iconst (v := 4) hx hb dX8_feed_32 (by decide) ?_
  refine lv_icmp_ge (tgt := 40) hx hb dX8_feed_33 (by decide) (fun c170 => ?_) (fun c170 => absurd (by decide) c170)
  refine lv_iload hx hb dX8_feed_40 (lv_at hl 0 rfl) ?_
  refine lv_bipush (v := 8) hx hb dX8_feed_42 (by decide) ?_
  refine lv_icmp_ge (tgt := 51) hx hb dX8_feed_44 (by decide) (fun c171 => ?_) (fun c171 => absurd (by decide) c171)
  refine lv_iload hx hb dX8_feed_51 (lv_at hl 0 rfl) ?_
  refine lv_bipush (v := 12) hx hb dX8_feed_53 (by decide) ?_
  refine lv_icmp_ge (tgt := 62) hx hb dX8_feed_55 (by decide) (fun c172 => absurd c172 (by decide)) (fun c172 => ?_)
  refine lv_iload_n hx hb dX8_feed_58 rfl (lv_at hl 5 rfl) ?_
  refine lv_goto (tgt := 76) hx hb dX8_feed_59 (by decide) ?_
  refine lv_istore (lv' := [(7, .int z), (6, .int 11), (0, .ref h0), (1, .int x), (2, .int y), (3, .int z), (4, .int w), (5, .int v)]) hx hb dX8_feed_76 hl (by decide) rfl (fun ls hl => ?_)
  refine lv_aload_n hx hb dX8_feed_78 rfl (lv_at hl 2 rfl) ?_
  refine va_get (D := G) (ci := 8) (v := .ref m0) (C := RX8) (T := TX8) (N := 91) hx hb hT ku_8 hown hK hP 0 rfl rfl 0 (by decide) (hT _ kw_9_10) (fun _ h9 => h9) (fh_at hf 1 rfl) dX8_feed_79 ?_
  refine lv_aload_n hx hb dX8_feed_82 rfl (lv_at hl 2 rfl) ?_
  refine va_get (D := G) (ci := 8) (v := .int 0) (C := RX8) (T := TX8) (N := 91) hx hb hT ku_8 hown hK hP 0 rfl rfl 1 (by decide) (hT _ kw_14_1) (fun _ h9 => h9) (fh_at hf 2 rfl) dX8_feed_83 ?_
  refine lv_iload hx hb dX8_feed_86 (lv_at hl 1 rfl) ?_
  refine lv_iadd hx hb dX8_feed_88 ?_
  refine tq_i (w := 11) (by decide) ?_
  refine lv_iload hx hb dX8_feed_89 (lv_at hl 0 rfl) ?_
  refine lv_bipush (v := 24) hx hb dX8_feed_91 (by decide) ?_
  refine lv_bipush (v := 8) hx hb dX8_feed_93 (by decide) ?_
  refine lv_iload hx hb dX8_feed_95 (lv_at hl 1 rfl) ?_
  refine lv_iconst (v := 4) hx hb dX8_feed_97 (by decide) ?_
  refine lv_irem hx hb dX8_feed_98 (by decide) ?_
  refine tq_i (w := 3) (by decide) ?_
  refine lv_imul hx hb dX8_feed_99 ?_
  refine tq_i (w := 24) (by decide) ?_
  refine lv_isub hx hb dX8_feed_100 ?_
  refine tq_i (w := 0) (by decide) ?_
  refine lv_ishr hx hb dX8_feed_101 ?_
  refine lv_topi (fun x173 ex173 => ?_)
  refine lv_sipush (v := 255) hx hb dX8_feed_102 (by decide) ?_
  refine lv_iand hx hb dX8_feed_105 ?_
  refine lv_topi (fun x174 ex174 => ?_)
  refine va_iast (i := 11) hx hb hK hP hD hS 1 0 rfl rfl (tq_in (by decide)) dX8_feed_106 (fun H locs hP hD hS => ?_)
  have hP : va_P G vwCl [(h0, .inr (8, fs101)), (m0, .inl (cA 0, 700, .inl ((upd f168 (11 : Int32).toNatClampNeg x174))))] H := hP
  have hD : va_D A [(h0, .inr (8, fs101)), (m0, .inl (cA 0, 700, .inl ((upd f168 (11 : Int32).toNatClampNeg x174))))] := hD
  generalize (upd f168 (11 : Int32).toNatClampNeg x174) = f175 at hP hD
  refine lv_iinc (v := 12) (lv' := [(6, .int 12), (7, .int z), (0, .ref h0), (1, .int x), (2, .int y), (3, .int z), (4, .int w), (5, .int v)]) hx hb dX8_feed_107 hl (k := 1) rfl (by decide) (by decide) rfl (fun ls hl => ?_)
  refine lv_goto (tgt := 23) hx hb dX8_feed_110 (by decide) ?_
  refine lv_iload hx hb dX8_feed_23 (lv_at hl 0 rfl) ?_
  refine lv_bipush (v := 20) hx hb dX8_feed_25 (by decide) ?_
  refine lv_icmp_ge (tgt := 113) hx hb dX8_feed_27 (by decide) (fun c176 => absurd c176 (by decide)) (fun c176 => ?_)
  refine lv_iload hx hb dX8_feed_30 (lv_at hl 0 rfl) ?_
  refine lv_iconst (v := 4) hx hb dX8_feed_32 (by decide) ?_
  refine lv_icmp_ge (tgt := 40) hx hb dX8_feed_33 (by decide) (fun c177 => ?_) (fun c177 => absurd (by decide) c177)
  refine lv_iload hx hb dX8_feed_40 (lv_at hl 0 rfl) ?_
  refine lv_bipush (v := 8) hx hb dX8_feed_42 (by decide) ?_
  refine lv_icmp_ge (tgt := 51) hx hb dX8_feed_44 (by decide) (fun c178 => ?_) (fun c178 => absurd (by decide) c178)
  refine lv_iload hx hb dX8_feed_51 (lv_at hl 0 rfl) ?_
  refine lv_bipush (v := 12) hx hb dX8_feed_53 (by decide) ?_
  refine lv_icmp_ge (tgt := 62) hx hb dX8_feed_55 (by decide) (fun c179 => ?_) (fun c179 => absurd (by decide) c179)
  refine lv_iload hx hb dX8_feed_62 (lv_at hl 0 rfl) ?_
  refine lv_bipush (v := 16) hx hb dX8_feed_64 (by decide) ?_
  refine lv_icmp_ge (tgt := 74) hx hb dX8_feed_66 (by decide) (fun c180 => absurd c180 (by decide)) (fun c180 => ?_)
  refine lv_iload hx hb dX8_feed_69 (lv_at hl 6 rfl) ?_
  refine lv_goto (tgt := 76) hx hb dX8_feed_71 (by decide) ?_
  refine lv_istore (lv' := [(7, .int w), (6, .int 12), (0, .ref h0), (1, .int x), (2, .int y), (3, .int z), (4, .int w), (5, .int v)]) hx hb dX8_feed_76 hl (by decide) rfl (fun ls hl => ?_)
  refine lv_aload_n hx hb dX8_feed_78 rfl (lv_at hl 2 rfl) ?_
  refine va_get (D := G) (ci := 8) (v := .ref m0) (C := RX8) (T := TX8) (N := 91) hx hb hT ku_8 hown hK hP 0 rfl rfl 0 (by decide) (hT _ kw_9_10) (fun _ h9 => h9) (fh_at hf 1 rfl) dX8_feed_79 ?_
  refine lv_aload_n hx hb dX8_feed_82 rfl (lv_at hl 2 rfl) ?_
  refine va_get (D := G) (ci := 8) (v := .int 0) (C := RX8) (T := TX8) (N := 91) hx hb hT ku_8 hown hK hP 0 rfl rfl 1 (by decide) (hT _ kw_14_1) (fun _ h9 => h9) (fh_at hf 2 rfl) dX8_feed_83 ?_
  refine lv_iload hx hb dX8_feed_86 (lv_at hl 1 rfl) ?_
  refine lv_iadd hx hb dX8_feed_88 ?_
  refine tq_i (w := 12) (by decide) ?_
  refine lv_iload hx hb dX8_feed_89 (lv_at hl 0 rfl) ?_
  refine lv_bipush (v := 24) hx hb dX8_feed_91 (by decide) ?_
  refine lv_bipush (v := 8) hx hb dX8_feed_93 (by decide) ?_
  refine lv_iload hx hb dX8_feed_95 (lv_at hl 1 rfl) ?_
  refine lv_iconst (v := 4) hx hb dX8_feed_97 (by decide) ?_
  refine lv_irem hx hb dX8_feed_98 (by decide) ?_
  refine tq_i (w := 0) (by decide) ?_
  refine lv_imul hx hb dX8_feed_99 ?_
  refine tq_i (w := 0) (by decide) ?_
  refine lv_isub hx hb dX8_feed_100 ?_
  refine tq_i (w := 24) (by decide) ?_
  refine lv_ishr hx hb dX8_feed_101 ?_
  refine lv_topi (fun x181 ex181 => ?_)
  refine lv_sipush (v := 255) hx hb dX8_feed_102 (by decide) ?_
  refine lv_iand hx hb dX8_feed_105 ?_
  refine lv_topi (fun x182 ex182 => ?_)
  refine va_iast (i := 12) hx hb hK hP hD hS 1 0 rfl rfl (tq_in (by decide)) dX8_feed_106 (fun H locs hP hD hS => ?_)
  have hP : va_P G vwCl [(h0, .inr (8, fs101)), (m0, .inl (cA 0, 700, .inl ((upd f175 (12 : Int32).toNatClampNeg x182))))] H := hP
  have hD : va_D A [(h0, .inr (8, fs101)), (m0, .inl (cA 0, 700, .inl ((upd f175 (12 : Int32).toNatClampNeg x182))))] := hD
  generalize (upd f175 (12 : Int32).toNatClampNeg x182) = f183 at hP hD
  refine lv_iinc (v := 13) (lv' := [(6, .int 13), (7, .int w), (0, .ref h0), (1, .int x), (2, .int y), (3, .int z), (4, .int w), (5, .int v)]) hx hb dX8_feed_107 hl (k := 1) rfl (by decide) (by decide) rfl (fun ls hl => ?_)
  refine lv_goto (tgt := 23) hx hb dX8_feed_110 (by decide) ?_
  refine lv_iload hx hb dX8_feed_23 (lv_at hl 0 rfl) ?_
  refine lv_bipush (v := 20) hx hb dX8_feed_25 (by decide) ?_
  refine lv_icmp_ge (tgt := 113) hx hb dX8_feed_27 (by decide) (fun c184 => absurd c184 (by decide)) (fun c184 => ?_)
  refine lv_iload hx hb dX8_feed_30 (lv_at hl 0 rfl) ?_
  refine lv_iconst (v := 4) hx hb dX8_feed_32 (by decide) ?_
  refine lv_icmp_ge (tgt := 40) hx hb dX8_feed_33 (by decide) (fun c185 => ?_) (fun c185 => absurd (by decide) c185)
  refine lv_iload hx hb dX8_feed_40 (lv_at hl 0 rfl) ?_
  refine lv_bipush (v := 8) hx hb dX8_feed_42 (by decide) ?_
  refine lv_icmp_ge (tgt := 51) hx hb dX8_feed_44 (by decide) (fun c186 => ?_) (fun c186 => absurd (by decide) c186)
  refine lv_iload hx hb dX8_feed_51 (lv_at hl 0 rfl) ?_
  refine lv_bipush (v := 12) hx hb dX8_feed_53 (by decide) ?_
  refine lv_icmp_ge (tgt := 62) hx hb dX8_feed_55 (by decide) (fun c187 => ?_) (fun c187 => absurd (by decide) c187)
  refine lv_iload hx hb dX8_feed_62 (lv_at hl 0 rfl) ?_
  refine lv_bipush (v := 16) hx hb dX8_feed_64 (by decide) ?_
  refine lv_icmp_ge (tgt := 74) hx hb dX8_feed_66 (by decide) (fun c188 => absurd c188 (by decide)) (fun c188 => ?_)
  refine lv_iload hx hb dX8_feed_69 (lv_at hl 6 rfl) ?_
  refine lv_goto (tgt := 76) hx hb dX8_feed_71 (by decide) ?_
  refine lv_istore (lv' := [(7, .int w), (6, .int 13), (0, .ref h0), (1, .int x), (2, .int y), (3, .int z), (4, .int w), (5, .int v)]) hx hb dX8_feed_76 hl (by decide) rfl (fun ls hl => ?_)
  refine lv_aload_n hx hb dX8_feed_78 rfl (lv_at hl 2 rfl) ?_
  refine va_get (D := G) (ci := 8) (v := .ref m0) (C := RX8) (T := TX8) (N := 91) hx hb hT ku_8 hown hK hP 0 rfl rfl 0 (by decide) (hT _ kw_9_10) (fun _ h9 => h9) (fh_at hf 1 rfl) dX8_feed_79 ?_
  refine lv_aload_n hx hb dX8_feed_82 rfl (lv_at hl 2 rfl) ?_
  refine va_get (D := G) (ci := 8) (v := .int 0) (C := RX8) (T := TX8) (N := 91) hx hb hT ku_8 hown hK hP 0 rfl rfl 1 (by decide) (hT _ kw_14_1) (fun _ h9 => h9) (fh_at hf 2 rfl) dX8_feed_83 ?_
  refine lv_iload hx hb dX8_feed_86 (lv_at hl 1 rfl) ?_
  refine lv_iadd hx hb dX8_feed_88 ?_
  refine tq_i (w := 13) (by decide) ?_
  refine lv_iload hx hb dX8_feed_89 (lv_at hl 0 rfl) ?_
  refine lv_bipush (v := 24) hx hb dX8_feed_91 (by decide) ?_
  refine lv_bipush (v := 8) hx hb dX8_feed_93 (by decide) ?_
  refine lv_iload hx hb dX8_feed_95 (lv_at hl 1 rfl) ?_
  refine lv_iconst (v := 4) hx hb dX8_feed_97 (by decide) ?_
  refine lv_irem hx hb dX8_feed_98 (by decide) ?_
  refine tq_i (w := 1) (by decide) ?_
  refine lv_imul hx hb dX8_feed_99 ?_
  refine tq_i (w := 8) (by decide) ?_
  refine lv_isub hx hb dX8_feed_100 ?_
  refine tq_i (w := 16) (by decide) ?_
  refine lv_ishr hx hb dX8_feed_101 ?_
  refine lv_topi (fun x189 ex189 => ?_)
  refine lv_sipush (v := 255) hx hb dX8_feed_102 (by decide) ?_
  refine lv_iand hx hb dX8_feed_105 ?_
  refine lv_topi (fun x190 ex190 => ?_)
  refine va_iast (i := 13) hx hb hK hP hD hS 1 0 rfl rfl (tq_in (by decide)) dX8_feed_106 (fun H locs hP hD hS => ?_)
  have hP : va_P G vwCl [(h0, .inr (8, fs101)), (m0, .inl (cA 0, 700, .inl ((upd f183 (13 : Int32).toNatClampNeg x190))))] H := hP
  have hD : va_D A [(h0, .inr (8, fs101)), (m0, .inl (cA 0, 700, .inl ((upd f183 (13 : Int32).toNatClampNeg x190))))] := hD
  generalize (upd f183 (13 : Int32).toNatClampNeg x190) = f191 at hP hD
  refine lv_iinc (v := 14) (lv' := [(6, .int 14), (7, .int w), (0, .ref h0), (1, .int x), (2, .int y), (3, .int z), (4, .int w), (5, .int v)]) hx hb dX8_feed_107 hl (k := 1) rfl (by decide) (by decide) rfl (fun ls hl => ?_)
  refine lv_goto (tgt := 23) hx hb dX8_feed_110 (by decide) ?_
  refine lv_iload hx hb dX8_feed_23 (lv_at hl 0 rfl) ?_
  refine lv_bipush (v := 20) hx hb dX8_feed_25 (by decide) ?_
  refine lv_icmp_ge (tgt := 113) hx hb dX8_feed_27 (by decide) (fun c192 => absurd c192 (by decide)) (fun c192 => ?_)
  refine lv_iload hx hb dX8_feed_30 (lv_at hl 0 rfl) ?_
  refine lv_iconst (v := 4) hx hb dX8_feed_32 (by decide) ?_
  refine lv_icmp_ge (tgt := 40) hx hb dX8_feed_33 (by decide) (fun c193 => ?_) (fun c193 => absurd (by decide) c193)
  refine lv_iload hx hb dX8_feed_40 (lv_at hl 0 rfl) ?_
  refine lv_bipush (v := 8) hx hb dX8_feed_42 (by decide) ?_
  refine lv_icmp_ge (tgt := 51) hx hb dX8_feed_44 (by decide) (fun c194 => ?_) (fun c194 => absurd (by decide) c194)
  refine lv_iload hx hb dX8_feed_51 (lv_at hl 0 rfl) ?_
  refine lv_bipush (v := 12) hx hb dX8_feed_53 (by decide) ?_
  refine lv_icmp_ge (tgt := 62) hx hb dX8_feed_55 (by decide) (fun c195 => ?_) (fun c195 => absurd (by decide) c195)
  refine lv_iload hx hb dX8_feed_62 (lv_at hl 0 rfl) ?_
  refine lv_bipush (v := 16) hx hb dX8_feed_64 (by decide) ?_
  refine lv_icmp_ge (tgt := 74) hx hb dX8_feed_66 (by decide) (fun c196 => absurd c196 (by decide)) (fun c196 => ?_)
  refine lv_iload hx hb dX8_feed_69 (lv_at hl 6 rfl) ?_
  refine lv_goto (tgt := 76) hx hb dX8_feed_71 (by decide) ?_
  refine lv_istore (lv' := [(7, .int w), (6, .int 14), (0, .ref h0), (1, .int x), (2, .int y), (3, .int z), (4, .int w), (5, .int v)]) hx hb dX8_feed_76 hl (by decide) rfl (fun ls hl => ?_)
  refine lv_aload_n hx hb dX8_feed_78 rfl (lv_at hl 2 rfl) ?_
  refine va_get (D := G) (ci := 8) (v := .ref m0) (C := RX8) (T := TX8) (N := 91) hx hb hT ku_8 hown hK hP 0 rfl rfl 0 (by decide) (hT _ kw_9_10) (fun _ h9 => h9) (fh_at hf 1 rfl) dX8_feed_79 ?_
  refine lv_aload_n hx hb dX8_feed_82 rfl (lv_at hl 2 rfl) ?_
  refine va_get (D := G) (ci := 8) (v := .int 0) (C := RX8) (T := TX8) (N := 91) hx hb hT ku_8 hown hK hP 0 rfl rfl 1 (by decide) (hT _ kw_14_1) (fun _ h9 => h9) (fh_at hf 2 rfl) dX8_feed_83 ?_
  refine lv_iload hx hb dX8_feed_86 (lv_at hl 1 rfl) ?_
  refine lv_iadd hx hb dX8_feed_88 ?_
  refine tq_i (w := 14) (by decide) ?_
  refine lv_iload hx hb dX8_feed_89 (lv_at hl 0 rfl) ?_
  refine lv_bipush (v := 24) hx hb dX8_feed_91 (by decide) ?_
  refine lv_bipush (v := 8) hx hb dX8_feed_93 (by decide) ?_
  refine lv_iload hx hb dX8_feed_95 (lv_at hl 1 rfl) ?_
  refine lv_iconst (v := 4) hx hb dX8_feed_97 (by decide) ?_
  refine lv_irem hx hb dX8_feed_98 (by decide) ?_
  refine tq_i (w := 2) (by decide) ?_
  refine lv_imul hx hb dX8_feed_99 ?_
  refine tq_i (w := 16) (by decide) ?_
  refine lv_isub hx hb dX8_feed_100 ?_
  refine tq_i (w := 8) (by decide) ?_
  refine lv_ishr hx hb dX8_feed_101 ?_
  refine lv_topi (fun x197 ex197 => ?_)
  refine lv_sipush (v := 255) hx hb dX8_feed_102 (by decide) ?_
  refine lv_iand hx hb dX8_feed_105 ?_
  refine lv_topi (fun x198 ex198 => ?_)
  refine va_iast (i := 14) hx hb hK hP hD hS 1 0 rfl rfl (tq_in (by decide)) dX8_feed_106 (fun H locs hP hD hS => ?_)
  have hP : va_P G vwCl [(h0, .inr (8, fs101)), (m0, .inl (cA 0, 700, .inl ((upd f191 (14 : Int32).toNatClampNeg x198))))] H := hP
  have hD : va_D A [(h0, .inr (8, fs101)), (m0, .inl (cA 0, 700, .inl ((upd f191 (14 : Int32).toNatClampNeg x198))))] := hD
  generalize (upd f191 (14 : Int32).toNatClampNeg x198) = f199 at hP hD
  refine lv_iinc (v := 15) (lv' := [(6, .int 15), (7, .int w), (0, .ref h0), (1, .int x), (2, .int y), (3, .int z), (4, .int w), (5, .int v)]) hx hb dX8_feed_107 hl (k := 1) rfl (by decide) (by decide) rfl (fun ls hl => ?_)
  refine lv_goto (tgt := 23) hx hb dX8_feed_110 (by decide) ?_
  refine lv_iload hx hb dX8_feed_23 (lv_at hl 0 rfl) ?_
  refine lv_bipush (v := 20) hx hb dX8_feed_25 (by decide) ?_
  refine lv_icmp_ge (tgt := 113) hx hb dX8_feed_27 (by decide) (fun c200 => absurd c200 (by decide)) (fun c200 => ?_)
  refine lv_iload hx hb dX8_feed_30 (lv_at hl 0 rfl) ?_
  refine lv_iconst (v := 4) hx hb dX8_feed_32 (by decide) ?_
  refine lv_icmp_ge (tgt := 40) hx hb dX8_feed_33 (by decide) (fun c201 => ?_) (fun c201 => absurd (by decide) c201)
  refine lv_iload hx hb dX8_feed_40 (lv_at hl 0 rfl) ?_
  refine lv_bipush (v := 8) hx hb dX8_feed_42 (by decide) ?_
  refine lv_icmp_ge (tgt := 51) hx hb dX8_feed_44 (by decide) (fun c202 => ?_) (fun c202 => absurd (by decide) c202)
  refine lv_iload hx hb dX8_feed_51 (lv_at hl 0 rfl) ?_
  refine lv_bipush (v := 12) hx hb dX8_feed_53 (by decide) ?_
  refine lv_icmp_ge (tgt := 62) hx hb dX8_feed_55 (by decide) (fun c203 => ?_) (fun c203 => absurd (by decide) c203)
  refine lv_iload hx hb dX8_feed_62 (lv_at hl 0 rfl) ?_
  refine lv_bipush (v := 16) hx hb dX8_feed_64 (by decide) ?_
  refine lv_icmp_ge (tgt := 74) hx hb dX8_feed_66 (by decide) (fun c204 => absurd c204 (by decide)) (fun c204 => ?_)
  refine lv_iload hx hb dX8_feed_69 (lv_at hl 6 rfl) ?_
  refine lv_goto (tgt := 76) hx hb dX8_feed_71 (by decide) ?_
  refine lv_istore (lv' := [(7, .int w), (6, .int 15), (0, .ref h0), (1, .int x), (2, .int y), (3, .int z), (4, .int w), (5, .int v)]) hx hb dX8_feed_76 hl (by decide) rfl (fun ls hl => ?_)
  refine lv_aload_n hx hb dX8_feed_78 rfl (lv_at hl 2 rfl) ?_
  refine va_get (D := G) (ci := 8) (v := .ref m0) (C := RX8) (T := TX8) (N := 91) hx hb hT ku_8 hown hK hP 0 rfl rfl 0 (by decide) (hT _ kw_9_10) (fun _ h9 => h9) (fh_at hf 1 rfl) dX8_feed_79 ?_
  refine lv_aload_n hx hb dX8_feed_82 rfl (lv_at hl 2 rfl) ?_
  refine va_get (D := G) (ci := 8) (v := .int 0) (C := RX8) (T := TX8) (N := 91) hx hb hT ku_8 hown hK hP 0 rfl rfl 1 (by decide) (hT _ kw_14_1) (fun _ h9 => h9) (fh_at hf 2 rfl) dX8_feed_83 ?_
  refine lv_iload hx hb dX8_feed_86 (lv_at hl 1 rfl) ?_
  refine lv_iadd hx hb dX8_feed_88 ?_
  refine tq_i (w := 15) (by decide) ?_
  refine lv_iload hx hb dX8_feed_89 (lv_at hl 0 rfl) ?_
  refine lv_bipush (v := 24) hx hb dX8_feed_91 (by decide) ?_
  refine lv_bipush (v := 8) hx hb dX8_feed_93 (by decide) ?_
  refine lv_iload hx hb dX8_feed_95 (lv_at hl 1 rfl) ?_
  refine lv_iconst (v := 4) hx hb dX8_feed_97 (by decide) ?_
  refine lv_irem hx hb dX8_feed_98 (by decide) ?_
  refine tq_i (w := 3) (by decide) ?_
  refine lv_imul hx hb dX8_feed_99 ?_
  refine tq_i (w := 24) (by decide) ?_
  refine lv_isub hx hb dX8_feed_100 ?_
  refine tq_i (w := 0) (by decide) ?_
  refine lv_ishr hx hb dX8_feed_101 ?_
  refine lv_topi (fun x205 ex205 => ?_)
  refine lv_sipush (v := 255) hx hb dX8_feed_102 (by decide) ?_
  refine lv_iand hx hb dX8_feed_105 ?_
  refine lv_topi (fun x206 ex206 => ?_)
  refine va_iast (i := 15) hx hb hK hP hD hS 1 0 rfl rfl (tq_in (by decide)) dX8_feed_106 (fun H locs hP hD hS => ?_)
  have hP : va_P G vwCl [(h0, .inr (8, fs101)), (m0, .inl (cA 0, 700, .inl ((upd f199 (15 : Int32).toNatClampNeg x206))))] H := hP
  have hD : va_D A [(h0, .inr (8, fs101)), (m0, .inl (cA 0, 700, .inl ((upd f199 (15 : Int32).toNatClampNeg x206))))] := hD
  generalize (upd f199 (15 : Int32).toNatClampNeg x206) = f207 at hP hD
  refine lv_iinc (v := 16) (lv' := [(6, .int 16), (7, .int w), (0, .ref h0), (1, .int x), (2, .int y), (3, .int z), (4, .int w), (5, .int v)]) hx hb dX8_feed_107 hl (k := 1) rfl (by decide) (by decide) rfl (fun ls hl => ?_)
  refine lv_goto (tgt := 23) hx hb dX8_feed_110 (by decide) ?_
  refine lv_iload hx hb dX8_feed_23 (lv_at hl 0 rfl) ?_
  refine lv_bipush (v := 20) hx hb dX8_feed_25 (by decide) ?_
  refine lv_icmp_ge (tgt := 113) hx hb dX8_feed_27 (by decide) (fun c208 => absurd c208 (by decide)) (fun c208 => ?_)
  refine lv_iload hx hb dX8_feed_30 (lv_at hl 0 rfl) ?_
  refine lv_iconst (v := 4) hx hb dX8_feed_32 (by decide) ?_
  refine lv_icmp_ge (tgt := 40) hx hb dX8_feed_33 (by decide) (fun c209 => ?_) (fun c209 => absurd (by decide) c209)
  refine lv_iload hx hb dX8_feed_40 (lv_at hl 0 rfl) ?_
  refine lv_bipush (v := 8) hx hb dX8_feed_42 (by decide) ?_
  refine lv_icmp_ge (tgt := 51) hx hb dX8_feed_44 (by decide) (fun c210 => ?_) (fun c210 => absurd (by decide) c210)
  refine lv_iload hx hb dX8_feed_51 (lv_at hl 0 rfl) ?_
  refine lv_bipush (v := 12) hx hb dX8_feed_53 (by decide) ?_
  refine lv_icmp_ge (tgt := 62) hx hb dX8_feed_55 (by decide) (fun c211 => ?_) (fun c211 => absurd (by decide) c211)
  refine lv_iload hx hb dX8_feed_62 (lv_at hl 0 rfl) ?_
  refine lv_bipush (v := 16) hx hb dX8_feed_64 (by decide) ?_
  refine lv_icmp_ge (tgt := 74) hx hb dX8_feed_66 (by decide) (fun c212 => ?_) (fun c212 => absurd (by decide) c212)
  refine lv_iload hx hb dX8_feed_74 (lv_at hl 7 rfl) ?_
  refine lv_istore (lv' := [(7, .int v), (6, .int 16), (0, .ref h0), (1, .int x), (2, .int y), (3, .int z), (4, .int w), (5, .int v)]) hx hb dX8_feed_76 hl (by decide) rfl (fun ls hl => ?_)
  refine lv_aload_n hx hb dX8_feed_78 rfl (lv_at hl 2 rfl) ?_
  refine va_get (D := G) (ci := 8) (v := .ref m0) (C := RX8) (T := TX8) (N := 91) hx hb hT ku_8 hown hK hP 0 rfl rfl 0 (by decide) (hT _ kw_9_10) (fun _ h9 => h9) (fh_at hf 1 rfl) dX8_feed_79 ?_
  refine lv_aload_n hx hb dX8_feed_82 rfl (lv_at hl 2 rfl) ?_
  refine va_get (D := G) (ci := 8) (v := .int 0) (C := RX8) (T := TX8) (N := 91) hx hb hT ku_8 hown hK hP 0 rfl rfl 1 (by decide) (hT _ kw_14_1) (fun _ h9 => h9) (fh_at hf 2 rfl) dX8_feed_83 ?_
  refine lv_iload hx hb dX8_feed_86 (lv_at hl 1 rfl) ?_
  refine lv_iadd hx hb dX8_feed_88 ?_
  refine tq_i (w := 16) (by decide) ?_
  refine lv_iload hx hb dX8_feed_89 (lv_at hl 0 rfl) ?_
  refine lv_bipush (v := 24) hx hb dX8_feed_91 (by decide) ?_
  refine lv_bipush (v := 8) hx hb dX8_feed_93 (by decide) ?_
  refine lv_iload hx hb dX8_feed_95 (lv_at hl 1 rfl) ?_
  refine lv_iconst (v := 4) hx hb dX8_feed_97 (by decide) ?_
  refine lv_irem hx hb dX8_feed_98 (by decide) ?_
  refine tq_i (w := 0) (by decide) ?_
  refine lv_imul hx hb dX8_feed_99 ?_
  refine tq_i (w := 0) (by decide) ?_
  refine lv_isub hx hb dX8_feed_100 ?_
  refine tq_i (w := 24) (by decide) ?_
  refine lv_ishr hx hb dX8_feed_101 ?_
  refine lv_topi (fun x213 ex213 => ?_)
  refine lv_sipush (v := 255) hx hb dX8_feed_102 (by decide) ?_
  refine lv_iand hx hb dX8_feed_105 ?_
  refine lv_topi (fun x214 ex214 => ?_)
  refine va_iast (i := 16) hx hb hK hP hD hS 1 0 rfl rfl (tq_in (by decide)) dX8_feed_106 (fun H locs hP hD hS => ?_)
  have hP : va_P G vwCl [(h0, .inr (8, fs101)), (m0, .inl (cA 0, 700, .inl ((upd f207 (16 : Int32).toNatClampNeg x214))))] H := hP
  have hD : va_D A [(h0, .inr (8, fs101)), (m0, .inl (cA 0, 700, .inl ((upd f207 (16 : Int32).toNatClampNeg x214))))] := hD
  generalize (upd f207 (16 : Int32).toNatClampNeg x214) = f215 at hP hD
  refine lv_iinc (v := 17) (lv' := [(6, .int 17), (7, .int v), (0, .ref h0), (1, .int x), (2, .int y), (3, .int z), (4, .int w), (5, .int v)]) hx hb dX8_feed_107 hl (k := 1) rfl (by decide) (by decide) rfl (fun ls hl => ?_)
  refine lv_goto (tgt := 23) hx hb dX8_feed_110 (by decide) ?_
  refine lv_iload hx hb dX8_feed_23 (lv_at hl 0 rfl) ?_
  refine lv_bipush (v := 20) hx hb dX8_feed_25 (by decide) ?_
  refine lv_icmp_ge (tgt := 113) hx hb dX8_feed_27 (by decide) (fun c216 => absurd c216 (by decide)) (fun c216 => ?_)
  refine lv_iload hx hb dX8_feed_30 (lv_at hl 0 rfl) ?_
  refine lv_iconst (v := 4) hx hb dX8_feed_32 (by decide) ?_
  refine lv_icmp_ge (tgt := 40) hx hb dX8_feed_33 (by decide) (fun c217 => ?_) (fun c217 => absurd (by decide) c217)
  refine lv_iload hx hb dX8_feed_40 (lv_at hl 0 rfl) ?_
  refine lv_bipush (v := 8) hx hb dX8_feed_42 (by decide) ?_
  refine lv_icmp_ge (tgt := 51) hx hb dX8_feed_44 (by decide) (fun c218 => ?_) (fun c218 => absurd (by decide) c218)
  refine lv_iload hx hb dX8_feed_51 (lv_at hl 0 rfl) ?_
  refine lv_bipush (v := 12) hx hb dX8_feed_53 (by decide) ?_
  refine lv_icmp_ge (tgt := 62) hx hb dX8_feed_55 (by decide) (fun c219 => ?_) (fun c219 => absurd (by decide) c219)
  refine lv_iload hx hb dX8_feed_62 (lv_at hl 0 rfl) ?_
  refine lv_bipush (v := 16) hx hb dX8_feed_64 (by decide) ?_
  refine lv_icmp_ge (tgt := 74) hx hb dX8_feed_66 (by decide) (fun c220 => ?_) (fun c220 => absurd (by decide) c220)
  refine lv_iload hx hb dX8_feed_74 (lv_at hl 7 rfl) ?_
  refine lv_istore (lv' := [(7, .int v), (6, .int 17), (0, .ref h0), (1, .int x), (2, .int y), (3, .int z), (4, .int w), (5, .int v)]) hx hb dX8_feed_76 hl (by decide) rfl (fun ls hl => ?_)
  refine lv_aload_n hx hb dX8_feed_78 rfl (lv_at hl 2 rfl) ?_
  refine va_get (D := G) (ci := 8) (v := .ref m0) (C := RX8) (T := TX8) (N := 91) hx hb hT ku_8 hown hK hP 0 rfl rfl 0 (by decide) (hT _ kw_9_10) (fun _ h9 => h9) (fh_at hf 1 rfl) dX8_feed_79 ?_
  refine lv_aload_n hx hb dX8_feed_82 rfl (lv_at hl 2 rfl) ?_
  refine va_get (D := G) (ci := 8) (v := .int 0) (C := RX8) (T := TX8) (N := 91) hx hb hT ku_8 hown hK hP 0 rfl rfl 1 (by decide) (hT _ kw_14_1) (fun _ h9 => h9) (fh_at hf 2 rfl) dX8_feed_83 ?_
  refine lv_iload hx hb dX8_feed_86 (lv_at hl 1 rfl) ?_
  refine lv_iadd hx hb dX8_feed_88 ?_
  refine tq_i (w := 17) (by decide) ?_
  refine lv_iload hx hb dX8_feed_89 (lv_at hl 0 rfl) ?_
  refine lv_bipush (v := 24) hx hb dX8_feed_91 (by decide) ?_
  refine lv_bipush (v := 8) hx hb dX8_feed_93 (by decide) ?_
  refine lv_iload hx hb dX8_feed_95 (lv_at hl 1 rfl) ?_
  refine lv_iconst (v := 4) hx hb dX8_feed_97 (by decide) ?_
  refine lv_irem hx hb dX8_feed_98 (by decide) ?_
  refine tq_i (w := 1) (by decide) ?_
  refine lv_imul hx hb dX8_feed_99 ?_
  refine tq_i (w := 8) (by decide) ?_
  refine lv_isub hx hb dX8_feed_100 ?_
  refine tq_i (w := 16) (by decide) ?_
  refine lv_ishr hx hb dX8_feed_101 ?_
  refine lv_topi (fun x221 ex221 => ?_)
  refine lv_sipush (v := 255) hx hb dX8_feed_102 (by decide) ?_
  refine lv_iand hx hb dX8_feed_105 ?_
  refine lv_topi (fun x222 ex222 => ?_)
  refine va_iast (i := 17) hx hb hK hP hD hS 1 0 rfl rfl (tq_in (by decide)) dX8_feed_106 (fun H locs hP hD hS => ?_)
  have hP : va_P G vwCl [(h0, .inr (8, fs101)), (m0, .inl (cA 0, 700, .inl ((upd f215 (17 : Int32).toNatClampNeg x222))))] H := hP
  have hD : va_D A [(h0, .inr (8, fs101)), (m0, .inl (cA 0, 700, .inl ((upd f215 (17 : Int32).toNatClampNeg x222))))] := hD
  generalize (upd f215 (17 : Int32).toNatClampNeg x222) = f223 at hP hD
  refine lv_iinc (v := 18) (lv' := [(6, .int 18), (7, .int v), (0, .ref h0), (1, .int x), (2, .int y), (3, .int z), (4, .int w), (5, .int v)]) hx hb dX8_feed_107 hl (k := 1) rfl (by decide) (by decide) rfl (fun ls hl => ?_)
  refine lv_goto (tgt := 23) hx hb dX8_feed_110 (by decide) ?_
  refine lv_iload hx hb dX8_feed_23 (lv_at hl 0 rfl) ?_
  refine lv_bipush (v := 20) hx hb dX8_feed_25 (by decide) ?_
  refine lv_icmp_ge (tgt := 113) hx hb dX8_feed_27 (by decide) (fun c224 => absurd c224 (by decide)) (fun c224 => ?_)
  refine lv_iload hx hb dX8_feed_30 (lv_at hl 0 rfl) ?_
  refine lv_iconst (v := 4) hx hb dX8_feed_32 (by decide) ?_
  refine lv_icmp_ge (tgt := 40) hx hb dX8_feed_33 (by decide) (fun c225 => ?_) (fun c225 => absurd (by decide) c225)
  refine lv_iload hx hb dX8_feed_40 (lv_at hl 0 rfl) ?_
  refine lv_bipush (v := 8) hx hb dX8_feed_42 (by decide) ?_
  refine lv_icmp_ge (tgt := 51) hx hb dX8_feed_44 (by decide) (fun c226 => ?_) (fun c226 => absurd (by decide) c226)
  refine lv_iload hx hb dX8_feed_51 (lv_at hl 0 rfl) ?_
  refine lv_bipush (v := 12) hx hb dX8_feed_53 (by decide) ?_
  refine lv_icmp_ge (tgt := 62) hx hb dX8_feed_55 (by decide) (fun c227 => ?_) (fun c227 => absurd (by decide) c227)
  refine lv_iload hx hb dX8_feed_62 (lv_at hl 0 rfl) ?_
  refine lv_bipush (v := 16) hx hb dX8_feed_64 (by decide) ?_
  refine lv_icmp_ge (tgt := 74) hx hb dX8_feed_66 (by decide) (fun c228 => ?_) (fun c228 => absurd (by decide) c228)
  refine lv_iload hx hb dX8_feed_74 (lv_at hl 7 rfl) ?_
  refine lv_istore (lv' := [(7, .int v), (6, .int 18), (0, .ref h0), (1, .int x), (2, .int y), (3, .int z), (4, .int w), (5, .int v)]) hx hb dX8_feed_76 hl (by decide) rfl (fun ls hl => ?_)
  refine lv_aload_n hx hb dX8_feed_78 rfl (lv_at hl 2 rfl) ?_
  refine va_get (D := G) (ci := 8) (v := .ref m0) (C := RX8) (T := TX8) (N := 91) hx hb hT ku_8 hown hK hP 0 rfl rfl 0 (by decide) (hT _ kw_9_10) (fun _ h9 => h9) (fh_at hf 1 rfl) dX8_feed_79 ?_
  refine lv_aload_n hx hb dX8_feed_82 rfl (lv_at hl 2 rfl) ?_
  refine va_get (D := G) (ci := 8) (v := .int 0) (C := RX8) (T := TX8) (N := 91) hx hb hT ku_8 hown hK hP 0 rfl rfl 1 (by decide) (hT _ kw_14_1) (fun _ h9 => h9) (fh_at hf 2 rfl) dX8_feed_83 ?_
  refine lv_iload hx hb dX8_feed_86 (lv_at hl 1 rfl) ?_
  refine lv_iadd hx hb dX8_feed_88 ?_
  refine tq_i (w := 18) (by decide) ?_
  refine lv_iload hx hb dX8_feed_89 (lv_at hl 0 rfl) ?_
  refine lv_bipush (v := 24) hx hb dX8_feed_91 (by decide) ?_
  refine lv_bipush (v := 8) hx hb dX8_feed_93 (by decide) ?_
  refine lv_iload hx hb dX8_feed_95 (lv_at hl 1 rfl) ?_
  refine lv_iconst (v := 4) hx hb dX8_feed_97 (by decide) ?_
  refine lv_irem hx hb dX8_feed_98 (by decide) ?_
  refine tq_i (w := 2) (by decide) ?_
  refine lv_imul hx hb dX8_feed_99 ?_
  refine tq_i (w := 16) (by decide) ?_
  refine lv_isub hx hb dX8_feed_100 ?_
  refine tq_i (w := 8) (by decide) ?_
  refine lv_ishr hx hb dX8_feed_101 ?_
  refine lv_topi (fun x229 ex229 => ?_)
  refine lv_sipush (v := 255) hx hb dX8_feed_102 (by decide) ?_
  refine lv_iand hx hb dX8_feed_105 ?_
  refine lv_topi (fun x230 ex230 => ?_)
  refine va_iast (i := 18) hx hb hK hP hD hS 1 0 rfl rfl (tq_in (by decide)) dX8_feed_106 (fun H locs hP hD hS => ?_)
  have hP : va_P G vwCl [(h0, .inr (8, fs101)), (m0, .inl (cA 0, 700, .inl ((upd f223 (18 : Int32).toNatClampNeg x230))))] H := hP
  have hD : va_D A [(h0, .inr (8, fs101)), (m0, .inl (cA 0, 700, .inl ((upd f223 (18 : Int32).toNatClampNeg x230))))] := hD
  generalize (upd f223 (18 : Int32).toNatClampNeg x230) = f231 at hP hD
  refine lv_iinc (v := 19) (lv' := [(6, .int 19), (7, .int v), (0, .ref h0), (1, .int x), (2, .int y), (3, .int z), (4, .int w), (5, .int v)]) hx hb dX8_feed_107 hl (k := 1) rfl (by decide) (by decide) rfl (fun ls hl => ?_)
  refine lv_goto (tgt := 23) hx hb dX8_feed_110 (by decide) ?_
  refine lv_iload hx hb dX8_feed_23 (lv_at hl 0 rfl) ?_
  refine lv_bipush (v := 20) hx hb dX8_feed_25 (by decide) ?_
  refine lv_icmp_ge (tgt := 113) hx hb dX8_feed_27 (by decide) (fun c232 => absurd c232 (by decide)) (fun c232 => ?_)
  refine lv_iload hx hb dX8_feed_30 (lv_at hl 0 rfl) ?_
  refine lv_iconst (v := 4) hx hb dX8_feed_32 (by decide) ?_
  refine lv_icmp_ge (tgt := 40) hx hb dX8_feed_33 (by decide) (fun c233 => ?_) (fun c233 => absurd (by decide) c233)
  refine lv_iload hx hb dX8_feed_40 (lv_at hl 0 rfl) ?_
  refine lv_bipush (v := 8) hx hb dX8_feed_42 (by decide) ?_
  refine lv_icmp_ge (tgt := 51) hx hb dX8_feed_44 (by decide) (fun c234 => ?_) (fun c234 => absurd (by decide) c234)
  refine lv_iload hx hb dX8_feed_51 (lv_at hl 0 rfl) ?_
  refine lv_bipush (v := 12) hx hb dX8_feed_53 (by decide) ?_
  refine lv_icmp_ge (tgt := 62) hx hb dX8_feed_55 (by decide) (fun c235 => ?_) (fun c235 => absurd (by decide) c235)
  refine lv_iload hx hb dX8_feed_62 (lv_at hl 0 rfl) ?_
  refine lv_bipush (v := 16) hx hb dX8_feed_64 (by decide) ?_
  refine lv_icmp_ge (tgt := 74) hx hb dX8_feed_66 (by decide) (fun c236 => ?_) (fun c236 => absurd (by decide) c236)
  refine lv_iload hx hb dX8_feed_74 (lv_at hl 7 rfl) ?_
  refine lv_istore (lv' := [(7, .int v), (6, .int 19), (0, .ref h0), (1, .int x), (2, .int y), (3, .int z), (4, .int w), (5, .int v)]) hx hb dX8_feed_76 hl (by decide) rfl (fun ls hl => ?_)
  refine lv_aload_n hx hb dX8_feed_78 rfl (lv_at hl 2 rfl) ?_
  refine va_get (D := G) (ci := 8) (v := .ref m0) (C := RX8) (T := TX8) (N := 91) hx hb hT ku_8 hown hK hP 0 rfl rfl 0 (by decide) (hT _ kw_9_10) (fun _ h9 => h9) (fh_at hf 1 rfl) dX8_feed_79 ?_
  refine lv_aload_n hx hb dX8_feed_82 rfl (lv_at hl 2 rfl) ?_
  refine va_get (D := G) (ci := 8) (v := .int 0) (C := RX8) (T := TX8) (N := 91) hx hb hT ku_8 hown hK hP 0 rfl rfl 1 (by decide) (hT _ kw_14_1) (fun _ h9 => h9) (fh_at hf 2 rfl) dX8_feed_83 ?_
  refine lv_iload hx hb dX8_feed_86 (lv_at hl 1 rfl) ?_
  refine lv_iadd hx hb dX8_feed_88 ?_
  refine tq_i (w := 19) (by decide) ?_
  refine lv_iload hx hb dX8_feed_89 (lv_at hl 0 rfl) ?_
  refine lv_bipush (v := 24) hx hb dX8_feed_91 (by decide) ?_
  refine lv_bipush (v := 8) hx hb dX8_feed_93 (by decide) ?_
  refine lv_iload hx hb dX8_feed_95 (lv_at hl 1 rfl) ?_
  refine lv_iconst (v := 4) hx hb dX8_feed_97 (by decide) ?_
  refine lv_irem hx hb dX8_feed_98 (by decide) ?_
  refine tq_i (w := 3) (by decide) ?_
  refine lv_imul hx hb dX8_feed_99 ?_
  refine tq_i (w := 24) (by decide) ?_
  refine lv_isub hx hb dX8_feed_100 ?_
  refine tq_i (w := 0) (by decide) ?_
  refine lv_ishr hx hb dX8_feed_101 ?_
  refine lv_topi (fun x237 ex237 => ?_)
  refine lv_sipush (v := 255) hx hb dX8_feed_102 (by decide) ?_
  refine lv_iand hx hb dX8_feed_105 ?_
  refine lv_topi (fun x238 ex238 => ?_)
  refine va_iast (i := 19) hx hb hK hP hD hS 1 0 rfl rfl (tq_in (by decide)) dX8_feed_106 (fun H locs hP hD hS => ?_)
  have hP : va_P G vwCl [(h0, .inr (8, fs101)), (m0, .inl (cA 0, 700, .inl ((upd f231 (19 : Int32).toNatClampNeg x238))))] H := hP
  have hD : va_D A [(h0, .inr (8, fs101)), (m0, .inl (cA 0, 700, .inl ((upd f231 (19 : Int32).toNatClampNeg x238))))] := hD
  generalize (upd f231 (19 : Int32).toNatClampNeg x238) = f239 at hP hD
  refine lv_iinc (v := 20) (lv' := [(6, .int 20), (7, .int v), (0, .ref h0), (1, .int x), (2, .int y), (3, .int z), (4, .int w), (5, .int v)]) hx hb dX8_feed_107 hl (k := 1) rfl (by decide) (by decide) rfl (fun ls hl => ?_)
  refine lv_goto (tgt := 23) hx hb dX8_feed_110 (by decide) ?_
  refine lv_iload hx hb dX8_feed_23 (lv_at hl 0 rfl) ?_
  refine lv_bipush (v := 20) hx hb dX8_feed_25 (by decide) ?_
  refine lv_icmp_ge (tgt := 113) hx hb dX8_feed_27 (by decide) (fun c240 => ?_) (fun c240 => absurd (by decide) c240)
  refine lv_aload_n hx hb dX8_feed_113 rfl (lv_at hl 2 rfl) ?_
  refine lv_dup hx hb dX8_feed_114 rfl ?_
  refine va_get (D := G) (ci := 8) (v := .int 0) (C := RX8) (T := TX8) (N := 91) hx hb hT ku_8 hown hK hP 0 rfl rfl 1 (by decide) (hT _ kw_14_1) (fun _ h9 => h9) (fh_at hf 2 rfl) dX8_feed_115 ?_
  refine lv_bipush (v := 20) hx hb dX8_feed_118 (by decide) ?_
  refine lv_iadd hx hb dX8_feed_120 ?_
  refine tq_i (w := 20) (by decide) ?_
  refine va_put (D := G) (ci := 8) (v := .int 20) (ty := .int) (C := RX8) (T := TX8) (N := 91) hx hb hT ku_8 tyX8 tyX8_ok nmX8 hown hK hP hD hS 0 rfl rfl 1 (by decide) (hT _ kw_14_1) (fun _ h9 => h9) rfl (by decide +kernel) rfl rfl (fh_lt hf (by decide)) dX8_feed_121 (fun H locs hP hD hS => ?_)
  have hP : va_P G vwCl [(h0, .inr (8, (fs101.set 1 (.int 20)))), (m0, .inl (cA 0, 700, .inl f239))] H := hP
  have hD : va_D A [(h0, .inr (8, (fs101.set 1 (.int 20)))), (m0, .inl (cA 0, 700, .inl f239))] := hD
  have hf := fh_set (l' := [(1, .int 20), (2, .int 0), (0, .ref m0)]) hf 1 (.int 20) (by decide) rfl
  have ho242 := fo_set ho102 1 (.int 20)
  generalize (fs101.set 1 (.int 20)) = fs241 at hP hD hf ho242
  refine lv_aload_n hx hb dX8_feed_124 rfl (lv_at hl 2 rfl) ?_
  refine va_get (D := G) (ci := 8) (v := .int 20) (C := RX8) (T := TX8) (N := 91) hx hb hT ku_8 hown hK hP 0 rfl rfl 1 (by decide) (hT _ kw_14_1) (fun _ h9 => h9) (fh_at hf 0 rfl) dX8_feed_125 ?_
  have hP9 : va_P G vwCl [] H := fun k q h => by simp at h
  have hD9 : va_D A [] := ⟨fun i j p q h => by simp at h, fun k q h => by simp at h⟩
  exact W.iret (v := 20) hx hb hr (fun t ht hW => ⟨⟨20, (), rfl, rfl, by rw [ht]; exact hP9, hD9⟩, hS.F ht⟩) hS.2.2 dX8_feed_128

set_option maxHeartbeats 4000000 in
set_option maxRecDepth 100000 in
theorem c_X8_fault (l : Launch) (G : va_G) (cA : Nat → ClassId) (sz : Nat) (h0 : Nat) (x : Int32) (fs : List Value) (hf : fh fs 91 [(4, .int 0), (5, .int (-1))]) : Met l yX8_fault (.code yX8_fault cX8_fault 2 (some .int) :: T0) ({ frames := 0, cells := 0, slots := 0, locals := 0 }) (tqP G cA [.ref h0, .int x] [(h0, .inr (8, fs))] sz) (tqQi G cA (fun (r : Int32) (u : Unit) => r = ((sp_fault x))) (fun (u : Unit) => []) (va_A [(h0, .inr (8, fs))] sz)) 0 0 (va_A [(h0, .inr (8, fs))] sz) := by
  refine Met.ofW (cc := cX8_fault) (maxL := 2) (ret := (some .int)) (by decide) rfl ?_
  intro p e s m args below meth c s₁ B hml hv
  obtain ⟨rfl, hsz, hP, hK, hD0, hN⟩ := hv
  have hx := B.exec
  have hb := B.bytes
  have hr := B.returns
  have hts := atoms_spec (ws := .code yX8_fault cX8_fault 2 (some .int) :: T0) B.pre
  have hT : ∀ w ∈ T0, w.before _ s = true := fun w h => hts w (List.mem_cons_of_mem _ h)
  have hown : s.vm.findClass RX8 = some m.cls := findClass_of_methodNamed B.named
  have hlocks := B.notSynchronized
  subst hsz
  have hD := hD0.self (sz := s.heap.size)
  generalize hAe : va_A [(h0, .inr (8, fs))] s.heap.size = A at hD ⊢
  have hA : ∀ q : Nat, s.heap.size ≤ q → A q := fun q h => by rw [← hAe]; exact Or.inr h
  have hS : va_S A s.heap s.heap [] := va_S.rf
  have hl := lv_entry ([.ref h0, .int x]) (n := 2) (Nat.le_of_ble_eq_true rfl)
  rw [lg_entry_eq]
  generalize (lg_sl ([.ref h0, .int x]) ++ List.replicate (2 - (lg_sl ([.ref h0, .int x])).length) Slot.unset).toArray = ls at hl ⊢
  have hl : lv_has ls 2 [(0, .ref h0), (1, .int x)] := hl
  obtain ⟨H, hH⟩ : ∃ z, z = s.heap := ⟨_, rfl⟩
  rw [← hH] at hP
  have hS : va_S A s.heap H [] := by rw [hH]; exact hS
  suffices hgo : W p l e _ s m _ below meth c H [] 0 0 _ _ by rw [hH] at hgo; exact hgo
  have hO := hN.2.2.2.2
  have ho_hf := fo_refl fs
  refine lv_aload_n hx hb dX8_fault_0 rfl (lv_at hl 0 rfl) ?_
  refine lv_iconst (v := 0) hx hb dX8_fault_1 (by decide) ?_
  refine va_put (D := G) (ci := 8) (v := .int 0) (ty := .int) (C := RX8) (T := TX8) (N := 91) hx hb hT ku_8 tyX8 tyX8_ok nmX8 hown hK hP hD hS 0 rfl rfl 2 (by decide) (hT _ kw_14_0) (fun _ h9 => h9) rfl (by decide +kernel) rfl rfl (fh_lt hf (by decide)) dX8_fault_2 (fun H locs hP hD hS => ?_)
  have hP : va_P G vwCl [(h0, .inr (8, (fs.set 2 (.int 0))))] H := hP
  have hD : va_D A [(h0, .inr (8, (fs.set 2 (.int 0))))] := hD
  have hf := fh_set (l' := [(2, .int 0), (4, .int 0), (5, .int (-1))]) hf 2 (.int 0) (by decide) rfl
  have ho102 := fo_set ho_hf 2 (.int 0)
  generalize (fs.set 2 (.int 0)) = fs101 at hP hD hf ho102
  refine lv_iload_n hx hb dX8_fault_5 rfl (lv_at hl 1 rfl) ?_
  refine lv_if_ne (tgt := 16) hx hb dX8_fault_6 (by decide) (fun c103 => ?_) (fun c103 => ?_)
  · have k103 := tq_eqn (a := x.toInt) (b := 0) rfl (by decide) c103
    refine lv_iload_n hx hb dX8_fault_16 rfl (lv_at hl 1 rfl) ?_
    refine lv_iconst (v := 1) hx hb dX8_fault_17 (by decide) ?_
    refine lv_icmp_ne (tgt := 28) hx hb dX8_fault_18 (by decide) (fun c104 => ?_) (fun c104 => ?_)
    · have k104 := tq_eqn (a := x.toInt) (b := 1) rfl (by decide) c104
      refine lv_iconst (v := (-1)) hx hb dX8_fault_28 (by decide) ?_
      have hP9 : va_P G vwCl [] H := fun k q h => by simp at h
      have hD9 : va_D A [] := ⟨fun i j p q h => by simp at h, fun k q h => by simp at h⟩
      exact W.iret (v := (-1)) hx hb hr (fun t ht hW => ⟨⟨(-1), (), rfl, (by unfold sp_fault; (repeat' split) <;> first | rfl | (exfalso; omega) | decide), by rw [ht]; exact hP9, hD9⟩, hS.F ht⟩) hS.2.2 dX8_fault_29
    · have k104 := tq_eq (a := x.toInt) (b := 1) rfl (by decide) c104
      refine lv_aload_n hx hb dX8_fault_21 rfl (lv_at hl 0 rfl) ?_
      refine va_get (D := G) (ci := 8) (v := .int (-1)) (C := RX8) (T := TX8) (N := 91) hx hb hT ku_8 hown hK hP 0 rfl rfl 5 (by decide) (hT _ kw_9_12) (fun _ h9 => h9) (fh_at hf 2 rfl) dX8_fault_22 ?_
      refine lv_goto (tgt := 29) hx hb dX8_fault_25 (by decide) ?_
      have hP9 : va_P G vwCl [] H := fun k q h => by simp at h
      have hD9 : va_D A [] := ⟨fun i j p q h => by simp at h, fun k q h => by simp at h⟩
      exact W.iret (v := (-1)) hx hb hr (fun t ht hW => ⟨⟨(-1), (), rfl, (by unfold sp_fault; (repeat' split) <;> first | rfl | (exfalso; omega) | decide), by rw [ht]; exact hP9, hD9⟩, hS.F ht⟩) hS.2.2 dX8_fault_29
  · have k103 := tq_eq (a := x.toInt) (b := 0) rfl (by decide) c103
    refine lv_aload_n hx hb dX8_fault_9 rfl (lv_at hl 0 rfl) ?_
    refine va_get (D := G) (ci := 8) (v := .int 0) (C := RX8) (T := TX8) (N := 91) hx hb hT ku_8 hown hK hP 0 rfl rfl 4 (by decide) (hT _ kw_22_12) (fun _ h9 => h9) (fh_at hf 1 rfl) dX8_fault_10 ?_
    refine lv_goto (tgt := 29) hx hb dX8_fault_13 (by decide) ?_
    have hP9 : va_P G vwCl [] H := fun k q h => by simp at h
    have hD9 : va_D A [] := ⟨fun i j p q h => by simp at h, fun k q h => by simp at h⟩
    exact W.iret (v := 0) hx hb hr (fun t ht hW => ⟨⟨0, (), rfl, (by unfold sp_fault; (repeat' split) <;> first | rfl | (exfalso; omega) | decide), by rw [ht]; exact hP9, hD9⟩, hS.F ht⟩) hS.2.2 dX8_fault_29

set_option maxHeartbeats 4000000 in
set_option maxRecDepth 100000 in
theorem c_X8_named (l : Launch) (G : va_G) (cA : Nat → ClassId) (sz : Nat) (h0 : Nat) (x : Int32) (fs : List Value) (m25 : Nat) (hf : fh fs 91 [(25, .ref m25), (13, .int 0)]) : Met l yX8_named (.code yX8_named cX8_named 2 (some .int) :: T0) ({ frames := 1, cells := 0, slots := 0, locals := 24 }) (tqP G cA [.ref h0, .int x] [(h0, .inr (8, fs))] sz) (tqQi G cA (fun (r : Int32) (u : Unit) => r = (-1)) (fun (u : Unit) => []) (va_A [(h0, .inr (8, fs))] sz)) 0 0 (va_A [(h0, .inr (8, fs))] sz) := by
  refine Met.ofW (cc := cX8_named) (maxL := 2) (ret := (some .int)) (by decide) rfl ?_
  intro p e s m args below meth c s₁ B hml hv
  obtain ⟨rfl, hsz, hP, hK, hD0, hN⟩ := hv
  have hx := B.exec
  have hb := B.bytes
  have hr := B.returns
  have hts := atoms_spec (ws := .code yX8_named cX8_named 2 (some .int) :: T0) B.pre
  have hT : ∀ w ∈ T0, w.before _ s = true := fun w h => hts w (List.mem_cons_of_mem _ h)
  have hown : s.vm.findClass RX8 = some m.cls := findClass_of_methodNamed B.named
  have hlocks := B.notSynchronized
  subst hsz
  have hD := hD0.self (sz := s.heap.size)
  generalize hAe : va_A [(h0, .inr (8, fs))] s.heap.size = A at hD ⊢
  have hA : ∀ q : Nat, s.heap.size ≤ q → A q := fun q h => by rw [← hAe]; exact Or.inr h
  have hS : va_S A s.heap s.heap [] := va_S.rf
  have hl := lv_entry ([.ref h0, .int x]) (n := 2) (Nat.le_of_ble_eq_true rfl)
  rw [lg_entry_eq]
  generalize (lg_sl ([.ref h0, .int x]) ++ List.replicate (2 - (lg_sl ([.ref h0, .int x])).length) Slot.unset).toArray = ls at hl ⊢
  have hl : lv_has ls 2 [(0, .ref h0), (1, .int x)] := hl
  obtain ⟨H, hH⟩ : ∃ z, z = s.heap := ⟨_, rfl⟩
  rw [← hH] at hP
  have hS : va_S A s.heap H [] := by rw [hH]; exact hS
  suffices hgo : W p l e _ s m _ below meth c H [] 0 0 _ _ by rw [hH] at hgo; exact hgo
  have hO := hN.2.2.2.2
  have ho_hf := fo_refl fs
  refine lv_aload_n hx hb dX8_named_0 rfl (lv_at hl 0 rfl) ?_
  refine lv_iconst (v := 0) hx hb dX8_named_1 (by decide) ?_
  refine va_put (D := G) (ci := 8) (v := .int 0) (ty := .int) (C := RX8) (T := TX8) (N := 91) hx hb hT ku_8 tyX8 tyX8_ok nmX8 hown hK hP hD hS 0 rfl rfl 2 (by decide) (hT _ kw_14_0) (fun _ h9 => h9) rfl (by decide +kernel) rfl rfl (fh_lt hf (by decide)) dX8_named_2 (fun H locs hP hD hS => ?_)
  have hP : va_P G vwCl [(h0, .inr (8, (fs.set 2 (.int 0))))] H := hP
  have hD : va_D A [(h0, .inr (8, (fs.set 2 (.int 0))))] := hD
  have hf := fh_set (l' := [(2, .int 0), (25, .ref m25), (13, .int 0)]) hf 2 (.int 0) (by decide) rfl
  have ho102 := fo_set ho_hf 2 (.int 0)
  generalize (fs.set 2 (.int 0)) = fs101 at hP hD hf ho102
  refine lv_aload_n hx hb dX8_named_5 rfl (lv_at hl 0 rfl) ?_
  refine va_get (D := G) (ci := 8) (v := .ref m25) (C := RX8) (T := TX8) (N := 91) hx hb hT ku_8 hown hK hP 0 rfl rfl 25 (by decide) (hT _ kw_9_17) (fun _ h9 => h9) (fh_at hf 1 rfl) dX8_named_6 ?_
  refine lv_iconst (v := 0) hx hb dX8_named_9 (by decide) ?_
  refine lv_aload_n hx hb dX8_named_10 rfl (lv_at hl 0 rfl) ?_
  refine va_get (D := G) (ci := 8) (v := .int 0) (C := RX8) (T := TX8) (N := 91) hx hb hT ku_8 hown hK hP 0 rfl rfl 13 (by decide) (hT _ kw_12_4) (fun _ h9 => h9) (fh_at hf 2 rfl) dX8_named_11 ?_
  refine lv_iload_n hx hb dX8_named_14 rfl (lv_at hl 1 rfl) ?_
  refine tq_ci (wr := [(h0, .inr (8, fs101))]) hP hD hS hA [] [0] rfl rfl (by decide) (by decide) (va_runS (As := [.ref m25, .int 0, .int 0, .int x]) (rest := []) ⟨hx, hb, hml, hown, hT⟩ (c_X8_find l G cA H.size m25 0 x ) (va_cwS 4 hT (tq_gS kw_24_18 kw_24_19 kw_1_5 kw_24_20) rfl rfl rfl (by decide +kernel) ⟨Nat.le_of_ble_eq_true rfl, Nat.le_of_ble_eq_true rfl⟩) (tq_pre (isC := []) hP hD hK hN rfl (by decide)) rfl rfl hl.1 rfl (lv_room (Nat.le_of_ble_eq_true rfl)) dX8_named_15 ⟨Nat.le_of_ble_eq_true rfl, Nat.le_of_ble_eq_true rfl⟩) (fun r103 u104 H locs hw105 hP hD hS => ?_)
  refine W.widen (k := 0) (n := 0) (Nat.le_of_ble_eq_true rfl) (Nat.le_of_ble_eq_true rfl) ?_
  have hr106 := hw105
  subst hr106
  have hP : va_P G vwCl [(h0, .inr (8, fs101))] H := hP
  have hD : va_D A [(h0, .inr (8, fs101))] := hD
  have hP9 : va_P G vwCl [] H := fun k q h => by simp at h
  have hD9 : va_D A [] := ⟨fun i j p q h => by simp at h, fun k q h => by simp at h⟩
  exact W.iret (v := (-1)) hx hb hr (fun t ht hW => ⟨⟨(-1), (), rfl, rfl, by rw [ht]; exact hP9, hD9⟩, hS.F ht⟩) hS.2.2 dX8_named_18

set_option maxHeartbeats 4000000 in
set_option maxRecDepth 100000 in
theorem c_X8_person (l : Launch) (G : va_G) (cA : Nat → ClassId) (sz : Nat) (h0 : Nat) (x : Int32) (y : Int32) (fs : List Value) (hf : fh fs 91 [(13, .int 0)]) : Met l yX8_person (.code yX8_person cX8_person 3 (some .int) :: T0) ({ frames := 1, cells := 0, slots := 0, locals := 21 }) (tqP G cA [.ref h0, .int x, .int y] [(h0, .inr (8, fs))] sz) (tqQi G cA (fun (r : Int32) (u : List Value) => r = 0 ∧ fo fs u [2] ∧ fh u 91 [(2, .int 1)]) (fun (u : List Value) => [(h0, .inr (8, u))]) (va_A [(h0, .inr (8, fs))] sz)) 0 0 (va_A [(h0, .inr (8, fs))] sz) := by
  refine Met.ofW (cc := cX8_person) (maxL := 3) (ret := (some .int)) (by decide) rfl ?_
  intro p e s m args below meth c s₁ B hml hv
  obtain ⟨rfl, hsz, hP, hK, hD0, hN⟩ := hv
  have hx := B.exec
  have hb := B.bytes
  have hr := B.returns
  have hts := atoms_spec (ws := .code yX8_person cX8_person 3 (some .int) :: T0) B.pre
  have hT : ∀ w ∈ T0, w.before _ s = true := fun w h => hts w (List.mem_cons_of_mem _ h)
  have hown : s.vm.findClass RX8 = some m.cls := findClass_of_methodNamed B.named
  have hlocks := B.notSynchronized
  subst hsz
  have hD := hD0.self (sz := s.heap.size)
  generalize hAe : va_A [(h0, .inr (8, fs))] s.heap.size = A at hD ⊢
  have hA : ∀ q : Nat, s.heap.size ≤ q → A q := fun q h => by rw [← hAe]; exact Or.inr h
  have hS : va_S A s.heap s.heap [] := va_S.rf
  have hl := lv_entry ([.ref h0, .int x, .int y]) (n := 3) (Nat.le_of_ble_eq_true rfl)
  rw [lg_entry_eq]
  generalize (lg_sl ([.ref h0, .int x, .int y]) ++ List.replicate (3 - (lg_sl ([.ref h0, .int x, .int y])).length) Slot.unset).toArray = ls at hl ⊢
  have hl : lv_has ls 3 [(0, .ref h0), (1, .int x), (2, .int y)] := hl
  obtain ⟨H, hH⟩ : ∃ z, z = s.heap := ⟨_, rfl⟩
  rw [← hH] at hP
  have hS : va_S A s.heap H [] := by rw [hH]; exact hS
  suffices hgo : W p l e _ s m _ below meth c H [] 0 0 _ _ by rw [hH] at hgo; exact hgo
  have hO := hN.2.2.2.2
  have ho_hf := fo_refl fs
  refine lv_aload_n hx hb dX8_person_0 rfl (lv_at hl 0 rfl) ?_
  refine lv_iconst (v := 0) hx hb dX8_person_1 (by decide) ?_
  refine va_put (D := G) (ci := 8) (v := .int 0) (ty := .int) (C := RX8) (T := TX8) (N := 91) hx hb hT ku_8 tyX8 tyX8_ok nmX8 hown hK hP hD hS 0 rfl rfl 2 (by decide) (hT _ kw_14_0) (fun _ h9 => h9) rfl (by decide +kernel) rfl rfl (fh_lt hf (by decide)) dX8_person_2 (fun H locs hP hD hS => ?_)
  have hP : va_P G vwCl [(h0, .inr (8, (fs.set 2 (.int 0))))] H := hP
  have hD : va_D A [(h0, .inr (8, (fs.set 2 (.int 0))))] := hD
  have hf := fh_set (l' := [(2, .int 0), (13, .int 0)]) hf 2 (.int 0) (by decide) rfl
  have ho102 := fo_set ho_hf 2 (.int 0)
  generalize (fs.set 2 (.int 0)) = fs101 at hP hD hf ho102
  refine lv_aload_n hx hb dX8_person_5 rfl (lv_at hl 0 rfl) ?_
  refine lv_iload_n hx hb dX8_person_6 rfl (lv_at hl 1 rfl) ?_
  refine tq_ci (wr := []) hP hD hS hA [0] [] rfl rfl (by decide) (by decide) (va_runV (As := [.int x]) (rest := []) ⟨hx, hb, hml, hown, hT⟩ (c_X8_isPerson l G cA H.size h0 x fs101 (fh_sub hf [1] rfl)) (cwV 1 hT (tq_gV kw_29_12 kw_29_13 kw_29_14 kw_1_5 kw_29_15) rfl rfl rfl (by decide +kernel) ⟨Nat.le_of_ble_eq_true rfl, Nat.le_of_ble_eq_true rfl⟩) ⟨(tq_pre (isC := [0]) hP hD hK hN rfl (by decide)).1, va_recv hK hP (ci := 8) (q0 := 0) rfl rfl, (tq_pre (isC := [0]) hP hD hK hN rfl (by decide)).2⟩ rfl rfl hl.1 rfl (lv_room (Nat.le_of_ble_eq_true rfl)) dX8_person_7 ⟨Nat.le_of_ble_eq_true rfl, Nat.le_of_ble_eq_true rfl⟩) (fun r103 u104 H locs hw105 hP hD hS => ?_)
  refine W.widen (k := 0) (n := 0) (Nat.le_of_ble_eq_true rfl) (Nat.le_of_ble_eq_true rfl) ?_
  have hr106 := hw105
  subst hr106
  have hP : va_P G vwCl [(h0, .inr (8, fs101))] H := hP
  have hD : va_D A [(h0, .inr (8, fs101))] := hD
  refine lv_if_ne (tgt := 19) hx hb dX8_person_10 (by decide) (fun c107 => absurd (by decide) c107) (fun c107 => ?_)
  refine lv_aload_n hx hb dX8_person_13 rfl (lv_at hl 0 rfl) ?_
  refine lv_iconst (v := 1) hx hb dX8_person_14 (by decide) ?_
  refine tq_ci (wr := []) hP hD hS hA [0] [] rfl rfl (by decide) (by decide) (va_runV (As := [.int 1]) (rest := []) ⟨hx, hb, hml, hown, hT⟩ (c_X8_fails l G cA H.size h0 fs101 (fh_sub hf [] rfl)) (cwV 1 hT (tq_gV kw_29_16 kw_29_17 kw_29_18 kw_1_5 kw_29_19) rfl rfl rfl (by decide +kernel) ⟨Nat.le_of_ble_eq_true rfl, Nat.le_of_ble_eq_true rfl⟩) ⟨(tq_pre (isC := [0]) hP hD hK hN rfl (by decide)).1, va_recv hK hP (ci := 8) (q0 := 0) rfl rfl, (tq_pre (isC := [0]) hP hD hK hN rfl (by decide)).2⟩ rfl rfl hl.1 rfl (lv_room (Nat.le_of_ble_eq_true rfl)) dX8_person_15 ⟨Nat.le_of_ble_eq_true rfl, Nat.le_of_ble_eq_true rfl⟩) (fun r108 u109 H locs hw110 hP hD hS => ?_)
  refine W.widen (k := 0) (n := 0) (Nat.le_of_ble_eq_true rfl) (Nat.le_of_ble_eq_true rfl) ?_
  obtain ⟨hr112, ho113, hf114⟩ := hw110
  subst hr112
  have hf114 := fh_app (fo_fh (l' := [(13, .int 0)]) hf ho113 rfl) hf114
  have ho115 := fo_mono (k2 := [2]) (fo_trans ho102 ho113) (by decide)
  have hf114 : fh u109 91 [(13, .int 0), (2, .int 1)] := hf114
  have hP : va_P G vwCl [(h0, .inr (8, u109))] H := hP
  have hD : va_D A [(h0, .inr (8, u109))] := hD
  have qho115 := fo_mono (k2 := [2]) ho115 (by decide)
  exact W.iret (v := 0) hx hb hr (fun t ht hW => ⟨⟨0, u109, rfl, ⟨rfl, qho115, fh_sub hf114 [1] rfl⟩, by rw [ht]; exact hP, hD⟩, hS.F ht⟩) hS.2.2 dX8_person_18

set_option maxHeartbeats 4000000 in
set_option maxRecDepth 100000 in
theorem c_X8_piece (l : Launch) (G : va_G) (cA : Nat → ClassId) (sz : Nat) (h0 : Nat) (x : Int32) (y : Int32) (fs : List Value) (hf : fh fs 91 [(14, .int 0)]) : Met l yX8_piece (.code yX8_piece cX8_piece 3 (some .int) :: T0) ({ frames := 1, cells := 0, slots := 0, locals := 21 }) (tqP G cA [.ref h0, .int x, .int y] [(h0, .inr (8, fs))] sz) (tqQi G cA (fun (r : Int32) (u : Unit) => r = (-1)) (fun (u : Unit) => []) (va_A [(h0, .inr (8, fs))] sz)) 0 0 (va_A [(h0, .inr (8, fs))] sz) := by
  refine Met.ofW (cc := cX8_piece) (maxL := 3) (ret := (some .int)) (by decide) rfl ?_
  intro p e s m args below meth c s₁ B hml hv
  obtain ⟨rfl, hsz, hP, hK, hD0, hN⟩ := hv
  have hx := B.exec
  have hb := B.bytes
  have hr := B.returns
  have hts := atoms_spec (ws := .code yX8_piece cX8_piece 3 (some .int) :: T0) B.pre
  have hT : ∀ w ∈ T0, w.before _ s = true := fun w h => hts w (List.mem_cons_of_mem _ h)
  have hown : s.vm.findClass RX8 = some m.cls := findClass_of_methodNamed B.named
  have hlocks := B.notSynchronized
  subst hsz
  have hD := hD0.self (sz := s.heap.size)
  generalize hAe : va_A [(h0, .inr (8, fs))] s.heap.size = A at hD ⊢
  have hA : ∀ q : Nat, s.heap.size ≤ q → A q := fun q h => by rw [← hAe]; exact Or.inr h
  have hS : va_S A s.heap s.heap [] := va_S.rf
  have hl := lv_entry ([.ref h0, .int x, .int y]) (n := 3) (Nat.le_of_ble_eq_true rfl)
  rw [lg_entry_eq]
  generalize (lg_sl ([.ref h0, .int x, .int y]) ++ List.replicate (3 - (lg_sl ([.ref h0, .int x, .int y])).length) Slot.unset).toArray = ls at hl ⊢
  have hl : lv_has ls 3 [(0, .ref h0), (1, .int x), (2, .int y)] := hl
  obtain ⟨H, hH⟩ : ∃ z, z = s.heap := ⟨_, rfl⟩
  rw [← hH] at hP
  have hS : va_S A s.heap H [] := by rw [hH]; exact hS
  suffices hgo : W p l e _ s m _ below meth c H [] 0 0 _ _ by rw [hH] at hgo; exact hgo
  have hO := hN.2.2.2.2
  have ho_hf := fo_refl fs
  refine lv_aload_n hx hb dX8_piece_0 rfl (lv_at hl 0 rfl) ?_
  refine lv_iconst (v := 0) hx hb dX8_piece_1 (by decide) ?_
  refine va_put (D := G) (ci := 8) (v := .int 0) (ty := .int) (C := RX8) (T := TX8) (N := 91) hx hb hT ku_8 tyX8 tyX8_ok nmX8 hown hK hP hD hS 0 rfl rfl 2 (by decide) (hT _ kw_14_0) (fun _ h9 => h9) rfl (by decide +kernel) rfl rfl (fh_lt hf (by decide)) dX8_piece_2 (fun H locs hP hD hS => ?_)
  have hP : va_P G vwCl [(h0, .inr (8, (fs.set 2 (.int 0))))] H := hP
  have hD : va_D A [(h0, .inr (8, (fs.set 2 (.int 0))))] := hD
  have hf := fh_set (l' := [(2, .int 0), (14, .int 0)]) hf 2 (.int 0) (by decide) rfl
  have ho102 := fo_set ho_hf 2 (.int 0)
  generalize (fs.set 2 (.int 0)) = fs101 at hP hD hf ho102
  refine lv_aload_n hx hb dX8_piece_5 rfl (lv_at hl 0 rfl) ?_
  refine lv_iload_n hx hb dX8_piece_6 rfl (lv_at hl 1 rfl) ?_
  refine tq_ci (wr := []) hP hD hS hA [0] [] rfl rfl (by decide) (by decide) (va_runV (As := [.int x]) (rest := []) ⟨hx, hb, hml, hown, hT⟩ (c_X8_isPiece l G cA H.size h0 x fs101 (fh_sub hf [1] rfl)) (cwV 1 hT (tq_gV kw_31_2 kw_31_3 kw_31_4 kw_1_5 kw_31_5) rfl rfl rfl (by decide +kernel) ⟨Nat.le_of_ble_eq_true rfl, Nat.le_of_ble_eq_true rfl⟩) ⟨(tq_pre (isC := [0]) hP hD hK hN rfl (by decide)).1, va_recv hK hP (ci := 8) (q0 := 0) rfl rfl, (tq_pre (isC := [0]) hP hD hK hN rfl (by decide)).2⟩ rfl rfl hl.1 rfl (lv_room (Nat.le_of_ble_eq_true rfl)) dX8_piece_7 ⟨Nat.le_of_ble_eq_true rfl, Nat.le_of_ble_eq_true rfl⟩) (fun r103 u104 H locs hw105 hP hD hS => ?_)
  refine W.widen (k := 0) (n := 0) (Nat.le_of_ble_eq_true rfl) (Nat.le_of_ble_eq_true rfl) ?_
  have hr106 := hw105
  subst hr106
  have hP : va_P G vwCl [(h0, .inr (8, fs101))] H := hP
  have hD : va_D A [(h0, .inr (8, fs101))] := hD
  refine lv_if_ne (tgt := 15) hx hb dX8_piece_10 (by decide) (fun c107 => absurd (by decide) c107) (fun c107 => ?_)
  refine lv_iconst (v := (-1)) hx hb dX8_piece_13 (by decide) ?_
  have hP9 : va_P G vwCl [] H := fun k q h => by simp at h
  have hD9 : va_D A [] := ⟨fun i j p q h => by simp at h, fun k q h => by simp at h⟩
  exact W.iret (v := (-1)) hx hb hr (fun t ht hW => ⟨⟨(-1), (), rfl, rfl, by rw [ht]; exact hP9, hD9⟩, hS.F ht⟩) hS.2.2 dX8_piece_14

set_option maxHeartbeats 4000000 in
set_option maxRecDepth 100000 in
theorem c_X8_place (l : Launch) (G : va_G) (cA : Nat → ClassId) (sz : Nat) (h0 : Nat) (x : Int32) (y : Int32) (fs : List Value) (hf : fh fs 91 [(12, .int 0)]) : Met l yX8_place (.code yX8_place cX8_place 3 (some .int) :: T0) ({ frames := 1, cells := 0, slots := 0, locals := 21 }) (tqP G cA [.ref h0, .int x, .int y] [(h0, .inr (8, fs))] sz) (tqQi G cA (fun (r : Int32) (u : Unit) => r = (-1)) (fun (u : Unit) => []) (va_A [(h0, .inr (8, fs))] sz)) 0 0 (va_A [(h0, .inr (8, fs))] sz) := by
  refine Met.ofW (cc := cX8_place) (maxL := 3) (ret := (some .int)) (by decide) rfl ?_
  intro p e s m args below meth c s₁ B hml hv
  obtain ⟨rfl, hsz, hP, hK, hD0, hN⟩ := hv
  have hx := B.exec
  have hb := B.bytes
  have hr := B.returns
  have hts := atoms_spec (ws := .code yX8_place cX8_place 3 (some .int) :: T0) B.pre
  have hT : ∀ w ∈ T0, w.before _ s = true := fun w h => hts w (List.mem_cons_of_mem _ h)
  have hown : s.vm.findClass RX8 = some m.cls := findClass_of_methodNamed B.named
  have hlocks := B.notSynchronized
  subst hsz
  have hD := hD0.self (sz := s.heap.size)
  generalize hAe : va_A [(h0, .inr (8, fs))] s.heap.size = A at hD ⊢
  have hA : ∀ q : Nat, s.heap.size ≤ q → A q := fun q h => by rw [← hAe]; exact Or.inr h
  have hS : va_S A s.heap s.heap [] := va_S.rf
  have hl := lv_entry ([.ref h0, .int x, .int y]) (n := 3) (Nat.le_of_ble_eq_true rfl)
  rw [lg_entry_eq]
  generalize (lg_sl ([.ref h0, .int x, .int y]) ++ List.replicate (3 - (lg_sl ([.ref h0, .int x, .int y])).length) Slot.unset).toArray = ls at hl ⊢
  have hl : lv_has ls 3 [(0, .ref h0), (1, .int x), (2, .int y)] := hl
  obtain ⟨H, hH⟩ : ∃ z, z = s.heap := ⟨_, rfl⟩
  rw [← hH] at hP
  have hS : va_S A s.heap H [] := by rw [hH]; exact hS
  suffices hgo : W p l e _ s m _ below meth c H [] 0 0 _ _ by rw [hH] at hgo; exact hgo
  have hO := hN.2.2.2.2
  have ho_hf := fo_refl fs
  refine lv_aload_n hx hb dX8_place_0 rfl (lv_at hl 0 rfl) ?_
  refine lv_iconst (v := 0) hx hb dX8_place_1 (by decide) ?_
  refine va_put (D := G) (ci := 8) (v := .int 0) (ty := .int) (C := RX8) (T := TX8) (N := 91) hx hb hT ku_8 tyX8 tyX8_ok nmX8 hown hK hP hD hS 0 rfl rfl 2 (by decide) (hT _ kw_14_0) (fun _ h9 => h9) rfl (by decide +kernel) rfl rfl (fh_lt hf (by decide)) dX8_place_2 (fun H locs hP hD hS => ?_)
  have hP : va_P G vwCl [(h0, .inr (8, (fs.set 2 (.int 0))))] H := hP
  have hD : va_D A [(h0, .inr (8, (fs.set 2 (.int 0))))] := hD
  have hf := fh_set (l' := [(2, .int 0), (12, .int 0)]) hf 2 (.int 0) (by decide) rfl
  have ho102 := fo_set ho_hf 2 (.int 0)
  generalize (fs.set 2 (.int 0)) = fs101 at hP hD hf ho102
  refine lv_aload_n hx hb dX8_place_5 rfl (lv_at hl 0 rfl) ?_
  refine lv_iload_n hx hb dX8_place_6 rfl (lv_at hl 1 rfl) ?_
  refine tq_ci (wr := []) hP hD hS hA [0] [] rfl rfl (by decide) (by decide) (va_runV (As := [.int x]) (rest := []) ⟨hx, hb, hml, hown, hT⟩ (c_X8_isPlace l G cA H.size h0 x fs101 (fh_sub hf [1] rfl)) (cwV 1 hT (tq_gV kw_32_15 kw_32_16 kw_32_17 kw_1_5 kw_32_18) rfl rfl rfl (by decide +kernel) ⟨Nat.le_of_ble_eq_true rfl, Nat.le_of_ble_eq_true rfl⟩) ⟨(tq_pre (isC := [0]) hP hD hK hN rfl (by decide)).1, va_recv hK hP (ci := 8) (q0 := 0) rfl rfl, (tq_pre (isC := [0]) hP hD hK hN rfl (by decide)).2⟩ rfl rfl hl.1 rfl (lv_room (Nat.le_of_ble_eq_true rfl)) dX8_place_7 ⟨Nat.le_of_ble_eq_true rfl, Nat.le_of_ble_eq_true rfl⟩) (fun r103 u104 H locs hw105 hP hD hS => ?_)
  refine W.widen (k := 0) (n := 0) (Nat.le_of_ble_eq_true rfl) (Nat.le_of_ble_eq_true rfl) ?_
  have hr106 := hw105
  subst hr106
  have hP : va_P G vwCl [(h0, .inr (8, fs101))] H := hP
  have hD : va_D A [(h0, .inr (8, fs101))] := hD
  refine lv_if_ne (tgt := 15) hx hb dX8_place_10 (by decide) (fun c107 => absurd (by decide) c107) (fun c107 => ?_)
  refine lv_iconst (v := (-1)) hx hb dX8_place_13 (by decide) ?_
  have hP9 : va_P G vwCl [] H := fun k q h => by simp at h
  have hD9 : va_D A [] := ⟨fun i j p q h => by simp at h, fun k q h => by simp at h⟩
  exact W.iret (v := (-1)) hx hb hr (fun t ht hW => ⟨⟨(-1), (), rfl, rfl, by rw [ht]; exact hP9, hD9⟩, hS.F ht⟩) hS.2.2 dX8_place_14

set_option maxHeartbeats 4000000 in
set_option maxRecDepth 100000 in
theorem c_X8_waits (l : Launch) (G : va_G) (cA : Nat → ClassId) (sz : Nat) (h0 : Nat) (x : Int32) (fs : List Value) (m33 : Nat) (mf33 : Nat → Int32) (hf : fh fs 91 [(33, .ref m33)]) (hwa : ∀ j, j < 21 → mf33 j = 60) : Met l yX8_waits (.code yX8_waits cX8_waits 2 (some .int) :: T0) ({ frames := 1, cells := 0, slots := 0, locals := 22 }) (tqP G cA [.ref h0, .int x] [(h0, .inr (8, fs)), (m33, .inl (cA 0, 42, .inl mf33))] sz) (tqQi G cA (fun (r : Int32) (u : Unit) => r = ((sp_waits x))) (fun (u : Unit) => []) (va_A [(h0, .inr (8, fs)), (m33, .inl (cA 0, 42, .inl mf33))] sz)) 0 0 (va_A [(h0, .inr (8, fs)), (m33, .inl (cA 0, 42, .inl mf33))] sz) := by
  refine Met.ofW (cc := cX8_waits) (maxL := 2) (ret := (some .int)) (by decide) rfl ?_
  intro p e s m args below meth c s₁ B hml hv
  obtain ⟨rfl, hsz, hP, hK, hD0, hN⟩ := hv
  have hx := B.exec
  have hb := B.bytes
  have hr := B.returns
  have hts := atoms_spec (ws := .code yX8_waits cX8_waits 2 (some .int) :: T0) B.pre
  have hT : ∀ w ∈ T0, w.before _ s = true := fun w h => hts w (List.mem_cons_of_mem _ h)
  have hown : s.vm.findClass RX8 = some m.cls := findClass_of_methodNamed B.named
  have hlocks := B.notSynchronized
  subst hsz
  have hD := hD0.self (sz := s.heap.size)
  generalize hAe : va_A [(h0, .inr (8, fs)), (m33, .inl (cA 0, 42, .inl mf33))] s.heap.size = A at hD ⊢
  have hA : ∀ q : Nat, s.heap.size ≤ q → A q := fun q h => by rw [← hAe]; exact Or.inr h
  have hS : va_S A s.heap s.heap [] := va_S.rf
  have hl := lv_entry ([.ref h0, .int x]) (n := 2) (Nat.le_of_ble_eq_true rfl)
  rw [lg_entry_eq]
  generalize (lg_sl ([.ref h0, .int x]) ++ List.replicate (2 - (lg_sl ([.ref h0, .int x])).length) Slot.unset).toArray = ls at hl ⊢
  have hl : lv_has ls 2 [(0, .ref h0), (1, .int x)] := hl
  obtain ⟨H, hH⟩ : ∃ z, z = s.heap := ⟨_, rfl⟩
  rw [← hH] at hP
  have hS : va_S A s.heap H [] := by rw [hH]; exact hS
  suffices hgo : W p l e _ s m _ below meth c H [] 0 0 _ _ by rw [hH] at hgo; exact hgo
  have hO := hN.2.2.2.2
  have ho_hf := fo_refl fs
  refine lv_aload_n hx hb dX8_waits_0 rfl (lv_at hl 0 rfl) ?_
  refine lv_iconst (v := 0) hx hb dX8_waits_1 (by decide) ?_
  refine va_put (D := G) (ci := 8) (v := .int 0) (ty := .int) (C := RX8) (T := TX8) (N := 91) hx hb hT ku_8 tyX8 tyX8_ok nmX8 hown hK hP hD hS 0 rfl rfl 2 (by decide) (hT _ kw_14_0) (fun _ h9 => h9) rfl (by decide +kernel) rfl rfl (fh_lt hf (by decide)) dX8_waits_2 (fun H locs hP hD hS => ?_)
  have hP : va_P G vwCl [(h0, .inr (8, (fs.set 2 (.int 0)))), (m33, .inl (cA 0, 42, .inl mf33))] H := hP
  have hD : va_D A [(h0, .inr (8, (fs.set 2 (.int 0)))), (m33, .inl (cA 0, 42, .inl mf33))] := hD
  have hf := fh_set (l' := [(2, .int 0), (33, .ref m33)]) hf 2 (.int 0) (by decide) rfl
  have ho102 := fo_set ho_hf 2 (.int 0)
  generalize (fs.set 2 (.int 0)) = fs101 at hP hD hf ho102
  refine lv_iload_n hx hb dX8_waits_5 rfl (lv_at hl 1 rfl) ?_
  refine lv_iconst (v := 0) hx hb dX8_waits_6 (by decide) ?_
  refine lv_bipush (v := 20) hx hb dX8_waits_7 (by decide) ?_
  rcases (show x.toInt < 0 ∨ 20 < x.toInt ∨ (0 ≤ x.toInt ∧ x.toInt ≤ 20) by omega) with k103 | k103 | k103
  · skip
    refine tq_ci (wr := [(h0, .inr (8, fs101)), (m33, .inl (cA 0, 42, .inl mf33))]) hP hD hS hA [] [0, 1] rfl rfl (by decide) (by decide) (va_runS (As := [.int x, .int 0, .int 20]) (rest := []) ⟨hx, hb, hml, hown, hT⟩ (c_X8_isIn_l_020 l G cA H.size x (by omega)) (va_cwS 3 hT (tq_gS kw_24_11 kw_24_12 kw_1_5 kw_24_13) rfl rfl rfl (by decide +kernel) ⟨Nat.le_of_ble_eq_true rfl, Nat.le_of_ble_eq_true rfl⟩) (tq_pre (isC := []) hP hD hK hN rfl (by decide)) rfl rfl hl.1 rfl (lv_room (Nat.le_of_ble_eq_true rfl)) dX8_waits_9 ⟨Nat.le_of_ble_eq_true rfl, Nat.le_of_ble_eq_true rfl⟩) (fun r104 u105 H locs hw106 hP hD hS => ?_)
    refine W.widen (k := 0) (n := 0) (Nat.le_of_ble_eq_true rfl) (Nat.le_of_ble_eq_true rfl) ?_
    have hr107 := hw106
    subst hr107
    have hP : va_P G vwCl [(h0, .inr (8, fs101)), (m33, .inl (cA 0, 42, .inl mf33))] H := hP
    have hD : va_D A [(h0, .inr (8, fs101)), (m33, .inl (cA 0, 42, .inl mf33))] := hD
    refine lv_if_eq (tgt := 24) hx hb dX8_waits_12 (by decide) (fun c108 => ?_) (fun c108 => absurd (by decide) c108)
    refine lv_iconst (v := (-1)) hx hb dX8_waits_24 (by decide) ?_
    have hP9 : va_P G vwCl [] H := fun k q h => by simp at h
    have hD9 : va_D A [] := ⟨fun i j p q h => by simp at h, fun k q h => by simp at h⟩
    exact W.iret (v := (-1)) hx hb hr (fun t ht hW => ⟨⟨(-1), (), rfl, (by unfold sp_waits; (repeat' split) <;> first | rfl | (exfalso; omega) | decide), by rw [ht]; exact hP9, hD9⟩, hS.F ht⟩) hS.2.2 dX8_waits_25
  · skip
    refine tq_ci (wr := [(h0, .inr (8, fs101)), (m33, .inl (cA 0, 42, .inl mf33))]) hP hD hS hA [] [0, 1] rfl rfl (by decide) (by decide) (va_runS (As := [.int x, .int 0, .int 20]) (rest := []) ⟨hx, hb, hml, hown, hT⟩ (c_X8_isIn_h_020 l G cA H.size x (by omega)) (va_cwS 3 hT (tq_gS kw_24_11 kw_24_12 kw_1_5 kw_24_13) rfl rfl rfl (by decide +kernel) ⟨Nat.le_of_ble_eq_true rfl, Nat.le_of_ble_eq_true rfl⟩) (tq_pre (isC := []) hP hD hK hN rfl (by decide)) rfl rfl hl.1 rfl (lv_room (Nat.le_of_ble_eq_true rfl)) dX8_waits_9 ⟨Nat.le_of_ble_eq_true rfl, Nat.le_of_ble_eq_true rfl⟩) (fun r109 u110 H locs hw111 hP hD hS => ?_)
    refine W.widen (k := 0) (n := 0) (Nat.le_of_ble_eq_true rfl) (Nat.le_of_ble_eq_true rfl) ?_
    have hr112 := hw111
    subst hr112
    have hP : va_P G vwCl [(h0, .inr (8, fs101)), (m33, .inl (cA 0, 42, .inl mf33))] H := hP
    have hD : va_D A [(h0, .inr (8, fs101)), (m33, .inl (cA 0, 42, .inl mf33))] := hD
    refine lv_if_eq (tgt := 24) hx hb dX8_waits_12 (by decide) (fun c113 => ?_) (fun c113 => absurd (by decide) c113)
    refine lv_iconst (v := (-1)) hx hb dX8_waits_24 (by decide) ?_
    have hP9 : va_P G vwCl [] H := fun k q h => by simp at h
    have hD9 : va_D A [] := ⟨fun i j p q h => by simp at h, fun k q h => by simp at h⟩
    exact W.iret (v := (-1)) hx hb hr (fun t ht hW => ⟨⟨(-1), (), rfl, (by unfold sp_waits; (repeat' split) <;> first | rfl | (exfalso; omega) | decide), by rw [ht]; exact hP9, hD9⟩, hS.F ht⟩) hS.2.2 dX8_waits_25
  · skip
    refine tq_ci (wr := [(h0, .inr (8, fs101)), (m33, .inl (cA 0, 42, .inl mf33))]) hP hD hS hA [] [0, 1] rfl rfl (by decide) (by decide) (va_runS (As := [.int x, .int 0, .int 20]) (rest := []) ⟨hx, hb, hml, hown, hT⟩ (c_X8_isIn_i_020 l G cA H.size x (by omega)) (va_cwS 3 hT (tq_gS kw_24_11 kw_24_12 kw_1_5 kw_24_13) rfl rfl rfl (by decide +kernel) ⟨Nat.le_of_ble_eq_true rfl, Nat.le_of_ble_eq_true rfl⟩) (tq_pre (isC := []) hP hD hK hN rfl (by decide)) rfl rfl hl.1 rfl (lv_room (Nat.le_of_ble_eq_true rfl)) dX8_waits_9 ⟨Nat.le_of_ble_eq_true rfl, Nat.le_of_ble_eq_true rfl⟩) (fun r114 u115 H locs hw116 hP hD hS => ?_)
    refine W.widen (k := 0) (n := 0) (Nat.le_of_ble_eq_true rfl) (Nat.le_of_ble_eq_true rfl) ?_
    have hr117 := hw116
    subst hr117
    have hP : va_P G vwCl [(h0, .inr (8, fs101)), (m33, .inl (cA 0, 42, .inl mf33))] H := hP
    have hD : va_D A [(h0, .inr (8, fs101)), (m33, .inl (cA 0, 42, .inl mf33))] := hD
    refine lv_if_eq (tgt := 24) hx hb dX8_waits_12 (by decide) (fun c118 => absurd c118 (by decide)) (fun c118 => ?_)
    refine lv_aload_n hx hb dX8_waits_15 rfl (lv_at hl 0 rfl) ?_
    refine va_get (D := G) (ci := 8) (v := .ref m33) (C := RX8) (T := TX8) (N := 91) hx hb hT ku_8 hown hK hP 0 rfl rfl 33 (by decide) (hT _ kw_10_1) (fun _ h9 => h9) (fh_at hf 1 rfl) dX8_waits_16 ?_
    refine lv_iload_n hx hb dX8_waits_19 rfl (lv_at hl 1 rfl) ?_
    have hin119 : vp_in x 42 := vp_in_iff.mpr ⟨by omega, by omega⟩
    refine va_iald (i := x) hx hb hK hP 1 0 rfl rfl hin119 dX8_waits_20 ?_
    refine tq_i (w := 60) (hwa _ (tq_cx (by omega) (by decide))) ?_
    refine lv_goto (tgt := 25) hx hb dX8_waits_21 (by decide) ?_
    have hP9 : va_P G vwCl [] H := fun k q h => by simp at h
    have hD9 : va_D A [] := ⟨fun i j p q h => by simp at h, fun k q h => by simp at h⟩
    exact W.iret (v := 60) hx hb hr (fun t ht hW => ⟨⟨60, (), rfl, (by unfold sp_waits; (repeat' split) <;> first | rfl | (exfalso; omega) | decide), by rw [ht]; exact hP9, hD9⟩, hS.F ht⟩) hS.2.2 dX8_waits_25

set_option maxHeartbeats 4000000 in
set_option maxRecDepth 100000 in
theorem c_X8_law (l : Launch) (G : va_G) (cA : Nat → ClassId) (sz : Nat) (h0 : Nat) (x : Int32) (y : Int32) (fs : List Value) (m35 : Nat) (mf35 : Nat → Int32) (hf : fh fs 91 [(35, .ref m35), (14, .int 0)]) : Met l yX8_law (.code yX8_law cX8_law 5 (some .long) :: T0) ({ frames := 1, cells := 0, slots := 0, locals := 22 }) (tqP G cA [.ref h0, .int x, .int y] [(h0, .inr (8, fs)), (m35, .inl (cA 1, 6, .inl mf35))] sz) (tqQl G cA (fun (r : Int64) (u : Unit) => r = (-9223372036854775808)) (fun (u : Unit) => []) (va_A [(h0, .inr (8, fs)), (m35, .inl (cA 1, 6, .inl mf35))] sz)) 0 0 (va_A [(h0, .inr (8, fs)), (m35, .inl (cA 1, 6, .inl mf35))] sz) := by
  refine Met.ofW (cc := cX8_law) (maxL := 5) (ret := (some .long)) (by decide) rfl ?_
  intro p e s m args below meth c s₁ B hml hv
  obtain ⟨rfl, hsz, hP, hK, hD0, hN⟩ := hv
  have hx := B.exec
  have hb := B.bytes
  have hr := B.returns
  have hts := atoms_spec (ws := .code yX8_law cX8_law 5 (some .long) :: T0) B.pre
  have hT : ∀ w ∈ T0, w.before _ s = true := fun w h => hts w (List.mem_cons_of_mem _ h)
  have hown : s.vm.findClass RX8 = some m.cls := findClass_of_methodNamed B.named
  have hlocks := B.notSynchronized
  subst hsz
  have hD := hD0.self (sz := s.heap.size)
  generalize hAe : va_A [(h0, .inr (8, fs)), (m35, .inl (cA 1, 6, .inl mf35))] s.heap.size = A at hD ⊢
  have hA : ∀ q : Nat, s.heap.size ≤ q → A q := fun q h => by rw [← hAe]; exact Or.inr h
  have hS : va_S A s.heap s.heap [] := va_S.rf
  have hl := lv_entry ([.ref h0, .int x, .int y]) (n := 5) (Nat.le_of_ble_eq_true rfl)
  rw [lg_entry_eq]
  generalize (lg_sl ([.ref h0, .int x, .int y]) ++ List.replicate (5 - (lg_sl ([.ref h0, .int x, .int y])).length) Slot.unset).toArray = ls at hl ⊢
  have hl : lv_has ls 5 [(0, .ref h0), (1, .int x), (2, .int y)] := hl
  obtain ⟨H, hH⟩ : ∃ z, z = s.heap := ⟨_, rfl⟩
  rw [← hH] at hP
  have hS : va_S A s.heap H [] := by rw [hH]; exact hS
  suffices hgo : W p l e _ s m _ below meth c H [] 0 0 _ _ by rw [hH] at hgo; exact hgo
  have hO := hN.2.2.2.2
  have ho_hf := fo_refl fs
  refine lv_aload_n hx hb dX8_law_0 rfl (lv_at hl 0 rfl) ?_
  refine lv_iconst (v := 0) hx hb dX8_law_1 (by decide) ?_
  refine va_put (D := G) (ci := 8) (v := .int 0) (ty := .int) (C := RX8) (T := TX8) (N := 91) hx hb hT ku_8 tyX8 tyX8_ok nmX8 hown hK hP hD hS 0 rfl rfl 2 (by decide) (hT _ kw_14_0) (fun _ h9 => h9) rfl (by decide +kernel) rfl rfl (fh_lt hf (by decide)) dX8_law_2 (fun H locs hP hD hS => ?_)
  have hP : va_P G vwCl [(h0, .inr (8, (fs.set 2 (.int 0)))), (m35, .inl (cA 1, 6, .inl mf35))] H := hP
  have hD : va_D A [(h0, .inr (8, (fs.set 2 (.int 0)))), (m35, .inl (cA 1, 6, .inl mf35))] := hD
  have hf := fh_set (l' := [(2, .int 0), (35, .ref m35), (14, .int 0)]) hf 2 (.int 0) (by decide) rfl
  have ho102 := fo_set ho_hf 2 (.int 0)
  generalize (fs.set 2 (.int 0)) = fs101 at hP hD hf ho102
  refine lv_iload_n hx hb dX8_law_5 rfl (lv_at hl 1 rfl) ?_
  refine lv_iconst (v := 0) hx hb dX8_law_6 (by decide) ?_
  refine lv_iconst (v := 2) hx hb dX8_law_7 (by decide) ?_
  rcases (show x.toInt < 0 ∨ 2 < x.toInt ∨ (0 ≤ x.toInt ∧ x.toInt ≤ 2) by omega) with k103 | k103 | k103
  · skip
    refine tq_ci (wr := [(h0, .inr (8, fs101)), (m35, .inl (cA 1, 6, .inl mf35))]) hP hD hS hA [] [0, 1] rfl rfl (by decide) (by decide) (va_runS (As := [.int x, .int 0, .int 2]) (rest := []) ⟨hx, hb, hml, hown, hT⟩ (c_X8_isIn_l_02 l G cA H.size x (by omega)) (va_cwS 3 hT (tq_gS kw_24_11 kw_24_12 kw_1_5 kw_24_13) rfl rfl rfl (by decide +kernel) ⟨Nat.le_of_ble_eq_true rfl, Nat.le_of_ble_eq_true rfl⟩) (tq_pre (isC := []) hP hD hK hN rfl (by decide)) rfl rfl hl.1 rfl (lv_room (Nat.le_of_ble_eq_true rfl)) dX8_law_8 ⟨Nat.le_of_ble_eq_true rfl, Nat.le_of_ble_eq_true rfl⟩) (fun r104 u105 H locs hw106 hP hD hS => ?_)
    refine W.widen (k := 0) (n := 0) (Nat.le_of_ble_eq_true rfl) (Nat.le_of_ble_eq_true rfl) ?_
    have hr107 := hw106
    subst hr107
    have hP : va_P G vwCl [(h0, .inr (8, fs101)), (m35, .inl (cA 1, 6, .inl mf35))] H := hP
    have hD : va_D A [(h0, .inr (8, fs101)), (m35, .inl (cA 1, 6, .inl mf35))] := hD
    refine lv_if_eq (tgt := 41) hx hb dX8_law_11 (by decide) (fun c108 => ?_) (fun c108 => absurd (by decide) c108)
    refine lv_ldc2 (v := (-9223372036854775808)) hx hb hown (hT _ kw_34_13) dX8_law_41 ?_
    have hP9 : va_P G vwCl [] H := fun k q h => by simp at h
    have hD9 : va_D A [] := ⟨fun i j p q h => by simp at h, fun k q h => by simp at h⟩
    exact W.lret (v := (-9223372036854775808)) hx hb hr (fun t ht hW => ⟨⟨(-9223372036854775808), (), rfl, rfl, by rw [ht]; exact hP9, hD9⟩, hS.F ht⟩) hS.2.2 dX8_law_44
  · skip
    refine tq_ci (wr := [(h0, .inr (8, fs101)), (m35, .inl (cA 1, 6, .inl mf35))]) hP hD hS hA [] [0, 1] rfl rfl (by decide) (by decide) (va_runS (As := [.int x, .int 0, .int 2]) (rest := []) ⟨hx, hb, hml, hown, hT⟩ (c_X8_isIn_h_02 l G cA H.size x (by omega)) (va_cwS 3 hT (tq_gS kw_24_11 kw_24_12 kw_1_5 kw_24_13) rfl rfl rfl (by decide +kernel) ⟨Nat.le_of_ble_eq_true rfl, Nat.le_of_ble_eq_true rfl⟩) (tq_pre (isC := []) hP hD hK hN rfl (by decide)) rfl rfl hl.1 rfl (lv_room (Nat.le_of_ble_eq_true rfl)) dX8_law_8 ⟨Nat.le_of_ble_eq_true rfl, Nat.le_of_ble_eq_true rfl⟩) (fun r109 u110 H locs hw111 hP hD hS => ?_)
    refine W.widen (k := 0) (n := 0) (Nat.le_of_ble_eq_true rfl) (Nat.le_of_ble_eq_true rfl) ?_
    have hr112 := hw111
    subst hr112
    have hP : va_P G vwCl [(h0, .inr (8, fs101)), (m35, .inl (cA 1, 6, .inl mf35))] H := hP
    have hD : va_D A [(h0, .inr (8, fs101)), (m35, .inl (cA 1, 6, .inl mf35))] := hD
    refine lv_if_eq (tgt := 41) hx hb dX8_law_11 (by decide) (fun c113 => ?_) (fun c113 => absurd (by decide) c113)
    refine lv_ldc2 (v := (-9223372036854775808)) hx hb hown (hT _ kw_34_13) dX8_law_41 ?_
    have hP9 : va_P G vwCl [] H := fun k q h => by simp at h
    have hD9 : va_D A [] := ⟨fun i j p q h => by simp at h, fun k q h => by simp at h⟩
    exact W.lret (v := (-9223372036854775808)) hx hb hr (fun t ht hW => ⟨⟨(-9223372036854775808), (), rfl, rfl, by rw [ht]; exact hP9, hD9⟩, hS.F ht⟩) hS.2.2 dX8_law_44
  · skip
    refine tq_ci (wr := [(h0, .inr (8, fs101)), (m35, .inl (cA 1, 6, .inl mf35))]) hP hD hS hA [] [0, 1] rfl rfl (by decide) (by decide) (va_runS (As := [.int x, .int 0, .int 2]) (rest := []) ⟨hx, hb, hml, hown, hT⟩ (c_X8_isIn_i_02 l G cA H.size x (by omega)) (va_cwS 3 hT (tq_gS kw_24_11 kw_24_12 kw_1_5 kw_24_13) rfl rfl rfl (by decide +kernel) ⟨Nat.le_of_ble_eq_true rfl, Nat.le_of_ble_eq_true rfl⟩) (tq_pre (isC := []) hP hD hK hN rfl (by decide)) rfl rfl hl.1 rfl (lv_room (Nat.le_of_ble_eq_true rfl)) dX8_law_8 ⟨Nat.le_of_ble_eq_true rfl, Nat.le_of_ble_eq_true rfl⟩) (fun r114 u115 H locs hw116 hP hD hS => ?_)
    refine W.widen (k := 0) (n := 0) (Nat.le_of_ble_eq_true rfl) (Nat.le_of_ble_eq_true rfl) ?_
    have hr117 := hw116
    subst hr117
    have hP : va_P G vwCl [(h0, .inr (8, fs101)), (m35, .inl (cA 1, 6, .inl mf35))] H := hP
    have hD : va_D A [(h0, .inr (8, fs101)), (m35, .inl (cA 1, 6, .inl mf35))] := hD
    refine lv_if_eq (tgt := 41) hx hb dX8_law_11 (by decide) (fun c118 => absurd c118 (by decide)) (fun c118 => ?_)
    refine lv_aload_n hx hb dX8_law_14 rfl (lv_at hl 0 rfl) ?_
    refine va_get (D := G) (ci := 8) (v := .ref m35) (C := RX8) (T := TX8) (N := 91) hx hb hT ku_8 hown hK hP 0 rfl rfl 35 (by decide) (hT _ kw_10_3) (fun _ h9 => h9) (fh_at hf 1 rfl) dX8_law_15 ?_
    refine lv_iload_n hx hb dX8_law_18 rfl (lv_at hl 1 rfl) ?_
    have hin119 : vp_in x 6 := vp_in_iff.mpr ⟨by omega, by omega⟩
    refine va_zald (i := x) hx hb hK hP 1 1 rfl rfl hin119 dX8_law_19 ?_
    refine lv_topi (fun x120 ex120 => ?_)
    refine lv_if_eq (tgt := 41) hx hb dX8_law_20 (by decide) (fun c121 => ?_) (fun c121 => ?_)
    · have k121 := tq_eq (a := x120.toInt) (b := 0) rfl (by decide) c121
      refine lv_ldc2 (v := (-9223372036854775808)) hx hb hown (hT _ kw_34_13) dX8_law_41 ?_
      have hP9 : va_P G vwCl [] H := fun k q h => by simp at h
      have hD9 : va_D A [] := ⟨fun i j p q h => by simp at h, fun k q h => by simp at h⟩
      exact W.lret (v := (-9223372036854775808)) hx hb hr (fun t ht hW => ⟨⟨(-9223372036854775808), (), rfl, rfl, by rw [ht]; exact hP9, hD9⟩, hS.F ht⟩) hS.2.2 dX8_law_44
    · have k121 := tq_eqn (a := x120.toInt) (b := 0) rfl (by decide) c121
      refine lv_aload_n hx hb dX8_law_23 rfl (lv_at hl 0 rfl) ?_
      refine lv_iload_n hx hb dX8_law_24 rfl (lv_at hl 2 rfl) ?_
      refine tq_ci (wr := [(m35, .inl (cA 1, 6, .inl mf35))]) hP hD hS hA [0] [1] rfl rfl (by decide) (by decide) (va_runV (As := [.int y]) (rest := []) ⟨hx, hb, hml, hown, hT⟩ (c_X8_isPiece l G cA H.size h0 y fs101 (fh_sub hf [2] rfl)) (cwV 1 hT (tq_gV kw_31_2 kw_31_3 kw_31_4 kw_1_5 kw_31_5) rfl rfl rfl (by decide +kernel) ⟨Nat.le_of_ble_eq_true rfl, Nat.le_of_ble_eq_true rfl⟩) ⟨(tq_pre (isC := [0]) hP hD hK hN rfl (by decide)).1, va_recv hK hP (ci := 8) (q0 := 0) rfl rfl, (tq_pre (isC := [0]) hP hD hK hN rfl (by decide)).2⟩ rfl rfl hl.1 rfl (lv_room (Nat.le_of_ble_eq_true rfl)) dX8_law_25 ⟨Nat.le_of_ble_eq_true rfl, Nat.le_of_ble_eq_true rfl⟩) (fun r122 u123 H locs hw124 hP hD hS => ?_)
      refine W.widen (k := 0) (n := 0) (Nat.le_of_ble_eq_true rfl) (Nat.le_of_ble_eq_true rfl) ?_
      have hr125 := hw124
      subst hr125
      have hP : va_P G vwCl [(m35, .inl (cA 1, 6, .inl mf35)), (h0, .inr (8, fs101))] H := hP
      have hD : va_D A [(m35, .inl (cA 1, 6, .inl mf35)), (h0, .inr (8, fs101))] := hD
      refine lv_if_eq (tgt := 41) hx hb dX8_law_28 (by decide) (fun c126 => ?_) (fun c126 => absurd (by decide) c126)
      refine lv_ldc2 (v := (-9223372036854775808)) hx hb hown (hT _ kw_34_13) dX8_law_41 ?_
      have hP9 : va_P G vwCl [] H := fun k q h => by simp at h
      have hD9 : va_D A [] := ⟨fun i j p q h => by simp at h, fun k q h => by simp at h⟩
      exact W.lret (v := (-9223372036854775808)) hx hb hr (fun t ht hW => ⟨⟨(-9223372036854775808), (), rfl, rfl, by rw [ht]; exact hP9, hD9⟩, hS.F ht⟩) hS.2.2 dX8_law_44

set_option maxHeartbeats 4000000 in
set_option maxRecDepth 100000 in
theorem c_X8_move (l : Launch) (G : va_G) (cA : Nat → ClassId) (sz : Nat) (h0 : Nat) (x : Int32) (y : Int32) (fs : List Value) (hf : fh fs 91 [(14, .int 0)]) : Met l yX8_move (.code yX8_move cX8_move 3 (some .boolean) :: T0) ({ frames := 1, cells := 0, slots := 0, locals := 21 }) (tqP G cA [.ref h0, .int x, .int y] [(h0, .inr (8, fs))] sz) (tqQi G cA (fun (r : Int32) (u : Unit) => r = 0) (fun (u : Unit) => []) (va_A [(h0, .inr (8, fs))] sz)) 0 0 (va_A [(h0, .inr (8, fs))] sz) := by
  refine Met.ofW (cc := cX8_move) (maxL := 3) (ret := (some .boolean)) (by decide) rfl ?_
  intro p e s m args below meth c s₁ B hml hv
  obtain ⟨rfl, hsz, hP, hK, hD0, hN⟩ := hv
  have hx := B.exec
  have hb := B.bytes
  have hr := B.returns
  have hts := atoms_spec (ws := .code yX8_move cX8_move 3 (some .boolean) :: T0) B.pre
  have hT : ∀ w ∈ T0, w.before _ s = true := fun w h => hts w (List.mem_cons_of_mem _ h)
  have hown : s.vm.findClass RX8 = some m.cls := findClass_of_methodNamed B.named
  have hlocks := B.notSynchronized
  subst hsz
  have hD := hD0.self (sz := s.heap.size)
  generalize hAe : va_A [(h0, .inr (8, fs))] s.heap.size = A at hD ⊢
  have hA : ∀ q : Nat, s.heap.size ≤ q → A q := fun q h => by rw [← hAe]; exact Or.inr h
  have hS : va_S A s.heap s.heap [] := va_S.rf
  have hl := lv_entry ([.ref h0, .int x, .int y]) (n := 3) (Nat.le_of_ble_eq_true rfl)
  rw [lg_entry_eq]
  generalize (lg_sl ([.ref h0, .int x, .int y]) ++ List.replicate (3 - (lg_sl ([.ref h0, .int x, .int y])).length) Slot.unset).toArray = ls at hl ⊢
  have hl : lv_has ls 3 [(0, .ref h0), (1, .int x), (2, .int y)] := hl
  obtain ⟨H, hH⟩ : ∃ z, z = s.heap := ⟨_, rfl⟩
  rw [← hH] at hP
  have hS : va_S A s.heap H [] := by rw [hH]; exact hS
  suffices hgo : W p l e _ s m _ below meth c H [] 0 0 _ _ by rw [hH] at hgo; exact hgo
  have hO := hN.2.2.2.2
  have ho_hf := fo_refl fs
  refine lv_aload_n hx hb dX8_move_0 rfl (lv_at hl 0 rfl) ?_
  refine lv_iconst (v := 0) hx hb dX8_move_1 (by decide) ?_
  refine va_put (D := G) (ci := 8) (v := .int 0) (ty := .int) (C := RX8) (T := TX8) (N := 91) hx hb hT ku_8 tyX8 tyX8_ok nmX8 hown hK hP hD hS 0 rfl rfl 2 (by decide) (hT _ kw_14_0) (fun _ h9 => h9) rfl (by decide +kernel) rfl rfl (fh_lt hf (by decide)) dX8_move_2 (fun H locs hP hD hS => ?_)
  have hP : va_P G vwCl [(h0, .inr (8, (fs.set 2 (.int 0))))] H := hP
  have hD : va_D A [(h0, .inr (8, (fs.set 2 (.int 0))))] := hD
  have hf := fh_set (l' := [(2, .int 0), (14, .int 0)]) hf 2 (.int 0) (by decide) rfl
  have ho102 := fo_set ho_hf 2 (.int 0)
  generalize (fs.set 2 (.int 0)) = fs101 at hP hD hf ho102
  refine lv_aload_n hx hb dX8_move_5 rfl (lv_at hl 0 rfl) ?_
  refine lv_iload_n hx hb dX8_move_6 rfl (lv_at hl 1 rfl) ?_
  refine tq_ci (wr := []) hP hD hS hA [0] [] rfl rfl (by decide) (by decide) (va_runV (As := [.int x]) (rest := []) ⟨hx, hb, hml, hown, hT⟩ (c_X8_isPiece l G cA H.size h0 x fs101 (fh_sub hf [1] rfl)) (cwV 1 hT (tq_gV kw_31_2 kw_31_3 kw_31_4 kw_1_5 kw_31_5) rfl rfl rfl (by decide +kernel) ⟨Nat.le_of_ble_eq_true rfl, Nat.le_of_ble_eq_true rfl⟩) ⟨(tq_pre (isC := [0]) hP hD hK hN rfl (by decide)).1, va_recv hK hP (ci := 8) (q0 := 0) rfl rfl, (tq_pre (isC := [0]) hP hD hK hN rfl (by decide)).2⟩ rfl rfl hl.1 rfl (lv_room (Nat.le_of_ble_eq_true rfl)) dX8_move_7 ⟨Nat.le_of_ble_eq_true rfl, Nat.le_of_ble_eq_true rfl⟩) (fun r103 u104 H locs hw105 hP hD hS => ?_)
  refine W.widen (k := 0) (n := 0) (Nat.le_of_ble_eq_true rfl) (Nat.le_of_ble_eq_true rfl) ?_
  have hr106 := hw105
  subst hr106
  have hP : va_P G vwCl [(h0, .inr (8, fs101))] H := hP
  have hD : va_D A [(h0, .inr (8, fs101))] := hD
  refine lv_if_eq (tgt := 31) hx hb dX8_move_10 (by decide) (fun c107 => ?_) (fun c107 => absurd (by decide) c107)
  refine lv_iconst (v := 0) hx hb dX8_move_31 (by decide) ?_
  have hP9 : va_P G vwCl [] H := fun k q h => by simp at h
  have hD9 : va_D A [] := ⟨fun i j p q h => by simp at h, fun k q h => by simp at h⟩
  exact W.zret (v := 0) (ty := .boolean) hx hb hr rfl (fun t ht hW => ⟨⟨0, (), rfl, rfl, by rw [ht]; exact hP9, hD9⟩, hS.F ht⟩) hS.2.2 dX8_move_32

set_option maxHeartbeats 4000000 in
set_option maxRecDepth 100000 in
theorem c_X8_turn (l : Launch) (G : va_G) (cA : Nat → ClassId) (sz : Nat) (h0 : Nat) (x : Int32) (fs : List Value) (hf : fh fs 91 [(12, .int 0)]) : Met l yX8_turn (.code yX8_turn cX8_turn 2 (some .int) :: T0) ({ frames := 1, cells := 0, slots := 0, locals := 21 }) (tqP G cA [.ref h0, .int x] [(h0, .inr (8, fs))] sz) (tqQi G cA (fun (r : Int32) (u : Unit) => r = (-1)) (fun (u : Unit) => []) (va_A [(h0, .inr (8, fs))] sz)) 0 0 (va_A [(h0, .inr (8, fs))] sz) := by
  refine Met.ofW (cc := cX8_turn) (maxL := 2) (ret := (some .int)) (by decide) rfl ?_
  intro p e s m args below meth c s₁ B hml hv
  obtain ⟨rfl, hsz, hP, hK, hD0, hN⟩ := hv
  have hx := B.exec
  have hb := B.bytes
  have hr := B.returns
  have hts := atoms_spec (ws := .code yX8_turn cX8_turn 2 (some .int) :: T0) B.pre
  have hT : ∀ w ∈ T0, w.before _ s = true := fun w h => hts w (List.mem_cons_of_mem _ h)
  have hown : s.vm.findClass RX8 = some m.cls := findClass_of_methodNamed B.named
  have hlocks := B.notSynchronized
  subst hsz
  have hD := hD0.self (sz := s.heap.size)
  generalize hAe : va_A [(h0, .inr (8, fs))] s.heap.size = A at hD ⊢
  have hA : ∀ q : Nat, s.heap.size ≤ q → A q := fun q h => by rw [← hAe]; exact Or.inr h
  have hS : va_S A s.heap s.heap [] := va_S.rf
  have hl := lv_entry ([.ref h0, .int x]) (n := 2) (Nat.le_of_ble_eq_true rfl)
  rw [lg_entry_eq]
  generalize (lg_sl ([.ref h0, .int x]) ++ List.replicate (2 - (lg_sl ([.ref h0, .int x])).length) Slot.unset).toArray = ls at hl ⊢
  have hl : lv_has ls 2 [(0, .ref h0), (1, .int x)] := hl
  obtain ⟨H, hH⟩ : ∃ z, z = s.heap := ⟨_, rfl⟩
  rw [← hH] at hP
  have hS : va_S A s.heap H [] := by rw [hH]; exact hS
  suffices hgo : W p l e _ s m _ below meth c H [] 0 0 _ _ by rw [hH] at hgo; exact hgo
  have hO := hN.2.2.2.2
  have ho_hf := fo_refl fs
  refine lv_aload_n hx hb dX8_turn_0 rfl (lv_at hl 0 rfl) ?_
  refine lv_iconst (v := 0) hx hb dX8_turn_1 (by decide) ?_
  refine va_put (D := G) (ci := 8) (v := .int 0) (ty := .int) (C := RX8) (T := TX8) (N := 91) hx hb hT ku_8 tyX8 tyX8_ok nmX8 hown hK hP hD hS 0 rfl rfl 2 (by decide) (hT _ kw_14_0) (fun _ h9 => h9) rfl (by decide +kernel) rfl rfl (fh_lt hf (by decide)) dX8_turn_2 (fun H locs hP hD hS => ?_)
  have hP : va_P G vwCl [(h0, .inr (8, (fs.set 2 (.int 0))))] H := hP
  have hD : va_D A [(h0, .inr (8, (fs.set 2 (.int 0))))] := hD
  have hf := fh_set (l' := [(2, .int 0), (12, .int 0)]) hf 2 (.int 0) (by decide) rfl
  have ho102 := fo_set ho_hf 2 (.int 0)
  generalize (fs.set 2 (.int 0)) = fs101 at hP hD hf ho102
  refine lv_aload_n hx hb dX8_turn_5 rfl (lv_at hl 0 rfl) ?_
  refine lv_iload_n hx hb dX8_turn_6 rfl (lv_at hl 1 rfl) ?_
  refine tq_ci (wr := []) hP hD hS hA [0] [] rfl rfl (by decide) (by decide) (va_runV (As := [.int x]) (rest := []) ⟨hx, hb, hml, hown, hT⟩ (c_X8_isPlace l G cA H.size h0 x fs101 (fh_sub hf [1] rfl)) (cwV 1 hT (tq_gV kw_32_15 kw_32_16 kw_32_17 kw_1_5 kw_32_18) rfl rfl rfl (by decide +kernel) ⟨Nat.le_of_ble_eq_true rfl, Nat.le_of_ble_eq_true rfl⟩) ⟨(tq_pre (isC := [0]) hP hD hK hN rfl (by decide)).1, va_recv hK hP (ci := 8) (q0 := 0) rfl rfl, (tq_pre (isC := [0]) hP hD hK hN rfl (by decide)).2⟩ rfl rfl hl.1 rfl (lv_room (Nat.le_of_ble_eq_true rfl)) dX8_turn_7 ⟨Nat.le_of_ble_eq_true rfl, Nat.le_of_ble_eq_true rfl⟩) (fun r103 u104 H locs hw105 hP hD hS => ?_)
  refine W.widen (k := 0) (n := 0) (Nat.le_of_ble_eq_true rfl) (Nat.le_of_ble_eq_true rfl) ?_
  have hr106 := hw105
  subst hr106
  have hP : va_P G vwCl [(h0, .inr (8, fs101))] H := hP
  have hD : va_D A [(h0, .inr (8, fs101))] := hD
  refine lv_if_ne (tgt := 15) hx hb dX8_turn_10 (by decide) (fun c107 => absurd (by decide) c107) (fun c107 => ?_)
  refine lv_iconst (v := (-1)) hx hb dX8_turn_13 (by decide) ?_
  have hP9 : va_P G vwCl [] H := fun k q h => by simp at h
  have hD9 : va_D A [] := ⟨fun i j p q h => by simp at h, fun k q h => by simp at h⟩
  exact W.iret (v := (-1)) hx hb hr (fun t ht hW => ⟨⟨(-1), (), rfl, rfl, by rw [ht]; exact hP9, hD9⟩, hS.F ht⟩) hS.2.2 dX8_turn_14

set_option maxHeartbeats 4000000 in
set_option maxRecDepth 100000 in
theorem c_X8_help (l : Launch) (G : va_G) (cA : Nat → ClassId) (sz : Nat) (h0 : Nat) (x : Int32) (y : Int32) (fs : List Value) (hf : fh fs 91 [(13, .int 0)]) : Met l yX8_help (.code yX8_help cX8_help 3 (some .boolean) :: T0) ({ frames := 1, cells := 0, slots := 0, locals := 21 }) (tqP G cA [.ref h0, .int x, .int y] [(h0, .inr (8, fs))] sz) (tqQi G cA (fun (r : Int32) (u : Unit) => r = 0) (fun (u : Unit) => []) (va_A [(h0, .inr (8, fs))] sz)) 0 0 (va_A [(h0, .inr (8, fs))] sz) := by
  refine Met.ofW (cc := cX8_help) (maxL := 3) (ret := (some .boolean)) (by decide) rfl ?_
  intro p e s m args below meth c s₁ B hml hv
  obtain ⟨rfl, hsz, hP, hK, hD0, hN⟩ := hv
  have hx := B.exec
  have hb := B.bytes
  have hr := B.returns
  have hts := atoms_spec (ws := .code yX8_help cX8_help 3 (some .boolean) :: T0) B.pre
  have hT : ∀ w ∈ T0, w.before _ s = true := fun w h => hts w (List.mem_cons_of_mem _ h)
  have hown : s.vm.findClass RX8 = some m.cls := findClass_of_methodNamed B.named
  have hlocks := B.notSynchronized
  subst hsz
  have hD := hD0.self (sz := s.heap.size)
  generalize hAe : va_A [(h0, .inr (8, fs))] s.heap.size = A at hD ⊢
  have hA : ∀ q : Nat, s.heap.size ≤ q → A q := fun q h => by rw [← hAe]; exact Or.inr h
  have hS : va_S A s.heap s.heap [] := va_S.rf
  have hl := lv_entry ([.ref h0, .int x, .int y]) (n := 3) (Nat.le_of_ble_eq_true rfl)
  rw [lg_entry_eq]
  generalize (lg_sl ([.ref h0, .int x, .int y]) ++ List.replicate (3 - (lg_sl ([.ref h0, .int x, .int y])).length) Slot.unset).toArray = ls at hl ⊢
  have hl : lv_has ls 3 [(0, .ref h0), (1, .int x), (2, .int y)] := hl
  obtain ⟨H, hH⟩ : ∃ z, z = s.heap := ⟨_, rfl⟩
  rw [← hH] at hP
  have hS : va_S A s.heap H [] := by rw [hH]; exact hS
  suffices hgo : W p l e _ s m _ below meth c H [] 0 0 _ _ by rw [hH] at hgo; exact hgo
  have hO := hN.2.2.2.2
  have ho_hf := fo_refl fs
  refine lv_aload_n hx hb dX8_help_0 rfl (lv_at hl 0 rfl) ?_
  refine lv_iconst (v := 0) hx hb dX8_help_1 (by decide) ?_
  refine va_put (D := G) (ci := 8) (v := .int 0) (ty := .int) (C := RX8) (T := TX8) (N := 91) hx hb hT ku_8 tyX8 tyX8_ok nmX8 hown hK hP hD hS 0 rfl rfl 2 (by decide) (hT _ kw_14_0) (fun _ h9 => h9) rfl (by decide +kernel) rfl rfl (fh_lt hf (by decide)) dX8_help_2 (fun H locs hP hD hS => ?_)
  have hP : va_P G vwCl [(h0, .inr (8, (fs.set 2 (.int 0))))] H := hP
  have hD : va_D A [(h0, .inr (8, (fs.set 2 (.int 0))))] := hD
  have hf := fh_set (l' := [(2, .int 0), (13, .int 0)]) hf 2 (.int 0) (by decide) rfl
  have ho102 := fo_set ho_hf 2 (.int 0)
  generalize (fs.set 2 (.int 0)) = fs101 at hP hD hf ho102
  refine lv_aload_n hx hb dX8_help_5 rfl (lv_at hl 0 rfl) ?_
  refine lv_iload_n hx hb dX8_help_6 rfl (lv_at hl 1 rfl) ?_
  refine tq_ci (wr := []) hP hD hS hA [0] [] rfl rfl (by decide) (by decide) (va_runV (As := [.int x]) (rest := []) ⟨hx, hb, hml, hown, hT⟩ (c_X8_isPerson l G cA H.size h0 x fs101 (fh_sub hf [1] rfl)) (cwV 1 hT (tq_gV kw_29_12 kw_29_13 kw_29_14 kw_1_5 kw_29_15) rfl rfl rfl (by decide +kernel) ⟨Nat.le_of_ble_eq_true rfl, Nat.le_of_ble_eq_true rfl⟩) ⟨(tq_pre (isC := [0]) hP hD hK hN rfl (by decide)).1, va_recv hK hP (ci := 8) (q0 := 0) rfl rfl, (tq_pre (isC := [0]) hP hD hK hN rfl (by decide)).2⟩ rfl rfl hl.1 rfl (lv_room (Nat.le_of_ble_eq_true rfl)) dX8_help_7 ⟨Nat.le_of_ble_eq_true rfl, Nat.le_of_ble_eq_true rfl⟩) (fun r103 u104 H locs hw105 hP hD hS => ?_)
  refine W.widen (k := 0) (n := 0) (Nat.le_of_ble_eq_true rfl) (Nat.le_of_ble_eq_true rfl) ?_
  have hr106 := hw105
  subst hr106
  have hP : va_P G vwCl [(h0, .inr (8, fs101))] H := hP
  have hD : va_D A [(h0, .inr (8, fs101))] := hD
  refine lv_if_eq (tgt := 33) hx hb dX8_help_10 (by decide) (fun c107 => ?_) (fun c107 => absurd (by decide) c107)
  refine lv_iconst (v := 0) hx hb dX8_help_33 (by decide) ?_
  have hP9 : va_P G vwCl [] H := fun k q h => by simp at h
  have hD9 : va_D A [] := ⟨fun i j p q h => by simp at h, fun k q h => by simp at h⟩
  exact W.zret (v := 0) (ty := .boolean) hx hb hr rfl (fun t ht hW => ⟨⟨0, (), rfl, rfl, by rw [ht]; exact hP9, hD9⟩, hS.F ht⟩) hS.2.2 dX8_help_34

set_option maxHeartbeats 4000000 in
set_option maxRecDepth 100000 in
theorem c_X8_undo (l : Launch) (G : va_G) (cA : Nat → ClassId) (sz : Nat) (h0 : Nat) (fs : List Value) (hf : fh fs 91 [(82, .int 0)]) : Met l yX8_undo (.code yX8_undo cX8_undo 1 (some .int) :: T0) ({ frames := 0, cells := 0, slots := 0, locals := 0 }) (tqP G cA [.ref h0] [(h0, .inr (8, fs))] sz) (tqQi G cA (fun (r : Int32) (u : Unit) => r = (-1)) (fun (u : Unit) => []) (va_A [(h0, .inr (8, fs))] sz)) 0 0 (va_A [(h0, .inr (8, fs))] sz) := by
  refine Met.ofW (cc := cX8_undo) (maxL := 1) (ret := (some .int)) (by decide) rfl ?_
  intro p e s m args below meth c s₁ B hml hv
  obtain ⟨rfl, hsz, hP, hK, hD0, hN⟩ := hv
  have hx := B.exec
  have hb := B.bytes
  have hr := B.returns
  have hts := atoms_spec (ws := .code yX8_undo cX8_undo 1 (some .int) :: T0) B.pre
  have hT : ∀ w ∈ T0, w.before _ s = true := fun w h => hts w (List.mem_cons_of_mem _ h)
  have hown : s.vm.findClass RX8 = some m.cls := findClass_of_methodNamed B.named
  have hlocks := B.notSynchronized
  subst hsz
  have hD := hD0.self (sz := s.heap.size)
  generalize hAe : va_A [(h0, .inr (8, fs))] s.heap.size = A at hD ⊢
  have hA : ∀ q : Nat, s.heap.size ≤ q → A q := fun q h => by rw [← hAe]; exact Or.inr h
  have hS : va_S A s.heap s.heap [] := va_S.rf
  have hl := lv_entry ([.ref h0]) (n := 1) (Nat.le_of_ble_eq_true rfl)
  rw [lg_entry_eq]
  generalize (lg_sl ([.ref h0]) ++ List.replicate (1 - (lg_sl ([.ref h0])).length) Slot.unset).toArray = ls at hl ⊢
  have hl : lv_has ls 1 [(0, .ref h0)] := hl
  obtain ⟨H, hH⟩ : ∃ z, z = s.heap := ⟨_, rfl⟩
  rw [← hH] at hP
  have hS : va_S A s.heap H [] := by rw [hH]; exact hS
  suffices hgo : W p l e _ s m _ below meth c H [] 0 0 _ _ by rw [hH] at hgo; exact hgo
  have hO := hN.2.2.2.2
  have ho_hf := fo_refl fs
  refine lv_aload_n hx hb dX8_undo_0 rfl (lv_at hl 0 rfl) ?_
  refine lv_iconst (v := 0) hx hb dX8_undo_1 (by decide) ?_
  refine va_put (D := G) (ci := 8) (v := .int 0) (ty := .int) (C := RX8) (T := TX8) (N := 91) hx hb hT ku_8 tyX8 tyX8_ok nmX8 hown hK hP hD hS 0 rfl rfl 2 (by decide) (hT _ kw_14_0) (fun _ h9 => h9) rfl (by decide +kernel) rfl rfl (fh_lt hf (by decide)) dX8_undo_2 (fun H locs hP hD hS => ?_)
  have hP : va_P G vwCl [(h0, .inr (8, (fs.set 2 (.int 0))))] H := hP
  have hD : va_D A [(h0, .inr (8, (fs.set 2 (.int 0))))] := hD
  have hf := fh_set (l' := [(2, .int 0), (82, .int 0)]) hf 2 (.int 0) (by decide) rfl
  have ho102 := fo_set ho_hf 2 (.int 0)
  generalize (fs.set 2 (.int 0)) = fs101 at hP hD hf ho102
  refine lv_aload_n hx hb dX8_undo_5 rfl (lv_at hl 0 rfl) ?_
  refine va_get (D := G) (ci := 8) (v := .int 0) (C := RX8) (T := TX8) (N := 91) hx hb hT ku_8 hown hK hP 0 rfl rfl 82 (by decide) (hT _ kw_12_16) (fun _ h9 => h9) (fh_at hf 1 rfl) dX8_undo_6 ?_
  refine lv_if_ne (tgt := 14) hx hb dX8_undo_9 (by decide) (fun c103 => absurd (by decide) c103) (fun c103 => ?_)
  refine lv_iconst (v := (-1)) hx hb dX8_undo_12 (by decide) ?_
  have hP9 : va_P G vwCl [] H := fun k q h => by simp at h
  have hD9 : va_D A [] := ⟨fun i j p q h => by simp at h, fun k q h => by simp at h⟩
  exact W.iret (v := (-1)) hx hb hr (fun t ht hW => ⟨⟨(-1), (), rfl, rfl, by rw [ht]; exact hP9, hD9⟩, hS.F ht⟩) hS.2.2 dX8_undo_13

set_option maxHeartbeats 4000000 in
set_option maxRecDepth 100000 in
theorem c_X8_back (l : Launch) (G : va_G) (cA : Nat → ClassId) (sz : Nat) (h0 : Nat) (fs : List Value) (hf : fh fs 91 [(84, .int 0)]) : Met l yX8_back (.code yX8_back cX8_back 2 (some .int) :: T0) ({ frames := 0, cells := 0, slots := 0, locals := 0 }) (tqP G cA [.ref h0] [(h0, .inr (8, fs))] sz) (tqQi G cA (fun (r : Int32) (u : Unit) => r = (-1)) (fun (u : Unit) => []) (va_A [(h0, .inr (8, fs))] sz)) 0 0 (va_A [(h0, .inr (8, fs))] sz) := by
  refine Met.ofW (cc := cX8_back) (maxL := 2) (ret := (some .int)) (by decide) rfl ?_
  intro p e s m args below meth c s₁ B hml hv
  obtain ⟨rfl, hsz, hP, hK, hD0, hN⟩ := hv
  have hx := B.exec
  have hb := B.bytes
  have hr := B.returns
  have hts := atoms_spec (ws := .code yX8_back cX8_back 2 (some .int) :: T0) B.pre
  have hT : ∀ w ∈ T0, w.before _ s = true := fun w h => hts w (List.mem_cons_of_mem _ h)
  have hown : s.vm.findClass RX8 = some m.cls := findClass_of_methodNamed B.named
  have hlocks := B.notSynchronized
  subst hsz
  have hD := hD0.self (sz := s.heap.size)
  generalize hAe : va_A [(h0, .inr (8, fs))] s.heap.size = A at hD ⊢
  have hA : ∀ q : Nat, s.heap.size ≤ q → A q := fun q h => by rw [← hAe]; exact Or.inr h
  have hS : va_S A s.heap s.heap [] := va_S.rf
  have hl := lv_entry ([.ref h0]) (n := 2) (Nat.le_of_ble_eq_true rfl)
  rw [lg_entry_eq]
  generalize (lg_sl ([.ref h0]) ++ List.replicate (2 - (lg_sl ([.ref h0])).length) Slot.unset).toArray = ls at hl ⊢
  have hl : lv_has ls 2 [(0, .ref h0)] := hl
  obtain ⟨H, hH⟩ : ∃ z, z = s.heap := ⟨_, rfl⟩
  rw [← hH] at hP
  have hS : va_S A s.heap H [] := by rw [hH]; exact hS
  suffices hgo : W p l e _ s m _ below meth c H [] 0 0 _ _ by rw [hH] at hgo; exact hgo
  have hO := hN.2.2.2.2
  have ho_hf := fo_refl fs
  refine lv_aload_n hx hb dX8_back_0 rfl (lv_at hl 0 rfl) ?_
  refine lv_iconst (v := 0) hx hb dX8_back_1 (by decide) ?_
  refine va_put (D := G) (ci := 8) (v := .int 0) (ty := .int) (C := RX8) (T := TX8) (N := 91) hx hb hT ku_8 tyX8 tyX8_ok nmX8 hown hK hP hD hS 0 rfl rfl 2 (by decide) (hT _ kw_14_0) (fun _ h9 => h9) rfl (by decide +kernel) rfl rfl (fh_lt hf (by decide)) dX8_back_2 (fun H locs hP hD hS => ?_)
  have hP : va_P G vwCl [(h0, .inr (8, (fs.set 2 (.int 0))))] H := hP
  have hD : va_D A [(h0, .inr (8, (fs.set 2 (.int 0))))] := hD
  have hf := fh_set (l' := [(2, .int 0), (84, .int 0)]) hf 2 (.int 0) (by decide) rfl
  have ho102 := fo_set ho_hf 2 (.int 0)
  generalize (fs.set 2 (.int 0)) = fs101 at hP hD hf ho102
  refine lv_aload_n hx hb dX8_back_5 rfl (lv_at hl 0 rfl) ?_
  refine va_get (D := G) (ci := 8) (v := .int 0) (C := RX8) (T := TX8) (N := 91) hx hb hT ku_8 hown hK hP 0 rfl rfl 84 (by decide) (hT _ kw_12_17) (fun _ h9 => h9) (fh_at hf 1 rfl) dX8_back_6 ?_
  refine lv_if_ne (tgt := 14) hx hb dX8_back_9 (by decide) (fun c103 => absurd (by decide) c103) (fun c103 => ?_)
  refine lv_iconst (v := (-1)) hx hb dX8_back_12 (by decide) ?_
  have hP9 : va_P G vwCl [] H := fun k q h => by simp at h
  have hD9 : va_D A [] := ⟨fun i j p q h => by simp at h, fun k q h => by simp at h⟩
  exact W.iret (v := (-1)) hx hb hr (fun t ht hW => ⟨⟨(-1), (), rfl, rfl, by rw [ht]; exact hP9, hD9⟩, hS.F ht⟩) hS.2.2 dX8_back_13

set_option maxHeartbeats 4000000 in
set_option maxRecDepth 100000 in
theorem c_X8_mine (l : Launch) (G : va_G) (cA : Nat → ClassId) (sz : Nat) (h0 : Nat) (x : Int32) (y : Int32) (fs : List Value) (hf : fh fs 91 [(14, .int 0)]) : Met l yX8_mine (.code yX8_mine cX8_mine 7 (some .int) :: T0) ({ frames := 1, cells := 0, slots := 0, locals := 21 }) (tqP G cA [.ref h0, .int x, .int y] [(h0, .inr (8, fs))] sz) (tqQi G cA (fun (r : Int32) (u : Unit) => r = (-1)) (fun (u : Unit) => []) (va_A [(h0, .inr (8, fs))] sz)) 0 0 (va_A [(h0, .inr (8, fs))] sz) := by
  refine Met.ofW (cc := cX8_mine) (maxL := 7) (ret := (some .int)) (by decide) rfl ?_
  intro p e s m args below meth c s₁ B hml hv
  obtain ⟨rfl, hsz, hP, hK, hD0, hN⟩ := hv
  have hx := B.exec
  have hb := B.bytes
  have hr := B.returns
  have hts := atoms_spec (ws := .code yX8_mine cX8_mine 7 (some .int) :: T0) B.pre
  have hT : ∀ w ∈ T0, w.before _ s = true := fun w h => hts w (List.mem_cons_of_mem _ h)
  have hown : s.vm.findClass RX8 = some m.cls := findClass_of_methodNamed B.named
  have hlocks := B.notSynchronized
  subst hsz
  have hD := hD0.self (sz := s.heap.size)
  generalize hAe : va_A [(h0, .inr (8, fs))] s.heap.size = A at hD ⊢
  have hA : ∀ q : Nat, s.heap.size ≤ q → A q := fun q h => by rw [← hAe]; exact Or.inr h
  have hS : va_S A s.heap s.heap [] := va_S.rf
  have hl := lv_entry ([.ref h0, .int x, .int y]) (n := 7) (Nat.le_of_ble_eq_true rfl)
  rw [lg_entry_eq]
  generalize (lg_sl ([.ref h0, .int x, .int y]) ++ List.replicate (7 - (lg_sl ([.ref h0, .int x, .int y])).length) Slot.unset).toArray = ls at hl ⊢
  have hl : lv_has ls 7 [(0, .ref h0), (1, .int x), (2, .int y)] := hl
  obtain ⟨H, hH⟩ : ∃ z, z = s.heap := ⟨_, rfl⟩
  rw [← hH] at hP
  have hS : va_S A s.heap H [] := by rw [hH]; exact hS
  suffices hgo : W p l e _ s m _ below meth c H [] 0 0 _ _ by rw [hH] at hgo; exact hgo
  have hO := hN.2.2.2.2
  have ho_hf := fo_refl fs
  refine lv_aload_n hx hb dX8_mine_0 rfl (lv_at hl 0 rfl) ?_
  refine lv_iconst (v := 0) hx hb dX8_mine_1 (by decide) ?_
  refine va_put (D := G) (ci := 8) (v := .int 0) (ty := .int) (C := RX8) (T := TX8) (N := 91) hx hb hT ku_8 tyX8 tyX8_ok nmX8 hown hK hP hD hS 0 rfl rfl 2 (by decide) (hT _ kw_14_0) (fun _ h9 => h9) rfl (by decide +kernel) rfl rfl (fh_lt hf (by decide)) dX8_mine_2 (fun H locs hP hD hS => ?_)
  have hP : va_P G vwCl [(h0, .inr (8, (fs.set 2 (.int 0))))] H := hP
  have hD : va_D A [(h0, .inr (8, (fs.set 2 (.int 0))))] := hD
  have hf := fh_set (l' := [(2, .int 0), (14, .int 0)]) hf 2 (.int 0) (by decide) rfl
  have ho102 := fo_set ho_hf 2 (.int 0)
  generalize (fs.set 2 (.int 0)) = fs101 at hP hD hf ho102
  refine lv_aload_n hx hb dX8_mine_5 rfl (lv_at hl 0 rfl) ?_
  refine lv_iload_n hx hb dX8_mine_6 rfl (lv_at hl 1 rfl) ?_
  refine tq_ci (wr := []) hP hD hS hA [0] [] rfl rfl (by decide) (by decide) (va_runV (As := [.int x]) (rest := []) ⟨hx, hb, hml, hown, hT⟩ (c_X8_isPiece l G cA H.size h0 x fs101 (fh_sub hf [1] rfl)) (cwV 1 hT (tq_gV kw_31_2 kw_31_3 kw_31_4 kw_1_5 kw_31_5) rfl rfl rfl (by decide +kernel) ⟨Nat.le_of_ble_eq_true rfl, Nat.le_of_ble_eq_true rfl⟩) ⟨(tq_pre (isC := [0]) hP hD hK hN rfl (by decide)).1, va_recv hK hP (ci := 8) (q0 := 0) rfl rfl, (tq_pre (isC := [0]) hP hD hK hN rfl (by decide)).2⟩ rfl rfl hl.1 rfl (lv_room (Nat.le_of_ble_eq_true rfl)) dX8_mine_7 ⟨Nat.le_of_ble_eq_true rfl, Nat.le_of_ble_eq_true rfl⟩) (fun r103 u104 H locs hw105 hP hD hS => ?_)
  refine W.widen (k := 0) (n := 0) (Nat.le_of_ble_eq_true rfl) (Nat.le_of_ble_eq_true rfl) ?_
  have hr106 := hw105
  subst hr106
  have hP : va_P G vwCl [(h0, .inr (8, fs101))] H := hP
  have hD : va_D A [(h0, .inr (8, fs101))] := hD
  refine lv_if_eq (tgt := 41) hx hb dX8_mine_10 (by decide) (fun c107 => ?_) (fun c107 => absurd (by decide) c107)
  refine lv_iconst (v := (-1)) hx hb dX8_mine_41 (by decide) ?_
  have hP9 : va_P G vwCl [] H := fun k q h => by simp at h
  have hD9 : va_D A [] := ⟨fun i j p q h => by simp at h, fun k q h => by simp at h⟩
  exact W.iret (v := (-1)) hx hb hr (fun t ht hW => ⟨⟨(-1), (), rfl, rfl, by rw [ht]; exact hP9, hD9⟩, hS.F ht⟩) hS.2.2 dX8_mine_42

set_option maxHeartbeats 4000000 in
set_option maxRecDepth 100000 in
theorem c_X8_when (l : Launch) (G : va_G) (cA : Nat → ClassId) (sz : Nat) (h0 : Nat) (x : Int32) (y : Int32) (fs : List Value) (hf : fh fs 91 [(12, .int 0)]) : Met l yX8_when (.code yX8_when cX8_when 8 (some .int) :: T0) ({ frames := 1, cells := 0, slots := 0, locals := 21 }) (tqP G cA [.ref h0, .int x, .int y] [(h0, .inr (8, fs))] sz) (tqQi G cA (fun (r : Int32) (u : Unit) => r = (-1)) (fun (u : Unit) => []) (va_A [(h0, .inr (8, fs))] sz)) 0 0 (va_A [(h0, .inr (8, fs))] sz) := by
  refine Met.ofW (cc := cX8_when) (maxL := 8) (ret := (some .int)) (by decide) rfl ?_
  intro p e s m args below meth c s₁ B hml hv
  obtain ⟨rfl, hsz, hP, hK, hD0, hN⟩ := hv
  have hx := B.exec
  have hb := B.bytes
  have hr := B.returns
  have hts := atoms_spec (ws := .code yX8_when cX8_when 8 (some .int) :: T0) B.pre
  have hT : ∀ w ∈ T0, w.before _ s = true := fun w h => hts w (List.mem_cons_of_mem _ h)
  have hown : s.vm.findClass RX8 = some m.cls := findClass_of_methodNamed B.named
  have hlocks := B.notSynchronized
  subst hsz
  have hD := hD0.self (sz := s.heap.size)
  generalize hAe : va_A [(h0, .inr (8, fs))] s.heap.size = A at hD ⊢
  have hA : ∀ q : Nat, s.heap.size ≤ q → A q := fun q h => by rw [← hAe]; exact Or.inr h
  have hS : va_S A s.heap s.heap [] := va_S.rf
  have hl := lv_entry ([.ref h0, .int x, .int y]) (n := 8) (Nat.le_of_ble_eq_true rfl)
  rw [lg_entry_eq]
  generalize (lg_sl ([.ref h0, .int x, .int y]) ++ List.replicate (8 - (lg_sl ([.ref h0, .int x, .int y])).length) Slot.unset).toArray = ls at hl ⊢
  have hl : lv_has ls 8 [(0, .ref h0), (1, .int x), (2, .int y)] := hl
  obtain ⟨H, hH⟩ : ∃ z, z = s.heap := ⟨_, rfl⟩
  rw [← hH] at hP
  have hS : va_S A s.heap H [] := by rw [hH]; exact hS
  suffices hgo : W p l e _ s m _ below meth c H [] 0 0 _ _ by rw [hH] at hgo; exact hgo
  have hO := hN.2.2.2.2
  have ho_hf := fo_refl fs
  refine lv_aload_n hx hb dX8_when_0 rfl (lv_at hl 0 rfl) ?_
  refine lv_iconst (v := 0) hx hb dX8_when_1 (by decide) ?_
  refine va_put (D := G) (ci := 8) (v := .int 0) (ty := .int) (C := RX8) (T := TX8) (N := 91) hx hb hT ku_8 tyX8 tyX8_ok nmX8 hown hK hP hD hS 0 rfl rfl 2 (by decide) (hT _ kw_14_0) (fun _ h9 => h9) rfl (by decide +kernel) rfl rfl (fh_lt hf (by decide)) dX8_when_2 (fun H locs hP hD hS => ?_)
  have hP : va_P G vwCl [(h0, .inr (8, (fs.set 2 (.int 0))))] H := hP
  have hD : va_D A [(h0, .inr (8, (fs.set 2 (.int 0))))] := hD
  have hf := fh_set (l' := [(2, .int 0), (12, .int 0)]) hf 2 (.int 0) (by decide) rfl
  have ho102 := fo_set ho_hf 2 (.int 0)
  generalize (fs.set 2 (.int 0)) = fs101 at hP hD hf ho102
  refine lv_aload_n hx hb dX8_when_5 rfl (lv_at hl 0 rfl) ?_
  refine lv_iload_n hx hb dX8_when_6 rfl (lv_at hl 1 rfl) ?_
  refine tq_ci (wr := []) hP hD hS hA [0] [] rfl rfl (by decide) (by decide) (va_runV (As := [.int x]) (rest := []) ⟨hx, hb, hml, hown, hT⟩ (c_X8_isPlace l G cA H.size h0 x fs101 (fh_sub hf [1] rfl)) (cwV 1 hT (tq_gV kw_32_15 kw_32_16 kw_32_17 kw_1_5 kw_32_18) rfl rfl rfl (by decide +kernel) ⟨Nat.le_of_ble_eq_true rfl, Nat.le_of_ble_eq_true rfl⟩) ⟨(tq_pre (isC := [0]) hP hD hK hN rfl (by decide)).1, va_recv hK hP (ci := 8) (q0 := 0) rfl rfl, (tq_pre (isC := [0]) hP hD hK hN rfl (by decide)).2⟩ rfl rfl hl.1 rfl (lv_room (Nat.le_of_ble_eq_true rfl)) dX8_when_7 ⟨Nat.le_of_ble_eq_true rfl, Nat.le_of_ble_eq_true rfl⟩) (fun r103 u104 H locs hw105 hP hD hS => ?_)
  refine W.widen (k := 0) (n := 0) (Nat.le_of_ble_eq_true rfl) (Nat.le_of_ble_eq_true rfl) ?_
  have hr106 := hw105
  subst hr106
  have hP : va_P G vwCl [(h0, .inr (8, fs101))] H := hP
  have hD : va_D A [(h0, .inr (8, fs101))] := hD
  refine lv_if_eq (tgt := 22) hx hb dX8_when_10 (by decide) (fun c107 => ?_) (fun c107 => absurd (by decide) c107)
  refine lv_iconst (v := (-1)) hx hb dX8_when_22 (by decide) ?_
  have hP9 : va_P G vwCl [] H := fun k q h => by simp at h
  have hD9 : va_D A [] := ⟨fun i j p q h => by simp at h, fun k q h => by simp at h⟩
  exact W.iret (v := (-1)) hx hb hr (fun t ht hW => ⟨⟨(-1), (), rfl, rfl, by rw [ht]; exact hP9, hD9⟩, hS.F ht⟩) hS.2.2 dX8_when_23

set_option maxHeartbeats 4000000 in
set_option maxRecDepth 100000 in
theorem c_X8_rests (l : Launch) (G : va_G) (cA : Nat → ClassId) (sz : Nat) (h0 : Nat) (x : Int32) (y : Int32) (fs : List Value) (hf : fh fs 91 [(14, .int 0)]) : Met l yX8_rests (.code yX8_rests cX8_rests 3 (some .int) :: T0) ({ frames := 2, cells := 0, slots := 0, locals := 43 }) (tqP G cA [.ref h0, .int x, .int y] [(h0, .inr (8, fs))] sz) (tqQi G cA (fun (r : Int32) (u : Unit) => r = (-1)) (fun (u : Unit) => []) (va_A [(h0, .inr (8, fs))] sz)) 0 0 (va_A [(h0, .inr (8, fs))] sz) := by
  refine Met.ofW (cc := cX8_rests) (maxL := 3) (ret := (some .int)) (by decide) rfl ?_
  intro p e s m args below meth c s₁ B hml hv
  obtain ⟨rfl, hsz, hP, hK, hD0, hN⟩ := hv
  have hx := B.exec
  have hb := B.bytes
  have hr := B.returns
  have hts := atoms_spec (ws := .code yX8_rests cX8_rests 3 (some .int) :: T0) B.pre
  have hT : ∀ w ∈ T0, w.before _ s = true := fun w h => hts w (List.mem_cons_of_mem _ h)
  have hown : s.vm.findClass RX8 = some m.cls := findClass_of_methodNamed B.named
  have hlocks := B.notSynchronized
  subst hsz
  have hD := hD0.self (sz := s.heap.size)
  generalize hAe : va_A [(h0, .inr (8, fs))] s.heap.size = A at hD ⊢
  have hA : ∀ q : Nat, s.heap.size ≤ q → A q := fun q h => by rw [← hAe]; exact Or.inr h
  have hS : va_S A s.heap s.heap [] := va_S.rf
  have hl := lv_entry ([.ref h0, .int x, .int y]) (n := 3) (Nat.le_of_ble_eq_true rfl)
  rw [lg_entry_eq]
  generalize (lg_sl ([.ref h0, .int x, .int y]) ++ List.replicate (3 - (lg_sl ([.ref h0, .int x, .int y])).length) Slot.unset).toArray = ls at hl ⊢
  have hl : lv_has ls 3 [(0, .ref h0), (1, .int x), (2, .int y)] := hl
  obtain ⟨H, hH⟩ : ∃ z, z = s.heap := ⟨_, rfl⟩
  rw [← hH] at hP
  have hS : va_S A s.heap H [] := by rw [hH]; exact hS
  suffices hgo : W p l e _ s m _ below meth c H [] 0 0 _ _ by rw [hH] at hgo; exact hgo
  have hO := hN.2.2.2.2
  have ho_hf := fo_refl fs
  refine lv_aload_n hx hb dX8_rests_0 rfl (lv_at hl 0 rfl) ?_
  refine lv_iconst (v := 0) hx hb dX8_rests_1 (by decide) ?_
  refine va_put (D := G) (ci := 8) (v := .int 0) (ty := .int) (C := RX8) (T := TX8) (N := 91) hx hb hT ku_8 tyX8 tyX8_ok nmX8 hown hK hP hD hS 0 rfl rfl 2 (by decide) (hT _ kw_14_0) (fun _ h9 => h9) rfl (by decide +kernel) rfl rfl (fh_lt hf (by decide)) dX8_rests_2 (fun H locs hP hD hS => ?_)
  have hP : va_P G vwCl [(h0, .inr (8, (fs.set 2 (.int 0))))] H := hP
  have hD : va_D A [(h0, .inr (8, (fs.set 2 (.int 0))))] := hD
  have hf := fh_set (l' := [(2, .int 0), (14, .int 0)]) hf 2 (.int 0) (by decide) rfl
  have ho102 := fo_set ho_hf 2 (.int 0)
  generalize (fs.set 2 (.int 0)) = fs101 at hP hD hf ho102
  refine lv_aload_n hx hb dX8_rests_5 rfl (lv_at hl 0 rfl) ?_
  refine lv_iload_n hx hb dX8_rests_6 rfl (lv_at hl 1 rfl) ?_
  refine lv_iload_n hx hb dX8_rests_7 rfl (lv_at hl 2 rfl) ?_
  refine tq_ci (wr := []) hP hD hS hA [0] [] rfl rfl (by decide) (by decide) (va_runV (As := [.int x, .int y]) (rest := []) ⟨hx, hb, hml, hown, hT⟩ (c_X8_areTwo l G cA H.size h0 x y fs101 (fh_sub hf [1] rfl)) (cwV 2 hT (tq_gV kw_50_17 kw_50_18 kw_50_19 kw_1_5 kw_50_20) rfl rfl rfl (by decide +kernel) ⟨Nat.le_of_ble_eq_true rfl, Nat.le_of_ble_eq_true rfl⟩) ⟨(tq_pre (isC := [0]) hP hD hK hN rfl (by decide)).1, va_recv hK hP (ci := 8) (q0 := 0) rfl rfl, (tq_pre (isC := [0]) hP hD hK hN rfl (by decide)).2⟩ rfl rfl hl.1 rfl (lv_room (Nat.le_of_ble_eq_true rfl)) dX8_rests_8 ⟨Nat.le_of_ble_eq_true rfl, Nat.le_of_ble_eq_true rfl⟩) (fun r103 u104 H locs hw105 hP hD hS => ?_)
  refine W.widen (k := 0) (n := 0) (Nat.le_of_ble_eq_true rfl) (Nat.le_of_ble_eq_true rfl) ?_
  have hr106 := hw105
  subst hr106
  have hP : va_P G vwCl [(h0, .inr (8, fs101))] H := hP
  have hD : va_D A [(h0, .inr (8, fs101))] := hD
  refine lv_if_eq (tgt := 24) hx hb dX8_rests_11 (by decide) (fun c107 => ?_) (fun c107 => absurd (by decide) c107)
  refine lv_iconst (v := (-1)) hx hb dX8_rests_24 (by decide) ?_
  have hP9 : va_P G vwCl [] H := fun k q h => by simp at h
  have hD9 : va_D A [] := ⟨fun i j p q h => by simp at h, fun k q h => by simp at h⟩
  exact W.iret (v := (-1)) hx hb hr (fun t ht hW => ⟨⟨(-1), (), rfl, rfl, by rw [ht]; exact hP9, hD9⟩, hS.F ht⟩) hS.2.2 dX8_rests_25

set_option maxHeartbeats 4000000 in
set_option maxRecDepth 100000 in
theorem c_X8_rest (l : Launch) (G : va_G) (cA : Nat → ClassId) (sz : Nat) (h0 : Nat) (x : Int32) (y : Int32) (z : Int32) (fs : List Value) (hf : fh fs 91 [(14, .int 0)]) : Met l yX8_rest (.code yX8_rest cX8_rest 4 (some .int) :: T0) ({ frames := 2, cells := 0, slots := 0, locals := 43 }) (tqP G cA [.ref h0, .int x, .int y, .int z] [(h0, .inr (8, fs))] sz) (tqQi G cA (fun (r : Int32) (u : Unit) => r = (-1)) (fun (u : Unit) => []) (va_A [(h0, .inr (8, fs))] sz)) 0 0 (va_A [(h0, .inr (8, fs))] sz) := by
  refine Met.ofW (cc := cX8_rest) (maxL := 4) (ret := (some .int)) (by decide) rfl ?_
  intro p e s m args below meth c s₁ B hml hv
  obtain ⟨rfl, hsz, hP, hK, hD0, hN⟩ := hv
  have hx := B.exec
  have hb := B.bytes
  have hr := B.returns
  have hts := atoms_spec (ws := .code yX8_rest cX8_rest 4 (some .int) :: T0) B.pre
  have hT : ∀ w ∈ T0, w.before _ s = true := fun w h => hts w (List.mem_cons_of_mem _ h)
  have hown : s.vm.findClass RX8 = some m.cls := findClass_of_methodNamed B.named
  have hlocks := B.notSynchronized
  subst hsz
  have hD := hD0.self (sz := s.heap.size)
  generalize hAe : va_A [(h0, .inr (8, fs))] s.heap.size = A at hD ⊢
  have hA : ∀ q : Nat, s.heap.size ≤ q → A q := fun q h => by rw [← hAe]; exact Or.inr h
  have hS : va_S A s.heap s.heap [] := va_S.rf
  have hl := lv_entry ([.ref h0, .int x, .int y, .int z]) (n := 4) (Nat.le_of_ble_eq_true rfl)
  rw [lg_entry_eq]
  generalize (lg_sl ([.ref h0, .int x, .int y, .int z]) ++ List.replicate (4 - (lg_sl ([.ref h0, .int x, .int y, .int z])).length) Slot.unset).toArray = ls at hl ⊢
  have hl : lv_has ls 4 [(0, .ref h0), (1, .int x), (2, .int y), (3, .int z)] := hl
  obtain ⟨H, hH⟩ : ∃ z, z = s.heap := ⟨_, rfl⟩
  rw [← hH] at hP
  have hS : va_S A s.heap H [] := by rw [hH]; exact hS
  suffices hgo : W p l e _ s m _ below meth c H [] 0 0 _ _ by rw [hH] at hgo; exact hgo
  have hO := hN.2.2.2.2
  have ho_hf := fo_refl fs
  refine lv_aload_n hx hb dX8_rest_0 rfl (lv_at hl 0 rfl) ?_
  refine lv_iconst (v := 0) hx hb dX8_rest_1 (by decide) ?_
  refine va_put (D := G) (ci := 8) (v := .int 0) (ty := .int) (C := RX8) (T := TX8) (N := 91) hx hb hT ku_8 tyX8 tyX8_ok nmX8 hown hK hP hD hS 0 rfl rfl 2 (by decide) (hT _ kw_14_0) (fun _ h9 => h9) rfl (by decide +kernel) rfl rfl (fh_lt hf (by decide)) dX8_rest_2 (fun H locs hP hD hS => ?_)
  have hP : va_P G vwCl [(h0, .inr (8, (fs.set 2 (.int 0))))] H := hP
  have hD : va_D A [(h0, .inr (8, (fs.set 2 (.int 0))))] := hD
  have hf := fh_set (l' := [(2, .int 0), (14, .int 0)]) hf 2 (.int 0) (by decide) rfl
  have ho102 := fo_set ho_hf 2 (.int 0)
  generalize (fs.set 2 (.int 0)) = fs101 at hP hD hf ho102
  refine lv_aload_n hx hb dX8_rest_5 rfl (lv_at hl 0 rfl) ?_
  refine lv_iload_n hx hb dX8_rest_6 rfl (lv_at hl 1 rfl) ?_
  refine lv_iload_n hx hb dX8_rest_7 rfl (lv_at hl 2 rfl) ?_
  refine tq_ci (wr := []) hP hD hS hA [0] [] rfl rfl (by decide) (by decide) (va_runV (As := [.int x, .int y]) (rest := []) ⟨hx, hb, hml, hown, hT⟩ (c_X8_areTwo l G cA H.size h0 x y fs101 (fh_sub hf [1] rfl)) (cwV 2 hT (tq_gV kw_50_17 kw_50_18 kw_50_19 kw_1_5 kw_50_20) rfl rfl rfl (by decide +kernel) ⟨Nat.le_of_ble_eq_true rfl, Nat.le_of_ble_eq_true rfl⟩) ⟨(tq_pre (isC := [0]) hP hD hK hN rfl (by decide)).1, va_recv hK hP (ci := 8) (q0 := 0) rfl rfl, (tq_pre (isC := [0]) hP hD hK hN rfl (by decide)).2⟩ rfl rfl hl.1 rfl (lv_room (Nat.le_of_ble_eq_true rfl)) dX8_rest_8 ⟨Nat.le_of_ble_eq_true rfl, Nat.le_of_ble_eq_true rfl⟩) (fun r103 u104 H locs hw105 hP hD hS => ?_)
  refine W.widen (k := 0) (n := 0) (Nat.le_of_ble_eq_true rfl) (Nat.le_of_ble_eq_true rfl) ?_
  have hr106 := hw105
  subst hr106
  have hP : va_P G vwCl [(h0, .inr (8, fs101))] H := hP
  have hD : va_D A [(h0, .inr (8, fs101))] := hD
  refine lv_if_eq (tgt := 28) hx hb dX8_rest_11 (by decide) (fun c107 => ?_) (fun c107 => absurd (by decide) c107)
  refine lv_iconst (v := (-1)) hx hb dX8_rest_28 (by decide) ?_
  have hP9 : va_P G vwCl [] H := fun k q h => by simp at h
  have hD9 : va_D A [] := ⟨fun i j p q h => by simp at h, fun k q h => by simp at h⟩
  exact W.iret (v := (-1)) hx hb hr (fun t ht hW => ⟨⟨(-1), (), rfl, rfl, by rw [ht]; exact hP9, hD9⟩, hS.F ht⟩) hS.2.2 dX8_rest_29

set_option maxHeartbeats 4000000 in
set_option maxRecDepth 100000 in
theorem c_X8_see (l : Launch) (G : va_G) (cA : Nat → ClassId) (sz : Nat) (h0 : Nat) (x : Int32) (y : Int32) (z : Int32) (w : Int32) (fs : List Value) (hf : fh fs 91 [(78, .int 0), (14, .int 0), (12, .int 0)]) : Met l yX8_see (.code yX8_see cX8_see 5 (some .int) :: T0) ({ frames := 1, cells := 0, slots := 0, locals := 22 }) (tqP G cA [.ref h0, .int x, .int y, .int z, .int w] [(h0, .inr (8, fs))] sz) (tqQi G cA (fun (r : Int32) (u : Unit) => r = (-1)) (fun (u : Unit) => []) (va_A [(h0, .inr (8, fs))] sz)) 0 0 (va_A [(h0, .inr (8, fs))] sz) := by
  refine Met.ofW (cc := cX8_see) (maxL := 5) (ret := (some .int)) (by decide) rfl ?_
  intro p e s m args below meth c s₁ B hml hv
  obtain ⟨rfl, hsz, hP, hK, hD0, hN⟩ := hv
  have hx := B.exec
  have hb := B.bytes
  have hr := B.returns
  have hts := atoms_spec (ws := .code yX8_see cX8_see 5 (some .int) :: T0) B.pre
  have hT : ∀ w ∈ T0, w.before _ s = true := fun w h => hts w (List.mem_cons_of_mem _ h)
  have hown : s.vm.findClass RX8 = some m.cls := findClass_of_methodNamed B.named
  have hlocks := B.notSynchronized
  subst hsz
  have hD := hD0.self (sz := s.heap.size)
  generalize hAe : va_A [(h0, .inr (8, fs))] s.heap.size = A at hD ⊢
  have hA : ∀ q : Nat, s.heap.size ≤ q → A q := fun q h => by rw [← hAe]; exact Or.inr h
  have hS : va_S A s.heap s.heap [] := va_S.rf
  have hl := lv_entry ([.ref h0, .int x, .int y, .int z, .int w]) (n := 5) (Nat.le_of_ble_eq_true rfl)
  rw [lg_entry_eq]
  generalize (lg_sl ([.ref h0, .int x, .int y, .int z, .int w]) ++ List.replicate (5 - (lg_sl ([.ref h0, .int x, .int y, .int z, .int w])).length) Slot.unset).toArray = ls at hl ⊢
  have hl : lv_has ls 5 [(0, .ref h0), (1, .int x), (2, .int y), (3, .int z), (4, .int w)] := hl
  obtain ⟨H, hH⟩ : ∃ z, z = s.heap := ⟨_, rfl⟩
  rw [← hH] at hP
  have hS : va_S A s.heap H [] := by rw [hH]; exact hS
  suffices hgo : W p l e _ s m _ below meth c H [] 0 0 _ _ by rw [hH] at hgo; exact hgo
  have hO := hN.2.2.2.2
  have ho_hf := fo_refl fs
  refine lv_aload_n hx hb dX8_see_0 rfl (lv_at hl 0 rfl) ?_
  refine lv_iconst (v := 0) hx hb dX8_see_1 (by decide) ?_
  refine va_put (D := G) (ci := 8) (v := .int 0) (ty := .int) (C := RX8) (T := TX8) (N := 91) hx hb hT ku_8 tyX8 tyX8_ok nmX8 hown hK hP hD hS 0 rfl rfl 2 (by decide) (hT _ kw_14_0) (fun _ h9 => h9) rfl (by decide +kernel) rfl rfl (fh_lt hf (by decide)) dX8_see_2 (fun H locs hP hD hS => ?_)
  have hP : va_P G vwCl [(h0, .inr (8, (fs.set 2 (.int 0))))] H := hP
  have hD : va_D A [(h0, .inr (8, (fs.set 2 (.int 0))))] := hD
  have hf := fh_set (l' := [(2, .int 0), (78, .int 0), (14, .int 0), (12, .int 0)]) hf 2 (.int 0) (by decide) rfl
  have ho102 := fo_set ho_hf 2 (.int 0)
  generalize (fs.set 2 (.int 0)) = fs101 at hP hD hf ho102
  refine lv_aload_n hx hb dX8_see_5 rfl (lv_at hl 0 rfl) ?_
  refine va_get (D := G) (ci := 8) (v := .int 0) (C := RX8) (T := TX8) (N := 91) hx hb hT ku_8 hown hK hP 0 rfl rfl 78 (by decide) (hT _ kw_12_15) (fun _ h9 => h9) (fh_at hf 1 rfl) dX8_see_6 ?_
  refine lv_bipush (v := 24) hx hb dX8_see_9 (by decide) ?_
  refine lv_icmp_eq (tgt := 40) hx hb dX8_see_11 (by decide) (fun c103 => absurd c103 (by decide)) (fun c103 => ?_)
  refine lv_iload_n hx hb dX8_see_14 rfl (lv_at hl 1 rfl) ?_
  refine lv_iconst (v := 0) hx hb dX8_see_15 (by decide) ?_
  refine lv_bipush (v := 19) hx hb dX8_see_16 (by decide) ?_
  rcases (show x.toInt < 0 ∨ 19 < x.toInt ∨ (0 ≤ x.toInt ∧ x.toInt ≤ 19) by omega) with k104 | k104 | k104
  · skip
    refine tq_ci (wr := [(h0, .inr (8, fs101))]) hP hD hS hA [] [0] rfl rfl (by decide) (by decide) (va_runS (As := [.int x, .int 0, .int 19]) (rest := []) ⟨hx, hb, hml, hown, hT⟩ (c_X8_isIn_l_019 l G cA H.size x (by omega)) (va_cwS 3 hT (tq_gS kw_24_11 kw_24_12 kw_1_5 kw_24_13) rfl rfl rfl (by decide +kernel) ⟨Nat.le_of_ble_eq_true rfl, Nat.le_of_ble_eq_true rfl⟩) (tq_pre (isC := []) hP hD hK hN rfl (by decide)) rfl rfl hl.1 rfl (lv_room (Nat.le_of_ble_eq_true rfl)) dX8_see_18 ⟨Nat.le_of_ble_eq_true rfl, Nat.le_of_ble_eq_true rfl⟩) (fun r105 u106 H locs hw107 hP hD hS => ?_)
    refine W.widen (k := 0) (n := 0) (Nat.le_of_ble_eq_true rfl) (Nat.le_of_ble_eq_true rfl) ?_
    have hr108 := hw107
    subst hr108
    have hP : va_P G vwCl [(h0, .inr (8, fs101))] H := hP
    have hD : va_D A [(h0, .inr (8, fs101))] := hD
    refine lv_if_eq (tgt := 40) hx hb dX8_see_21 (by decide) (fun c109 => ?_) (fun c109 => absurd (by decide) c109)
    refine lv_iconst (v := (-1)) hx hb dX8_see_40 (by decide) ?_
    refine lv_goto (tgt := 61) hx hb dX8_see_41 (by decide) ?_
    have hP9 : va_P G vwCl [] H := fun k q h => by simp at h
    have hD9 : va_D A [] := ⟨fun i j p q h => by simp at h, fun k q h => by simp at h⟩
    exact W.iret (v := (-1)) hx hb hr (fun t ht hW => ⟨⟨(-1), (), rfl, rfl, by rw [ht]; exact hP9, hD9⟩, hS.F ht⟩) hS.2.2 dX8_see_61
  · skip
    refine tq_ci (wr := [(h0, .inr (8, fs101))]) hP hD hS hA [] [0] rfl rfl (by decide) (by decide) (va_runS (As := [.int x, .int 0, .int 19]) (rest := []) ⟨hx, hb, hml, hown, hT⟩ (c_X8_isIn_h_019 l G cA H.size x (by omega)) (va_cwS 3 hT (tq_gS kw_24_11 kw_24_12 kw_1_5 kw_24_13) rfl rfl rfl (by decide +kernel) ⟨Nat.le_of_ble_eq_true rfl, Nat.le_of_ble_eq_true rfl⟩) (tq_pre (isC := []) hP hD hK hN rfl (by decide)) rfl rfl hl.1 rfl (lv_room (Nat.le_of_ble_eq_true rfl)) dX8_see_18 ⟨Nat.le_of_ble_eq_true rfl, Nat.le_of_ble_eq_true rfl⟩) (fun r110 u111 H locs hw112 hP hD hS => ?_)
    refine W.widen (k := 0) (n := 0) (Nat.le_of_ble_eq_true rfl) (Nat.le_of_ble_eq_true rfl) ?_
    have hr113 := hw112
    subst hr113
    have hP : va_P G vwCl [(h0, .inr (8, fs101))] H := hP
    have hD : va_D A [(h0, .inr (8, fs101))] := hD
    refine lv_if_eq (tgt := 40) hx hb dX8_see_21 (by decide) (fun c114 => ?_) (fun c114 => absurd (by decide) c114)
    refine lv_iconst (v := (-1)) hx hb dX8_see_40 (by decide) ?_
    refine lv_goto (tgt := 61) hx hb dX8_see_41 (by decide) ?_
    have hP9 : va_P G vwCl [] H := fun k q h => by simp at h
    have hD9 : va_D A [] := ⟨fun i j p q h => by simp at h, fun k q h => by simp at h⟩
    exact W.iret (v := (-1)) hx hb hr (fun t ht hW => ⟨⟨(-1), (), rfl, rfl, by rw [ht]; exact hP9, hD9⟩, hS.F ht⟩) hS.2.2 dX8_see_61
  · skip
    refine tq_ci (wr := [(h0, .inr (8, fs101))]) hP hD hS hA [] [0] rfl rfl (by decide) (by decide) (va_runS (As := [.int x, .int 0, .int 19]) (rest := []) ⟨hx, hb, hml, hown, hT⟩ (c_X8_isIn_i_019 l G cA H.size x (by omega)) (va_cwS 3 hT (tq_gS kw_24_11 kw_24_12 kw_1_5 kw_24_13) rfl rfl rfl (by decide +kernel) ⟨Nat.le_of_ble_eq_true rfl, Nat.le_of_ble_eq_true rfl⟩) (tq_pre (isC := []) hP hD hK hN rfl (by decide)) rfl rfl hl.1 rfl (lv_room (Nat.le_of_ble_eq_true rfl)) dX8_see_18 ⟨Nat.le_of_ble_eq_true rfl, Nat.le_of_ble_eq_true rfl⟩) (fun r115 u116 H locs hw117 hP hD hS => ?_)
    refine W.widen (k := 0) (n := 0) (Nat.le_of_ble_eq_true rfl) (Nat.le_of_ble_eq_true rfl) ?_
    have hr118 := hw117
    subst hr118
    have hP : va_P G vwCl [(h0, .inr (8, fs101))] H := hP
    have hD : va_D A [(h0, .inr (8, fs101))] := hD
    refine lv_if_eq (tgt := 40) hx hb dX8_see_21 (by decide) (fun c119 => absurd c119 (by decide)) (fun c119 => ?_)
    refine lv_aload_n hx hb dX8_see_24 rfl (lv_at hl 0 rfl) ?_
    refine lv_iload_n hx hb dX8_see_25 rfl (lv_at hl 2 rfl) ?_
    refine tq_ci (wr := []) hP hD hS hA [0] [] rfl rfl (by decide) (by decide) (va_runV (As := [.int y]) (rest := []) ⟨hx, hb, hml, hown, hT⟩ (c_X8_isPiece l G cA H.size h0 y fs101 (fh_sub hf [2] rfl)) (cwV 1 hT (tq_gV kw_31_2 kw_31_3 kw_31_4 kw_1_5 kw_31_5) rfl rfl rfl (by decide +kernel) ⟨Nat.le_of_ble_eq_true rfl, Nat.le_of_ble_eq_true rfl⟩) ⟨(tq_pre (isC := [0]) hP hD hK hN rfl (by decide)).1, va_recv hK hP (ci := 8) (q0 := 0) rfl rfl, (tq_pre (isC := [0]) hP hD hK hN rfl (by decide)).2⟩ rfl rfl hl.1 rfl (lv_room (Nat.le_of_ble_eq_true rfl)) dX8_see_26 ⟨Nat.le_of_ble_eq_true rfl, Nat.le_of_ble_eq_true rfl⟩) (fun r120 u121 H locs hw122 hP hD hS => ?_)
    refine W.widen (k := 0) (n := 0) (Nat.le_of_ble_eq_true rfl) (Nat.le_of_ble_eq_true rfl) ?_
    have hr123 := hw122
    subst hr123
    have hP : va_P G vwCl [(h0, .inr (8, fs101))] H := hP
    have hD : va_D A [(h0, .inr (8, fs101))] := hD
    refine lv_if_eq (tgt := 40) hx hb dX8_see_29 (by decide) (fun c124 => ?_) (fun c124 => absurd (by decide) c124)
    refine lv_iconst (v := (-1)) hx hb dX8_see_40 (by decide) ?_
    refine lv_goto (tgt := 61) hx hb dX8_see_41 (by decide) ?_
    have hP9 : va_P G vwCl [] H := fun k q h => by simp at h
    have hD9 : va_D A [] := ⟨fun i j p q h => by simp at h, fun k q h => by simp at h⟩
    exact W.iret (v := (-1)) hx hb hr (fun t ht hW => ⟨⟨(-1), (), rfl, rfl, by rw [ht]; exact hP9, hD9⟩, hS.F ht⟩) hS.2.2 dX8_see_61

set_option maxHeartbeats 4000000 in
set_option maxRecDepth 100000 in
theorem c_X8_strike (l : Launch) (G : va_G) (cA : Nat → ClassId) (sz : Nat) (h0 : Nat) (x : Int32) (fs : List Value) (hf : fh fs 91 [(78, .int 0)]) : Met l yX8_strike (.code yX8_strike cX8_strike 2 (some .int) :: T0) ({ frames := 0, cells := 0, slots := 0, locals := 0 }) (tqP G cA [.ref h0, .int x] [(h0, .inr (8, fs))] sz) (tqQi G cA (fun (r : Int32) (u : Unit) => r = (-1)) (fun (u : Unit) => []) (va_A [(h0, .inr (8, fs))] sz)) 0 0 (va_A [(h0, .inr (8, fs))] sz) := by
  refine Met.ofW (cc := cX8_strike) (maxL := 2) (ret := (some .int)) (by decide) rfl ?_
  intro p e s m args below meth c s₁ B hml hv
  obtain ⟨rfl, hsz, hP, hK, hD0, hN⟩ := hv
  have hx := B.exec
  have hb := B.bytes
  have hr := B.returns
  have hts := atoms_spec (ws := .code yX8_strike cX8_strike 2 (some .int) :: T0) B.pre
  have hT : ∀ w ∈ T0, w.before _ s = true := fun w h => hts w (List.mem_cons_of_mem _ h)
  have hown : s.vm.findClass RX8 = some m.cls := findClass_of_methodNamed B.named
  have hlocks := B.notSynchronized
  subst hsz
  have hD := hD0.self (sz := s.heap.size)
  generalize hAe : va_A [(h0, .inr (8, fs))] s.heap.size = A at hD ⊢
  have hA : ∀ q : Nat, s.heap.size ≤ q → A q := fun q h => by rw [← hAe]; exact Or.inr h
  have hS : va_S A s.heap s.heap [] := va_S.rf
  have hl := lv_entry ([.ref h0, .int x]) (n := 2) (Nat.le_of_ble_eq_true rfl)
  rw [lg_entry_eq]
  generalize (lg_sl ([.ref h0, .int x]) ++ List.replicate (2 - (lg_sl ([.ref h0, .int x])).length) Slot.unset).toArray = ls at hl ⊢
  have hl : lv_has ls 2 [(0, .ref h0), (1, .int x)] := hl
  obtain ⟨H, hH⟩ : ∃ z, z = s.heap := ⟨_, rfl⟩
  rw [← hH] at hP
  have hS : va_S A s.heap H [] := by rw [hH]; exact hS
  suffices hgo : W p l e _ s m _ below meth c H [] 0 0 _ _ by rw [hH] at hgo; exact hgo
  have hO := hN.2.2.2.2
  have ho_hf := fo_refl fs
  refine lv_aload_n hx hb dX8_strike_0 rfl (lv_at hl 0 rfl) ?_
  refine lv_iconst (v := 0) hx hb dX8_strike_1 (by decide) ?_
  refine va_put (D := G) (ci := 8) (v := .int 0) (ty := .int) (C := RX8) (T := TX8) (N := 91) hx hb hT ku_8 tyX8 tyX8_ok nmX8 hown hK hP hD hS 0 rfl rfl 2 (by decide) (hT _ kw_14_0) (fun _ h9 => h9) rfl (by decide +kernel) rfl rfl (fh_lt hf (by decide)) dX8_strike_2 (fun H locs hP hD hS => ?_)
  have hP : va_P G vwCl [(h0, .inr (8, (fs.set 2 (.int 0))))] H := hP
  have hD : va_D A [(h0, .inr (8, (fs.set 2 (.int 0))))] := hD
  have hf := fh_set (l' := [(2, .int 0), (78, .int 0)]) hf 2 (.int 0) (by decide) rfl
  have ho102 := fo_set ho_hf 2 (.int 0)
  generalize (fs.set 2 (.int 0)) = fs101 at hP hD hf ho102
  refine lv_aload_n hx hb dX8_strike_5 rfl (lv_at hl 0 rfl) ?_
  refine va_get (D := G) (ci := 8) (v := .int 0) (C := RX8) (T := TX8) (N := 91) hx hb hT ku_8 hown hK hP 0 rfl rfl 78 (by decide) (hT _ kw_12_15) (fun _ h9 => h9) (fh_at hf 1 rfl) dX8_strike_6 ?_
  refine lv_bipush (v := 24) hx hb dX8_strike_9 (by decide) ?_
  refine lv_icmp_eq (tgt := 26) hx hb dX8_strike_11 (by decide) (fun c103 => absurd c103 (by decide)) (fun c103 => ?_)
  refine lv_iload_n hx hb dX8_strike_14 rfl (lv_at hl 1 rfl) ?_
  refine lv_if_lt (tgt := 26) hx hb dX8_strike_15 (by decide) (fun c104 => ?_) (fun c104 => ?_)
  · have k104 := tq_lt (a := x.toInt) (b := 0) rfl (by decide) c104
    refine lv_iconst (v := (-1)) hx hb dX8_strike_26 (by decide) ?_
    refine lv_goto (tgt := 38) hx hb dX8_strike_27 (by decide) ?_
    have hP9 : va_P G vwCl [] H := fun k q h => by simp at h
    have hD9 : va_D A [] := ⟨fun i j p q h => by simp at h, fun k q h => by simp at h⟩
    exact W.iret (v := (-1)) hx hb hr (fun t ht hW => ⟨⟨(-1), (), rfl, rfl, by rw [ht]; exact hP9, hD9⟩, hS.F ht⟩) hS.2.2 dX8_strike_38
  · have k104 := tq_ltn (a := x.toInt) (b := 0) rfl (by decide) c104
    refine lv_iload_n hx hb dX8_strike_18 rfl (lv_at hl 1 rfl) ?_
    refine lv_aload_n hx hb dX8_strike_19 rfl (lv_at hl 0 rfl) ?_
    refine va_get (D := G) (ci := 8) (v := .int 0) (C := RX8) (T := TX8) (N := 91) hx hb hT ku_8 hown hK hP 0 rfl rfl 78 (by decide) (hT _ kw_12_15) (fun _ h9 => h9) (fh_at hf 1 rfl) dX8_strike_20 ?_
    refine lv_icmp_lt (tgt := 30) hx hb dX8_strike_23 (by decide) (fun c105 => ?_) (fun c105 => ?_)
    · have k105 := tq_lt (a := x.toInt) (b := 0) rfl (by decide) c105
      exfalso
      omega
    · have k105 := tq_ltn (a := x.toInt) (b := 0) rfl (by decide) c105
      refine lv_iconst (v := (-1)) hx hb dX8_strike_26 (by decide) ?_
      refine lv_goto (tgt := 38) hx hb dX8_strike_27 (by decide) ?_
      have hP9 : va_P G vwCl [] H := fun k q h => by simp at h
      have hD9 : va_D A [] := ⟨fun i j p q h => by simp at h, fun k q h => by simp at h⟩
      exact W.iret (v := (-1)) hx hb hr (fun t ht hW => ⟨⟨(-1), (), rfl, rfl, by rw [ht]; exact hP9, hD9⟩, hS.F ht⟩) hS.2.2 dX8_strike_38

set_option maxHeartbeats 4000000 in
set_option maxRecDepth 100000 in
theorem c_X8_known (l : Launch) (G : va_G) (cA : Nat → ClassId) (sz : Nat) (h0 : Nat) (x : Int32) (fs : List Value) (hf : fh fs 91 [(78, .int 0)]) : Met l yX8_known (.code yX8_known cX8_known 2 (some .boolean) :: T0) ({ frames := 1, cells := 0, slots := 0, locals := 22 }) (tqP G cA [.ref h0, .int x] [(h0, .inr (8, fs))] sz) (tqQi G cA (fun (r : Int32) (u : Unit) => r = ((sp_known x))) (fun (u : Unit) => []) (va_A [(h0, .inr (8, fs))] sz)) 0 0 (va_A [(h0, .inr (8, fs))] sz) := by
  refine Met.ofW (cc := cX8_known) (maxL := 2) (ret := (some .boolean)) (by decide) rfl ?_
  intro p e s m args below meth c s₁ B hml hv
  obtain ⟨rfl, hsz, hP, hK, hD0, hN⟩ := hv
  have hx := B.exec
  have hb := B.bytes
  have hr := B.returns
  have hts := atoms_spec (ws := .code yX8_known cX8_known 2 (some .boolean) :: T0) B.pre
  have hT : ∀ w ∈ T0, w.before _ s = true := fun w h => hts w (List.mem_cons_of_mem _ h)
  have hown : s.vm.findClass RX8 = some m.cls := findClass_of_methodNamed B.named
  have hlocks := B.notSynchronized
  subst hsz
  have hD := hD0.self (sz := s.heap.size)
  generalize hAe : va_A [(h0, .inr (8, fs))] s.heap.size = A at hD ⊢
  have hA : ∀ q : Nat, s.heap.size ≤ q → A q := fun q h => by rw [← hAe]; exact Or.inr h
  have hS : va_S A s.heap s.heap [] := va_S.rf
  have hl := lv_entry ([.ref h0, .int x]) (n := 2) (Nat.le_of_ble_eq_true rfl)
  rw [lg_entry_eq]
  generalize (lg_sl ([.ref h0, .int x]) ++ List.replicate (2 - (lg_sl ([.ref h0, .int x])).length) Slot.unset).toArray = ls at hl ⊢
  have hl : lv_has ls 2 [(0, .ref h0), (1, .int x)] := hl
  obtain ⟨H, hH⟩ : ∃ z, z = s.heap := ⟨_, rfl⟩
  rw [← hH] at hP
  have hS : va_S A s.heap H [] := by rw [hH]; exact hS
  suffices hgo : W p l e _ s m _ below meth c H [] 0 0 _ _ by rw [hH] at hgo; exact hgo
  have hO := hN.2.2.2.2
  have ho_hf := fo_refl fs
  refine lv_aload_n hx hb dX8_known_0 rfl (lv_at hl 0 rfl) ?_
  refine lv_iconst (v := 0) hx hb dX8_known_1 (by decide) ?_
  refine va_put (D := G) (ci := 8) (v := .int 0) (ty := .int) (C := RX8) (T := TX8) (N := 91) hx hb hT ku_8 tyX8 tyX8_ok nmX8 hown hK hP hD hS 0 rfl rfl 2 (by decide) (hT _ kw_14_0) (fun _ h9 => h9) rfl (by decide +kernel) rfl rfl (fh_lt hf (by decide)) dX8_known_2 (fun H locs hP hD hS => ?_)
  have hP : va_P G vwCl [(h0, .inr (8, (fs.set 2 (.int 0))))] H := hP
  have hD : va_D A [(h0, .inr (8, (fs.set 2 (.int 0))))] := hD
  have hf := fh_set (l' := [(2, .int 0), (78, .int 0)]) hf 2 (.int 0) (by decide) rfl
  have ho102 := fo_set ho_hf 2 (.int 0)
  generalize (fs.set 2 (.int 0)) = fs101 at hP hD hf ho102
  refine lv_iload_n hx hb dX8_known_5 rfl (lv_at hl 1 rfl) ?_
  refine lv_iconst (v := (-1)) hx hb dX8_known_6 (by decide) ?_
  refine lv_aload_n hx hb dX8_known_7 rfl (lv_at hl 0 rfl) ?_
  refine va_get (D := G) (ci := 8) (v := .int 0) (C := RX8) (T := TX8) (N := 91) hx hb hT ku_8 hown hK hP 0 rfl rfl 78 (by decide) (hT _ kw_12_15) (fun _ h9 => h9) (fh_at hf 1 rfl) dX8_known_8 ?_
  rcases (show x.toInt < (-1) ∨ 0 < x.toInt ∨ ((-1) ≤ x.toInt ∧ x.toInt ≤ 0) by omega) with k103 | k103 | k103
  · skip
    refine tq_ci (wr := [(h0, .inr (8, fs101))]) hP hD hS hA [] [0] rfl rfl (by decide) (by decide) (va_runS (As := [.int x, .int (-1), .int 0]) (rest := []) ⟨hx, hb, hml, hown, hT⟩ (c_X8_isIn_l_m10 l G cA H.size x (by omega)) (va_cwS 3 hT (tq_gS kw_24_11 kw_24_12 kw_1_5 kw_24_13) rfl rfl rfl (by decide +kernel) ⟨Nat.le_of_ble_eq_true rfl, Nat.le_of_ble_eq_true rfl⟩) (tq_pre (isC := []) hP hD hK hN rfl (by decide)) rfl rfl hl.1 rfl (lv_room (Nat.le_of_ble_eq_true rfl)) dX8_known_11 ⟨Nat.le_of_ble_eq_true rfl, Nat.le_of_ble_eq_true rfl⟩) (fun r104 u105 H locs hw106 hP hD hS => ?_)
    refine W.widen (k := 0) (n := 0) (Nat.le_of_ble_eq_true rfl) (Nat.le_of_ble_eq_true rfl) ?_
    have hr107 := hw106
    subst hr107
    have hP : va_P G vwCl [(h0, .inr (8, fs101))] H := hP
    have hD : va_D A [(h0, .inr (8, fs101))] := hD
    refine lv_if_ne (tgt := 19) hx hb dX8_known_14 (by decide) (fun c108 => absurd (by decide) c108) (fun c108 => ?_)
    refine lv_iconst (v := 0) hx hb dX8_known_17 (by decide) ?_
    have hP9 : va_P G vwCl [] H := fun k q h => by simp at h
    have hD9 : va_D A [] := ⟨fun i j p q h => by simp at h, fun k q h => by simp at h⟩
    exact W.zret (v := 0) (ty := .boolean) hx hb hr rfl (fun t ht hW => ⟨⟨0, (), rfl, (by unfold sp_known; (repeat' split) <;> first | rfl | (exfalso; omega) | decide), by rw [ht]; exact hP9, hD9⟩, hS.F ht⟩) hS.2.2 dX8_known_18
  · skip
    refine tq_ci (wr := [(h0, .inr (8, fs101))]) hP hD hS hA [] [0] rfl rfl (by decide) (by decide) (va_runS (As := [.int x, .int (-1), .int 0]) (rest := []) ⟨hx, hb, hml, hown, hT⟩ (c_X8_isIn_h_m10 l G cA H.size x (by omega)) (va_cwS 3 hT (tq_gS kw_24_11 kw_24_12 kw_1_5 kw_24_13) rfl rfl rfl (by decide +kernel) ⟨Nat.le_of_ble_eq_true rfl, Nat.le_of_ble_eq_true rfl⟩) (tq_pre (isC := []) hP hD hK hN rfl (by decide)) rfl rfl hl.1 rfl (lv_room (Nat.le_of_ble_eq_true rfl)) dX8_known_11 ⟨Nat.le_of_ble_eq_true rfl, Nat.le_of_ble_eq_true rfl⟩) (fun r109 u110 H locs hw111 hP hD hS => ?_)
    refine W.widen (k := 0) (n := 0) (Nat.le_of_ble_eq_true rfl) (Nat.le_of_ble_eq_true rfl) ?_
    have hr112 := hw111
    subst hr112
    have hP : va_P G vwCl [(h0, .inr (8, fs101))] H := hP
    have hD : va_D A [(h0, .inr (8, fs101))] := hD
    refine lv_if_ne (tgt := 19) hx hb dX8_known_14 (by decide) (fun c113 => absurd (by decide) c113) (fun c113 => ?_)
    refine lv_iconst (v := 0) hx hb dX8_known_17 (by decide) ?_
    have hP9 : va_P G vwCl [] H := fun k q h => by simp at h
    have hD9 : va_D A [] := ⟨fun i j p q h => by simp at h, fun k q h => by simp at h⟩
    exact W.zret (v := 0) (ty := .boolean) hx hb hr rfl (fun t ht hW => ⟨⟨0, (), rfl, (by unfold sp_known; (repeat' split) <;> first | rfl | (exfalso; omega) | decide), by rw [ht]; exact hP9, hD9⟩, hS.F ht⟩) hS.2.2 dX8_known_18
  · skip
    refine tq_ci (wr := [(h0, .inr (8, fs101))]) hP hD hS hA [] [0] rfl rfl (by decide) (by decide) (va_runS (As := [.int x, .int (-1), .int 0]) (rest := []) ⟨hx, hb, hml, hown, hT⟩ (c_X8_isIn_i_m10 l G cA H.size x (by omega)) (va_cwS 3 hT (tq_gS kw_24_11 kw_24_12 kw_1_5 kw_24_13) rfl rfl rfl (by decide +kernel) ⟨Nat.le_of_ble_eq_true rfl, Nat.le_of_ble_eq_true rfl⟩) (tq_pre (isC := []) hP hD hK hN rfl (by decide)) rfl rfl hl.1 rfl (lv_room (Nat.le_of_ble_eq_true rfl)) dX8_known_11 ⟨Nat.le_of_ble_eq_true rfl, Nat.le_of_ble_eq_true rfl⟩) (fun r114 u115 H locs hw116 hP hD hS => ?_)
    refine W.widen (k := 0) (n := 0) (Nat.le_of_ble_eq_true rfl) (Nat.le_of_ble_eq_true rfl) ?_
    have hr117 := hw116
    subst hr117
    have hP : va_P G vwCl [(h0, .inr (8, fs101))] H := hP
    have hD : va_D A [(h0, .inr (8, fs101))] := hD
    refine lv_if_ne (tgt := 19) hx hb dX8_known_14 (by decide) (fun c118 => ?_) (fun c118 => absurd c118 (by decide))
    refine lv_aload_n hx hb dX8_known_19 rfl (lv_at hl 0 rfl) ?_
    refine lv_iload_n hx hb dX8_known_20 rfl (lv_at hl 1 rfl) ?_
    refine va_put (D := G) (ci := 8) (v := .int x) (ty := .int) (C := RX8) (T := TX8) (N := 91) hx hb hT ku_8 tyX8 tyX8_ok nmX8 hown hK hP hD hS 0 rfl rfl 79 (by decide) (hT _ kw_11_6) (fun _ h9 => h9) rfl (by decide +kernel) rfl rfl (fh_lt hf (by decide)) dX8_known_21 (fun H locs hP hD hS => ?_)
    have hP : va_P G vwCl [(h0, .inr (8, (fs101.set 79 (.int x))))] H := hP
    have hD : va_D A [(h0, .inr (8, (fs101.set 79 (.int x))))] := hD
    have hf := fh_set (l' := [(79, .int x), (2, .int 0), (78, .int 0)]) hf 79 (.int x) (by decide) rfl
    have ho120 := fo_set ho102 79 (.int x)
    generalize (fs101.set 79 (.int x)) = fs119 at hP hD hf ho120
    refine lv_iconst (v := 1) hx hb dX8_known_24 (by decide) ?_
    have hP9 : va_P G vwCl [] H := fun k q h => by simp at h
    have hD9 : va_D A [] := ⟨fun i j p q h => by simp at h, fun k q h => by simp at h⟩
    exact W.zret (v := 1) (ty := .boolean) hx hb hr rfl (fun t ht hW => ⟨⟨1, (), rfl, (by unfold sp_known; (repeat' split) <;> first | rfl | (exfalso; omega) | decide), by rw [ht]; exact hP9, hD9⟩, hS.F ht⟩) hS.2.2 dX8_known_25

set_option maxHeartbeats 4000000 in
set_option maxRecDepth 100000 in
theorem c_X8_got (l : Launch) (G : va_G) (cA : Nat → ClassId) (sz : Nat) (h0 : Nat) (x : Int32) (fs : List Value) (hf : fh fs 91 [(13, .int 0)]) : Met l yX8_got (.code yX8_got cX8_got 4 (some .int) :: T0) ({ frames := 1, cells := 0, slots := 0, locals := 21 }) (tqP G cA [.ref h0, .int x] [(h0, .inr (8, fs))] sz) (tqQi G cA (fun (r : Int32) (u : Unit) => r = (-1)) (fun (u : Unit) => []) (va_A [(h0, .inr (8, fs))] sz)) 0 0 (va_A [(h0, .inr (8, fs))] sz) := by
  refine Met.ofW (cc := cX8_got) (maxL := 4) (ret := (some .int)) (by decide) rfl ?_
  intro p e s m args below meth c s₁ B hml hv
  obtain ⟨rfl, hsz, hP, hK, hD0, hN⟩ := hv
  have hx := B.exec
  have hb := B.bytes
  have hr := B.returns
  have hts := atoms_spec (ws := .code yX8_got cX8_got 4 (some .int) :: T0) B.pre
  have hT : ∀ w ∈ T0, w.before _ s = true := fun w h => hts w (List.mem_cons_of_mem _ h)
  have hown : s.vm.findClass RX8 = some m.cls := findClass_of_methodNamed B.named
  have hlocks := B.notSynchronized
  subst hsz
  have hD := hD0.self (sz := s.heap.size)
  generalize hAe : va_A [(h0, .inr (8, fs))] s.heap.size = A at hD ⊢
  have hA : ∀ q : Nat, s.heap.size ≤ q → A q := fun q h => by rw [← hAe]; exact Or.inr h
  have hS : va_S A s.heap s.heap [] := va_S.rf
  have hl := lv_entry ([.ref h0, .int x]) (n := 4) (Nat.le_of_ble_eq_true rfl)
  rw [lg_entry_eq]
  generalize (lg_sl ([.ref h0, .int x]) ++ List.replicate (4 - (lg_sl ([.ref h0, .int x])).length) Slot.unset).toArray = ls at hl ⊢
  have hl : lv_has ls 4 [(0, .ref h0), (1, .int x)] := hl
  obtain ⟨H, hH⟩ : ∃ z, z = s.heap := ⟨_, rfl⟩
  rw [← hH] at hP
  have hS : va_S A s.heap H [] := by rw [hH]; exact hS
  suffices hgo : W p l e _ s m _ below meth c H [] 0 0 _ _ by rw [hH] at hgo; exact hgo
  have hO := hN.2.2.2.2
  have ho_hf := fo_refl fs
  refine lv_aload_n hx hb dX8_got_0 rfl (lv_at hl 0 rfl) ?_
  refine lv_iconst (v := 0) hx hb dX8_got_1 (by decide) ?_
  refine va_put (D := G) (ci := 8) (v := .int 0) (ty := .int) (C := RX8) (T := TX8) (N := 91) hx hb hT ku_8 tyX8 tyX8_ok nmX8 hown hK hP hD hS 0 rfl rfl 2 (by decide) (hT _ kw_14_0) (fun _ h9 => h9) rfl (by decide +kernel) rfl rfl (fh_lt hf (by decide)) dX8_got_2 (fun H locs hP hD hS => ?_)
  have hP : va_P G vwCl [(h0, .inr (8, (fs.set 2 (.int 0))))] H := hP
  have hD : va_D A [(h0, .inr (8, (fs.set 2 (.int 0))))] := hD
  have hf := fh_set (l' := [(2, .int 0), (13, .int 0)]) hf 2 (.int 0) (by decide) rfl
  have ho102 := fo_set ho_hf 2 (.int 0)
  generalize (fs.set 2 (.int 0)) = fs101 at hP hD hf ho102
  refine lv_aload_n hx hb dX8_got_5 rfl (lv_at hl 0 rfl) ?_
  refine lv_iload_n hx hb dX8_got_6 rfl (lv_at hl 1 rfl) ?_
  refine tq_ci (wr := []) hP hD hS hA [0] [] rfl rfl (by decide) (by decide) (va_runV (As := [.int x]) (rest := []) ⟨hx, hb, hml, hown, hT⟩ (c_X8_isPerson l G cA H.size h0 x fs101 (fh_sub hf [1] rfl)) (cwV 1 hT (tq_gV kw_29_12 kw_29_13 kw_29_14 kw_1_5 kw_29_15) rfl rfl rfl (by decide +kernel) ⟨Nat.le_of_ble_eq_true rfl, Nat.le_of_ble_eq_true rfl⟩) ⟨(tq_pre (isC := [0]) hP hD hK hN rfl (by decide)).1, va_recv hK hP (ci := 8) (q0 := 0) rfl rfl, (tq_pre (isC := [0]) hP hD hK hN rfl (by decide)).2⟩ rfl rfl hl.1 rfl (lv_room (Nat.le_of_ble_eq_true rfl)) dX8_got_7 ⟨Nat.le_of_ble_eq_true rfl, Nat.le_of_ble_eq_true rfl⟩) (fun r103 u104 H locs hw105 hP hD hS => ?_)
  refine W.widen (k := 0) (n := 0) (Nat.le_of_ble_eq_true rfl) (Nat.le_of_ble_eq_true rfl) ?_
  have hr106 := hw105
  subst hr106
  have hP : va_P G vwCl [(h0, .inr (8, fs101))] H := hP
  have hD : va_D A [(h0, .inr (8, fs101))] := hD
  refine lv_if_ne (tgt := 15) hx hb dX8_got_10 (by decide) (fun c107 => absurd (by decide) c107) (fun c107 => ?_)
  refine lv_iconst (v := (-1)) hx hb dX8_got_13 (by decide) ?_
  have hP9 : va_P G vwCl [] H := fun k q h => by simp at h
  have hD9 : va_D A [] := ⟨fun i j p q h => by simp at h, fun k q h => by simp at h⟩
  exact W.iret (v := (-1)) hx hb hr (fun t ht hW => ⟨⟨(-1), (), rfl, rfl, by rw [ht]; exact hP9, hD9⟩, hS.F ht⟩) hS.2.2 dX8_got_14

set_option maxHeartbeats 4000000 in
set_option maxRecDepth 100000 in
theorem c_X8_chance (l : Launch) (G : va_G) (cA : Nat → ClassId) (sz : Nat) (h0 : Nat) (x : Int32) (y : Int32) (fs : List Value) (hf : fh fs 91 [(14, .int 0)]) : Met l yX8_chance (.code yX8_chance cX8_chance 7 (some .int) :: T0) ({ frames := 1, cells := 0, slots := 0, locals := 21 }) (tqP G cA [.ref h0, .int x, .int y] [(h0, .inr (8, fs))] sz) (tqQi G cA (fun (r : Int32) (u : Unit) => r = (-1)) (fun (u : Unit) => []) (va_A [(h0, .inr (8, fs))] sz)) 0 0 (va_A [(h0, .inr (8, fs))] sz) := by
  refine Met.ofW (cc := cX8_chance) (maxL := 7) (ret := (some .int)) (by decide) rfl ?_
  intro p e s m args below meth c s₁ B hml hv
  obtain ⟨rfl, hsz, hP, hK, hD0, hN⟩ := hv
  have hx := B.exec
  have hb := B.bytes
  have hr := B.returns
  have hts := atoms_spec (ws := .code yX8_chance cX8_chance 7 (some .int) :: T0) B.pre
  have hT : ∀ w ∈ T0, w.before _ s = true := fun w h => hts w (List.mem_cons_of_mem _ h)
  have hown : s.vm.findClass RX8 = some m.cls := findClass_of_methodNamed B.named
  have hlocks := B.notSynchronized
  subst hsz
  have hD := hD0.self (sz := s.heap.size)
  generalize hAe : va_A [(h0, .inr (8, fs))] s.heap.size = A at hD ⊢
  have hA : ∀ q : Nat, s.heap.size ≤ q → A q := fun q h => by rw [← hAe]; exact Or.inr h
  have hS : va_S A s.heap s.heap [] := va_S.rf
  have hl := lv_entry ([.ref h0, .int x, .int y]) (n := 7) (Nat.le_of_ble_eq_true rfl)
  rw [lg_entry_eq]
  generalize (lg_sl ([.ref h0, .int x, .int y]) ++ List.replicate (7 - (lg_sl ([.ref h0, .int x, .int y])).length) Slot.unset).toArray = ls at hl ⊢
  have hl : lv_has ls 7 [(0, .ref h0), (1, .int x), (2, .int y)] := hl
  obtain ⟨H, hH⟩ : ∃ z, z = s.heap := ⟨_, rfl⟩
  rw [← hH] at hP
  have hS : va_S A s.heap H [] := by rw [hH]; exact hS
  suffices hgo : W p l e _ s m _ below meth c H [] 0 0 _ _ by rw [hH] at hgo; exact hgo
  have hO := hN.2.2.2.2
  have ho_hf := fo_refl fs
  refine lv_aload_n hx hb dX8_chance_0 rfl (lv_at hl 0 rfl) ?_
  refine lv_iconst (v := 0) hx hb dX8_chance_1 (by decide) ?_
  refine va_put (D := G) (ci := 8) (v := .int 0) (ty := .int) (C := RX8) (T := TX8) (N := 91) hx hb hT ku_8 tyX8 tyX8_ok nmX8 hown hK hP hD hS 0 rfl rfl 2 (by decide) (hT _ kw_14_0) (fun _ h9 => h9) rfl (by decide +kernel) rfl rfl (fh_lt hf (by decide)) dX8_chance_2 (fun H locs hP hD hS => ?_)
  have hP : va_P G vwCl [(h0, .inr (8, (fs.set 2 (.int 0))))] H := hP
  have hD : va_D A [(h0, .inr (8, (fs.set 2 (.int 0))))] := hD
  have hf := fh_set (l' := [(2, .int 0), (14, .int 0)]) hf 2 (.int 0) (by decide) rfl
  have ho102 := fo_set ho_hf 2 (.int 0)
  generalize (fs.set 2 (.int 0)) = fs101 at hP hD hf ho102
  refine lv_iload_n hx hb dX8_chance_5 rfl (lv_at hl 1 rfl) ?_
  refine lv_if_lt (tgt := 17) hx hb dX8_chance_6 (by decide) (fun c103 => ?_) (fun c103 => ?_)
  · have k103 := tq_lt (a := x.toInt) (b := 0) rfl (by decide) c103
    refine lv_iconst (v := (-1)) hx hb dX8_chance_17 (by decide) ?_
    have hP9 : va_P G vwCl [] H := fun k q h => by simp at h
    have hD9 : va_D A [] := ⟨fun i j p q h => by simp at h, fun k q h => by simp at h⟩
    exact W.iret (v := (-1)) hx hb hr (fun t ht hW => ⟨⟨(-1), (), rfl, rfl, by rw [ht]; exact hP9, hD9⟩, hS.F ht⟩) hS.2.2 dX8_chance_18
  · have k103 := tq_ltn (a := x.toInt) (b := 0) rfl (by decide) c103
    refine lv_aload_n hx hb dX8_chance_9 rfl (lv_at hl 0 rfl) ?_
    refine lv_iload_n hx hb dX8_chance_10 rfl (lv_at hl 2 rfl) ?_
    refine tq_ci (wr := []) hP hD hS hA [0] [] rfl rfl (by decide) (by decide) (va_runV (As := [.int y]) (rest := []) ⟨hx, hb, hml, hown, hT⟩ (c_X8_isPiece l G cA H.size h0 y fs101 (fh_sub hf [1] rfl)) (cwV 1 hT (tq_gV kw_31_2 kw_31_3 kw_31_4 kw_1_5 kw_31_5) rfl rfl rfl (by decide +kernel) ⟨Nat.le_of_ble_eq_true rfl, Nat.le_of_ble_eq_true rfl⟩) ⟨(tq_pre (isC := [0]) hP hD hK hN rfl (by decide)).1, va_recv hK hP (ci := 8) (q0 := 0) rfl rfl, (tq_pre (isC := [0]) hP hD hK hN rfl (by decide)).2⟩ rfl rfl hl.1 rfl (lv_room (Nat.le_of_ble_eq_true rfl)) dX8_chance_11 ⟨Nat.le_of_ble_eq_true rfl, Nat.le_of_ble_eq_true rfl⟩) (fun r104 u105 H locs hw106 hP hD hS => ?_)
    refine W.widen (k := 0) (n := 0) (Nat.le_of_ble_eq_true rfl) (Nat.le_of_ble_eq_true rfl) ?_
    have hr107 := hw106
    subst hr107
    have hP : va_P G vwCl [(h0, .inr (8, fs101))] H := hP
    have hD : va_D A [(h0, .inr (8, fs101))] := hD
    refine lv_if_ne (tgt := 19) hx hb dX8_chance_14 (by decide) (fun c108 => absurd (by decide) c108) (fun c108 => ?_)
    refine lv_iconst (v := (-1)) hx hb dX8_chance_17 (by decide) ?_
    have hP9 : va_P G vwCl [] H := fun k q h => by simp at h
    have hD9 : va_D A [] := ⟨fun i j p q h => by simp at h, fun k q h => by simp at h⟩
    exact W.iret (v := (-1)) hx hb hr (fun t ht hW => ⟨⟨(-1), (), rfl, rfl, by rw [ht]; exact hP9, hD9⟩, hS.F ht⟩) hS.2.2 dX8_chance_18

set_option maxHeartbeats 4000000 in
set_option maxRecDepth 100000 in
theorem c_X8_count (l : Launch) (G : va_G) (cA : Nat → ClassId) (sz : Nat) (h0 : Nat) (x : Int32) (fs : List Value) (m60 : Nat) (m61 : Nat) (m22 : Nat) (mf60 : Nat → Int32) (mf61 : Nat → Int32) (mf22 : Nat → Int32) (hf : fh fs 91 [(60, .ref m60), (61, .ref m61), (22, .ref m22), (12, .int 0), (13, .int 0), (14, .int 0), (15, .int 0), (78, .int 0), (79, .int (-1)), (82, .int 0)]) (he60_0 : mf60 0 = 0) (he61_0 : mf61 0 = 0) (he22_0 : mf22 0 = 0) : Met l yX8_count (.code yX8_count cX8_count 4 (some .int) :: T0) ({ frames := 1, cells := 0, slots := 0, locals := 23 }) (tqP G cA [.ref h0, .int x] [(h0, .inr (8, fs)), (m60, .inl (cA 0, 2, .inl mf60)), (m61, .inl (cA 0, 2, .inl mf61)), (m22, .inl (cA 0, 6, .inl mf22))] sz) (tqQi G cA (fun (r : Int32) (u : Unit) => r = ((sp_count x))) (fun (u : Unit) => []) (va_A [(h0, .inr (8, fs)), (m60, .inl (cA 0, 2, .inl mf60)), (m61, .inl (cA 0, 2, .inl mf61)), (m22, .inl (cA 0, 6, .inl mf22))] sz)) 0 0 (va_A [(h0, .inr (8, fs)), (m60, .inl (cA 0, 2, .inl mf60)), (m61, .inl (cA 0, 2, .inl mf61)), (m22, .inl (cA 0, 6, .inl mf22))] sz) := by
  refine Met.ofW (cc := cX8_count) (maxL := 4) (ret := (some .int)) (by decide) rfl ?_
  intro p e s m args below meth c s₁ B hml hv
  obtain ⟨rfl, hsz, hP, hK, hD0, hN⟩ := hv
  have hx := B.exec
  have hb := B.bytes
  have hr := B.returns
  have hts := atoms_spec (ws := .code yX8_count cX8_count 4 (some .int) :: T0) B.pre
  have hT : ∀ w ∈ T0, w.before _ s = true := fun w h => hts w (List.mem_cons_of_mem _ h)
  have hown : s.vm.findClass RX8 = some m.cls := findClass_of_methodNamed B.named
  have hlocks := B.notSynchronized
  subst hsz
  have hD := hD0.self (sz := s.heap.size)
  generalize hAe : va_A [(h0, .inr (8, fs)), (m60, .inl (cA 0, 2, .inl mf60)), (m61, .inl (cA 0, 2, .inl mf61)), (m22, .inl (cA 0, 6, .inl mf22))] s.heap.size = A at hD ⊢
  have hA : ∀ q : Nat, s.heap.size ≤ q → A q := fun q h => by rw [← hAe]; exact Or.inr h
  have hS : va_S A s.heap s.heap [] := va_S.rf
  have hl := lv_entry ([.ref h0, .int x]) (n := 4) (Nat.le_of_ble_eq_true rfl)
  rw [lg_entry_eq]
  generalize (lg_sl ([.ref h0, .int x]) ++ List.replicate (4 - (lg_sl ([.ref h0, .int x])).length) Slot.unset).toArray = ls at hl ⊢
  have hl : lv_has ls 4 [(0, .ref h0), (1, .int x)] := hl
  obtain ⟨H, hH⟩ : ∃ z, z = s.heap := ⟨_, rfl⟩
  rw [← hH] at hP
  have hS : va_S A s.heap H [] := by rw [hH]; exact hS
  suffices hgo : W p l e _ s m _ below meth c H [] 0 0 _ _ by rw [hH] at hgo; exact hgo
  have hO := hN.2.2.2.2
  have ho_hf := fo_refl fs
  refine lv_aload_n hx hb dX8_count_0 rfl (lv_at hl 0 rfl) ?_
  refine lv_iconst (v := 0) hx hb dX8_count_1 (by decide) ?_
  refine va_put (D := G) (ci := 8) (v := .int 0) (ty := .int) (C := RX8) (T := TX8) (N := 91) hx hb hT ku_8 tyX8 tyX8_ok nmX8 hown hK hP hD hS 0 rfl rfl 2 (by decide) (hT _ kw_14_0) (fun _ h9 => h9) rfl (by decide +kernel) rfl rfl (fh_lt hf (by decide)) dX8_count_2 (fun H locs hP hD hS => ?_)
  have hP : va_P G vwCl [(h0, .inr (8, (fs.set 2 (.int 0)))), (m60, .inl (cA 0, 2, .inl mf60)), (m61, .inl (cA 0, 2, .inl mf61)), (m22, .inl (cA 0, 6, .inl mf22))] H := hP
  have hD : va_D A [(h0, .inr (8, (fs.set 2 (.int 0)))), (m60, .inl (cA 0, 2, .inl mf60)), (m61, .inl (cA 0, 2, .inl mf61)), (m22, .inl (cA 0, 6, .inl mf22))] := hD
  have hf := fh_set (l' := [(2, .int 0), (60, .ref m60), (61, .ref m61), (22, .ref m22), (12, .int 0), (13, .int 0), (14, .int 0), (15, .int 0), (78, .int 0), (79, .int (-1)), (82, .int 0)]) hf 2 (.int 0) (by decide) rfl
  have ho102 := fo_set ho_hf 2 (.int 0)
  generalize (fs.set 2 (.int 0)) = fs101 at hP hD hf ho102
  refine lv_iconst (v := 0) hx hb dX8_count_5 (by decide) ?_
  refine lv_istore_n (lv' := [(2, .int 0), (0, .ref h0), (1, .int x)]) hx hb dX8_count_6 rfl hl (by decide) rfl (fun ls hl => ?_)
  refine lv_iload_n hx hb dX8_count_7 rfl (lv_at hl 2 rfl) ?_
  have k103 : (x.toInt < 0 ∨ 15 < x.toInt) ∨ x.toInt = 0 ∨ x.toInt = 1 ∨ x.toInt = 2 ∨ x.toInt = 3 ∨ x.toInt = 4 ∨ x.toInt = 5 ∨ x.toInt = 6 ∨ x.toInt = 7 ∨ x.toInt = 8 ∨ x.toInt = 9 ∨ x.toInt = 10 ∨ x.toInt = 11 ∨ x.toInt = 12 ∨ x.toInt = 13 ∨ x.toInt = 14 ∨ x.toInt = 15 := by omega
  rcases k103 with k103 | k103 | k103 | k103 | k103 | k103 | k103 | k103 | k103 | k103 | k103 | k103 | k103 | k103 | k103 | k103 | k103
  · refine lv_tableOut (tgt := 210) hx hb dX8_count_8 k103 (by decide) ?_
    refine lv_iconst (v := (-1)) hx hb dX8_count_210 (by decide) ?_
    have hP9 : va_P G vwCl [] H := fun k q h => by simp at h
    have hD9 : va_D A [] := ⟨fun i j p q h => by simp at h, fun k q h => by simp at h⟩
    exact W.iret (v := (-1)) hx hb hr (fun t ht hW => ⟨⟨(-1), (), rfl, (by unfold sp_count; (repeat' split) <;> first | rfl | (exfalso; omega) | decide), by rw [ht]; exact hP9, hD9⟩, hS.F ht⟩) hS.2.2 dX8_count_211
  · refine lv_tableIn (off := 80) (tgt := 88) hx hb dX8_count_8 (by omega) (by omega) (by rw [k103]; rfl) (by decide) ?_
    refine lv_aload_n hx hb dX8_count_88 rfl (lv_at hl 1 rfl) ?_
    refine va_get (D := G) (ci := 8) (v := .int 0) (C := RX8) (T := TX8) (N := 91) hx hb hT ku_8 hown hK hP 0 rfl rfl 12 (by decide) (hT _ kw_12_3) (fun _ h9 => h9) (fh_at hf 4 rfl) dX8_count_89 ?_
    have hP9 : va_P G vwCl [] H := fun k q h => by simp at h
    have hD9 : va_D A [] := ⟨fun i j p q h => by simp at h, fun k q h => by simp at h⟩
    exact W.iret (v := 0) hx hb hr (fun t ht hW => ⟨⟨0, (), rfl, (by unfold sp_count; (repeat' split) <;> first | rfl | (exfalso; omega) | decide), by rw [ht]; exact hP9, hD9⟩, hS.F ht⟩) hS.2.2 dX8_count_92
  · refine lv_tableIn (off := 85) (tgt := 93) hx hb dX8_count_8 (by omega) (by omega) (by rw [k103]; rfl) (by decide) ?_
    refine lv_aload_n hx hb dX8_count_93 rfl (lv_at hl 1 rfl) ?_
    refine va_get (D := G) (ci := 8) (v := .int 0) (C := RX8) (T := TX8) (N := 91) hx hb hT ku_8 hown hK hP 0 rfl rfl 13 (by decide) (hT _ kw_12_4) (fun _ h9 => h9) (fh_at hf 5 rfl) dX8_count_94 ?_
    have hP9 : va_P G vwCl [] H := fun k q h => by simp at h
    have hD9 : va_D A [] := ⟨fun i j p q h => by simp at h, fun k q h => by simp at h⟩
    exact W.iret (v := 0) hx hb hr (fun t ht hW => ⟨⟨0, (), rfl, (by unfold sp_count; (repeat' split) <;> first | rfl | (exfalso; omega) | decide), by rw [ht]; exact hP9, hD9⟩, hS.F ht⟩) hS.2.2 dX8_count_97
  · refine lv_tableIn (off := 90) (tgt := 98) hx hb dX8_count_8 (by omega) (by omega) (by rw [k103]; rfl) (by decide) ?_
    refine lv_aload_n hx hb dX8_count_98 rfl (lv_at hl 1 rfl) ?_
    refine va_get (D := G) (ci := 8) (v := .int 0) (C := RX8) (T := TX8) (N := 91) hx hb hT ku_8 hown hK hP 0 rfl rfl 14 (by decide) (hT _ kw_12_5) (fun _ h9 => h9) (fh_at hf 6 rfl) dX8_count_99 ?_
    have hP9 : va_P G vwCl [] H := fun k q h => by simp at h
    have hD9 : va_D A [] := ⟨fun i j p q h => by simp at h, fun k q h => by simp at h⟩
    exact W.iret (v := 0) hx hb hr (fun t ht hW => ⟨⟨0, (), rfl, (by unfold sp_count; (repeat' split) <;> first | rfl | (exfalso; omega) | decide), by rw [ht]; exact hP9, hD9⟩, hS.F ht⟩) hS.2.2 dX8_count_102
  · refine lv_tableIn (off := 95) (tgt := 103) hx hb dX8_count_8 (by omega) (by omega) (by rw [k103]; rfl) (by decide) ?_
    refine lv_aload_n hx hb dX8_count_103 rfl (lv_at hl 1 rfl) ?_
    refine va_get (D := G) (ci := 8) (v := .int 0) (C := RX8) (T := TX8) (N := 91) hx hb hT ku_8 hown hK hP 0 rfl rfl 15 (by decide) (hT _ kw_12_6) (fun _ h9 => h9) (fh_at hf 7 rfl) dX8_count_104 ?_
    have hP9 : va_P G vwCl [] H := fun k q h => by simp at h
    have hD9 : va_D A [] := ⟨fun i j p q h => by simp at h, fun k q h => by simp at h⟩
    exact W.iret (v := 0) hx hb hr (fun t ht hW => ⟨⟨0, (), rfl, (by unfold sp_count; (repeat' split) <;> first | rfl | (exfalso; omega) | decide), by rw [ht]; exact hP9, hD9⟩, hS.F ht⟩) hS.2.2 dX8_count_107
  · refine lv_tableIn (off := 100) (tgt := 108) hx hb dX8_count_8 (by omega) (by omega) (by rw [k103]; rfl) (by decide) ?_
    refine lv_aload_n hx hb dX8_count_108 rfl (lv_at hl 1 rfl) ?_
    refine va_get (D := G) (ci := 8) (v := .ref m61) (C := RX8) (T := TX8) (N := 91) hx hb hT ku_8 hown hK hP 0 rfl rfl 61 (by decide) (hT _ kw_10_22) (fun _ h9 => h9) (fh_at hf 2 rfl) dX8_count_109 ?_
    refine lv_iconst (v := 0) hx hb dX8_count_112 (by decide) ?_
    refine va_iald (i := 0) hx hb hK hP 2 0 rfl rfl (tq_in (by decide)) dX8_count_113 ?_
    refine tq_i (w := 0) he61_0 ?_
    have hP9 : va_P G vwCl [] H := fun k q h => by simp at h
    have hD9 : va_D A [] := ⟨fun i j p q h => by simp at h, fun k q h => by simp at h⟩
    exact W.iret (v := 0) hx hb hr (fun t ht hW => ⟨⟨0, (), rfl, (by unfold sp_count; (repeat' split) <;> first | rfl | (exfalso; omega) | decide), by rw [ht]; exact hP9, hD9⟩, hS.F ht⟩) hS.2.2 dX8_count_114
  · refine lv_tableIn (off := 107) (tgt := 115) hx hb dX8_count_8 (by omega) (by omega) (by rw [k103]; rfl) (by decide) ?_
    refine lv_aload_n hx hb dX8_count_115 rfl (lv_at hl 1 rfl) ?_
    refine va_get (D := G) (ci := 8) (v := .ref m60) (C := RX8) (T := TX8) (N := 91) hx hb hT ku_8 hown hK hP 0 rfl rfl 60 (by decide) (hT _ kw_10_21) (fun _ h9 => h9) (fh_at hf 1 rfl) dX8_count_116 ?_
    refine lv_iconst (v := 0) hx hb dX8_count_119 (by decide) ?_
    refine va_iald (i := 0) hx hb hK hP 1 0 rfl rfl (tq_in (by decide)) dX8_count_120 ?_
    refine tq_i (w := 0) he60_0 ?_
    have hP9 : va_P G vwCl [] H := fun k q h => by simp at h
    have hD9 : va_D A [] := ⟨fun i j p q h => by simp at h, fun k q h => by simp at h⟩
    exact W.iret (v := 0) hx hb hr (fun t ht hW => ⟨⟨0, (), rfl, (by unfold sp_count; (repeat' split) <;> first | rfl | (exfalso; omega) | decide), by rw [ht]; exact hP9, hD9⟩, hS.F ht⟩) hS.2.2 dX8_count_121
  · refine lv_tableIn (off := 114) (tgt := 122) hx hb dX8_count_8 (by omega) (by omega) (by rw [k103]; rfl) (by decide) ?_
    refine lv_aload_n hx hb dX8_count_122 rfl (lv_at hl 1 rfl) ?_
    refine lv_iconst (v := 1) hx hb dX8_count_123 (by decide) ?_
    refine tq_ci (wr := [(m60, .inl (cA 0, 2, .inl mf60)), (m61, .inl (cA 0, 2, .inl mf61)), (m22, .inl (cA 0, 6, .inl mf22))]) hP hD hS hA [0] [1, 2, 3] rfl rfl (by decide) (by decide) (va_runV (As := [.int 1]) (rest := []) ⟨hx, hb, hml, hown, hT⟩ (c_X8_manyHow l G cA H.size h0 1 fs101 (fh_sub hf [6] rfl)) (cwV 1 hT (tq_gV kw_60_14 kw_60_15 kw_60_16 kw_1_5 kw_60_17) rfl rfl rfl (by decide +kernel) ⟨Nat.le_of_ble_eq_true rfl, Nat.le_of_ble_eq_true rfl⟩) ⟨(tq_pre (isC := [0]) hP hD hK hN rfl (by decide)).1, va_recv hK hP (ci := 8) (q0 := 0) rfl rfl, (tq_pre (isC := [0]) hP hD hK hN rfl (by decide)).2⟩ rfl rfl hl.1 rfl (lv_room (Nat.le_of_ble_eq_true rfl)) dX8_count_124 ⟨Nat.le_of_ble_eq_true rfl, Nat.le_of_ble_eq_true rfl⟩) (fun r104 u105 H locs hw106 hP hD hS => ?_)
    refine W.widen (k := 0) (n := 0) (Nat.le_of_ble_eq_true rfl) (Nat.le_of_ble_eq_true rfl) ?_
    have hr107 := hw106
    subst hr107
    have hP : va_P G vwCl [(m60, .inl (cA 0, 2, .inl mf60)), (m61, .inl (cA 0, 2, .inl mf61)), (m22, .inl (cA 0, 6, .inl mf22)), (h0, .inr (8, fs101))] H := hP
    have hD : va_D A [(m60, .inl (cA 0, 2, .inl mf60)), (m61, .inl (cA 0, 2, .inl mf61)), (m22, .inl (cA 0, 6, .inl mf22)), (h0, .inr (8, fs101))] := hD
    have hP9 : va_P G vwCl [] H := fun k q h => by simp at h
    have hD9 : va_D A [] := ⟨fun i j p q h => by simp at h, fun k q h => by simp at h⟩
    exact W.iret (v := 0) hx hb hr (fun t ht hW => ⟨⟨0, (), rfl, (by unfold sp_count; (repeat' split) <;> first | rfl | (exfalso; omega) | decide), by rw [ht]; exact hP9, hD9⟩, hS.F ht⟩) hS.2.2 dX8_count_127
  · refine lv_tableIn (off := 120) (tgt := 128) hx hb dX8_count_8 (by omega) (by omega) (by rw [k103]; rfl) (by decide) ?_
    refine lv_aload_n hx hb dX8_count_128 rfl (lv_at hl 1 rfl) ?_
    refine lv_iconst (v := 2) hx hb dX8_count_129 (by decide) ?_
    refine tq_ci (wr := [(m60, .inl (cA 0, 2, .inl mf60)), (m61, .inl (cA 0, 2, .inl mf61)), (m22, .inl (cA 0, 6, .inl mf22))]) hP hD hS hA [0] [1, 2, 3] rfl rfl (by decide) (by decide) (va_runV (As := [.int 2]) (rest := []) ⟨hx, hb, hml, hown, hT⟩ (c_X8_manyHow l G cA H.size h0 2 fs101 (fh_sub hf [6] rfl)) (cwV 1 hT (tq_gV kw_60_14 kw_60_15 kw_60_16 kw_1_5 kw_60_17) rfl rfl rfl (by decide +kernel) ⟨Nat.le_of_ble_eq_true rfl, Nat.le_of_ble_eq_true rfl⟩) ⟨(tq_pre (isC := [0]) hP hD hK hN rfl (by decide)).1, va_recv hK hP (ci := 8) (q0 := 0) rfl rfl, (tq_pre (isC := [0]) hP hD hK hN rfl (by decide)).2⟩ rfl rfl hl.1 rfl (lv_room (Nat.le_of_ble_eq_true rfl)) dX8_count_130 ⟨Nat.le_of_ble_eq_true rfl, Nat.le_of_ble_eq_true rfl⟩) (fun r108 u109 H locs hw110 hP hD hS => ?_)
    refine W.widen (k := 0) (n := 0) (Nat.le_of_ble_eq_true rfl) (Nat.le_of_ble_eq_true rfl) ?_
    have hr111 := hw110
    subst hr111
    have hP : va_P G vwCl [(m60, .inl (cA 0, 2, .inl mf60)), (m61, .inl (cA 0, 2, .inl mf61)), (m22, .inl (cA 0, 6, .inl mf22)), (h0, .inr (8, fs101))] H := hP
    have hD : va_D A [(m60, .inl (cA 0, 2, .inl mf60)), (m61, .inl (cA 0, 2, .inl mf61)), (m22, .inl (cA 0, 6, .inl mf22)), (h0, .inr (8, fs101))] := hD
    have hP9 : va_P G vwCl [] H := fun k q h => by simp at h
    have hD9 : va_D A [] := ⟨fun i j p q h => by simp at h, fun k q h => by simp at h⟩
    exact W.iret (v := 0) hx hb hr (fun t ht hW => ⟨⟨0, (), rfl, (by unfold sp_count; (repeat' split) <;> first | rfl | (exfalso; omega) | decide), by rw [ht]; exact hP9, hD9⟩, hS.F ht⟩) hS.2.2 dX8_count_133
  · refine lv_tableIn (off := 126) (tgt := 134) hx hb dX8_count_8 (by omega) (by omega) (by rw [k103]; rfl) (by decide) ?_
    refine lv_aload_n hx hb dX8_count_134 rfl (lv_at hl 1 rfl) ?_
    refine lv_iconst (v := 3) hx hb dX8_count_135 (by decide) ?_
    refine tq_ci (wr := [(m60, .inl (cA 0, 2, .inl mf60)), (m61, .inl (cA 0, 2, .inl mf61)), (m22, .inl (cA 0, 6, .inl mf22))]) hP hD hS hA [0] [1, 2, 3] rfl rfl (by decide) (by decide) (va_runV (As := [.int 3]) (rest := []) ⟨hx, hb, hml, hown, hT⟩ (c_X8_manyHow l G cA H.size h0 3 fs101 (fh_sub hf [6] rfl)) (cwV 1 hT (tq_gV kw_60_14 kw_60_15 kw_60_16 kw_1_5 kw_60_17) rfl rfl rfl (by decide +kernel) ⟨Nat.le_of_ble_eq_true rfl, Nat.le_of_ble_eq_true rfl⟩) ⟨(tq_pre (isC := [0]) hP hD hK hN rfl (by decide)).1, va_recv hK hP (ci := 8) (q0 := 0) rfl rfl, (tq_pre (isC := [0]) hP hD hK hN rfl (by decide)).2⟩ rfl rfl hl.1 rfl (lv_room (Nat.le_of_ble_eq_true rfl)) dX8_count_136 ⟨Nat.le_of_ble_eq_true rfl, Nat.le_of_ble_eq_true rfl⟩) (fun r112 u113 H locs hw114 hP hD hS => ?_)
    refine W.widen (k := 0) (n := 0) (Nat.le_of_ble_eq_true rfl) (Nat.le_of_ble_eq_true rfl) ?_
    have hr115 := hw114
    subst hr115
    have hP : va_P G vwCl [(m60, .inl (cA 0, 2, .inl mf60)), (m61, .inl (cA 0, 2, .inl mf61)), (m22, .inl (cA 0, 6, .inl mf22)), (h0, .inr (8, fs101))] H := hP
    have hD : va_D A [(m60, .inl (cA 0, 2, .inl mf60)), (m61, .inl (cA 0, 2, .inl mf61)), (m22, .inl (cA 0, 6, .inl mf22)), (h0, .inr (8, fs101))] := hD
    have hP9 : va_P G vwCl [] H := fun k q h => by simp at h
    have hD9 : va_D A [] := ⟨fun i j p q h => by simp at h, fun k q h => by simp at h⟩
    exact W.iret (v := 0) hx hb hr (fun t ht hW => ⟨⟨0, (), rfl, (by unfold sp_count; (repeat' split) <;> first | rfl | (exfalso; omega) | decide), by rw [ht]; exact hP9, hD9⟩, hS.F ht⟩) hS.2.2 dX8_count_139
  · refine lv_tableIn (off := 132) (tgt := 140) hx hb dX8_count_8 (by omega) (by omega) (by rw [k103]; rfl) (by decide) ?_
    refine lv_aload_n hx hb dX8_count_140 rfl (lv_at hl 1 rfl) ?_
    refine lv_iconst (v := 4) hx hb dX8_count_141 (by decide) ?_
    refine tq_ci (wr := [(m60, .inl (cA 0, 2, .inl mf60)), (m61, .inl (cA 0, 2, .inl mf61)), (m22, .inl (cA 0, 6, .inl mf22))]) hP hD hS hA [0] [1, 2, 3] rfl rfl (by decide) (by decide) (va_runV (As := [.int 4]) (rest := []) ⟨hx, hb, hml, hown, hT⟩ (c_X8_manyHow l G cA H.size h0 4 fs101 (fh_sub hf [6] rfl)) (cwV 1 hT (tq_gV kw_60_14 kw_60_15 kw_60_16 kw_1_5 kw_60_17) rfl rfl rfl (by decide +kernel) ⟨Nat.le_of_ble_eq_true rfl, Nat.le_of_ble_eq_true rfl⟩) ⟨(tq_pre (isC := [0]) hP hD hK hN rfl (by decide)).1, va_recv hK hP (ci := 8) (q0 := 0) rfl rfl, (tq_pre (isC := [0]) hP hD hK hN rfl (by decide)).2⟩ rfl rfl hl.1 rfl (lv_room (Nat.le_of_ble_eq_true rfl)) dX8_count_142 ⟨Nat.le_of_ble_eq_true rfl, Nat.le_of_ble_eq_true rfl⟩) (fun r116 u117 H locs hw118 hP hD hS => ?_)
    refine W.widen (k := 0) (n := 0) (Nat.le_of_ble_eq_true rfl) (Nat.le_of_ble_eq_true rfl) ?_
    have hr119 := hw118
    subst hr119
    have hP : va_P G vwCl [(m60, .inl (cA 0, 2, .inl mf60)), (m61, .inl (cA 0, 2, .inl mf61)), (m22, .inl (cA 0, 6, .inl mf22)), (h0, .inr (8, fs101))] H := hP
    have hD : va_D A [(m60, .inl (cA 0, 2, .inl mf60)), (m61, .inl (cA 0, 2, .inl mf61)), (m22, .inl (cA 0, 6, .inl mf22)), (h0, .inr (8, fs101))] := hD
    have hP9 : va_P G vwCl [] H := fun k q h => by simp at h
    have hD9 : va_D A [] := ⟨fun i j p q h => by simp at h, fun k q h => by simp at h⟩
    exact W.iret (v := 0) hx hb hr (fun t ht hW => ⟨⟨0, (), rfl, (by unfold sp_count; (repeat' split) <;> first | rfl | (exfalso; omega) | decide), by rw [ht]; exact hP9, hD9⟩, hS.F ht⟩) hS.2.2 dX8_count_145
  · refine lv_tableIn (off := 138) (tgt := 146) hx hb dX8_count_8 (by omega) (by omega) (by rw [k103]; rfl) (by decide) ?_
    refine lv_aload_n hx hb dX8_count_146 rfl (lv_at hl 1 rfl) ?_
    refine lv_iconst (v := 5) hx hb dX8_count_147 (by decide) ?_
    refine tq_ci (wr := [(m60, .inl (cA 0, 2, .inl mf60)), (m61, .inl (cA 0, 2, .inl mf61)), (m22, .inl (cA 0, 6, .inl mf22))]) hP hD hS hA [0] [1, 2, 3] rfl rfl (by decide) (by decide) (va_runV (As := [.int 5]) (rest := []) ⟨hx, hb, hml, hown, hT⟩ (c_X8_manyHow l G cA H.size h0 5 fs101 (fh_sub hf [6] rfl)) (cwV 1 hT (tq_gV kw_60_14 kw_60_15 kw_60_16 kw_1_5 kw_60_17) rfl rfl rfl (by decide +kernel) ⟨Nat.le_of_ble_eq_true rfl, Nat.le_of_ble_eq_true rfl⟩) ⟨(tq_pre (isC := [0]) hP hD hK hN rfl (by decide)).1, va_recv hK hP (ci := 8) (q0 := 0) rfl rfl, (tq_pre (isC := [0]) hP hD hK hN rfl (by decide)).2⟩ rfl rfl hl.1 rfl (lv_room (Nat.le_of_ble_eq_true rfl)) dX8_count_148 ⟨Nat.le_of_ble_eq_true rfl, Nat.le_of_ble_eq_true rfl⟩) (fun r120 u121 H locs hw122 hP hD hS => ?_)
    refine W.widen (k := 0) (n := 0) (Nat.le_of_ble_eq_true rfl) (Nat.le_of_ble_eq_true rfl) ?_
    have hr123 := hw122
    subst hr123
    have hP : va_P G vwCl [(m60, .inl (cA 0, 2, .inl mf60)), (m61, .inl (cA 0, 2, .inl mf61)), (m22, .inl (cA 0, 6, .inl mf22)), (h0, .inr (8, fs101))] H := hP
    have hD : va_D A [(m60, .inl (cA 0, 2, .inl mf60)), (m61, .inl (cA 0, 2, .inl mf61)), (m22, .inl (cA 0, 6, .inl mf22)), (h0, .inr (8, fs101))] := hD
    have hP9 : va_P G vwCl [] H := fun k q h => by simp at h
    have hD9 : va_D A [] := ⟨fun i j p q h => by simp at h, fun k q h => by simp at h⟩
    exact W.iret (v := 0) hx hb hr (fun t ht hW => ⟨⟨0, (), rfl, (by unfold sp_count; (repeat' split) <;> first | rfl | (exfalso; omega) | decide), by rw [ht]; exact hP9, hD9⟩, hS.F ht⟩) hS.2.2 dX8_count_151
  · refine lv_tableIn (off := 144) (tgt := 152) hx hb dX8_count_8 (by omega) (by omega) (by rw [k103]; rfl) (by decide) ?_
    refine lv_iconst (v := 0) hx hb dX8_count_152 (by decide) ?_
    refine lv_istore_n (lv' := [(3, .int 0), (2, .int 0), (0, .ref h0), (1, .int x)]) hx hb dX8_count_153 rfl hl (by decide) rfl (fun ls hl => ?_)
    refine lv_iload_n hx hb dX8_count_154 rfl (lv_at hl 0 rfl) ?_
    refine lv_aload_n hx hb dX8_count_155 rfl (lv_at hl 2 rfl) ?_
    refine va_get (D := G) (ci := 8) (v := .int 0) (C := RX8) (T := TX8) (N := 91) hx hb hT ku_8 hown hK hP 0 rfl rfl 13 (by decide) (hT _ kw_12_4) (fun _ h9 => h9) (fh_at hf 5 rfl) dX8_count_156 ?_
    refine lv_icmp_ge (tgt := 186) hx hb dX8_count_159 (by decide) (fun c124 => ?_) (fun c124 => absurd (by decide) c124)
    refine lv_iload_n hx hb dX8_count_186 rfl (lv_at hl 1 rfl) ?_
    have hP9 : va_P G vwCl [] H := fun k q h => by simp at h
    have hD9 : va_D A [] := ⟨fun i j p q h => by simp at h, fun k q h => by simp at h⟩
    exact W.iret (v := 0) hx hb hr (fun t ht hW => ⟨⟨0, (), rfl, (by unfold sp_count; (repeat' split) <;> first | rfl | (exfalso; omega) | decide), by rw [ht]; exact hP9, hD9⟩, hS.F ht⟩) hS.2.2 dX8_count_187
  · refine lv_tableIn (off := 180) (tgt := 188) hx hb dX8_count_8 (by omega) (by omega) (by rw [k103]; rfl) (by decide) ?_
    refine lv_aload_n hx hb dX8_count_188 rfl (lv_at hl 1 rfl) ?_
    refine va_get (D := G) (ci := 8) (v := .ref m22) (C := RX8) (T := TX8) (N := 91) hx hb hT ku_8 hown hK hP 0 rfl rfl 22 (by decide) (hT _ kw_9_14) (fun _ h9 => h9) (fh_at hf 3 rfl) dX8_count_189 ?_
    refine lv_iconst (v := 0) hx hb dX8_count_192 (by decide) ?_
    refine va_iald (i := 0) hx hb hK hP 3 0 rfl rfl (tq_in (by decide)) dX8_count_193 ?_
    refine tq_i (w := 0) he22_0 ?_
    have hP9 : va_P G vwCl [] H := fun k q h => by simp at h
    have hD9 : va_D A [] := ⟨fun i j p q h => by simp at h, fun k q h => by simp at h⟩
    exact W.iret (v := 0) hx hb hr (fun t ht hW => ⟨⟨0, (), rfl, (by unfold sp_count; (repeat' split) <;> first | rfl | (exfalso; omega) | decide), by rw [ht]; exact hP9, hD9⟩, hS.F ht⟩) hS.2.2 dX8_count_194
  · refine lv_tableIn (off := 187) (tgt := 195) hx hb dX8_count_8 (by omega) (by omega) (by rw [k103]; rfl) (by decide) ?_
    refine lv_aload_n hx hb dX8_count_195 rfl (lv_at hl 1 rfl) ?_
    refine va_get (D := G) (ci := 8) (v := .int 0) (C := RX8) (T := TX8) (N := 91) hx hb hT ku_8 hown hK hP 0 rfl rfl 78 (by decide) (hT _ kw_12_15) (fun _ h9 => h9) (fh_at hf 8 rfl) dX8_count_196 ?_
    have hP9 : va_P G vwCl [] H := fun k q h => by simp at h
    have hD9 : va_D A [] := ⟨fun i j p q h => by simp at h, fun k q h => by simp at h⟩
    exact W.iret (v := 0) hx hb hr (fun t ht hW => ⟨⟨0, (), rfl, (by unfold sp_count; (repeat' split) <;> first | rfl | (exfalso; omega) | decide), by rw [ht]; exact hP9, hD9⟩, hS.F ht⟩) hS.2.2 dX8_count_199
  · refine lv_tableIn (off := 192) (tgt := 200) hx hb dX8_count_8 (by omega) (by omega) (by rw [k103]; rfl) (by decide) ?_
    refine lv_aload_n hx hb dX8_count_200 rfl (lv_at hl 1 rfl) ?_
    refine tq_ci (wr := [(m60, .inl (cA 0, 2, .inl mf60)), (m61, .inl (cA 0, 2, .inl mf61)), (m22, .inl (cA 0, 6, .inl mf22))]) hP hD hS hA [0] [1, 2, 3] rfl rfl (by decide) (by decide) (va_runV (As := []) (rest := []) ⟨hx, hb, hml, hown, hT⟩ (c_X8_knownBy l G cA H.size h0 fs101 (fh_sub hf [8, 9] rfl)) (cwV 0 hT (tq_gV kw_56_14 kw_56_15 kw_56_16 kw_1_5 kw_56_17) rfl rfl rfl (by decide +kernel) ⟨Nat.le_of_ble_eq_true rfl, Nat.le_of_ble_eq_true rfl⟩) ⟨(tq_pre (isC := [0]) hP hD hK hN rfl (by decide)).1, va_recv hK hP (ci := 8) (q0 := 0) rfl rfl, (tq_pre (isC := [0]) hP hD hK hN rfl (by decide)).2⟩ rfl rfl hl.1 rfl (lv_room (Nat.le_of_ble_eq_true rfl)) dX8_count_201 ⟨Nat.le_of_ble_eq_true rfl, Nat.le_of_ble_eq_true rfl⟩) (fun r125 u126 H locs hw127 hP hD hS => ?_)
    refine W.widen (k := 0) (n := 0) (Nat.le_of_ble_eq_true rfl) (Nat.le_of_ble_eq_true rfl) ?_
    have hr128 := hw127
    subst hr128
    have hP : va_P G vwCl [(m60, .inl (cA 0, 2, .inl mf60)), (m61, .inl (cA 0, 2, .inl mf61)), (m22, .inl (cA 0, 6, .inl mf22)), (h0, .inr (8, fs101))] H := hP
    have hD : va_D A [(m60, .inl (cA 0, 2, .inl mf60)), (m61, .inl (cA 0, 2, .inl mf61)), (m22, .inl (cA 0, 6, .inl mf22)), (h0, .inr (8, fs101))] := hD
    have hP9 : va_P G vwCl [] H := fun k q h => by simp at h
    have hD9 : va_D A [] := ⟨fun i j p q h => by simp at h, fun k q h => by simp at h⟩
    exact W.iret (v := 0) hx hb hr (fun t ht hW => ⟨⟨0, (), rfl, (by unfold sp_count; (repeat' split) <;> first | rfl | (exfalso; omega) | decide), by rw [ht]; exact hP9, hD9⟩, hS.F ht⟩) hS.2.2 dX8_count_204
  · refine lv_tableIn (off := 197) (tgt := 205) hx hb dX8_count_8 (by omega) (by omega) (by rw [k103]; rfl) (by decide) ?_
    refine lv_aload_n hx hb dX8_count_205 rfl (lv_at hl 1 rfl) ?_
    refine va_get (D := G) (ci := 8) (v := .int 0) (C := RX8) (T := TX8) (N := 91) hx hb hT ku_8 hown hK hP 0 rfl rfl 82 (by decide) (hT _ kw_12_16) (fun _ h9 => h9) (fh_at hf 10 rfl) dX8_count_206 ?_
    have hP9 : va_P G vwCl [] H := fun k q h => by simp at h
    have hD9 : va_D A [] := ⟨fun i j p q h => by simp at h, fun k q h => by simp at h⟩
    exact W.iret (v := 0) hx hb hr (fun t ht hW => ⟨⟨0, (), rfl, (by unfold sp_count; (repeat' split) <;> first | rfl | (exfalso; omega) | decide), by rw [ht]; exact hP9, hD9⟩, hS.F ht⟩) hS.2.2 dX8_count_209
