set_option maxHeartbeats 4000000 in
set_option maxRecDepth 100000 in
theorem c_X8_keep (l : Launch) (G : va_G) (cA : Nat → ClassId) (sz : Nat) (h0 : Nat) (fs : List Value) (m54 : Nat) (m55 : Nat) (m57 : Nat) (m85 : Nat) (m52 : Nat) (m86 : Nat) (m58 : Nat) (m59 : Nat) (m87 : Nat) (m60 : Nat) (m61 : Nat) (dr : Int64) (mf54 : Nat → Int32) (mf55 : Nat → Int32) (mf57 : Nat → Int32) (mf85 : Nat → Int32) (mf52 : Nat → Int32) (mf86 : Nat → Int32) (mf58 : Nat → Int32) (mf59 : Nat → Int32) (mf87 : Nat → Int32) (mf60 : Nat → Int32) (mf61 : Nat → Int32) (hf : fh fs 91 [(54, .ref m54), (55, .ref m55), (57, .ref m57), (85, .ref m85), (52, .ref m52), (86, .ref m86), (58, .ref m58), (59, .ref m59), (87, .ref m87), (60, .ref m60), (61, .ref m61), (63, .long dr)]) (he60_0 : mf60 0 = 0) (he61_0 : mf61 0 = 0) : Met l yX8_keep (.code yX8_keep cX8_keep 2 (some .int) :: T0) ({ frames := 1, cells := 0, slots := 0, locals := 23 }) (tqP G cA [.ref h0] [(h0, .inr (8, fs)), (m54, .inl (cA 0, 100, .inl mf54)), (m55, .inl (cA 0, 10, .inl mf55)), (m57, .inl (cA 0, 12, .inl mf57)), (m85, .inl (cA 0, 61, .inl mf85)), (m52, .inl (cA 0, 20, .inl mf52)), (m86, .inl (cA 0, 10, .inl mf86)), (m58, .inl (cA 0, 12, .inl mf58)), (m59, .inl (cA 0, 12, .inl mf59)), (m87, .inl (cA 0, 12, .inl mf87)), (m60, .inl (cA 0, 2, .inl mf60)), (m61, .inl (cA 0, 2, .inl mf61))] sz) (tqQi G cA (fun (r : Int32) (u : Unit) => r = 0) (fun (u : Unit) => []) (va_A [(h0, .inr (8, fs)), (m54, .inl (cA 0, 100, .inl mf54)), (m55, .inl (cA 0, 10, .inl mf55)), (m57, .inl (cA 0, 12, .inl mf57)), (m85, .inl (cA 0, 61, .inl mf85)), (m52, .inl (cA 0, 20, .inl mf52)), (m86, .inl (cA 0, 10, .inl mf86)), (m58, .inl (cA 0, 12, .inl mf58)), (m59, .inl (cA 0, 12, .inl mf59)), (m87, .inl (cA 0, 12, .inl mf87)), (m60, .inl (cA 0, 2, .inl mf60)), (m61, .inl (cA 0, 2, .inl mf61))] sz)) 0 0 (va_A [(h0, .inr (8, fs)), (m54, .inl (cA 0, 100, .inl mf54)), (m55, .inl (cA 0, 10, .inl mf55)), (m57, .inl (cA 0, 12, .inl mf57)), (m85, .inl (cA 0, 61, .inl mf85)), (m52, .inl (cA 0, 20, .inl mf52)), (m86, .inl (cA 0, 10, .inl mf86)), (m58, .inl (cA 0, 12, .inl mf58)), (m59, .inl (cA 0, 12, .inl mf59)), (m87, .inl (cA 0, 12, .inl mf87)), (m60, .inl (cA 0, 2, .inl mf60)), (m61, .inl (cA 0, 2, .inl mf61))] sz) := by
  refine Met.ofW (cc := cX8_keep) (maxL := 2) (ret := (some .int)) (by decide) rfl ?_
  intro p e s m args below meth c s₁ B hml hv
  obtain ⟨rfl, hsz, hP, hK, hD0, hN⟩ := hv
  have hx := B.exec
  have hb := B.bytes
  have hr := B.returns
  have hts := atoms_spec (ws := .code yX8_keep cX8_keep 2 (some .int) :: T0) B.pre
  have hT : ∀ w ∈ T0, w.before _ s = true := fun w h => hts w (List.mem_cons_of_mem _ h)
  have hown : s.vm.findClass RX8 = some m.cls := findClass_of_methodNamed B.named
  have hlocks := B.notSynchronized
  subst hsz
  have hD := hD0.self (sz := s.heap.size)
  generalize hAe : va_A [(h0, .inr (8, fs)), (m54, .inl (cA 0, 100, .inl mf54)), (m55, .inl (cA 0, 10, .inl mf55)), (m57, .inl (cA 0, 12, .inl mf57)), (m85, .inl (cA 0, 61, .inl mf85)), (m52, .inl (cA 0, 20, .inl mf52)), (m86, .inl (cA 0, 10, .inl mf86)), (m58, .inl (cA 0, 12, .inl mf58)), (m59, .inl (cA 0, 12, .inl mf59)), (m87, .inl (cA 0, 12, .inl mf87)), (m60, .inl (cA 0, 2, .inl mf60)), (m61, .inl (cA 0, 2, .inl mf61))] s.heap.size = A at hD ⊢
  have hA : ∀ q : Nat, s.heap.size ≤ q → A q := fun q h => by rw [← hAe]; exact Or.inr h
  have hS : va_S A s.heap s.heap [] := va_S.rf
  have hl := lv_entry ([.ref h0]) (n := 2) (Nat.le_of_ble_eq_true rfl)
  rw [lg_entry_eq]
  generalize (lg_sl ([.ref h0]) ++ List.replicate (2 - (lg_sl ([.ref h0])).length) Slot.unset).toArray = ls at hl ⊢
  have hl : lv_has ls 2 [(0, .ref h0)] := hl
  obtain ⟨H, hH⟩ : ∃ z, z = s.heap := ⟨_, rfl⟩
  rw [← hH] at hP
  have hS : va_S A s.heap H [] := by rw [hH]; exact hS
  suffices hgo : W p l e _ s m _ below meth c H [] 0 0 _ _ by rw [hH] at hgo; exact hgo
  have hO := hN.2.2.2.2
  have ho_hf := fo_refl fs
  refine lv_aload_n hx hb dX8_keep_0 rfl (lv_at hl 0 rfl) ?_
  refine lv_iconst (v := 0) hx hb dX8_keep_1 (by decide) ?_
  refine va_put (D := G) (ci := 8) (v := .int 0) (ty := .int) (C := RX8) (T := TX8) (N := 91) hx hb hT ku_8 tyX8 tyX8_ok nmX8 hown hK hP hD hS 0 rfl rfl 2 (by decide) (hT _ kw_14_0) (fun _ h9 => h9) rfl (by decide +kernel) rfl rfl (fh_lt hf (by decide)) dX8_keep_2 (fun H locs hP hD hS => ?_)
  have hP : va_P G vwCl [(h0, .inr (8, (fs.set 2 (.int 0)))), (m54, .inl (cA 0, 100, .inl mf54)), (m55, .inl (cA 0, 10, .inl mf55)), (m57, .inl (cA 0, 12, .inl mf57)), (m85, .inl (cA 0, 61, .inl mf85)), (m52, .inl (cA 0, 20, .inl mf52)), (m86, .inl (cA 0, 10, .inl mf86)), (m58, .inl (cA 0, 12, .inl mf58)), (m59, .inl (cA 0, 12, .inl mf59)), (m87, .inl (cA 0, 12, .inl mf87)), (m60, .inl (cA 0, 2, .inl mf60)), (m61, .inl (cA 0, 2, .inl mf61))] H := hP
  have hD : va_D A [(h0, .inr (8, (fs.set 2 (.int 0)))), (m54, .inl (cA 0, 100, .inl mf54)), (m55, .inl (cA 0, 10, .inl mf55)), (m57, .inl (cA 0, 12, .inl mf57)), (m85, .inl (cA 0, 61, .inl mf85)), (m52, .inl (cA 0, 20, .inl mf52)), (m86, .inl (cA 0, 10, .inl mf86)), (m58, .inl (cA 0, 12, .inl mf58)), (m59, .inl (cA 0, 12, .inl mf59)), (m87, .inl (cA 0, 12, .inl mf87)), (m60, .inl (cA 0, 2, .inl mf60)), (m61, .inl (cA 0, 2, .inl mf61))] := hD
  have hf := fh_set (l' := [(2, .int 0), (54, .ref m54), (55, .ref m55), (57, .ref m57), (85, .ref m85), (52, .ref m52), (86, .ref m86), (58, .ref m58), (59, .ref m59), (87, .ref m87), (60, .ref m60), (61, .ref m61), (63, .long dr)]) hf 2 (.int 0) (by decide) rfl
  have ho102 := fo_set ho_hf 2 (.int 0)
  generalize (fs.set 2 (.int 0)) = fs101 at hP hD hf ho102
  refine lv_aload_n hx hb dX8_keep_5 rfl (lv_at hl 0 rfl) ?_
  refine lv_iconst (v := 1) hx hb dX8_keep_6 (by decide) ?_
  refine va_put (D := G) (ci := 8) (v := .int 1) (ty := .boolean) (C := RX8) (T := TX8) (N := 91) hx hb hT ku_8 tyX8 tyX8_ok nmX8 hown hK hP hD hS 0 rfl rfl 84 (by decide) (hT _ kw_12_17) (fun _ h9 => h9) rfl (by decide +kernel) rfl rfl (fh_lt hf (by decide)) dX8_keep_7 (fun H locs hP hD hS => ?_)
  have hP : va_P G vwCl [(h0, .inr (8, (fs101.set 84 (.int 1)))), (m54, .inl (cA 0, 100, .inl mf54)), (m55, .inl (cA 0, 10, .inl mf55)), (m57, .inl (cA 0, 12, .inl mf57)), (m85, .inl (cA 0, 61, .inl mf85)), (m52, .inl (cA 0, 20, .inl mf52)), (m86, .inl (cA 0, 10, .inl mf86)), (m58, .inl (cA 0, 12, .inl mf58)), (m59, .inl (cA 0, 12, .inl mf59)), (m87, .inl (cA 0, 12, .inl mf87)), (m60, .inl (cA 0, 2, .inl mf60)), (m61, .inl (cA 0, 2, .inl mf61))] H := hP
  have hD : va_D A [(h0, .inr (8, (fs101.set 84 (.int 1)))), (m54, .inl (cA 0, 100, .inl mf54)), (m55, .inl (cA 0, 10, .inl mf55)), (m57, .inl (cA 0, 12, .inl mf57)), (m85, .inl (cA 0, 61, .inl mf85)), (m52, .inl (cA 0, 20, .inl mf52)), (m86, .inl (cA 0, 10, .inl mf86)), (m58, .inl (cA 0, 12, .inl mf58)), (m59, .inl (cA 0, 12, .inl mf59)), (m87, .inl (cA 0, 12, .inl mf87)), (m60, .inl (cA 0, 2, .inl mf60)), (m61, .inl (cA 0, 2, .inl mf61))] := hD
  have hf := fh_set (l' := [(84, .int 1), (2, .int 0), (54, .ref m54), (55, .ref m55), (57, .ref m57), (85, .ref m85), (52, .ref m52), (86, .ref m86), (58, .ref m58), (59, .ref m59), (87, .ref m87), (60, .ref m60), (61, .ref m61), (63, .long dr)]) hf 84 (.int 1) (by decide) rfl
  have ho104 := fo_set ho102 84 (.int 1)
  generalize (fs101.set 84 (.int 1)) = fs103 at hP hD hf ho104
  refine lv_aload_n hx hb dX8_keep_10 rfl (lv_at hl 0 rfl) ?_
  refine lv_aload_n hx hb dX8_keep_11 rfl (lv_at hl 0 rfl) ?_
  refine va_get (D := G) (ci := 8) (v := .ref m85) (C := RX8) (T := TX8) (N := 91) hx hb hT ku_8 hown hK hP 0 rfl rfl 85 (by decide) (hT _ kw_11_10) (fun _ h9 => h9) (fh_at hf 5 rfl) dX8_keep_12 ?_
  refine lv_iconst (v := 0) hx hb dX8_keep_15 (by decide) ?_
  refine tq_cv (wr := [(m52, .inl (cA 0, 20, .inl mf52)), (m86, .inl (cA 0, 10, .inl mf86)), (m58, .inl (cA 0, 12, .inl mf58)), (m59, .inl (cA 0, 12, .inl mf59)), (m87, .inl (cA 0, 12, .inl mf87)), (m60, .inl (cA 0, 2, .inl mf60)), (m61, .inl (cA 0, 2, .inl mf61))]) hP hD hS hA [0, 1, 2, 3, 4] [5, 6, 7, 8, 9, 10, 11] rfl rfl (by decide) (by decide) (va_runV (As := [.ref m85, .int 0]) (rest := []) ⟨hx, hb, hml, hown, hT⟩ (c_X8_put l G cA H.size h0 m85 fs103 m54 m55 m57 mf54 mf55 mf57 mf85 (fh_sub hf [2, 3, 4] rfl)) (cwV 2 hT (tq_gV kw_37_18 kw_37_19 kw_37_20 kw_1_5 kw_37_21) rfl rfl rfl (by decide +kernel) ⟨Nat.le_of_ble_eq_true rfl, Nat.le_of_ble_eq_true rfl⟩) ⟨(tq_pre (isC := [0, 1, 2, 3, 4]) hP hD hK hN rfl (by decide)).1, va_recv hK hP (ci := 8) (q0 := 0) rfl rfl, (tq_pre (isC := [0, 1, 2, 3, 4]) hP hD hK hN rfl (by decide)).2⟩ rfl rfl hl.1 rfl (lv_room (Nat.le_of_ble_eq_true rfl)) dX8_keep_16 ⟨Nat.le_of_ble_eq_true rfl, Nat.le_of_ble_eq_true rfl⟩) (fun u105 H locs hw106 hP hD hS => ?_)
  refine W.widen (k := 0) (n := 0) (Nat.le_of_ble_eq_true rfl) (Nat.le_of_ble_eq_true rfl) ?_
  have hP : va_P G vwCl [(m52, .inl (cA 0, 20, .inl mf52)), (m86, .inl (cA 0, 10, .inl mf86)), (m58, .inl (cA 0, 12, .inl mf58)), (m59, .inl (cA 0, 12, .inl mf59)), (m87, .inl (cA 0, 12, .inl mf87)), (m60, .inl (cA 0, 2, .inl mf60)), (m61, .inl (cA 0, 2, .inl mf61)), (h0, .inr (8, fs103)), (m54, .inl (cA 0, 100, .inl mf54)), (m55, .inl (cA 0, 10, .inl mf55)), (m57, .inl (cA 0, 12, .inl mf57)), (m85, .inl (cA 0, 61, .inl u105))] H := hP
  have hD : va_D A [(m52, .inl (cA 0, 20, .inl mf52)), (m86, .inl (cA 0, 10, .inl mf86)), (m58, .inl (cA 0, 12, .inl mf58)), (m59, .inl (cA 0, 12, .inl mf59)), (m87, .inl (cA 0, 12, .inl mf87)), (m60, .inl (cA 0, 2, .inl mf60)), (m61, .inl (cA 0, 2, .inl mf61)), (h0, .inr (8, fs103)), (m54, .inl (cA 0, 100, .inl mf54)), (m55, .inl (cA 0, 10, .inl mf55)), (m57, .inl (cA 0, 12, .inl mf57)), (m85, .inl (cA 0, 61, .inl u105))] := hD
  refine lv_iconst (v := 0) hx hb dX8_keep_19 (by decide) ?_
  refine lv_istore_n (lv' := [(1, .int 0), (0, .ref h0)]) hx hb dX8_keep_20 rfl hl (by decide) rfl (fun ls hl => ?_)
  refine lv_iload_n hx hb dX8_keep_21 rfl (lv_at hl 0 rfl) ?_
  refine lv_bipush (v := 10) hx hb dX8_keep_22 (by decide) ?_
  refine lv_icmp_ge (tgt := 45) hx hb dX8_keep_24 (by decide) (fun c108 => absurd c108 (by decide)) (fun c108 => ?_)
  refine lv_aload_n hx hb dX8_keep_27 rfl (lv_at hl 1 rfl) ?_
  refine va_get (D := G) (ci := 8) (v := .ref m86) (C := RX8) (T := TX8) (N := 91) hx hb hT ku_8 hown hK hP 7 rfl rfl 86 (by decide) (hT _ kw_11_11) (fun _ h9 => h9) (fh_at hf 7 rfl) dX8_keep_28 ?_
  refine lv_iload_n hx hb dX8_keep_31 rfl (lv_at hl 0 rfl) ?_
  refine lv_aload_n hx hb dX8_keep_32 rfl (lv_at hl 1 rfl) ?_
  refine va_get (D := G) (ci := 8) (v := .ref m52) (C := RX8) (T := TX8) (N := 91) hx hb hT ku_8 hown hK hP 7 rfl rfl 52 (by decide) (hT _ kw_10_13) (fun _ h9 => h9) (fh_at hf 6 rfl) dX8_keep_33 ?_
  refine lv_iload_n hx hb dX8_keep_36 rfl (lv_at hl 0 rfl) ?_
  refine va_iald (i := 0) hx hb hK hP 0 0 rfl rfl (tq_in (by decide)) dX8_keep_37 ?_
  refine lv_topi (fun x109 ex109 => ?_)
  refine va_iast (i := 0) hx hb hK hP hD hS 1 0 rfl rfl (tq_in (by decide)) dX8_keep_38 (fun H locs hP hD hS => ?_)
  have hP : va_P G vwCl [(m52, .inl (cA 0, 20, .inl mf52)), (m86, .inl (cA 0, 10, .inl ((upd mf86 (0 : Int32).toNatClampNeg x109)))), (m58, .inl (cA 0, 12, .inl mf58)), (m59, .inl (cA 0, 12, .inl mf59)), (m87, .inl (cA 0, 12, .inl mf87)), (m60, .inl (cA 0, 2, .inl mf60)), (m61, .inl (cA 0, 2, .inl mf61)), (h0, .inr (8, fs103)), (m54, .inl (cA 0, 100, .inl mf54)), (m55, .inl (cA 0, 10, .inl mf55)), (m57, .inl (cA 0, 12, .inl mf57)), (m85, .inl (cA 0, 61, .inl u105))] H := hP
  have hD : va_D A [(m52, .inl (cA 0, 20, .inl mf52)), (m86, .inl (cA 0, 10, .inl ((upd mf86 (0 : Int32).toNatClampNeg x109)))), (m58, .inl (cA 0, 12, .inl mf58)), (m59, .inl (cA 0, 12, .inl mf59)), (m87, .inl (cA 0, 12, .inl mf87)), (m60, .inl (cA 0, 2, .inl mf60)), (m61, .inl (cA 0, 2, .inl mf61)), (h0, .inr (8, fs103)), (m54, .inl (cA 0, 100, .inl mf54)), (m55, .inl (cA 0, 10, .inl mf55)), (m57, .inl (cA 0, 12, .inl mf57)), (m85, .inl (cA 0, 61, .inl u105))] := hD
  generalize (upd mf86 (0 : Int32).toNatClampNeg x109) = f110 at hP hD
  refine lv_iinc (v := 1) (lv' := [(1, .int 1), (0, .ref h0)]) hx hb dX8_keep_39 hl (k := 0) rfl (by decide) (by decide) rfl (fun ls hl => ?_)
  refine lv_goto (tgt := 21) hx hb dX8_keep_42 (by decide) ?_
  refine lv_iload_n hx hb dX8_keep_21 rfl (lv_at hl 0 rfl) ?_
  refine lv_bipush (v := 10) hx hb dX8_keep_22 (by decide) ?_
  refine lv_icmp_ge (tgt := 45) hx hb dX8_keep_24 (by decide) (fun c111 => absurd c111 (by decide)) (fun c111 => ?_)
  refine lv_aload_n hx hb dX8_keep_27 rfl (lv_at hl 1 rfl) ?_
  refine va_get (D := G) (ci := 8) (v := .ref m86) (C := RX8) (T := TX8) (N := 91) hx hb hT ku_8 hown hK hP 7 rfl rfl 86 (by decide) (hT _ kw_11_11) (fun _ h9 => h9) (fh_at hf 7 rfl) dX8_keep_28 ?_
  refine lv_iload_n hx hb dX8_keep_31 rfl (lv_at hl 0 rfl) ?_
  refine lv_aload_n hx hb dX8_keep_32 rfl (lv_at hl 1 rfl) ?_
  refine va_get (D := G) (ci := 8) (v := .ref m52) (C := RX8) (T := TX8) (N := 91) hx hb hT ku_8 hown hK hP 7 rfl rfl 52 (by decide) (hT _ kw_10_13) (fun _ h9 => h9) (fh_at hf 6 rfl) dX8_keep_33 ?_
  refine lv_iload_n hx hb dX8_keep_36 rfl (lv_at hl 0 rfl) ?_
  refine va_iald (i := 1) hx hb hK hP 0 0 rfl rfl (tq_in (by decide)) dX8_keep_37 ?_
  refine lv_topi (fun x112 ex112 => ?_)
  refine va_iast (i := 1) hx hb hK hP hD hS 1 0 rfl rfl (tq_in (by decide)) dX8_keep_38 (fun H locs hP hD hS => ?_)
  have hP : va_P G vwCl [(m52, .inl (cA 0, 20, .inl mf52)), (m86, .inl (cA 0, 10, .inl ((upd f110 (1 : Int32).toNatClampNeg x112)))), (m58, .inl (cA 0, 12, .inl mf58)), (m59, .inl (cA 0, 12, .inl mf59)), (m87, .inl (cA 0, 12, .inl mf87)), (m60, .inl (cA 0, 2, .inl mf60)), (m61, .inl (cA 0, 2, .inl mf61)), (h0, .inr (8, fs103)), (m54, .inl (cA 0, 100, .inl mf54)), (m55, .inl (cA 0, 10, .inl mf55)), (m57, .inl (cA 0, 12, .inl mf57)), (m85, .inl (cA 0, 61, .inl u105))] H := hP
  have hD : va_D A [(m52, .inl (cA 0, 20, .inl mf52)), (m86, .inl (cA 0, 10, .inl ((upd f110 (1 : Int32).toNatClampNeg x112)))), (m58, .inl (cA 0, 12, .inl mf58)), (m59, .inl (cA 0, 12, .inl mf59)), (m87, .inl (cA 0, 12, .inl mf87)), (m60, .inl (cA 0, 2, .inl mf60)), (m61, .inl (cA 0, 2, .inl mf61)), (h0, .inr (8, fs103)), (m54, .inl (cA 0, 100, .inl mf54)), (m55, .inl (cA 0, 10, .inl mf55)), (m57, .inl (cA 0, 12, .inl mf57)), (m85, .inl (cA 0, 61, .inl u105))] := hD
  generalize (upd f110 (1 : Int32).toNatClampNeg x112) = f113 at hP hD
  refine lv_iinc (v := 2) (lv' := [(1, .int 2), (0, .ref h0)]) hx hb dX8_keep_39 hl (k := 0) rfl (by decide) (by decide) rfl (fun ls hl => ?_)
  refine lv_goto (tgt := 21) hx hb dX8_keep_42 (by decide) ?_
  refine lv_iload_n hx hb dX8_keep_21 rfl (lv_at hl 0 rfl) ?_
  refine lv_bipush (v := 10) hx hb dX8_keep_22 (by decide) ?_
  refine lv_icmp_ge (tgt := 45) hx hb dX8_keep_24 (by decide) (fun c114 => absurd c114 (by decide)) (fun c114 => ?_)
  refine lv_aload_n hx hb dX8_keep_27 rfl (lv_at hl 1 rfl) ?_
  refine va_get (D := G) (ci := 8) (v := .ref m86) (C := RX8) (T := TX8) (N := 91) hx hb hT ku_8 hown hK hP 7 rfl rfl 86 (by decide) (hT _ kw_11_11) (fun _ h9 => h9) (fh_at hf 7 rfl) dX8_keep_28 ?_
  refine lv_iload_n hx hb dX8_keep_31 rfl (lv_at hl 0 rfl) ?_
  refine lv_aload_n hx hb dX8_keep_32 rfl (lv_at hl 1 rfl) ?_
  refine va_get (D := G) (ci := 8) (v := .ref m52) (C := RX8) (T := TX8) (N := 91) hx hb hT ku_8 hown hK hP 7 rfl rfl 52 (by decide) (hT _ kw_10_13) (fun _ h9 => h9) (fh_at hf 6 rfl) dX8_keep_33 ?_
  refine lv_iload_n hx hb dX8_keep_36 rfl (lv_at hl 0 rfl) ?_
  refine va_iald (i := 2) hx hb hK hP 0 0 rfl rfl (tq_in (by decide)) dX8_keep_37 ?_
  refine lv_topi (fun x115 ex115 => ?_)
  refine va_iast (i := 2) hx hb hK hP hD hS 1 0 rfl rfl (tq_in (by decide)) dX8_keep_38 (fun H locs hP hD hS => ?_)
  have hP : va_P G vwCl [(m52, .inl (cA 0, 20, .inl mf52)), (m86, .inl (cA 0, 10, .inl ((upd f113 (2 : Int32).toNatClampNeg x115)))), (m58, .inl (cA 0, 12, .inl mf58)), (m59, .inl (cA 0, 12, .inl mf59)), (m87, .inl (cA 0, 12, .inl mf87)), (m60, .inl (cA 0, 2, .inl mf60)), (m61, .inl (cA 0, 2, .inl mf61)), (h0, .inr (8, fs103)), (m54, .inl (cA 0, 100, .inl mf54)), (m55, .inl (cA 0, 10, .inl mf55)), (m57, .inl (cA 0, 12, .inl mf57)), (m85, .inl (cA 0, 61, .inl u105))] H := hP
  have hD : va_D A [(m52, .inl (cA 0, 20, .inl mf52)), (m86, .inl (cA 0, 10, .inl ((upd f113 (2 : Int32).toNatClampNeg x115)))), (m58, .inl (cA 0, 12, .inl mf58)), (m59, .inl (cA 0, 12, .inl mf59)), (m87, .inl (cA 0, 12, .inl mf87)), (m60, .inl (cA 0, 2, .inl mf60)), (m61, .inl (cA 0, 2, .inl mf61)), (h0, .inr (8, fs103)), (m54, .inl (cA 0, 100, .inl mf54)), (m55, .inl (cA 0, 10, .inl mf55)), (m57, .inl (cA 0, 12, .inl mf57)), (m85, .inl (cA 0, 61, .inl u105))] := hD
  generalize (upd f113 (2 : Int32).toNatClampNeg x115) = f116 at hP hD
  refine lv_iinc (v := 3) (lv' := [(1, .int 3), (0, .ref h0)]) hx hb dX8_keep_39 hl (k := 0) rfl (by decide) (by decide) rfl (fun ls hl => ?_)
  refine lv_goto (tgt := 21) hx hb dX8_keep_42 (by decide) ?_
  refine lv_iload_n hx hb dX8_keep_21 rfl (lv_at hl 0 rfl) ?_
  refine lv_bipush (v := 10) hx hb dX8_keep_22 (by decide) ?_
  refine lv_icmp_ge (tgt := 45) hx hb dX8_keep_24 (by decide) (fun c117 => absurd c117 (by decide)) (fun c117 => ?_)
  refine lv_aload_n hx hb dX8_keep_27 rfl (lv_at hl 1 rfl) ?_
  refine va_get (D := G) (ci := 8) (v := .ref m86) (C := RX8) (T := TX8) (N := 91) hx hb hT ku_8 hown hK hP 7 rfl rfl 86 (by decide) (hT _ kw_11_11) (fun _ h9 => h9) (fh_at hf 7 rfl) dX8_keep_28 ?_
  refine lv_iload_n hx hb dX8_keep_31 rfl (lv_at hl 0 rfl) ?_
  refine lv_aload_n hx hb dX8_keep_32 rfl (lv_at hl 1 rfl) ?_
  refine va_get (D := G) (ci := 8) (v := .ref m52) (C := RX8) (T := TX8) (N := 91) hx hb hT ku_8 hown hK hP 7 rfl rfl 52 (by decide) (hT _ kw_10_13) (fun _ h9 => h9) (fh_at hf 6 rfl) dX8_keep_33 ?_
  refine lv_iload_n hx hb dX8_keep_36 rfl (lv_at hl 0 rfl) ?_
  refine va_iald (i := 3) hx hb hK hP 0 0 rfl rfl (tq_in (by decide)) dX8_keep_37 ?_
  refine lv_topi (fun x118 ex118 => ?_)
  refine va_iast (i := 3) hx hb hK hP hD hS 1 0 rfl rfl (tq_in (by decide)) dX8_keep_38 (fun H locs hP hD hS => ?_)
  have hP : va_P G vwCl [(m52, .inl (cA 0, 20, .inl mf52)), (m86, .inl (cA 0, 10, .inl ((upd f116 (3 : Int32).toNatClampNeg x118)))), (m58, .inl (cA 0, 12, .inl mf58)), (m59, .inl (cA 0, 12, .inl mf59)), (m87, .inl (cA 0, 12, .inl mf87)), (m60, .inl (cA 0, 2, .inl mf60)), (m61, .inl (cA 0, 2, .inl mf61)), (h0, .inr (8, fs103)), (m54, .inl (cA 0, 100, .inl mf54)), (m55, .inl (cA 0, 10, .inl mf55)), (m57, .inl (cA 0, 12, .inl mf57)), (m85, .inl (cA 0, 61, .inl u105))] H := hP
  have hD : va_D A [(m52, .inl (cA 0, 20, .inl mf52)), (m86, .inl (cA 0, 10, .inl ((upd f116 (3 : Int32).toNatClampNeg x118)))), (m58, .inl (cA 0, 12, .inl mf58)), (m59, .inl (cA 0, 12, .inl mf59)), (m87, .inl (cA 0, 12, .inl mf87)), (m60, .inl (cA 0, 2, .inl mf60)), (m61, .inl (cA 0, 2, .inl mf61)), (h0, .inr (8, fs103)), (m54, .inl (cA 0, 100, .inl mf54)), (m55, .inl (cA 0, 10, .inl mf55)), (m57, .inl (cA 0, 12, .inl mf57)), (m85, .inl (cA 0, 61, .inl u105))] := hD
  generalize (upd f116 (3 : Int32).toNatClampNeg x118) = f119 at hP hD
  refine lv_iinc (v := 4) (lv' := [(1, .int 4), (0, .ref h0)]) hx hb dX8_keep_39 hl (k := 0) rfl (by decide) (by decide) rfl (fun ls hl => ?_)
  refine lv_goto (tgt := 21) hx hb dX8_keep_42 (by decide) ?_
  refine lv_iload_n hx hb dX8_keep_21 rfl (lv_at hl 0 rfl) ?_
  refine lv_bipush (v := 10) hx hb dX8_keep_22 (by decide) ?_
  refine lv_icmp_ge (tgt := 45) hx hb dX8_keep_24 (by decide) (fun c120 => absurd c120 (by decide)) (fun c120 => ?_)
  refine lv_aload_n hx hb dX8_keep_27 rfl (lv_at hl 1 rfl) ?_
  refine va_get (D := G) (ci := 8) (v := .ref m86) (C := RX8) (T := TX8) (N := 91) hx hb hT ku_8 hown hK hP 7 rfl rfl 86 (by decide) (hT _ kw_11_11) (fun _ h9 => h9) (fh_at hf 7 rfl) dX8_keep_28 ?_
  refine lv_iload_n hx hb dX8_keep_31 rfl (lv_at hl 0 rfl) ?_
  refine lv_aload_n hx hb dX8_keep_32 rfl (lv_at hl 1 rfl) ?_
  refine va_get (D := G) (ci := 8) (v := .ref m52) (C := RX8) (T := TX8) (N := 91) hx hb hT ku_8 hown hK hP 7 rfl rfl 52 (by decide) (hT _ kw_10_13) (fun _ h9 => h9) (fh_at hf 6 rfl) dX8_keep_33 ?_
  refine lv_iload_n hx hb dX8_keep_36 rfl (lv_at hl 0 rfl) ?_
  refine va_iald (i := 4) hx hb hK hP 0 0 rfl rfl (tq_in (by decide)) dX8_keep_37 ?_
  refine lv_topi (fun x121 ex121 => ?_)
  refine va_iast (i := 4) hx hb hK hP hD hS 1 0 rfl rfl (tq_in (by decide)) dX8_keep_38 (fun H locs hP hD hS => ?_)
  have hP : va_P G vwCl [(m52, .inl (cA 0, 20, .inl mf52)), (m86, .inl (cA 0, 10, .inl ((upd f119 (4 : Int32).toNatClampNeg x121)))), (m58, .inl (cA 0, 12, .inl mf58)), (m59, .inl (cA 0, 12, .inl mf59)), (m87, .inl (cA 0, 12, .inl mf87)), (m60, .inl (cA 0, 2, .inl mf60)), (m61, .inl (cA 0, 2, .inl mf61)), (h0, .inr (8, fs103)), (m54, .inl (cA 0, 100, .inl mf54)), (m55, .inl (cA 0, 10, .inl mf55)), (m57, .inl (cA 0, 12, .inl mf57)), (m85, .inl (cA 0, 61, .inl u105))] H := hP
  have hD : va_D A [(m52, .inl (cA 0, 20, .inl mf52)), (m86, .inl (cA 0, 10, .inl ((upd f119 (4 : Int32).toNatClampNeg x121)))), (m58, .inl (cA 0, 12, .inl mf58)), (m59, .inl (cA 0, 12, .inl mf59)), (m87, .inl (cA 0, 12, .inl mf87)), (m60, .inl (cA 0, 2, .inl mf60)), (m61, .inl (cA 0, 2, .inl mf61)), (h0, .inr (8, fs103)), (m54, .inl (cA 0, 100, .inl mf54)), (m55, .inl (cA 0, 10, .inl mf55)), (m57, .inl (cA 0, 12, .inl mf57)), (m85, .inl (cA 0, 61, .inl u105))] := hD
  generalize (upd f119 (4 : Int32).toNatClampNeg x121) = f122 at hP hD
  refine lv_iinc (v := 5) (lv' := [(1, .int 5), (0, .ref h0)]) hx hb dX8_keep_39 hl (k := 0) rfl (by decide) (by decide) rfl (fun ls hl => ?_)
  refine lv_goto (tgt := 21) hx hb dX8_keep_42 (by decide) ?_
  refine lv_iload_n hx hb dX8_keep_21 rfl (lv_at hl 0 rfl) ?_
  refine lv_bipush (v := 10) hx hb dX8_keep_22 (by decide) ?_
  refine lv_icmp_ge (tgt := 45) hx hb dX8_keep_24 (by decide) (fun c123 => absurd c123 (by decide)) (fun c123 => ?_)
  refine lv_aload_n hx hb dX8_keep_27 rfl (lv_at hl 1 rfl) ?_
  refine va_get (D := G) (ci := 8) (v := .ref m86) (C := RX8) (T := TX8) (N := 91) hx hb hT ku_8 hown hK hP 7 rfl rfl 86 (by decide) (hT _ kw_11_11) (fun _ h9 => h9) (fh_at hf 7 rfl) dX8_keep_28 ?_
  refine lv_iload_n hx hb dX8_keep_31 rfl (lv_at hl 0 rfl) ?_
  refine lv_aload_n hx hb dX8_keep_32 rfl (lv_at hl 1 rfl) ?_
  refine va_get (D := G) (ci := 8) (v := .ref m52) (C := RX8) (T := TX8) (N := 91) hx hb hT ku_8 hown hK hP 7 rfl rfl 52 (by decide) (hT _ kw_10_13) (fun _ h9 => h9) (fh_at hf 6 rfl) dX8_keep_33 ?_
  refine lv_iload_n hx hb dX8_keep_36 rfl (lv_at hl 0 rfl) ?_
  refine va_iald (i := 5) hx hb hK hP 0 0 rfl rfl (tq_in (by decide)) dX8_keep_37 ?_
  refine lv_topi (fun x124 ex124 => ?_)
  refine va_iast (i := 5) hx hb hK hP hD hS 1 0 rfl rfl (tq_in (by decide)) dX8_keep_38 (fun H locs hP hD hS => ?_)
  have hP : va_P G vwCl [(m52, .inl (cA 0, 20, .inl mf52)), (m86, .inl (cA 0, 10, .inl ((upd f122 (5 : Int32).toNatClampNeg x124)))), (m58, .inl (cA 0, 12, .inl mf58)), (m59, .inl (cA 0, 12, .inl mf59)), (m87, .inl (cA 0, 12, .inl mf87)), (m60, .inl (cA 0, 2, .inl mf60)), (m61, .inl (cA 0, 2, .inl mf61)), (h0, .inr (8, fs103)), (m54, .inl (cA 0, 100, .inl mf54)), (m55, .inl (cA 0, 10, .inl mf55)), (m57, .inl (cA 0, 12, .inl mf57)), (m85, .inl (cA 0, 61, .inl u105))] H := hP
  have hD : va_D A [(m52, .inl (cA 0, 20, .inl mf52)), (m86, .inl (cA 0, 10, .inl ((upd f122 (5 : Int32).toNatClampNeg x124)))), (m58, .inl (cA 0, 12, .inl mf58)), (m59, .inl (cA 0, 12, .inl mf59)), (m87, .inl (cA 0, 12, .inl mf87)), (m60, .inl (cA 0, 2, .inl mf60)), (m61, .inl (cA 0, 2, .inl mf61)), (h0, .inr (8, fs103)), (m54, .inl (cA 0, 100, .inl mf54)), (m55, .inl (cA 0, 10, .inl mf55)), (m57, .inl (cA 0, 12, .inl mf57)), (m85, .inl (cA 0, 61, .inl u105))] := hD
  generalize (upd f122 (5 : Int32).toNatClampNeg x124) = f125 at hP hD
  refine lv_iinc (v := 6) (lv' := [(1, .int 6), (0, .ref h0)]) hx hb dX8_keep_39 hl (k := 0) rfl (by decide) (by decide) rfl (fun ls hl => ?_)
  refine lv_goto (tgt := 21) hx hb dX8_keep_42 (by decide) ?_
  refine lv_iload_n hx hb dX8_keep_21 rfl (lv_at hl 0 rfl) ?_
  refine lv_bipush (v := 10) hx hb dX8_keep_22 (by decide) ?_
  refine lv_icmp_ge (tgt := 45) hx hb dX8_keep_24 (by decide) (fun c126 => absurd c126 (by decide)) (fun c126 => ?_)
  refine lv_aload_n hx hb dX8_keep_27 rfl (lv_at hl 1 rfl) ?_
  refine va_get (D := G) (ci := 8) (v := .ref m86) (C := RX8) (T := TX8) (N := 91) hx hb hT ku_8 hown hK hP 7 rfl rfl 86 (by decide) (hT _ kw_11_11) (fun _ h9 => h9) (fh_at hf 7 rfl) dX8_keep_28 ?_
  refine lv_iload_n hx hb dX8_keep_31 rfl (lv_at hl 0 rfl) ?_
  refine lv_aload_n hx hb dX8_keep_32 rfl (lv_at hl 1 rfl) ?_
  refine va_get (D := G) (ci := 8) (v := .ref m52) (C := RX8) (T := TX8) (N := 91) hx hb hT ku_8 hown hK hP 7 rfl rfl 52 (by decide) (hT _ kw_10_13) (fun _ h9 => h9) (fh_at hf 6 rfl) dX8_keep_33 ?_
  refine lv_iload_n hx hb dX8_keep_36 rfl (lv_at hl 0 rfl) ?_
  refine va_iald (i := 6) hx hb hK hP 0 0 rfl rfl (tq_in (by decide)) dX8_keep_37 ?_
  refine lv_topi (fun x127 ex127 => ?_)
  refine va_iast (i := 6) hx hb hK hP hD hS 1 0 rfl rfl (tq_in (by decide)) dX8_keep_38 (fun H locs hP hD hS => ?_)
  have hP : va_P G vwCl [(m52, .inl (cA 0, 20, .inl mf52)), (m86, .inl (cA 0, 10, .inl ((upd f125 (6 : Int32).toNatClampNeg x127)))), (m58, .inl (cA 0, 12, .inl mf58)), (m59, .inl (cA 0, 12, .inl mf59)), (m87, .inl (cA 0, 12, .inl mf87)), (m60, .inl (cA 0, 2, .inl mf60)), (m61, .inl (cA 0, 2, .inl mf61)), (h0, .inr (8, fs103)), (m54, .inl (cA 0, 100, .inl mf54)), (m55, .inl (cA 0, 10, .inl mf55)), (m57, .inl (cA 0, 12, .inl mf57)), (m85, .inl (cA 0, 61, .inl u105))] H := hP
  have hD : va_D A [(m52, .inl (cA 0, 20, .inl mf52)), (m86, .inl (cA 0, 10, .inl ((upd f125 (6 : Int32).toNatClampNeg x127)))), (m58, .inl (cA 0, 12, .inl mf58)), (m59, .inl (cA 0, 12, .inl mf59)), (m87, .inl (cA 0, 12, .inl mf87)), (m60, .inl (cA 0, 2, .inl mf60)), (m61, .inl (cA 0, 2, .inl mf61)), (h0, .inr (8, fs103)), (m54, .inl (cA 0, 100, .inl mf54)), (m55, .inl (cA 0, 10, .inl mf55)), (m57, .inl (cA 0, 12, .inl mf57)), (m85, .inl (cA 0, 61, .inl u105))] := hD
  generalize (upd f125 (6 : Int32).toNatClampNeg x127) = f128 at hP hD
  refine lv_iinc (v := 7) (lv' := [(1, .int 7), (0, .ref h0)]) hx hb dX8_keep_39 hl (k := 0) rfl (by decide) (by decide) rfl (fun ls hl => ?_)
  refine lv_goto (tgt := 21) hx hb dX8_keep_42 (by decide) ?_
  refine lv_iload_n hx hb dX8_keep_21 rfl (lv_at hl 0 rfl) ?_
  refine lv_bipush (v := 10) hx hb dX8_keep_22 (by decide) ?_
  refine lv_icmp_ge (tgt := 45) hx hb dX8_keep_24 (by decide) (fun c129 => absurd c129 (by decide)) (fun c129 => ?_)
  refine lv_aload_n hx hb dX8_keep_27 rfl (lv_at hl 1 rfl) ?_
  refine va_get (D := G) (ci := 8) (v := .ref m86) (C := RX8) (T := TX8) (N := 91) hx hb hT ku_8 hown hK hP 7 rfl rfl 86 (by decide) (hT _ kw_11_11) (fun _ h9 => h9) (fh_at hf 7 rfl) dX8_keep_28 ?_
  refine lv_iload_n hx hb dX8_keep_31 rfl (lv_at hl 0 rfl) ?_
  refine lv_aload_n hx hb dX8_keep_32 rfl (lv_at hl 1 rfl) ?_
  refine va_get (D := G) (ci := 8) (v := .ref m52) (C := RX8) (T := TX8) (N := 91) hx hb hT ku_8 hown hK hP 7 rfl rfl 52 (by decide) (hT _ kw_10_13) (fun _ h9 => h9) (fh_at hf 6 rfl) dX8_keep_33 ?_
  refine lv_iload_n hx hb dX8_keep_36 rfl (lv_at hl 0 rfl) ?_
  refine va_iald (i := 7) hx hb hK hP 0 0 rfl rfl (tq_in (by decide)) dX8_keep_37 ?_
  refine lv_topi (fun x130 ex130 => ?_)
  refine va_iast (i := 7) hx hb hK hP hD hS 1 0 rfl rfl (tq_in (by decide)) dX8_keep_38 (fun H locs hP hD hS => ?_)
  have hP : va_P G vwCl [(m52, .inl (cA 0, 20, .inl mf52)), (m86, .inl (cA 0, 10, .inl ((upd f128 (7 : Int32).toNatClampNeg x130)))), (m58, .inl (cA 0, 12, .inl mf58)), (m59, .inl (cA 0, 12, .inl mf59)), (m87, .inl (cA 0, 12, .inl mf87)), (m60, .inl (cA 0, 2, .inl mf60)), (m61, .inl (cA 0, 2, .inl mf61)), (h0, .inr (8, fs103)), (m54, .inl (cA 0, 100, .inl mf54)), (m55, .inl (cA 0, 10, .inl mf55)), (m57, .inl (cA 0, 12, .inl mf57)), (m85, .inl (cA 0, 61, .inl u105))] H := hP
  have hD : va_D A [(m52, .inl (cA 0, 20, .inl mf52)), (m86, .inl (cA 0, 10, .inl ((upd f128 (7 : Int32).toNatClampNeg x130)))), (m58, .inl (cA 0, 12, .inl mf58)), (m59, .inl (cA 0, 12, .inl mf59)), (m87, .inl (cA 0, 12, .inl mf87)), (m60, .inl (cA 0, 2, .inl mf60)), (m61, .inl (cA 0, 2, .inl mf61)), (h0, .inr (8, fs103)), (m54, .inl (cA 0, 100, .inl mf54)), (m55, .inl (cA 0, 10, .inl mf55)), (m57, .inl (cA 0, 12, .inl mf57)), (m85, .inl (cA 0, 61, .inl u105))] := hD
  generalize (upd f128 (7 : Int32).toNatClampNeg x130) = f131 at hP hD
  refine lv_iinc (v := 8) (lv' := [(1, .int 8), (0, .ref h0)]) hx hb dX8_keep_39 hl (k := 0) rfl (by decide) (by decide) rfl (fun ls hl => ?_)
  refine lv_goto (tgt := 21) hx hb dX8_keep_42 (by decide) ?_
  refine lv_iload_n hx hb dX8_keep_21 rfl (lv_at hl 0 rfl) ?_
  refine lv_bipush (v := 10) hx hb dX8_keep_22 (by decide) ?_
  refine lv_icmp_ge (tgt := 45) hx hb dX8_keep_24 (by decide) (fun c132 => absurd c132 (by decide)) (fun c132 => ?_)
  refine lv_aload_n hx hb dX8_keep_27 rfl (lv_at hl 1 rfl) ?_
  refine va_get (D := G) (ci := 8) (v := .ref m86) (C := RX8) (T := TX8) (N := 91) hx hb hT ku_8 hown hK hP 7 rfl rfl 86 (by decide) (hT _ kw_11_11) (fun _ h9 => h9) (fh_at hf 7 rfl) dX8_keep_28 ?_
  refine lv_iload_n hx hb dX8_keep_31 rfl (lv_at hl 0 rfl) ?_
  refine lv_aload_n hx hb dX8_keep_32 rfl (lv_at hl 1 rfl) ?_
  refine va_get (D := G) (ci := 8) (v := .ref m52) (C := RX8) (T := TX8) (N := 91) hx hb hT ku_8 hown hK hP 7 rfl rfl 52 (by decide) (hT _ kw_10_13) (fun _ h9 => h9) (fh_at hf 6 rfl) dX8_keep_33 ?_
  refine lv_iload_n hx hb dX8_keep_36 rfl (lv_at hl 0 rfl) ?_
  refine va_iald (i := 8) hx hb hK hP 0 0 rfl rfl (tq_in (by decide)) dX8_keep_37 ?_
  refine lv_topi (fun x133 ex133 => ?_)
  refine va_iast (i := 8) hx hb hK hP hD hS 1 0 rfl rfl (tq_in (by decide)) dX8_keep_38 (fun H locs hP hD hS => ?_)
  have hP : va_P G vwCl [(m52, .inl (cA 0, 20, .inl mf52)), (m86, .inl (cA 0, 10, .inl ((upd f131 (8 : Int32).toNatClampNeg x133)))), (m58, .inl (cA 0, 12, .inl mf58)), (m59, .inl (cA 0, 12, .inl mf59)), (m87, .inl (cA 0, 12, .inl mf87)), (m60, .inl (cA 0, 2, .inl mf60)), (m61, .inl (cA 0, 2, .inl mf61)), (h0, .inr (8, fs103)), (m54, .inl (cA 0, 100, .inl mf54)), (m55, .inl (cA 0, 10, .inl mf55)), (m57, .inl (cA 0, 12, .inl mf57)), (m85, .inl (cA 0, 61, .inl u105))] H := hP
  have hD : va_D A [(m52, .inl (cA 0, 20, .inl mf52)), (m86, .inl (cA 0, 10, .inl ((upd f131 (8 : Int32).toNatClampNeg x133)))), (m58, .inl (cA 0, 12, .inl mf58)), (m59, .inl (cA 0, 12, .inl mf59)), (m87, .inl (cA 0, 12, .inl mf87)), (m60, .inl (cA 0, 2, .inl mf60)), (m61, .inl (cA 0, 2, .inl mf61)), (h0, .inr (8, fs103)), (m54, .inl (cA 0, 100, .inl mf54)), (m55, .inl (cA 0, 10, .inl mf55)), (m57, .inl (cA 0, 12, .inl mf57)), (m85, .inl (cA 0, 61, .inl u105))] := hD
  generalize (upd f131 (8 : Int32).toNatClampNeg x133) = f134 at hP hD
  refine lv_iinc (v := 9) (lv' := [(1, .int 9), (0, .ref h0)]) hx hb dX8_keep_39 hl (k := 0) rfl (by decide) (by decide) rfl (fun ls hl => ?_)
  refine lv_goto (tgt := 21) hx hb dX8_keep_42 (by decide) ?_
  refine lv_iload_n hx hb dX8_keep_21 rfl (lv_at hl 0 rfl) ?_
  refine lv_bipush (v := 10) hx hb dX8_keep_22 (by decide) ?_
  refine lv_icmp_ge (tgt := 45) hx hb dX8_keep_24 (by decide) (fun c135 => absurd c135 (by decide)) (fun c135 => ?_)
  refine lv_aload_n hx hb dX8_keep_27 rfl (lv_at hl 1 rfl) ?_
  refine va_get (D := G) (ci := 8) (v := .ref m86) (C := RX8) (T := TX8) (N := 91) hx hb hT ku_8 hown hK hP 7 rfl rfl 86 (by decide) (hT _ kw_11_11) (fun _ h9 => h9) (fh_at hf 7 rfl) dX8_keep_28 ?_
  refine lv_iload_n hx hb dX8_keep_31 rfl (lv_at hl 0 rfl) ?_
  refine lv_aload_n hx hb dX8_keep_32 rfl (lv_at hl 1 rfl) ?_
  refine va_get (D := G) (ci := 8) (v := .ref m52) (C := RX8) (T := TX8) (N := 91) hx hb hT ku_8 hown hK hP 7 rfl rfl 52 (by decide) (hT _ kw_10_13) (fun _ h9 => h9) (fh_at hf 6 rfl) dX8_keep_33 ?_
  refine lv_iload_n hx hb dX8_keep_36 rfl (lv_at hl 0 rfl) ?_
  refine va_iald (i := 9) hx hb hK hP 0 0 rfl rfl (tq_in (by decide)) dX8_keep_37 ?_
  refine lv_topi (fun x136 ex136 => ?_)
  refine va_iast (i := 9) hx hb hK hP hD hS 1 0 rfl rfl (tq_in (by decide)) dX8_keep_38 (fun H locs hP hD hS => ?_)
  have hP : va_P G vwCl [(m52, .inl (cA 0, 20, .inl mf52)), (m86, .inl (cA 0, 10, .inl ((upd f134 (9 : Int32).toNatClampNeg x136)))), (m58, .inl (cA 0, 12, .inl mf58)), (m59, .inl (cA 0, 12, .inl mf59)), (m87, .inl (cA 0, 12, .inl mf87)), (m60, .inl (cA 0, 2, .inl mf60)), (m61, .inl (cA 0, 2, .inl mf61)), (h0, .inr (8, fs103)), (m54, .inl (cA 0, 100, .inl mf54)), (m55, .inl (cA 0, 10, .inl mf55)), (m57, .inl (cA 0, 12, .inl mf57)), (m85, .inl (cA 0, 61, .inl u105))] H := hP
  have hD : va_D A [(m52, .inl (cA 0, 20, .inl mf52)), (m86, .inl (cA 0, 10, .inl ((upd f134 (9 : Int32).toNatClampNeg x136)))), (m58, .inl (cA 0, 12, .inl mf58)), (m59, .inl (cA 0, 12, .inl mf59)), (m87, .inl (cA 0, 12, .inl mf87)), (m60, .inl (cA 0, 2, .inl mf60)), (m61, .inl (cA 0, 2, .inl mf61)), (h0, .inr (8, fs103)), (m54, .inl (cA 0, 100, .inl mf54)), (m55, .inl (cA 0, 10, .inl mf55)), (m57, .inl (cA 0, 12, .inl mf57)), (m85, .inl (cA 0, 61, .inl u105))] := hD
  generalize (upd f134 (9 : Int32).toNatClampNeg x136) = f137 at hP hD
  refine lv_iinc (v := 10) (lv' := [(1, .int 10), (0, .ref h0)]) hx hb dX8_keep_39 hl (k := 0) rfl (by decide) (by decide) rfl (fun ls hl => ?_)
  refine lv_goto (tgt := 21) hx hb dX8_keep_42 (by decide) ?_
  refine lv_iload_n hx hb dX8_keep_21 rfl (lv_at hl 0 rfl) ?_
  refine lv_bipush (v := 10) hx hb dX8_keep_22 (by decide) ?_
  refine lv_icmp_ge (tgt := 45) hx hb dX8_keep_24 (by decide) (fun c138 => ?_) (fun c138 => absurd (by decide) c138)
  refine lv_iconst (v := 0) hx hb dX8_keep_45 (by decide) ?_
  refine lv_istore_n (lv' := [(1, .int 0), (0, .ref h0)]) hx hb dX8_keep_46 rfl hl (by decide) rfl (fun ls hl => ?_)
  refine lv_iload_n hx hb dX8_keep_47 rfl (lv_at hl 0 rfl) ?_
  refine lv_bipush (v := 6) hx hb dX8_keep_48 (by decide) ?_
  refine lv_icmp_ge (tgt := 86) hx hb dX8_keep_50 (by decide) (fun c139 => absurd c139 (by decide)) (fun c139 => ?_)
  refine lv_aload_n hx hb dX8_keep_53 rfl (lv_at hl 1 rfl) ?_
  refine va_get (D := G) (ci := 8) (v := .ref m87) (C := RX8) (T := TX8) (N := 91) hx hb hT ku_8 hown hK hP 7 rfl rfl 87 (by decide) (hT _ kw_11_12) (fun _ h9 => h9) (fh_at hf 10 rfl) dX8_keep_54 ?_
  refine lv_iload_n hx hb dX8_keep_57 rfl (lv_at hl 0 rfl) ?_
  refine lv_aload_n hx hb dX8_keep_58 rfl (lv_at hl 1 rfl) ?_
  refine va_get (D := G) (ci := 8) (v := .ref m58) (C := RX8) (T := TX8) (N := 91) hx hb hT ku_8 hown hK hP 7 rfl rfl 58 (by decide) (hT _ kw_10_19) (fun _ h9 => h9) (fh_at hf 8 rfl) dX8_keep_59 ?_
  refine lv_iload_n hx hb dX8_keep_62 rfl (lv_at hl 0 rfl) ?_
  refine va_iald (i := 0) hx hb hK hP 2 0 rfl rfl (tq_in (by decide)) dX8_keep_63 ?_
  refine lv_topi (fun x140 ex140 => ?_)
  refine va_iast (i := 0) hx hb hK hP hD hS 4 0 rfl rfl (tq_in (by decide)) dX8_keep_64 (fun H locs hP hD hS => ?_)
  have hP : va_P G vwCl [(m52, .inl (cA 0, 20, .inl mf52)), (m86, .inl (cA 0, 10, .inl f137)), (m58, .inl (cA 0, 12, .inl mf58)), (m59, .inl (cA 0, 12, .inl mf59)), (m87, .inl (cA 0, 12, .inl ((upd mf87 (0 : Int32).toNatClampNeg x140)))), (m60, .inl (cA 0, 2, .inl mf60)), (m61, .inl (cA 0, 2, .inl mf61)), (h0, .inr (8, fs103)), (m54, .inl (cA 0, 100, .inl mf54)), (m55, .inl (cA 0, 10, .inl mf55)), (m57, .inl (cA 0, 12, .inl mf57)), (m85, .inl (cA 0, 61, .inl u105))] H := hP
  have hD : va_D A [(m52, .inl (cA 0, 20, .inl mf52)), (m86, .inl (cA 0, 10, .inl f137)), (m58, .inl (cA 0, 12, .inl mf58)), (m59, .inl (cA 0, 12, .inl mf59)), (m87, .inl (cA 0, 12, .inl ((upd mf87 (0 : Int32).toNatClampNeg x140)))), (m60, .inl (cA 0, 2, .inl mf60)), (m61, .inl (cA 0, 2, .inl mf61)), (h0, .inr (8, fs103)), (m54, .inl (cA 0, 100, .inl mf54)), (m55, .inl (cA 0, 10, .inl mf55)), (m57, .inl (cA 0, 12, .inl mf57)), (m85, .inl (cA 0, 61, .inl u105))] := hD
  generalize (upd mf87 (0 : Int32).toNatClampNeg x140) = f141 at hP hD
  refine lv_aload_n hx hb dX8_keep_65 rfl (lv_at hl 1 rfl) ?_
  refine va_get (D := G) (ci := 8) (v := .ref m87) (C := RX8) (T := TX8) (N := 91) hx hb hT ku_8 hown hK hP 7 rfl rfl 87 (by decide) (hT _ kw_11_12) (fun _ h9 => h9) (fh_at hf 10 rfl) dX8_keep_66 ?_
  refine lv_bipush (v := 6) hx hb dX8_keep_69 (by decide) ?_
  refine lv_iload_n hx hb dX8_keep_71 rfl (lv_at hl 0 rfl) ?_
  refine lv_iadd hx hb dX8_keep_72 ?_
  refine tq_i (w := 6) (by decide) ?_
  refine lv_aload_n hx hb dX8_keep_73 rfl (lv_at hl 1 rfl) ?_
  refine va_get (D := G) (ci := 8) (v := .ref m59) (C := RX8) (T := TX8) (N := 91) hx hb hT ku_8 hown hK hP 7 rfl rfl 59 (by decide) (hT _ kw_10_20) (fun _ h9 => h9) (fh_at hf 9 rfl) dX8_keep_74 ?_
  refine lv_iload_n hx hb dX8_keep_77 rfl (lv_at hl 0 rfl) ?_
  refine va_iald (i := 0) hx hb hK hP 3 0 rfl rfl (tq_in (by decide)) dX8_keep_78 ?_
  refine lv_topi (fun x142 ex142 => ?_)
  refine va_iast (i := 6) hx hb hK hP hD hS 4 0 rfl rfl (tq_in (by decide)) dX8_keep_79 (fun H locs hP hD hS => ?_)
  have hP : va_P G vwCl [(m52, .inl (cA 0, 20, .inl mf52)), (m86, .inl (cA 0, 10, .inl f137)), (m58, .inl (cA 0, 12, .inl mf58)), (m59, .inl (cA 0, 12, .inl mf59)), (m87, .inl (cA 0, 12, .inl ((upd f141 (6 : Int32).toNatClampNeg x142)))), (m60, .inl (cA 0, 2, .inl mf60)), (m61, .inl (cA 0, 2, .inl mf61)), (h0, .inr (8, fs103)), (m54, .inl (cA 0, 100, .inl mf54)), (m55, .inl (cA 0, 10, .inl mf55)), (m57, .inl (cA 0, 12, .inl mf57)), (m85, .inl (cA 0, 61, .inl u105))] H := hP
  have hD : va_D A [(m52, .inl (cA 0, 20, .inl mf52)), (m86, .inl (cA 0, 10, .inl f137)), (m58, .inl (cA 0, 12, .inl mf58)), (m59, .inl (cA 0, 12, .inl mf59)), (m87, .inl (cA 0, 12, .inl ((upd f141 (6 : Int32).toNatClampNeg x142)))), (m60, .inl (cA 0, 2, .inl mf60)), (m61, .inl (cA 0, 2, .inl mf61)), (h0, .inr (8, fs103)), (m54, .inl (cA 0, 100, .inl mf54)), (m55, .inl (cA 0, 10, .inl mf55)), (m57, .inl (cA 0, 12, .inl mf57)), (m85, .inl (cA 0, 61, .inl u105))] := hD
  generalize (upd f141 (6 : Int32).toNatClampNeg x142) = f143 at hP hD
  refine lv_iinc (v := 1) (lv' := [(1, .int 1), (0, .ref h0)]) hx hb dX8_keep_80 hl (k := 0) rfl (by decide) (by decide) rfl (fun ls hl => ?_)
  refine lv_goto (tgt := 47) hx hb dX8_keep_83 (by decide) ?_
  refine lv_iload_n hx hb dX8_keep_47 rfl (lv_at hl 0 rfl) ?_
  refine lv_bipush (v := 6) hx hb dX8_keep_48 (by decide) ?_
  refine lv_icmp_ge (tgt := 86) hx hb dX8_keep_50 (by decide) (fun c144 => absurd c144 (by decide)) (fun c144 => ?_)
  refine lv_aload_n hx hb dX8_keep_53 rfl (lv_at hl 1 rfl) ?_
  refine va_get (D := G) (ci := 8) (v := .ref m87) (C := RX8) (T := TX8) (N := 91) hx hb hT ku_8 hown hK hP 7 rfl rfl 87 (by decide) (hT _ kw_11_12) (fun _ h9 => h9) (fh_at hf 10 rfl) dX8_keep_54 ?_
  refine lv_iload_n hx hb dX8_keep_57 rfl (lv_at hl 0 rfl) ?_
  refine lv_aload_n hx hb dX8_keep_58 rfl (lv_at hl 1 rfl) ?_
  refine va_get (D := G) (ci := 8) (v := .ref m58) (C := RX8) (T := TX8) (N := 91) hx hb hT ku_8 hown hK hP 7 rfl rfl 58 (by decide) (hT _ kw_10_19) (fun _ h9 => h9) (fh_at hf 8 rfl) dX8_keep_59 ?_
  refine lv_iload_n hx hb dX8_keep_62 rfl (lv_at hl 0 rfl) ?_
  refine va_iald (i := 1) hx hb hK hP 2 0 rfl rfl (tq_in (by decide)) dX8_keep_63 ?_
  refine lv_topi (fun x145 ex145 => ?_)
  refine va_iast (i := 1) hx hb hK hP hD hS 4 0 rfl rfl (tq_in (by decide)) dX8_keep_64 (fun H locs hP hD hS => ?_)
  have hP : va_P G vwCl [(m52, .inl (cA 0, 20, .inl mf52)), (m86, .inl (cA 0, 10, .inl f137)), (m58, .inl (cA 0, 12, .inl mf58)), (m59, .inl (cA 0, 12, .inl mf59)), (m87, .inl (cA 0, 12, .inl ((upd f143 (1 : Int32).toNatClampNeg x145)))), (m60, .inl (cA 0, 2, .inl mf60)), (m61, .inl (cA 0, 2, .inl mf61)), (h0, .inr (8, fs103)), (m54, .inl (cA 0, 100, .inl mf54)), (m55, .inl (cA 0, 10, .inl mf55)), (m57, .inl (cA 0, 12, .inl mf57)), (m85, .inl (cA 0, 61, .inl u105))] H := hP
  have hD : va_D A [(m52, .inl (cA 0, 20, .inl mf52)), (m86, .inl (cA 0, 10, .inl f137)), (m58, .inl (cA 0, 12, .inl mf58)), (m59, .inl (cA 0, 12, .inl mf59)), (m87, .inl (cA 0, 12, .inl ((upd f143 (1 : Int32).toNatClampNeg x145)))), (m60, .inl (cA 0, 2, .inl mf60)), (m61, .inl (cA 0, 2, .inl mf61)), (h0, .inr (8, fs103)), (m54, .inl (cA 0, 100, .inl mf54)), (m55, .inl (cA 0, 10, .inl mf55)), (m57, .inl (cA 0, 12, .inl mf57)), (m85, .inl (cA 0, 61, .inl u105))] := hD
  generalize (upd f143 (1 : Int32).toNatClampNeg x145) = f146 at hP hD
  refine lv_aload_n hx hb dX8_keep_65 rfl (lv_at hl 1 rfl) ?_
  refine va_get (D := G) (ci := 8) (v := .ref m87) (C := RX8) (T := TX8) (N := 91) hx hb hT ku_8 hown hK hP 7 rfl rfl 87 (by decide) (hT _ kw_11_12) (fun _ h9 => h9) (fh_at hf 10 rfl) dX8_keep_66 ?_
  refine lv_bipush (v := 6) hx hb dX8_keep_69 (by decide) ?_
  refine lv_iload_n hx hb dX8_keep_71 rfl (lv_at hl 0 rfl) ?_
  refine lv_iadd hx hb dX8_keep_72 ?_
  refine tq_i (w := 7) (by decide) ?_
  refine lv_aload_n hx hb dX8_keep_73 rfl (lv_at hl 1 rfl) ?_
  refine va_get (D := G) (ci := 8) (v := .ref m59) (C := RX8) (T := TX8) (N := 91) hx hb hT ku_8 hown hK hP 7 rfl rfl 59 (by decide) (hT _ kw_10_20) (fun _ h9 => h9) (fh_at hf 9 rfl) dX8_keep_74 ?_
  refine lv_iload_n hx hb dX8_keep_77 rfl (lv_at hl 0 rfl) ?_
  refine va_iald (i := 1) hx hb hK hP 3 0 rfl rfl (tq_in (by decide)) dX8_keep_78 ?_
  refine lv_topi (fun x147 ex147 => ?_)
  refine va_iast (i := 7) hx hb hK hP hD hS 4 0 rfl rfl (tq_in (by decide)) dX8_keep_79 (fun H locs hP hD hS => ?_)
  have hP : va_P G vwCl [(m52, .inl (cA 0, 20, .inl mf52)), (m86, .inl (cA 0, 10, .inl f137)), (m58, .inl (cA 0, 12, .inl mf58)), (m59, .inl (cA 0, 12, .inl mf59)), (m87, .inl (cA 0, 12, .inl ((upd f146 (7 : Int32).toNatClampNeg x147)))), (m60, .inl (cA 0, 2, .inl mf60)), (m61, .inl (cA 0, 2, .inl mf61)), (h0, .inr (8, fs103)), (m54, .inl (cA 0, 100, .inl mf54)), (m55, .inl (cA 0, 10, .inl mf55)), (m57, .inl (cA 0, 12, .inl mf57)), (m85, .inl (cA 0, 61, .inl u105))] H := hP
  have hD : va_D A [(m52, .inl (cA 0, 20, .inl mf52)), (m86, .inl (cA 0, 10, .inl f137)), (m58, .inl (cA 0, 12, .inl mf58)), (m59, .inl (cA 0, 12, .inl mf59)), (m87, .inl (cA 0, 12, .inl ((upd f146 (7 : Int32).toNatClampNeg x147)))), (m60, .inl (cA 0, 2, .inl mf60)), (m61, .inl (cA 0, 2, .inl mf61)), (h0, .inr (8, fs103)), (m54, .inl (cA 0, 100, .inl mf54)), (m55, .inl (cA 0, 10, .inl mf55)), (m57, .inl (cA 0, 12, .inl mf57)), (m85, .inl (cA 0, 61, .inl u105))] := hD
  generalize (upd f146 (7 : Int32).toNatClampNeg x147) = f148 at hP hD
  refine lv_iinc (v := 2) (lv' := [(1, .int 2), (0, .ref h0)]) hx hb dX8_keep_80 hl (k := 0) rfl (by decide) (by decide) rfl (fun ls hl => ?_)
  refine lv_goto (tgt := 47) hx hb dX8_keep_83 (by decide) ?_
  refine lv_iload_n hx hb dX8_keep_47 rfl (lv_at hl 0 rfl) ?_
  refine lv_bipush (v := 6) hx hb dX8_keep_48 (by decide) ?_
  refine lv_icmp_ge (tgt := 86) hx hb dX8_keep_50 (by decide) (fun c149 => absurd c149 (by decide)) (fun c149 => ?_)
  refine lv_aload_n hx hb dX8_keep_53 rfl (lv_at hl 1 rfl) ?_
  refine va_get (D := G) (ci := 8) (v := .ref m87) (C := RX8) (T := TX8) (N := 91) hx hb hT ku_8 hown hK hP 7 rfl rfl 87 (by decide) (hT _ kw_11_12) (fun _ h9 => h9) (fh_at hf 10 rfl) dX8_keep_54 ?_
  refine lv_iload_n hx hb dX8_keep_57 rfl (lv_at hl 0 rfl) ?_
  refine lv_aload_n hx hb dX8_keep_58 rfl (lv_at hl 1 rfl) ?_
  refine va_get (D := G) (ci := 8) (v := .ref m58) (C := RX8) (T := TX8) (N := 91) hx hb hT ku_8 hown hK hP 7 rfl rfl 58 (by decide) (hT _ kw_10_19) (fun _ h9 => h9) (fh_at hf 8 rfl) dX8_keep_59 ?_
  refine lv_iload_n hx hb dX8_keep_62 rfl (lv_at hl 0 rfl) ?_
  refine va_iald (i := 2) hx hb hK hP 2 0 rfl rfl (tq_in (by decide)) dX8_keep_63 ?_
  refine lv_topi (fun x150 ex150 => ?_)
  refine va_iast (i := 2) hx hb hK hP hD hS 4 0 rfl rfl (tq_in (by decide)) dX8_keep_64 (fun H locs hP hD hS => ?_)
  have hP : va_P G vwCl [(m52, .inl (cA 0, 20, .inl mf52)), (m86, .inl (cA 0, 10, .inl f137)), (m58, .inl (cA 0, 12, .inl mf58)), (m59, .inl (cA 0, 12, .inl mf59)), (m87, .inl (cA 0, 12, .inl ((upd f148 (2 : Int32).toNatClampNeg x150)))), (m60, .inl (cA 0, 2, .inl mf60)), (m61, .inl (cA 0, 2, .inl mf61)), (h0, .inr (8, fs103)), (m54, .inl (cA 0, 100, .inl mf54)), (m55, .inl (cA 0, 10, .inl mf55)), (m57, .inl (cA 0, 12, .inl mf57)), (m85, .inl (cA 0, 61, .inl u105))] H := hP
  have hD : va_D A [(m52, .inl (cA 0, 20, .inl mf52)), (m86, .inl (cA 0, 10, .inl f137)), (m58, .inl (cA 0, 12, .inl mf58)), (m59, .inl (cA 0, 12, .inl mf59)), (m87, .inl (cA 0, 12, .inl ((upd f148 (2 : Int32).toNatClampNeg x150)))), (m60, .inl (cA 0, 2, .inl mf60)), (m61, .inl (cA 0, 2, .inl mf61)), (h0, .inr (8, fs103)), (m54, .inl (cA 0, 100, .inl mf54)), (m55, .inl (cA 0, 10, .inl mf55)), (m57, .inl (cA 0, 12, .inl mf57)), (m85, .inl (cA 0, 61, .inl u105))] := hD
  generalize (upd f148 (2 : Int32).toNatClampNeg x150) = f151 at hP hD
  refine lv_aload_n hx hb dX8_keep_65 rfl (lv_at hl 1 rfl) ?_
  refine va_get (D := G) (ci := 8) (v := .ref m87) (C := RX8) (T := TX8) (N := 91) hx hb hT ku_8 hown hK hP 7 rfl rfl 87 (by decide) (hT _ kw_11_12) (fun _ h9 => h9) (fh_at hf 10 rfl) dX8_keep_66 ?_
  refine lv_bipush (v := 6) hx hb dX8_keep_69 (by decide) ?_
  refine lv_iload_n hx hb dX8_keep_71 rfl (lv_at hl 0 rfl) ?_
  refine lv_iadd hx hb dX8_keep_72 ?_
  refine tq_i (w := 8) (by decide) ?_
  refine lv_aload_n hx hb dX8_keep_73 rfl (lv_at hl 1 rfl) ?_
  refine va_get (D := G) (ci := 8) (v := .ref m59) (C := RX8) (T := TX8) (N := 91) hx hb hT ku_8 hown hK hP 7 rfl rfl 59 (by decide) (hT _ kw_10_20) (fun _ h9 => h9) (fh_at hf 9 rfl) dX8_keep_74 ?_
  refine lv_iload_n hx hb dX8_keep_77 rfl (lv_at hl 0 rfl) ?_
  refine va_iald (i := 2) hx hb hK hP 3 0 rfl rfl (tq_in (by decide)) dX8_keep_78 ?_
  refine lv_topi (fun x152 ex152 => ?_)
  refine va_iast (i := 8) hx hb hK hP hD hS 4 0 rfl rfl (tq_in (by decide)) dX8_keep_79 (fun H locs hP hD hS => ?_)
  have hP : va_P G vwCl [(m52, .inl (cA 0, 20, .inl mf52)), (m86, .inl (cA 0, 10, .inl f137)), (m58, .inl (cA 0, 12, .inl mf58)), (m59, .inl (cA 0, 12, .inl mf59)), (m87, .inl (cA 0, 12, .inl ((upd f151 (8 : Int32).toNatClampNeg x152)))), (m60, .inl (cA 0, 2, .inl mf60)), (m61, .inl (cA 0, 2, .inl mf61)), (h0, .inr (8, fs103)), (m54, .inl (cA 0, 100, .inl mf54)), (m55, .inl (cA 0, 10, .inl mf55)), (m57, .inl (cA 0, 12, .inl mf57)), (m85, .inl (cA 0, 61, .inl u105))] H := hP
  have hD : va_D A [(m52, .inl (cA 0, 20, .inl mf52)), (m86, .inl (cA 0, 10, .inl f137)), (m58, .inl (cA 0, 12, .inl mf58)), (m59, .inl (cA 0, 12, .inl mf59)), (m87, .inl (cA 0, 12, .inl ((upd f151 (8 : Int32).toNatClampNeg x152)))), (m60, .inl (cA 0, 2, .inl mf60)), (m61, .inl (cA 0, 2, .inl mf61)), (h0, .inr (8, fs103)), (m54, .inl (cA 0, 100, .inl mf54)), (m55, .inl (cA 0, 10, .inl mf55)), (m57, .inl (cA 0, 12, .inl mf57)), (m85, .inl (cA 0, 61, .inl u105))] := hD
  generalize (upd f151 (8 : Int32).toNatClampNeg x152) = f153 at hP hD
  refine lv_iinc (v := 3) (lv' := [(1, .int 3), (0, .ref h0)]) hx hb dX8_keep_80 hl (k := 0) rfl (by decide) (by decide) rfl (fun ls hl => ?_)
  refine lv_goto (tgt := 47) hx hb dX8_keep_83 (by decide) ?_
  refine lv_iload_n hx hb dX8_keep_47 rfl (lv_at hl 0 rfl) ?_
  refine lv_bipush (v := 6) hx hb dX8_keep_48 (by decide) ?_
  refine lv_icmp_ge (tgt := 86) hx hb dX8_keep_50 (by decide) (fun c154 => absurd c154 (by decide)) (fun c154 => ?_)
  refine lv_aload_n hx hb dX8_keep_53 rfl (lv_at hl 1 rfl) ?_
  refine va_get (D := G) (ci := 8) (v := .ref m87) (C := RX8) (T := TX8) (N := 91) hx hb hT ku_8 hown hK hP 7 rfl rfl 87 (by decide) (hT _ kw_11_12) (fun _ h9 => h9) (fh_at hf 10 rfl) dX8_keep_54 ?_
  refine lv_iload_n hx hb dX8_keep_57 rfl (lv_at hl 0 rfl) ?_
  refine lv_aload_n hx hb dX8_keep_58 rfl (lv_at hl 1 rfl) ?_
  refine va_get (D := G) (ci := 8) (v := .ref m58) (C := RX8) (T := TX8) (N := 91) hx hb hT ku_8 hown hK hP 7 rfl rfl 58 (by decide) (hT _ kw_10_19) (fun _ h9 => h9) (fh_at hf 8 rfl) dX8_keep_59 ?_
  refine lv_iload_n hx hb dX8_keep_62 rfl (lv_at hl 0 rfl) ?_
  refine va_iald (i := 3) hx hb hK hP 2 0 rfl rfl (tq_in (by decide)) dX8_keep_63 ?_
  refine lv_topi (fun x155 ex155 => ?_)
  refine va_iast (i := 3) hx hb hK hP hD hS 4 0 rfl rfl (tq_in (by decide)) dX8_keep_64 (fun H locs hP hD hS => ?_)
  have hP : va_P G vwCl [(m52, .inl (cA 0, 20, .inl mf52)), (m86, .inl (cA 0, 10, .inl f137)), (m58, .inl (cA 0, 12, .inl mf58)), (m59, .inl (cA 0, 12, .inl mf59)), (m87, .inl (cA 0, 12, .inl ((upd f153 (3 : Int32).toNatClampNeg x155)))), (m60, .inl (cA 0, 2, .inl mf60)), (m61, .inl (cA 0, 2, .inl mf61)), (h0, .inr (8, fs103)), (m54, .inl (cA 0, 100, .inl mf54)), (m55, .inl (cA 0, 10, .inl mf55)), (m57, .inl (cA 0, 12, .inl mf57)), (m85, .inl (cA 0, 61, .inl u105))] H := hP
  have hD : va_D A [(m52, .inl (cA 0, 20, .inl mf52)), (m86, .inl (cA 0, 10, .inl f137)), (m58, .inl (cA 0, 12, .inl mf58)), (m59, .inl (cA 0, 12, .inl mf59)), (m87, .inl (cA 0, 12, .inl ((upd f153 (3 : Int32).toNatClampNeg x155)))), (m60, .inl (cA 0, 2, .inl mf60)), (m61, .inl (cA 0, 2, .inl mf61)), (h0, .inr (8, fs103)), (m54, .inl (cA 0, 100, .inl mf54)), (m55, .inl (cA 0, 10, .inl mf55)), (m57, .inl (cA 0, 12, .inl mf57)), (m85, .inl (cA 0, 61, .inl u105))] := hD
  generalize (upd f153 (3 : Int32).toNatClampNeg x155) = f156 at hP hD
  refine lv_aload_n hx hb dX8_keep_65 rfl (lv_at hl 1 rfl) ?_
  refine va_get (D := G) (ci := 8) (v := .ref m87) (C := RX8) (T := TX8) (N := 91) hx hb hT ku_8 hown hK hP 7 rfl rfl 87 (by decide) (hT _ kw_11_12) (fun _ h9 => h9) (fh_at hf 10 rfl) dX8_keep_66 ?_
  refine lv_bipush (v := 6) hx hb dX8_keep_69 (by decide) ?_
  refine lv_iload_n hx hb dX8_keep_71 rfl (lv_at hl 0 rfl) ?_
  refine lv_iadd hx hb dX8_keep_72 ?_
  refine tq_i (w := 9) (by decide) ?_
  refine lv_aload_n hx hb dX8_keep_73 rfl (lv_at hl 1 rfl) ?_
  refine va_get (D := G) (ci := 8) (v := .ref m59) (C := RX8) (T := TX8) (N := 91) hx hb hT ku_8 hown hK hP 7 rfl rfl 59 (by decide) (hT _ kw_10_20) (fun _ h9 => h9) (fh_at hf 9 rfl) dX8_keep_74 ?_
  refine lv_iload_n hx hb dX8_keep_77 rfl (lv_at hl 0 rfl) ?_
  refine va_iald (i := 3) hx hb hK hP 3 0 rfl rfl (tq_in (by decide)) dX8_keep_78 ?_
  refine lv_topi (fun x157 ex157 => ?_)
  refine va_iast (i := 9) hx hb hK hP hD hS 4 0 rfl rfl (tq_in (by decide)) dX8_keep_79 (fun H locs hP hD hS => ?_)
  have hP : va_P G vwCl [(m52, .inl (cA 0, 20, .inl mf52)), (m86, .inl (cA 0, 10, .inl f137)), (m58, .inl (cA 0, 12, .inl mf58)), (m59, .inl (cA 0, 12, .inl mf59)), (m87, .inl (cA 0, 12, .inl ((upd f156 (9 : Int32).toNatClampNeg x157)))), (m60, .inl (cA 0, 2, .inl mf60)), (m61, .inl (cA 0, 2, .inl mf61)), (h0, .inr (8, fs103)), (m54, .inl (cA 0, 100, .inl mf54)), (m55, .inl (cA 0, 10, .inl mf55)), (m57, .inl (cA 0, 12, .inl mf57)), (m85, .inl (cA 0, 61, .inl u105))] H := hP
  have hD : va_D A [(m52, .inl (cA 0, 20, .inl mf52)), (m86, .inl (cA 0, 10, .inl f137)), (m58, .inl (cA 0, 12, .inl mf58)), (m59, .inl (cA 0, 12, .inl mf59)), (m87, .inl (cA 0, 12, .inl ((upd f156 (9 : Int32).toNatClampNeg x157)))), (m60, .inl (cA 0, 2, .inl mf60)), (m61, .inl (cA 0, 2, .inl mf61)), (h0, .inr (8, fs103)), (m54, .inl (cA 0, 100, .inl mf54)), (m55, .inl (cA 0, 10, .inl mf55)), (m57, .inl (cA 0, 12, .inl mf57)), (m85, .inl (cA 0, 61, .inl u105))] := hD
  generalize (upd f156 (9 : Int32).toNatClampNeg x157) = f158 at hP hD
  refine lv_iinc (v := 4) (lv' := [(1, .int 4), (0, .ref h0)]) hx hb dX8_keep_80 hl (k := 0) rfl (by decide) (by decide) rfl (fun ls hl => ?_)
  refine lv_goto (tgt := 47) hx hb dX8_keep_83 (by decide) ?_
  refine lv_iload_n hx hb dX8_keep_47 rfl (lv_at hl 0 rfl) ?_
  refine lv_bipush (v := 6) hx hb dX8_keep_48 (by decide) ?_
  refine lv_icmp_ge (tgt := 86) hx hb dX8_keep_50 (by decide) (fun c159 => absurd c159 (by decide)) (fun c159 => ?_)
  refine lv_aload_n hx hb dX8_keep_53 rfl (lv_at hl 1 rfl) ?_
  refine va_get (D := G) (ci := 8) (v := .ref m87) (C := RX8) (T := TX8) (N := 91) hx hb hT ku_8 hown hK hP 7 rfl rfl 87 (by decide) (hT _ kw_11_12) (fun _ h9 => h9) (fh_at hf 10 rfl) dX8_keep_54 ?_
  refine lv_iload_n hx hb dX8_keep_57 rfl (lv_at hl 0 rfl) ?_
  refine lv_aload_n hx hb dX8_keep_58 rfl (lv_at hl 1 rfl) ?_
  refine va_get (D := G) (ci := 8) (v := .ref m58) (C := RX8) (T := TX8) (N := 91) hx hb hT ku_8 hown hK hP 7 rfl rfl 58 (by decide) (hT _ kw_10_19) (fun _ h9 => h9) (fh_at hf 8 rfl) dX8_keep_59 ?_
  refine lv_iload_n hx hb dX8_keep_62 rfl (lv_at hl 0 rfl) ?_
  refine va_iald (i := 4) hx hb hK hP 2 0 rfl rfl (tq_in (by decide)) dX8_keep_63 ?_
  refine lv_topi (fun x160 ex160 => ?_)
  refine va_iast (i := 4) hx hb hK hP hD hS 4 0 rfl rfl (tq_in (by decide)) dX8_keep_64 (fun H locs hP hD hS => ?_)
  have hP : va_P G vwCl [(m52, .inl (cA 0, 20, .inl mf52)), (m86, .inl (cA 0, 10, .inl f137)), (m58, .inl (cA 0, 12, .inl mf58)), (m59, .inl (cA 0, 12, .inl mf59)), (m87, .inl (cA 0, 12, .inl ((upd f158 (4 : Int32).toNatClampNeg x160)))), (m60, .inl (cA 0, 2, .inl mf60)), (m61, .inl (cA 0, 2, .inl mf61)), (h0, .inr (8, fs103)), (m54, .inl (cA 0, 100, .inl mf54)), (m55, .inl (cA 0, 10, .inl mf55)), (m57, .inl (cA 0, 12, .inl mf57)), (m85, .inl (cA 0, 61, .inl u105))] H := hP
  have hD : va_D A [(m52, .inl (cA 0, 20, .inl mf52)), (m86, .inl (cA 0, 10, .inl f137)), (m58, .inl (cA 0, 12, .inl mf58)), (m59, .inl (cA 0, 12, .inl mf59)), (m87, .inl (cA 0, 12, .inl ((upd f158 (4 : Int32).toNatClampNeg x160)))), (m60, .inl (cA 0, 2, .inl mf60)), (m61, .inl (cA 0, 2, .inl mf61)), (h0, .inr (8, fs103)), (m54, .inl (cA 0, 100, .inl mf54)), (m55, .inl (cA 0, 10, .inl mf55)), (m57, .inl (cA 0, 12, .inl mf57)), (m85, .inl (cA 0, 61, .inl u105))] := hD
  generalize (upd f158 (4 : Int32).toNatClampNeg x160) = f161 at hP hD
  refine lv_aload_n hx hb dX8_keep_65 rfl (lv_at hl 1 rfl) ?_
  refine va_get (D := G) (ci := 8) (v := .ref m87) (C := RX8) (T := TX8) (N := 91) hx hb hT ku_8 hown hK hP 7 rfl rfl 87 (by decide) (hT _ kw_11_12) (fun _ h9 => h9) (fh_at hf 10 rfl) dX8_keep_66 ?_
  refine lv_bipush (v := 6) hx hb dX8_keep_69 (by decide) ?_
  refine lv_iload_n hx hb dX8_keep_71 rfl (lv_at hl 0 rfl) ?_
  refine lv_iadd hx hb dX8_keep_72 ?_
  refine tq_i (w := 10) (by decide) ?_
  refine lv_aload_n hx hb dX8_keep_73 rfl (lv_at hl 1 rfl) ?_
  refine va_get (D := G) (ci := 8) (v := .ref m59) (C := RX8) (T := TX8) (N := 91) hx hb hT ku_8 hown hK hP 7 rfl rfl 59 (by decide) (hT _ kw_10_20) (fun _ h9 => h9) (fh_at hf 9 rfl) dX8_keep_74 ?_
  refine lv_iload_n hx hb dX8_keep_77 rfl (lv_at hl 0 rfl) ?_
  refine va_iald (i := 4) hx hb hK hP 3 0 rfl rfl (tq_in (by decide)) dX8_keep_78 ?_
  refine lv_topi (fun x162 ex162 => ?_)
  refine va_iast (i := 10) hx hb hK hP hD hS 4 0 rfl rfl (tq_in (by decide)) dX8_keep_79 (fun H locs hP hD hS => ?_)
  have hP : va_P G vwCl [(m52, .inl (cA 0, 20, .inl mf52)), (m86, .inl (cA 0, 10, .inl f137)), (m58, .inl (cA 0, 12, .inl mf58)), (m59, .inl (cA 0, 12, .inl mf59)), (m87, .inl (cA 0, 12, .inl ((upd f161 (10 : Int32).toNatClampNeg x162)))), (m60, .inl (cA 0, 2, .inl mf60)), (m61, .inl (cA 0, 2, .inl mf61)), (h0, .inr (8, fs103)), (m54, .inl (cA 0, 100, .inl mf54)), (m55, .inl (cA 0, 10, .inl mf55)), (m57, .inl (cA 0, 12, .inl mf57)), (m85, .inl (cA 0, 61, .inl u105))] H := hP
  have hD : va_D A [(m52, .inl (cA 0, 20, .inl mf52)), (m86, .inl (cA 0, 10, .inl f137)), (m58, .inl (cA 0, 12, .inl mf58)), (m59, .inl (cA 0, 12, .inl mf59)), (m87, .inl (cA 0, 12, .inl ((upd f161 (10 : Int32).toNatClampNeg x162)))), (m60, .inl (cA 0, 2, .inl mf60)), (m61, .inl (cA 0, 2, .inl mf61)), (h0, .inr (8, fs103)), (m54, .inl (cA 0, 100, .inl mf54)), (m55, .inl (cA 0, 10, .inl mf55)), (m57, .inl (cA 0, 12, .inl mf57)), (m85, .inl (cA 0, 61, .inl u105))] := hD
  generalize (upd f161 (10 : Int32).toNatClampNeg x162) = f163 at hP hD
  refine lv_iinc (v := 5) (lv' := [(1, .int 5), (0, .ref h0)]) hx hb dX8_keep_80 hl (k := 0) rfl (by decide) (by decide) rfl (fun ls hl => ?_)
  refine lv_goto (tgt := 47) hx hb dX8_keep_83 (by decide) ?_
  refine lv_iload_n hx hb dX8_keep_47 rfl (lv_at hl 0 rfl) ?_
  refine lv_bipush (v := 6) hx hb dX8_keep_48 (by decide) ?_
  refine lv_icmp_ge (tgt := 86) hx hb dX8_keep_50 (by decide) (fun c164 => absurd c164 (by decide)) (fun c164 => ?_)
  refine lv_aload_n hx hb dX8_keep_53 rfl (lv_at hl 1 rfl) ?_
  refine va_get (D := G) (ci := 8) (v := .ref m87) (C := RX8) (T := TX8) (N := 91) hx hb hT ku_8 hown hK hP 7 rfl rfl 87 (by decide) (hT _ kw_11_12) (fun _ h9 => h9) (fh_at hf 10 rfl) dX8_keep_54 ?_
  refine lv_iload_n hx hb dX8_keep_57 rfl (lv_at hl 0 rfl) ?_
  refine lv_aload_n hx hb dX8_keep_58 rfl (lv_at hl 1 rfl) ?_
  refine va_get (D := G) (ci := 8) (v := .ref m58) (C := RX8) (T := TX8) (N := 91) hx hb hT ku_8 hown hK hP 7 rfl rfl 58 (by decide) (hT _ kw_10_19) (fun _ h9 => h9) (fh_at hf 8 rfl) dX8_keep_59 ?_
  refine lv_iload_n hx hb dX8_keep_62 rfl (lv_at hl 0 rfl) ?_
  refine va_iald (i := 5) hx hb hK hP 2 0 rfl rfl (tq_in (by decide)) dX8_keep_63 ?_
  refine lv_topi (fun x165 ex165 => ?_)
  refine va_iast (i := 5) hx hb hK hP hD hS 4 0 rfl rfl (tq_in (by decide)) dX8_keep_64 (fun H locs hP hD hS => ?_)
  have hP : va_P G vwCl [(m52, .inl (cA 0, 20, .inl mf52)), (m86, .inl (cA 0, 10, .inl f137)), (m58, .inl (cA 0, 12, .inl mf58)), (m59, .inl (cA 0, 12, .inl mf59)), (m87, .inl (cA 0, 12, .inl ((upd f163 (5 : Int32).toNatClampNeg x165)))), (m60, .inl (cA 0, 2, .inl mf60)), (m61, .inl (cA 0, 2, .inl mf61)), (h0, .inr (8, fs103)), (m54, .inl (cA 0, 100, .inl mf54)), (m55, .inl (cA 0, 10, .inl mf55)), (m57, .inl (cA 0, 12, .inl mf57)), (m85, .inl (cA 0, 61, .inl u105))] H := hP
  have hD : va_D A [(m52, .inl (cA 0, 20, .inl mf52)), (m86, .inl (cA 0, 10, .inl f137)), (m58, .inl (cA 0, 12, .inl mf58)), (m59, .inl (cA 0, 12, .inl mf59)), (m87, .inl (cA 0, 12, .inl ((upd f163 (5 : Int32).toNatClampNeg x165)))), (m60, .inl (cA 0, 2, .inl mf60)), (m61, .inl (cA 0, 2, .inl mf61)), (h0, .inr (8, fs103)), (m54, .inl (cA 0, 100, .inl mf54)), (m55, .inl (cA 0, 10, .inl mf55)), (m57, .inl (cA 0, 12, .inl mf57)), (m85, .inl (cA 0, 61, .inl u105))] := hD
  generalize (upd f163 (5 : Int32).toNatClampNeg x165) = f166 at hP hD
  refine lv_aload_n hx hb dX8_keep_65 rfl (lv_at hl 1 rfl) ?_
  refine va_get (D := G) (ci := 8) (v := .ref m87) (C := RX8) (T := TX8) (N := 91) hx hb hT ku_8 hown hK hP 7 rfl rfl 87 (by decide) (hT _ kw_11_12) (fun _ h9 => h9) (fh_at hf 10 rfl) dX8_keep_66 ?_
  refine lv_bipush (v := 6) hx hb dX8_keep_69 (by decide) ?_
  refine lv_iload_n hx hb dX8_keep_71 rfl (lv_at hl 0 rfl) ?_
  refine lv_iadd hx hb dX8_keep_72 ?_
  refine tq_i (w := 11) (by decide) ?_
  refine lv_aload_n hx hb dX8_keep_73 rfl (lv_at hl 1 rfl) ?_
  refine va_get (D := G) (ci := 8) (v := .ref m59) (C := RX8) (T := TX8) (N := 91) hx hb hT ku_8 hown hK hP 7 rfl rfl 59 (by decide) (hT _ kw_10_20) (fun _ h9 => h9) (fh_at hf 9 rfl) dX8_keep_74 ?_
  refine lv_iload_n hx hb dX8_keep_77 rfl (lv_at hl 0 rfl) ?_
  refine va_iald (i := 5) hx hb hK hP 3 0 rfl rfl (tq_in (by decide)) dX8_keep_78 ?_
  refine lv_topi (fun x167 ex167 => ?_)
  refine va_iast (i := 11) hx hb hK hP hD hS 4 0 rfl rfl (tq_in (by decide)) dX8_keep_79 (fun H locs hP hD hS => ?_)
  have hP : va_P G vwCl [(m52, .inl (cA 0, 20, .inl mf52)), (m86, .inl (cA 0, 10, .inl f137)), (m58, .inl (cA 0, 12, .inl mf58)), (m59, .inl (cA 0, 12, .inl mf59)), (m87, .inl (cA 0, 12, .inl ((upd f166 (11 : Int32).toNatClampNeg x167)))), (m60, .inl (cA 0, 2, .inl mf60)), (m61, .inl (cA 0, 2, .inl mf61)), (h0, .inr (8, fs103)), (m54, .inl (cA 0, 100, .inl mf54)), (m55, .inl (cA 0, 10, .inl mf55)), (m57, .inl (cA 0, 12, .inl mf57)), (m85, .inl (cA 0, 61, .inl u105))] H := hP
  have hD : va_D A [(m52, .inl (cA 0, 20, .inl mf52)), (m86, .inl (cA 0, 10, .inl f137)), (m58, .inl (cA 0, 12, .inl mf58)), (m59, .inl (cA 0, 12, .inl mf59)), (m87, .inl (cA 0, 12, .inl ((upd f166 (11 : Int32).toNatClampNeg x167)))), (m60, .inl (cA 0, 2, .inl mf60)), (m61, .inl (cA 0, 2, .inl mf61)), (h0, .inr (8, fs103)), (m54, .inl (cA 0, 100, .inl mf54)), (m55, .inl (cA 0, 10, .inl mf55)), (m57, .inl (cA 0, 12, .inl mf57)), (m85, .inl (cA 0, 61, .inl u105))] := hD
  generalize (upd f166 (11 : Int32).toNatClampNeg x167) = f168 at hP hD
  refine lv_iinc (v := 6) (lv' := [(1, .int 6), (0, .ref h0)]) hx hb dX8_keep_80 hl (k := 0) rfl (by decide) (by decide) rfl (fun ls hl => ?_)
  refine lv_goto (tgt := 47) hx hb dX8_keep_83 (by decide) ?_
  refine lv_iload_n hx hb dX8_keep_47 rfl (lv_at hl 0 rfl) ?_
  refine lv_bipush (v := 6) hx hb dX8_keep_48 (by decide) ?_
  refine lv_icmp_ge (tgt := 86) hx hb dX8_keep_50 (by decide) (fun c169 => ?_) (fun c169 => absurd (by decide) c169)
  refine lv_aload_n hx hb dX8_keep_86 rfl (lv_at hl 1 rfl) ?_
  refine lv_aload_n hx hb dX8_keep_87 rfl (lv_at hl 1 rfl) ?_
  refine va_get (D := G) (ci := 8) (v := .ref m60) (C := RX8) (T := TX8) (N := 91) hx hb hT ku_8 hown hK hP 7 rfl rfl 60 (by decide) (hT _ kw_10_21) (fun _ h9 => h9) (fh_at hf 11 rfl) dX8_keep_88 ?_
  refine lv_iconst (v := 0) hx hb dX8_keep_91 (by decide) ?_
  refine va_iald (i := 0) hx hb hK hP 5 0 rfl rfl (tq_in (by decide)) dX8_keep_92 ?_
  refine tq_i (w := 0) he60_0 ?_
  refine va_put (D := G) (ci := 8) (v := .int 0) (ty := .int) (C := RX8) (T := TX8) (N := 91) hx hb hT ku_8 tyX8 tyX8_ok nmX8 hown hK hP hD hS 7 rfl rfl 88 (by decide) (hT _ kw_59_8) (fun _ h9 => h9) rfl (by decide +kernel) rfl rfl (fh_lt hf (by decide)) dX8_keep_93 (fun H locs hP hD hS => ?_)
  have hP : va_P G vwCl [(m52, .inl (cA 0, 20, .inl mf52)), (m86, .inl (cA 0, 10, .inl f137)), (m58, .inl (cA 0, 12, .inl mf58)), (m59, .inl (cA 0, 12, .inl mf59)), (m87, .inl (cA 0, 12, .inl f168)), (m60, .inl (cA 0, 2, .inl mf60)), (m61, .inl (cA 0, 2, .inl mf61)), (h0, .inr (8, (fs103.set 88 (.int 0)))), (m54, .inl (cA 0, 100, .inl mf54)), (m55, .inl (cA 0, 10, .inl mf55)), (m57, .inl (cA 0, 12, .inl mf57)), (m85, .inl (cA 0, 61, .inl u105))] H := hP
  have hD : va_D A [(m52, .inl (cA 0, 20, .inl mf52)), (m86, .inl (cA 0, 10, .inl f137)), (m58, .inl (cA 0, 12, .inl mf58)), (m59, .inl (cA 0, 12, .inl mf59)), (m87, .inl (cA 0, 12, .inl f168)), (m60, .inl (cA 0, 2, .inl mf60)), (m61, .inl (cA 0, 2, .inl mf61)), (h0, .inr (8, (fs103.set 88 (.int 0)))), (m54, .inl (cA 0, 100, .inl mf54)), (m55, .inl (cA 0, 10, .inl mf55)), (m57, .inl (cA 0, 12, .inl mf57)), (m85, .inl (cA 0, 61, .inl u105))] := hD
  have hf := fh_set (l' := [(88, .int 0), (84, .int 1), (2, .int 0), (54, .ref m54), (55, .ref m55), (57, .ref m57), (85, .ref m85), (52, .ref m52), (86, .ref m86), (58, .ref m58), (59, .ref m59), (87, .ref m87), (60, .ref m60), (61, .ref m61), (63, .long dr)]) hf 88 (.int 0) (by decide) rfl
  have ho171 := fo_set ho104 88 (.int 0)
  generalize (fs103.set 88 (.int 0)) = fs170 at hP hD hf ho171
  refine lv_aload_n hx hb dX8_keep_96 rfl (lv_at hl 1 rfl) ?_
  refine lv_aload_n hx hb dX8_keep_97 rfl (lv_at hl 1 rfl) ?_
  refine va_get (D := G) (ci := 8) (v := .ref m61) (C := RX8) (T := TX8) (N := 91) hx hb hT ku_8 hown hK hP 7 rfl rfl 61 (by decide) (hT _ kw_10_22) (fun _ h9 => h9) (fh_at hf 13 rfl) dX8_keep_98 ?_
  refine lv_iconst (v := 0) hx hb dX8_keep_101 (by decide) ?_
  refine va_iald (i := 0) hx hb hK hP 6 0 rfl rfl (tq_in (by decide)) dX8_keep_102 ?_
  refine tq_i (w := 0) he61_0 ?_
  refine va_put (D := G) (ci := 8) (v := .int 0) (ty := .int) (C := RX8) (T := TX8) (N := 91) hx hb hT ku_8 tyX8 tyX8_ok nmX8 hown hK hP hD hS 7 rfl rfl 89 (by decide) (hT _ kw_59_9) (fun _ h9 => h9) rfl (by decide +kernel) rfl rfl (fh_lt hf (by decide)) dX8_keep_103 (fun H locs hP hD hS => ?_)
  have hP : va_P G vwCl [(m52, .inl (cA 0, 20, .inl mf52)), (m86, .inl (cA 0, 10, .inl f137)), (m58, .inl (cA 0, 12, .inl mf58)), (m59, .inl (cA 0, 12, .inl mf59)), (m87, .inl (cA 0, 12, .inl f168)), (m60, .inl (cA 0, 2, .inl mf60)), (m61, .inl (cA 0, 2, .inl mf61)), (h0, .inr (8, (fs170.set 89 (.int 0)))), (m54, .inl (cA 0, 100, .inl mf54)), (m55, .inl (cA 0, 10, .inl mf55)), (m57, .inl (cA 0, 12, .inl mf57)), (m85, .inl (cA 0, 61, .inl u105))] H := hP
  have hD : va_D A [(m52, .inl (cA 0, 20, .inl mf52)), (m86, .inl (cA 0, 10, .inl f137)), (m58, .inl (cA 0, 12, .inl mf58)), (m59, .inl (cA 0, 12, .inl mf59)), (m87, .inl (cA 0, 12, .inl f168)), (m60, .inl (cA 0, 2, .inl mf60)), (m61, .inl (cA 0, 2, .inl mf61)), (h0, .inr (8, (fs170.set 89 (.int 0)))), (m54, .inl (cA 0, 100, .inl mf54)), (m55, .inl (cA 0, 10, .inl mf55)), (m57, .inl (cA 0, 12, .inl mf57)), (m85, .inl (cA 0, 61, .inl u105))] := hD
  have hf := fh_set (l' := [(89, .int 0), (88, .int 0), (84, .int 1), (2, .int 0), (54, .ref m54), (55, .ref m55), (57, .ref m57), (85, .ref m85), (52, .ref m52), (86, .ref m86), (58, .ref m58), (59, .ref m59), (87, .ref m87), (60, .ref m60), (61, .ref m61), (63, .long dr)]) hf 89 (.int 0) (by decide) rfl
  have ho173 := fo_set ho171 89 (.int 0)
  generalize (fs170.set 89 (.int 0)) = fs172 at hP hD hf ho173
  refine lv_aload_n hx hb dX8_keep_106 rfl (lv_at hl 1 rfl) ?_
  refine lv_aload_n hx hb dX8_keep_107 rfl (lv_at hl 1 rfl) ?_
  refine va_get (D := G) (ci := 8) (v := .long dr) (C := RX8) (T := TX8) (N := 91) hx hb hT ku_8 hown hK hP 7 rfl rfl 63 (by decide) (hT _ kw_12_14) (fun _ h9 => h9) (fh_at hf 15 rfl) dX8_keep_108 ?_
  refine va_put (D := G) (ci := 8) (v := .long dr) (ty := .long) (C := RX8) (T := TX8) (N := 91) hx hb hT ku_8 tyX8 tyX8_ok nmX8 hown hK hP hD hS 7 rfl rfl 90 (by decide) (hT _ kw_59_10) (fun _ h9 => h9) rfl (by decide +kernel) rfl rfl (fh_lt hf (by decide)) dX8_keep_111 (fun H locs hP hD hS => ?_)
  have hP : va_P G vwCl [(m52, .inl (cA 0, 20, .inl mf52)), (m86, .inl (cA 0, 10, .inl f137)), (m58, .inl (cA 0, 12, .inl mf58)), (m59, .inl (cA 0, 12, .inl mf59)), (m87, .inl (cA 0, 12, .inl f168)), (m60, .inl (cA 0, 2, .inl mf60)), (m61, .inl (cA 0, 2, .inl mf61)), (h0, .inr (8, (fs172.set 90 (.long dr)))), (m54, .inl (cA 0, 100, .inl mf54)), (m55, .inl (cA 0, 10, .inl mf55)), (m57, .inl (cA 0, 12, .inl mf57)), (m85, .inl (cA 0, 61, .inl u105))] H := hP
  have hD : va_D A [(m52, .inl (cA 0, 20, .inl mf52)), (m86, .inl (cA 0, 10, .inl f137)), (m58, .inl (cA 0, 12, .inl mf58)), (m59, .inl (cA 0, 12, .inl mf59)), (m87, .inl (cA 0, 12, .inl f168)), (m60, .inl (cA 0, 2, .inl mf60)), (m61, .inl (cA 0, 2, .inl mf61)), (h0, .inr (8, (fs172.set 90 (.long dr)))), (m54, .inl (cA 0, 100, .inl mf54)), (m55, .inl (cA 0, 10, .inl mf55)), (m57, .inl (cA 0, 12, .inl mf57)), (m85, .inl (cA 0, 61, .inl u105))] := hD
  have hf := fh_set (l' := [(90, .long dr), (89, .int 0), (88, .int 0), (84, .int 1), (2, .int 0), (54, .ref m54), (55, .ref m55), (57, .ref m57), (85, .ref m85), (52, .ref m52), (86, .ref m86), (58, .ref m58), (59, .ref m59), (87, .ref m87), (60, .ref m60), (61, .ref m61), (63, .long dr)]) hf 90 (.long dr) (by decide) rfl
  have ho175 := fo_set ho173 90 (.long dr)
  generalize (fs172.set 90 (.long dr)) = fs174 at hP hD hf ho175
  refine lv_aload_n hx hb dX8_keep_114 rfl (lv_at hl 1 rfl) ?_
  refine va_get (D := G) (ci := 8) (v := .ref m61) (C := RX8) (T := TX8) (N := 91) hx hb hT ku_8 hown hK hP 7 rfl rfl 61 (by decide) (hT _ kw_10_22) (fun _ h9 => h9) (fh_at hf 15 rfl) dX8_keep_115 ?_
  refine lv_iconst (v := 0) hx hb dX8_keep_118 (by decide) ?_
  refine va_iald (i := 0) hx hb hK hP 6 0 rfl rfl (tq_in (by decide)) dX8_keep_119 ?_
  refine tq_i (w := 0) he61_0 ?_
  have hP9 : va_P G vwCl [] H := fun k q h => by simp at h
  have hD9 : va_D A [] := ⟨fun i j p q h => by simp at h, fun k q h => by simp at h⟩
  exact W.iret (v := 0) hx hb hr (fun t ht hW => ⟨⟨0, (), rfl, rfl, by rw [ht]; exact hP9, hD9⟩, hS.F ht⟩) hS.2.2 dX8_keep_120
