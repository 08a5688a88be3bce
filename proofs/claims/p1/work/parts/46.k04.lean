set_option maxHeartbeats 4000000 in
set_option maxRecDepth 100000 in
theorem c_X8_falls (l : Launch) (G : va_G) (cA : Nat → ClassId) (sz : Nat) (h0 : Nat) (fs : List Value) (m52 : Nat) (m53 : Nat) (m54 : Nat) (m55 : Nat) (m56 : Nat) (m57 : Nat) (m58 : Nat) (m59 : Nat) (m22 : Nat) (m60 : Nat) (m61 : Nat) (m62 : Nat) (m71 : Nat) (mf52 : Nat → Int32) (mf53 : Nat → Int32) (mf54 : Nat → Int32) (mf55 : Nat → Int32) (mf56 : Nat → Int32) (mf57 : Nat → Int32) (mf58 : Nat → Int32) (mf59 : Nat → Int32) (mf22 : Nat → Int32) (mf60 : Nat → Int32) (mf61 : Nat → Int32) (mf62 : Nat → Int32) (mf71 : Nat → Int32) (hf : fh fs 91 [(52, .ref m52), (53, .ref m53), (54, .ref m54), (55, .ref m55), (56, .ref m56), (57, .ref m57), (58, .ref m58), (59, .ref m59), (22, .ref m22), (60, .ref m60), (61, .ref m61), (62, .ref m62), (71, .ref m71), (12, .int 0), (13, .int 0), (14, .int 0)]) (he60_0 : mf60 0 = 0) (he61_0 : mf61 0 = 0) : Met l yX8_falls (.code yX8_falls cX8_falls 3 (some .int) :: T0) ({ frames := 2, cells := 0, slots := 0, locals := 46 }) (tqP G cA [.ref h0] [(h0, .inr (8, fs)), (m52, .inl (cA 0, 20, .inl mf52)), (m53, .inl (cA 0, 20, .inl mf53)), (m54, .inl (cA 0, 100, .inl mf54)), (m55, .inl (cA 0, 10, .inl mf55)), (m56, .inl (cA 0, 12, .inl mf56)), (m57, .inl (cA 0, 12, .inl mf57)), (m58, .inl (cA 0, 12, .inl mf58)), (m59, .inl (cA 0, 12, .inl mf59)), (m22, .inl (cA 0, 6, .inl mf22)), (m60, .inl (cA 0, 2, .inl mf60)), (m61, .inl (cA 0, 2, .inl mf61)), (m62, .inl (cA 0, 2, .inl mf62)), (m71, .inl (cA 0, 10, .inl mf71))] sz) (tqQi G cA (fun (r : Int32) (u : Unit) => r = 0) (fun (u : Unit) => []) (va_A [(h0, .inr (8, fs)), (m52, .inl (cA 0, 20, .inl mf52)), (m53, .inl (cA 0, 20, .inl mf53)), (m54, .inl (cA 0, 100, .inl mf54)), (m55, .inl (cA 0, 10, .inl mf55)), (m56, .inl (cA 0, 12, .inl mf56)), (m57, .inl (cA 0, 12, .inl mf57)), (m58, .inl (cA 0, 12, .inl mf58)), (m59, .inl (cA 0, 12, .inl mf59)), (m22, .inl (cA 0, 6, .inl mf22)), (m60, .inl (cA 0, 2, .inl mf60)), (m61, .inl (cA 0, 2, .inl mf61)), (m62, .inl (cA 0, 2, .inl mf62)), (m71, .inl (cA 0, 10, .inl mf71))] sz)) 0 0 (va_A [(h0, .inr (8, fs)), (m52, .inl (cA 0, 20, .inl mf52)), (m53, .inl (cA 0, 20, .inl mf53)), (m54, .inl (cA 0, 100, .inl mf54)), (m55, .inl (cA 0, 10, .inl mf55)), (m56, .inl (cA 0, 12, .inl mf56)), (m57, .inl (cA 0, 12, .inl mf57)), (m58, .inl (cA 0, 12, .inl mf58)), (m59, .inl (cA 0, 12, .inl mf59)), (m22, .inl (cA 0, 6, .inl mf22)), (m60, .inl (cA 0, 2, .inl mf60)), (m61, .inl (cA 0, 2, .inl mf61)), (m62, .inl (cA 0, 2, .inl mf62)), (m71, .inl (cA 0, 10, .inl mf71))] sz) := by
  refine Met.ofW (cc := cX8_falls) (maxL := 3) (ret := (some .int)) (by decide) rfl ?_
  intro p e s m args below meth c s₁ B hml hv
  obtain ⟨rfl, hsz, hP, hK, hD0, hN⟩ := hv
  have hx := B.exec
  have hb := B.bytes
  have hr := B.returns
  have hts := atoms_spec (ws := .code yX8_falls cX8_falls 3 (some .int) :: T0) B.pre
  have hT : ∀ w ∈ T0, w.before _ s = true := fun w h => hts w (List.mem_cons_of_mem _ h)
  have hown : s.vm.findClass RX8 = some m.cls := findClass_of_methodNamed B.named
  have hlocks := B.notSynchronized
  subst hsz
  have hD := hD0.self (sz := s.heap.size)
  generalize hAe : va_A [(h0, .inr (8, fs)), (m52, .inl (cA 0, 20, .inl mf52)), (m53, .inl (cA 0, 20, .inl mf53)), (m54, .inl (cA 0, 100, .inl mf54)), (m55, .inl (cA 0, 10, .inl mf55)), (m56, .inl (cA 0, 12, .inl mf56)), (m57, .inl (cA 0, 12, .inl mf57)), (m58, .inl (cA 0, 12, .inl mf58)), (m59, .inl (cA 0, 12, .inl mf59)), (m22, .inl (cA 0, 6, .inl mf22)), (m60, .inl (cA 0, 2, .inl mf60)), (m61, .inl (cA 0, 2, .inl mf61)), (m62, .inl (cA 0, 2, .inl mf62)), (m71, .inl (cA 0, 10, .inl mf71))] s.heap.size = A at hD ⊢
  have hA : ∀ q : Nat, s.heap.size ≤ q → A q := fun q h => by rw [← hAe]; exact Or.inr h
  have hS : va_S A s.heap s.heap [] := va_S.rf
  have hl := lv_entry ([.ref h0]) (n := 3) (Nat.le_of_ble_eq_true rfl)
  rw [lg_entry_eq]
  generalize (lg_sl ([.ref h0]) ++ List.replicate (3 - (lg_sl ([.ref h0])).length) Slot.unset).toArray = ls at hl ⊢
  have hl : lv_has ls 3 [(0, .ref h0)] := hl
  obtain ⟨H, hH⟩ : ∃ z, z = s.heap := ⟨_, rfl⟩
  rw [← hH] at hP
  have hS : va_S A s.heap H [] := by rw [hH]; exact hS
  suffices hgo : W p l e _ s m _ below meth c H [] 0 0 _ _ by rw [hH] at hgo; exact hgo
  have hO := hN.2.2.2.2
  have ho_hf := fo_refl fs
  refine lv_aload_n hx hb dX8_falls_0 rfl (lv_at hl 0 rfl) ?_
  refine lv_iconst (v := 0) hx hb dX8_falls_1 (by decide) ?_
  refine va_put (D := G) (ci := 8) (v := .int 0) (ty := .int) (C := RX8) (T := TX8) (N := 91) hx hb hT ku_8 tyX8 tyX8_ok nmX8 hown hK hP hD hS 0 rfl rfl 2 (by decide) (hT _ kw_14_0) (fun _ h9 => h9) rfl (by decide +kernel) rfl rfl (fh_lt hf (by decide)) dX8_falls_2 (fun H locs hP hD hS => ?_)
  have hP : va_P G vwCl [(h0, .inr (8, (fs.set 2 (.int 0)))), (m52, .inl (cA 0, 20, .inl mf52)), (m53, .inl (cA 0, 20, .inl mf53)), (m54, .inl (cA 0, 100, .inl mf54)), (m55, .inl (cA 0, 10, .inl mf55)), (m56, .inl (cA 0, 12, .inl mf56)), (m57, .inl (cA 0, 12, .inl mf57)), (m58, .inl (cA 0, 12, .inl mf58)), (m59, .inl (cA 0, 12, .inl mf59)), (m22, .inl (cA 0, 6, .inl mf22)), (m60, .inl (cA 0, 2, .inl mf60)), (m61, .inl (cA 0, 2, .inl mf61)), (m62, .inl (cA 0, 2, .inl mf62)), (m71, .inl (cA 0, 10, .inl mf71))] H := hP
  have hD : va_D A [(h0, .inr (8, (fs.set 2 (.int 0)))), (m52, .inl (cA 0, 20, .inl mf52)), (m53, .inl (cA 0, 20, .inl mf53)), (m54, .inl (cA 0, 100, .inl mf54)), (m55, .inl (cA 0, 10, .inl mf55)), (m56, .inl (cA 0, 12, .inl mf56)), (m57, .inl (cA 0, 12, .inl mf57)), (m58, .inl (cA 0, 12, .inl mf58)), (m59, .inl (cA 0, 12, .inl mf59)), (m22, .inl (cA 0, 6, .inl mf22)), (m60, .inl (cA 0, 2, .inl mf60)), (m61, .inl (cA 0, 2, .inl mf61)), (m62, .inl (cA 0, 2, .inl mf62)), (m71, .inl (cA 0, 10, .inl mf71))] := hD
  have hf := fh_set (l' := [(2, .int 0), (52, .ref m52), (53, .ref m53), (54, .ref m54), (55, .ref m55), (56, .ref m56), (57, .ref m57), (58, .ref m58), (59, .ref m59), (22, .ref m22), (60, .ref m60), (61, .ref m61), (62, .ref m62), (71, .ref m71), (12, .int 0), (13, .int 0), (14, .int 0)]) hf 2 (.int 0) (by decide) rfl
  have ho102 := fo_set ho_hf 2 (.int 0)
  generalize (fs.set 2 (.int 0)) = fs101 at hP hD hf ho102
  refine lv_aload_n hx hb dX8_falls_5 rfl (lv_at hl 0 rfl) ?_
  refine va_get (D := G) (ci := 8) (v := .ref m61) (C := RX8) (T := TX8) (N := 91) hx hb hT ku_8 hown hK hP 0 rfl rfl 61 (by decide) (hT _ kw_10_22) (fun _ h9 => h9) (fh_at hf 11 rfl) dX8_falls_6 ?_
  refine lv_iconst (v := 0) hx hb dX8_falls_9 (by decide) ?_
  refine va_iald (i := 0) hx hb hK hP 11 0 rfl rfl (tq_in (by decide)) dX8_falls_10 ?_
  refine tq_i (w := 0) he61_0 ?_
  refine lv_bipush (v := 21) hx hb dX8_falls_11 (by decide) ?_
  refine lv_icmp_lt (tgt := 18) hx hb dX8_falls_13 (by decide) (fun c103 => ?_) (fun c103 => absurd (by decide) c103)
  refine lv_aload_n hx hb dX8_falls_18 rfl (lv_at hl 0 rfl) ?_
  refine tq_cv (wr := []) hP hD hS hA [0, 1, 2, 3, 4, 5, 6, 7, 8, 9, 10, 11, 12, 13] [] rfl rfl (by decide) (by decide) (va_runV (As := []) (rest := []) ⟨hx, hb, hml, hown, hT⟩ (c_X8_layTried l G cA H.size h0 fs101 m52 m53 m54 m55 m56 m57 m58 m59 m22 m60 m61 m62 m71 mf52 mf53 mf54 mf55 mf56 mf57 mf58 mf59 mf22 mf60 mf61 mf62 mf71 (fh_sub hf [1, 2, 3, 4, 5, 6, 7, 8, 9, 10, 11, 12, 13] rfl) he60_0 he61_0) (cwV 0 hT (tq_gV kw_39_9 kw_39_10 kw_39_11 kw_1_5 kw_39_12) rfl rfl rfl (by decide +kernel) ⟨Nat.le_of_ble_eq_true rfl, Nat.le_of_ble_eq_true rfl⟩) ⟨(tq_pre (isC := [0, 1, 2, 3, 4, 5, 6, 7, 8, 9, 10, 11, 12, 13]) hP hD hK hN rfl (by decide +kernel)).1, va_recv hK hP (ci := 8) (q0 := 0) rfl rfl, (tq_pre (isC := [0, 1, 2, 3, 4, 5, 6, 7, 8, 9, 10, 11, 12, 13]) hP hD hK hN rfl (by decide +kernel)).2⟩ rfl rfl hl.1 rfl (lv_room (Nat.le_of_ble_eq_true rfl)) dX8_falls_19 ⟨Nat.le_of_ble_eq_true rfl, Nat.le_of_ble_eq_true rfl⟩) (fun u104 H locs hw105 hP hD hS => ?_)
  refine W.widen (k := 0) (n := 0) (Nat.le_of_ble_eq_true rfl) (Nat.le_of_ble_eq_true rfl) ?_
  obtain ⟨g106, g107, g108, g109, g110, g111, g112, g113, g114, g115, g116, g117, g118⟩ := u104
  obtain ⟨ho119, hf120, hE121, hE122, hE123, hE124, hE125⟩ := hw105
  try dsimp only at hP hD ho119 hf120 hE121 hE122 hE123 hE124 hE125
  have hf120 := fh_app (fo_fh (l' := [(2, .int 0), (52, .ref m52), (53, .ref m53), (54, .ref m54), (55, .ref m55), (56, .ref m56), (57, .ref m57), (58, .ref m58), (59, .ref m59), (22, .ref m22), (60, .ref m60), (61, .ref m61), (62, .ref m62), (71, .ref m71), (12, .int 0), (13, .int 0), (14, .int 0)]) hf ho119 rfl) hf120
  have ho126 := fo_mono (k2 := [70, 69, 68, 67, 66, 65, 64, 2]) (fo_trans ho102 ho119) (by decide +kernel)
  have hf120 : fh g106 91 [(2, .int 0), (52, .ref m52), (53, .ref m53), (54, .ref m54), (55, .ref m55), (56, .ref m56), (57, .ref m57), (58, .ref m58), (59, .ref m59), (22, .ref m22), (60, .ref m60), (61, .ref m61), (62, .ref m62), (71, .ref m71), (12, .int 0), (13, .int 0), (14, .int 0), (70, .int 0), (69, .int 0), (68, .int 0), (67, .int 0), (66, .int 0), (65, .int 0)] := hf120
  have hP : va_P G vwCl [(h0, .inr (8, g106)), (m52, .inl (cA 0, 20, .inl g107)), (m53, .inl (cA 0, 20, .inl g108)), (m54, .inl (cA 0, 100, .inl g109)), (m55, .inl (cA 0, 10, .inl g110)), (m56, .inl (cA 0, 12, .inl g111)), (m57, .inl (cA 0, 12, .inl g112)), (m58, .inl (cA 0, 12, .inl g113)), (m59, .inl (cA 0, 12, .inl g114)), (m22, .inl (cA 0, 6, .inl mf22)), (m60, .inl (cA 0, 2, .inl g115)), (m61, .inl (cA 0, 2, .inl g116)), (m62, .inl (cA 0, 2, .inl g117)), (m71, .inl (cA 0, 10, .inl g118))] H := hP
  have hD : va_D A [(h0, .inr (8, g106)), (m52, .inl (cA 0, 20, .inl g107)), (m53, .inl (cA 0, 20, .inl g108)), (m54, .inl (cA 0, 100, .inl g109)), (m55, .inl (cA 0, 10, .inl g110)), (m56, .inl (cA 0, 12, .inl g111)), (m57, .inl (cA 0, 12, .inl g112)), (m58, .inl (cA 0, 12, .inl g113)), (m59, .inl (cA 0, 12, .inl g114)), (m22, .inl (cA 0, 6, .inl mf22)), (m60, .inl (cA 0, 2, .inl g115)), (m61, .inl (cA 0, 2, .inl g116)), (m62, .inl (cA 0, 2, .inl g117)), (m71, .inl (cA 0, 10, .inl g118))] := hD
  refine lv_aload_n hx hb dX8_falls_22 rfl (lv_at hl 0 rfl) ?_
  refine lv_iconst (v := 1) hx hb dX8_falls_23 (by decide) ?_
  refine tq_cv (wr := [(m52, .inl (cA 0, 20, .inl g107)), (m53, .inl (cA 0, 20, .inl g108)), (m54, .inl (cA 0, 100, .inl g109)), (m55, .inl (cA 0, 10, .inl g110)), (m56, .inl (cA 0, 12, .inl g111)), (m57, .inl (cA 0, 12, .inl g112)), (m58, .inl (cA 0, 12, .inl g113)), (m59, .inl (cA 0, 12, .inl g114)), (m22, .inl (cA 0, 6, .inl mf22)), (m60, .inl (cA 0, 2, .inl g115)), (m62, .inl (cA 0, 2, .inl g117)), (m71, .inl (cA 0, 10, .inl g118))]) hP hD hS hA [0, 11] [1, 2, 3, 4, 5, 6, 7, 8, 9, 10, 12, 13] rfl rfl (by decide +kernel) (by decide) (va_runV (As := [.int 1]) (rest := []) ⟨hx, hb, hml, hown, hT⟩ (c_X8_goOn_1_0 l G cA H.size h0 g106 m61 g116 (fh_sub hf120 [11, 14, 15, 16] rfl) hE123 hE124) (cwV 1 hT (tq_gV kw_43_18 kw_43_19 kw_43_20 kw_1_5 kw_43_21) rfl rfl rfl (by decide +kernel) ⟨Nat.le_of_ble_eq_true rfl, Nat.le_of_ble_eq_true rfl⟩) ⟨(tq_pre (isC := [0, 11]) hP hD hK hN rfl (by decide)).1, va_recv hK hP (ci := 8) (q0 := 0) rfl rfl, (tq_pre (isC := [0, 11]) hP hD hK hN rfl (by decide)).2⟩ rfl rfl hl.1 rfl (lv_room (Nat.le_of_ble_eq_true rfl)) dX8_falls_24 ⟨Nat.le_of_ble_eq_true rfl, Nat.le_of_ble_eq_true rfl⟩) (fun u127 H locs hw128 hP hD hS => ?_)
  refine W.widen (k := 0) (n := 0) (Nat.le_of_ble_eq_true rfl) (Nat.le_of_ble_eq_true rfl) ?_
  obtain ⟨g129, g130⟩ := u127
  obtain ⟨ho131, hf132, hE133, hE134⟩ := hw128
  try dsimp only at hP hD ho131 hf132 hE133 hE134
  have hf132 := fh_app (fo_fh (l' := [(2, .int 0), (52, .ref m52), (53, .ref m53), (54, .ref m54), (55, .ref m55), (56, .ref m56), (57, .ref m57), (58, .ref m58), (59, .ref m59), (22, .ref m22), (60, .ref m60), (61, .ref m61), (62, .ref m62), (71, .ref m71), (12, .int 0), (13, .int 0), (14, .int 0), (70, .int 0), (69, .int 0), (68, .int 0), (67, .int 0), (66, .int 0), (65, .int 0)]) hf120 ho131 rfl) hf132
  have ho135 := fo_mono (k2 := [72, 70, 69, 68, 67, 66, 65, 64, 2]) (fo_trans ho126 ho131) (by decide +kernel)
  have hf132 : fh g129 91 [(2, .int 0), (52, .ref m52), (53, .ref m53), (54, .ref m54), (55, .ref m55), (56, .ref m56), (57, .ref m57), (58, .ref m58), (59, .ref m59), (22, .ref m22), (60, .ref m60), (61, .ref m61), (62, .ref m62), (71, .ref m71), (12, .int 0), (13, .int 0), (14, .int 0), (70, .int 0), (69, .int 0), (68, .int 0), (67, .int 0), (66, .int 0), (65, .int 0), (72, .int 0)] := hf132
  have hP : va_P G vwCl [(m52, .inl (cA 0, 20, .inl g107)), (m53, .inl (cA 0, 20, .inl g108)), (m54, .inl (cA 0, 100, .inl g109)), (m55, .inl (cA 0, 10, .inl g110)), (m56, .inl (cA 0, 12, .inl g111)), (m57, .inl (cA 0, 12, .inl g112)), (m58, .inl (cA 0, 12, .inl g113)), (m59, .inl (cA 0, 12, .inl g114)), (m22, .inl (cA 0, 6, .inl mf22)), (m60, .inl (cA 0, 2, .inl g115)), (m62, .inl (cA 0, 2, .inl g117)), (m71, .inl (cA 0, 10, .inl g118)), (h0, .inr (8, g129)), (m61, .inl (cA 0, 2, .inl g130))] H := hP
  have hD : va_D A [(m52, .inl (cA 0, 20, .inl g107)), (m53, .inl (cA 0, 20, .inl g108)), (m54, .inl (cA 0, 100, .inl g109)), (m55, .inl (cA 0, 10, .inl g110)), (m56, .inl (cA 0, 12, .inl g111)), (m57, .inl (cA 0, 12, .inl g112)), (m58, .inl (cA 0, 12, .inl g113)), (m59, .inl (cA 0, 12, .inl g114)), (m22, .inl (cA 0, 6, .inl mf22)), (m60, .inl (cA 0, 2, .inl g115)), (m62, .inl (cA 0, 2, .inl g117)), (m71, .inl (cA 0, 10, .inl g118)), (h0, .inr (8, g129)), (m61, .inl (cA 0, 2, .inl g130))] := hD
  refine lv_iconst (v := 0) hx hb dX8_falls_27 (by decide) ?_
  refine lv_istore_n (lv' := [(1, .int 0), (0, .ref h0)]) hx hb dX8_falls_28 rfl hl (by decide) rfl (fun ls hl => ?_)
  refine lv_iconst (v := 0) hx hb dX8_falls_29 (by decide) ?_
  refine lv_istore_n (lv' := [(2, .int 0), (1, .int 0), (0, .ref h0)]) hx hb dX8_falls_30 rfl hl (by decide) rfl (fun ls hl => ?_)
  refine lv_iload_n hx hb dX8_falls_31 rfl (lv_at hl 0 rfl) ?_
  refine lv_aload_n hx hb dX8_falls_32 rfl (lv_at hl 2 rfl) ?_
  refine va_get (D := G) (ci := 8) (v := .int 0) (C := RX8) (T := TX8) (N := 91) hx hb hT ku_8 hown hK hP 12 rfl rfl 14 (by decide) (hT _ kw_12_5) (fun _ h9 => h9) (fh_at hf132 16 rfl) dX8_falls_33 ?_
  refine lv_icmp_ge (tgt := 78) hx hb dX8_falls_36 (by decide) (fun c136 => ?_) (fun c136 => absurd (by decide) c136)
  refine lv_iload_n hx hb dX8_falls_78 rfl (lv_at hl 1 rfl) ?_
  have hP9 : va_P G vwCl [] H := fun k q h => by simp at h
  have hD9 : va_D A [] := ⟨fun i j p q h => by simp at h, fun k q h => by simp at h⟩
  exact W.iret (v := 0) hx hb hr (fun t ht hW => ⟨⟨0, (), rfl, rfl, by rw [ht]; exact hP9, hD9⟩, hS.F ht⟩) hS.2.2 dX8_falls_79
