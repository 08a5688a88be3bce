set_option maxHeartbeats 4000000 in
set_option maxRecDepth 100000 in
theorem c_X8_asking (l : Launch) (G : va_G) (cA : Nat → ClassId) (sz : Nat) (h0 : Nat) (fs : List Value) (m52 : Nat) (m53 : Nat) (m54 : Nat) (m55 : Nat) (m56 : Nat) (m57 : Nat) (m58 : Nat) (m59 : Nat) (m22 : Nat) (m60 : Nat) (m61 : Nat) (m62 : Nat) (m71 : Nat) (mf52 : Nat → Int32) (mf53 : Nat → Int32) (mf54 : Nat → Int32) (mf55 : Nat → Int32) (mf56 : Nat → Int32) (mf57 : Nat → Int32) (mf58 : Nat → Int32) (mf59 : Nat → Int32) (mf22 : Nat → Int32) (mf60 : Nat → Int32) (mf61 : Nat → Int32) (mf62 : Nat → Int32) (mf71 : Nat → Int32) (hf : fh fs 91 [(52, .ref m52), (53, .ref m53), (54, .ref m54), (55, .ref m55), (56, .ref m56), (57, .ref m57), (58, .ref m58), (59, .ref m59), (22, .ref m22), (60, .ref m60), (61, .ref m61), (62, .ref m62), (71, .ref m71), (12, .int 0), (13, .int 0), (14, .int 0)]) (he60_0 : mf60 0 = 0) (he61_0 : mf61 0 = 0) : Met l yX8_asking (.code yX8_asking cX8_asking 4 (some .int) :: T0) ({ frames := 4, cells := 0, slots := 0, locals := 87 }) (tqP G cA [.ref h0] [(h0, .inr (8, fs)), (m52, .inl (cA 0, 20, .inl mf52)), (m53, .inl (cA 0, 20, .inl mf53)), (m54, .inl (cA 0, 100, .inl mf54)), (m55, .inl (cA 0, 10, .inl mf55)), (m56, .inl (cA 0, 12, .inl mf56)), (m57, .inl (cA 0, 12, .inl mf57)), (m58, .inl (cA 0, 12, .inl mf58)), (m59, .inl (cA 0, 12, .inl mf59)), (m22, .inl (cA 0, 6, .inl mf22)), (m60, .inl (cA 0, 2, .inl mf60)), (m61, .inl (cA 0, 2, .inl mf61)), (m62, .inl (cA 0, 2, .inl mf62)), (m71, .inl (cA 0, 10, .inl mf71))] sz) (tqQi G cA (fun (r : Int32) (u : Unit) => r = 0) (fun (u : Unit) => []) (va_A [(h0, .inr (8, fs)), (m52, .inl (cA 0, 20, .inl mf52)), (m53, .inl (cA 0, 20, .inl mf53)), (m54, .inl (cA 0, 100, .inl mf54)), (m55, .inl (cA 0, 10, .inl mf55)), (m56, .inl (cA 0, 12, .inl mf56)), (m57, .inl (cA 0, 12, .inl mf57)), (m58, .inl (cA 0, 12, .inl mf58)), (m59, .inl (cA 0, 12, .inl mf59)), (m22, .inl (cA 0, 6, .inl mf22)), (m60, .inl (cA 0, 2, .inl mf60)), (m61, .inl (cA 0, 2, .inl mf61)), (m62, .inl (cA 0, 2, .inl mf62)), (m71, .inl (cA 0, 10, .inl mf71))] sz)) 0 0 (va_A [(h0, .inr (8, fs)), (m52, .inl (cA 0, 20, .inl mf52)), (m53, .inl (cA 0, 20, .inl mf53)), (m54, .inl (cA 0, 100, .inl mf54)), (m55, .inl (cA 0, 10, .inl mf55)), (m56, .inl (cA 0, 12, .inl mf56)), (m57, .inl (cA 0, 12, .inl mf57)), (m58, .inl (cA 0, 12, .inl mf58)), (m59, .inl (cA 0, 12, .inl mf59)), (m22, .inl (cA 0, 6, .inl mf22)), (m60, .inl (cA 0, 2, .inl mf60)), (m61, .inl (cA 0, 2, .inl mf61)), (m62, .inl (cA 0, 2, .inl mf62)), (m71, .inl (cA 0, 10, .inl mf71))] sz) := by
  refine Met.ofW (cc := cX8_asking) (maxL := 4) (ret := (some .int)) (by decide) rfl ?_
  intro p e s m args below meth c s₁ B hml hv
  obtain ⟨rfl, hsz, hP, hK, hD0, hN⟩ := hv
  have hx := B.exec
  have hb := B.bytes
  have hr := B.returns
  have hts := atoms_spec (ws := .code yX8_asking cX8_asking 4 (some .int) :: T0) B.pre
  have hT : ∀ w ∈ T0, w.before _ s = true := fun w h => hts w (List.mem_cons_of_mem _ h)
  have hown : s.vm.findClass RX8 = some m.cls := findClass_of_methodNamed B.named
  have hlocks := B.notSynchronized
  subst hsz
  have hD := hD0.self (sz := s.heap.size)
  generalize hAe : va_A [(h0, .inr (8, fs)), (m52, .inl (cA 0, 20, .inl mf52)), (m53, .inl (cA 0, 20, .inl mf53)), (m54, .inl (cA 0, 100, .inl mf54)), (m55, .inl (cA 0, 10, .inl mf55)), (m56, .inl (cA 0, 12, .inl mf56)), (m57, .inl (cA 0, 12, .inl mf57)), (m58, .inl (cA 0, 12, .inl mf58)), (m59, .inl (cA 0, 12, .inl mf59)), (m22, .inl (cA 0, 6, .inl mf22)), (m60, .inl (cA 0, 2, .inl mf60)), (m61, .inl (cA 0, 2, .inl mf61)), (m62, .inl (cA 0, 2, .inl mf62)), (m71, .inl (cA 0, 10, .inl mf71))] s.heap.size = A at hD ⊢
  have hA : ∀ q : Nat, s.heap.size ≤ q → A q := fun q h => by rw [← hAe]; exact Or.inr h
  have hS : va_S A s.heap s.heap [] := va_S.rf
  have hl := lv_entry ([.ref h0]) (n := 4) (Nat.le_of_ble_eq_true rfl)
  rw [lg_entry_eq]
  generalize (lg_sl ([.ref h0]) ++ List.replicate (4 - (lg_sl ([.ref h0])).length) Slot.unset).toArray = ls at hl ⊢
  have hl : lv_has ls 4 [(0, .ref h0)] := hl
  obtain ⟨H, hH⟩ : ∃ z, z = s.heap := ⟨_, rfl⟩
  rw [← hH] at hP
  have hS : va_S A s.heap H [] := by rw [hH]; exact hS
  suffices hgo : W p l e _ s m _ below meth c H [] 0 0 _ _ by rw [hH] at hgo; exact hgo
  have hO := hN.2.2.2.2
  have ho_hf := fo_refl fs
  refine lv_aload_n hx hb dX8_asking_0 rfl (lv_at hl 0 rfl) ?_
  refine lv_iconst (v := 0) hx hb dX8_asking_1 (by decide) ?_
  refine va_put (D := G) (ci := 8) (v := .int 0) (ty := .int) (C := RX8) (T := TX8) (N := 91) hx hb hT ku_8 tyX8 tyX8_ok nmX8 hown hK hP hD hS 0 rfl rfl 2 (by decide) (hT _ kw_14_0) (fun _ h9 => h9) rfl (by decide +kernel) rfl rfl (fh_lt hf (by decide)) dX8_asking_2 (fun H locs hP hD hS => ?_)
  have hP : va_P G vwCl [(h0, .inr (8, (fs.set 2 (.int 0)))), (m52, .inl (cA 0, 20, .inl mf52)), (m53, .inl (cA 0, 20, .inl mf53)), (m54, .inl (cA 0, 100, .inl mf54)), (m55, .inl (cA 0, 10, .inl mf55)), (m56, .inl (cA 0, 12, .inl mf56)), (m57, .inl (cA 0, 12, .inl mf57)), (m58, .inl (cA 0, 12, .inl mf58)), (m59, .inl (cA 0, 12, .inl mf59)), (m22, .inl (cA 0, 6, .inl mf22)), (m60, .inl (cA 0, 2, .inl mf60)), (m61, .inl (cA 0, 2, .inl mf61)), (m62, .inl (cA 0, 2, .inl mf62)), (m71, .inl (cA 0, 10, .inl mf71))] H := hP
  have hD : va_D A [(h0, .inr (8, (fs.set 2 (.int 0)))), (m52, .inl (cA 0, 20, .inl mf52)), (m53, .inl (cA 0, 20, .inl mf53)), (m54, .inl (cA 0, 100, .inl mf54)), (m55, .inl (cA 0, 10, .inl mf55)), (m56, .inl (cA 0, 12, .inl mf56)), (m57, .inl (cA 0, 12, .inl mf57)), (m58, .inl (cA 0, 12, .inl mf58)), (m59, .inl (cA 0, 12, .inl mf59)), (m22, .inl (cA 0, 6, .inl mf22)), (m60, .inl (cA 0, 2, .inl mf60)), (m61, .inl (cA 0, 2, .inl mf61)), (m62, .inl (cA 0, 2, .inl mf62)), (m71, .inl (cA 0, 10, .inl mf71))] := hD
  have hf := fh_set (l' := [(2, .int 0), (52, .ref m52), (53, .ref m53), (54, .ref m54), (55, .ref m55), (56, .ref m56), (57, .ref m57), (58, .ref m58), (59, .ref m59), (22, .ref m22), (60, .ref m60), (61, .ref m61), (62, .ref m62), (71, .ref m71), (12, .int 0), (13, .int 0), (14, .int 0)]) hf 2 (.int 0) (by decide) rfl
  have ho102 := fo_set ho_hf 2 (.int 0)
  generalize (fs.set 2 (.int 0)) = fs101 at hP hD hf ho102
  refine lv_aload_n hx hb dX8_asking_5 rfl (lv_at hl 0 rfl) ?_
  refine lv_aload_n hx hb dX8_asking_6 rfl (lv_at hl 0 rfl) ?_
  refine va_get (D := G) (ci := 8) (v := .ref m22) (C := RX8) (T := TX8) (N := 91) hx hb hT ku_8 hown hK hP 0 rfl rfl 22 (by decide) (hT _ kw_9_14) (fun _ h9 => h9) (fh_at hf 9 rfl) dX8_asking_7 ?_
  refine lv_iconst (v := 0) hx hb dX8_asking_10 (by decide) ?_
  refine va_iald (i := 0) hx hb hK hP 9 0 rfl rfl (tq_in (by decide)) dX8_asking_11 ?_
  refine lv_topi (fun x103 ex103 => ?_)
  refine tq_ci (wr := []) hP hD hS hA [0, 1, 2, 3, 4, 5, 6, 7, 8, 9, 10, 11, 12, 13] [] rfl rfl (by decide) (by decide) (va_runV (As := [.int x103]) (rest := []) ⟨hx, hb, hml, hown, hT⟩ (c_X8_liftsBy l G cA H.size h0 x103 fs101 m52 m53 m54 m55 m56 m57 m58 m59 m22 m60 m61 m62 m71 mf52 mf53 mf54 mf55 mf56 mf57 mf58 mf59 mf22 mf60 mf61 mf62 mf71 (fh_sub hf [1, 2, 3, 4, 5, 6, 7, 8, 9, 10, 11, 12, 13, 14, 15, 16] rfl) he60_0 he61_0) (cwV 1 hT (tq_gV kw_51_22 kw_51_23 kw_52_0 kw_1_5 kw_52_1) rfl rfl rfl (by decide +kernel) ⟨Nat.le_of_ble_eq_true rfl, Nat.le_of_ble_eq_true rfl⟩) ⟨(tq_pre (isC := [0, 1, 2, 3, 4, 5, 6, 7, 8, 9, 10, 11, 12, 13]) hP hD hK hN rfl (by decide +kernel)).1, va_recv hK hP (ci := 8) (q0 := 0) rfl rfl, (tq_pre (isC := [0, 1, 2, 3, 4, 5, 6, 7, 8, 9, 10, 11, 12, 13]) hP hD hK hN rfl (by decide +kernel)).2⟩ rfl rfl hl.1 rfl (lv_room (Nat.le_of_ble_eq_true rfl)) dX8_asking_12 ⟨Nat.le_of_ble_eq_true rfl, Nat.le_of_ble_eq_true rfl⟩) (fun r104 u105 H locs hw106 hP hD hS => ?_)
  refine W.widen (k := 0) (n := 0) (Nat.le_of_ble_eq_true rfl) (Nat.le_of_ble_eq_true rfl) ?_
  obtain ⟨g107, g108, g109, g110, g111, g112, g113, g114, g115, g116, g117, g118, g119⟩ := u105
  obtain ⟨hr120, ho121, hf122, hE123, hE124, hE125, hE126, hE127⟩ := hw106
  try dsimp only at hP hD ho121 hf122 hE123 hE124 hE125 hE126 hE127
  subst hr120
  have hf122 := fh_app (fo_fh (l' := [(2, .int 0), (52, .ref m52), (53, .ref m53), (54, .ref m54), (55, .ref m55), (56, .ref m56), (57, .ref m57), (58, .ref m58), (59, .ref m59), (22, .ref m22), (60, .ref m60), (61, .ref m61), (62, .ref m62), (71, .ref m71), (12, .int 0), (13, .int 0), (14, .int 0)]) hf ho121 rfl) hf122
  have ho128 := fo_mono (k2 := [72, 70, 69, 68, 67, 66, 65, 64, 2]) (fo_trans ho102 ho121) (by decide +kernel)
  have hf122 : fh g107 91 [(2, .int 0), (52, .ref m52), (53, .ref m53), (54, .ref m54), (55, .ref m55), (56, .ref m56), (57, .ref m57), (58, .ref m58), (59, .ref m59), (22, .ref m22), (60, .ref m60), (61, .ref m61), (62, .ref m62), (71, .ref m71), (12, .int 0), (13, .int 0), (14, .int 0), (72, .int 0), (70, .int 0), (69, .int 0), (68, .int 0), (67, .int 0), (66, .int 0), (65, .int 0), (64, .int x103)] := hf122
  have hP : va_P G vwCl [(h0, .inr (8, g107)), (m52, .inl (cA 0, 20, .inl g108)), (m53, .inl (cA 0, 20, .inl g109)), (m54, .inl (cA 0, 100, .inl g110)), (m55, .inl (cA 0, 10, .inl g111)), (m56, .inl (cA 0, 12, .inl g112)), (m57, .inl (cA 0, 12, .inl g113)), (m58, .inl (cA 0, 12, .inl g114)), (m59, .inl (cA 0, 12, .inl g115)), (m22, .inl (cA 0, 6, .inl mf22)), (m60, .inl (cA 0, 2, .inl g116)), (m61, .inl (cA 0, 2, .inl g117)), (m62, .inl (cA 0, 2, .inl g118)), (m71, .inl (cA 0, 10, .inl g119))] H := hP
  have hD : va_D A [(h0, .inr (8, g107)), (m52, .inl (cA 0, 20, .inl g108)), (m53, .inl (cA 0, 20, .inl g109)), (m54, .inl (cA 0, 100, .inl g110)), (m55, .inl (cA 0, 10, .inl g111)), (m56, .inl (cA 0, 12, .inl g112)), (m57, .inl (cA 0, 12, .inl g113)), (m58, .inl (cA 0, 12, .inl g114)), (m59, .inl (cA 0, 12, .inl g115)), (m22, .inl (cA 0, 6, .inl mf22)), (m60, .inl (cA 0, 2, .inl g116)), (m61, .inl (cA 0, 2, .inl g117)), (m62, .inl (cA 0, 2, .inl g118)), (m71, .inl (cA 0, 10, .inl g119))] := hD
  refine lv_istore_n (lv' := [(1, .int 0), (0, .ref h0)]) hx hb dX8_asking_15 rfl hl (by decide) rfl (fun ls hl => ?_)
  refine lv_aload_n hx hb dX8_asking_16 rfl (lv_at hl 1 rfl) ?_
  refine tq_cv (wr := []) hP hD hS hA [0, 1, 2, 3, 4, 5, 6, 7, 8, 9, 10, 11, 12, 13] [] rfl rfl (by decide) (by decide) (va_runV (As := []) (rest := []) ⟨hx, hb, hml, hown, hT⟩ (c_X8_layTried l G cA H.size h0 g107 m52 m53 m54 m55 m56 m57 m58 m59 m22 m60 m61 m62 m71 g108 g109 g110 g111 g112 g113 g114 g115 mf22 g116 g117 g118 g119 (fh_sub hf122 [1, 2, 3, 4, 5, 6, 7, 8, 9, 10, 11, 12, 13] rfl) hE123 hE125) (cwV 0 hT (tq_gV kw_39_9 kw_39_10 kw_39_11 kw_1_5 kw_39_12) rfl rfl rfl (by decide +kernel) ⟨Nat.le_of_ble_eq_true rfl, Nat.le_of_ble_eq_true rfl⟩) ⟨(tq_pre (isC := [0, 1, 2, 3, 4, 5, 6, 7, 8, 9, 10, 11, 12, 13]) hP hD hK hN rfl (by decide +kernel)).1, va_recv hK hP (ci := 8) (q0 := 0) rfl rfl, (tq_pre (isC := [0, 1, 2, 3, 4, 5, 6, 7, 8, 9, 10, 11, 12, 13]) hP hD hK hN rfl (by decide +kernel)).2⟩ rfl rfl hl.1 rfl (lv_room (Nat.le_of_ble_eq_true rfl)) dX8_asking_17 ⟨Nat.le_of_ble_eq_true rfl, Nat.le_of_ble_eq_true rfl⟩) (fun u129 H locs hw130 hP hD hS => ?_)
  refine W.widen (k := 0) (n := 0) (Nat.le_of_ble_eq_true rfl) (Nat.le_of_ble_eq_true rfl) ?_
  obtain ⟨g131, g132, g133, g134, g135, g136, g137, g138, g139, g140, g141, g142, g143⟩ := u129
  obtain ⟨ho144, hf145, hE146, hE147, hE148, hE149, hE150⟩ := hw130
  try dsimp only at hP hD ho144 hf145 hE146 hE147 hE148 hE149 hE150
  have hf145 := fh_app (fo_fh (l' := [(2, .int 0), (52, .ref m52), (53, .ref m53), (54, .ref m54), (55, .ref m55), (56, .ref m56), (57, .ref m57), (58, .ref m58), (59, .ref m59), (22, .ref m22), (60, .ref m60), (61, .ref m61), (62, .ref m62), (71, .ref m71), (12, .int 0), (13, .int 0), (14, .int 0), (72, .int 0)]) hf122 ho144 rfl) hf145
  have ho151 := fo_mono (k2 := [70, 69, 68, 67, 66, 65, 64, 72, 2]) (fo_trans ho128 ho144) (by decide +kernel)
  have hf145 : fh g131 91 [(2, .int 0), (52, .ref m52), (53, .ref m53), (54, .ref m54), (55, .ref m55), (56, .ref m56), (57, .ref m57), (58, .ref m58), (59, .ref m59), (22, .ref m22), (60, .ref m60), (61, .ref m61), (62, .ref m62), (71, .ref m71), (12, .int 0), (13, .int 0), (14, .int 0), (72, .int 0), (70, .int 0), (69, .int 0), (68, .int 0), (67, .int 0), (66, .int 0), (65, .int 0)] := hf145
  have hP : va_P G vwCl [(h0, .inr (8, g131)), (m52, .inl (cA 0, 20, .inl g132)), (m53, .inl (cA 0, 20, .inl g133)), (m54, .inl (cA 0, 100, .inl g134)), (m55, .inl (cA 0, 10, .inl g135)), (m56, .inl (cA 0, 12, .inl g136)), (m57, .inl (cA 0, 12, .inl g137)), (m58, .inl (cA 0, 12, .inl g138)), (m59, .inl (cA 0, 12, .inl g139)), (m22, .inl (cA 0, 6, .inl mf22)), (m60, .inl (cA 0, 2, .inl g140)), (m61, .inl (cA 0, 2, .inl g141)), (m62, .inl (cA 0, 2, .inl g142)), (m71, .inl (cA 0, 10, .inl g143))] H := hP
  have hD : va_D A [(h0, .inr (8, g131)), (m52, .inl (cA 0, 20, .inl g132)), (m53, .inl (cA 0, 20, .inl g133)), (m54, .inl (cA 0, 100, .inl g134)), (m55, .inl (cA 0, 10, .inl g135)), (m56, .inl (cA 0, 12, .inl g136)), (m57, .inl (cA 0, 12, .inl g137)), (m58, .inl (cA 0, 12, .inl g138)), (m59, .inl (cA 0, 12, .inl g139)), (m22, .inl (cA 0, 6, .inl mf22)), (m60, .inl (cA 0, 2, .inl g140)), (m61, .inl (cA 0, 2, .inl g141)), (m62, .inl (cA 0, 2, .inl g142)), (m71, .inl (cA 0, 10, .inl g143))] := hD
  refine lv_aload_n hx hb dX8_asking_20 rfl (lv_at hl 1 rfl) ?_
  refine va_get (D := G) (ci := 8) (v := .ref m61) (C := RX8) (T := TX8) (N := 91) hx hb hT ku_8 hown hK hP 0 rfl rfl 61 (by decide) (hT _ kw_10_22) (fun _ h9 => h9) (fh_at hf145 11 rfl) dX8_asking_21 ?_
  refine lv_iconst (v := 1) hx hb dX8_asking_24 (by decide) ?_
  refine va_iald (i := 1) hx hb hK hP 11 0 rfl rfl (tq_in (by decide)) dX8_asking_25 ?_
  refine tq_i (w := 0) hE149 ?_
  refine lv_bipush (v := 21) hx hb dX8_asking_26 (by decide) ?_
  refine lv_icmp_ge (tgt := 76) hx hb dX8_asking_28 (by decide) (fun c152 => absurd c152 (by decide)) (fun c152 => ?_)
  refine lv_iconst (v := 0) hx hb dX8_asking_31 (by decide) ?_
  refine lv_istore_n (lv' := [(2, .int 0), (1, .int 0), (0, .ref h0)]) hx hb dX8_asking_32 rfl hl (by decide) rfl (fun ls hl => ?_)
  refine lv_iload_n hx hb dX8_asking_33 rfl (lv_at hl 0 rfl) ?_
  refine lv_aload_n hx hb dX8_asking_34 rfl (lv_at hl 2 rfl) ?_
  refine va_get (D := G) (ci := 8) (v := .int 0) (C := RX8) (T := TX8) (N := 91) hx hb hT ku_8 hown hK hP 0 rfl rfl 12 (by decide) (hT _ kw_12_3) (fun _ h9 => h9) (fh_at hf145 14 rfl) dX8_asking_35 ?_
  refine lv_icmp_ge (tgt := 68) hx hb dX8_asking_38 (by decide) (fun c153 => ?_) (fun c153 => absurd (by decide) c153)
  refine lv_aload_n hx hb dX8_asking_68 rfl (lv_at hl 2 rfl) ?_
  refine lv_iconst (v := 1) hx hb dX8_asking_69 (by decide) ?_
  refine tq_cv (wr := [(m52, .inl (cA 0, 20, .inl g132)), (m53, .inl (cA 0, 20, .inl g133)), (m54, .inl (cA 0, 100, .inl g134)), (m55, .inl (cA 0, 10, .inl g135)), (m56, .inl (cA 0, 12, .inl g136)), (m57, .inl (cA 0, 12, .inl g137)), (m58, .inl (cA 0, 12, .inl g138)), (m59, .inl (cA 0, 12, .inl g139)), (m22, .inl (cA 0, 6, .inl mf22)), (m60, .inl (cA 0, 2, .inl g140)), (m62, .inl (cA 0, 2, .inl g142)), (m71, .inl (cA 0, 10, .inl g143))]) hP hD hS hA [0, 11] [1, 2, 3, 4, 5, 6, 7, 8, 9, 10, 12, 13] rfl rfl (by decide +kernel) (by decide) (va_runV (As := [.int 1]) (rest := []) ⟨hx, hb, hml, hown, hT⟩ (c_X8_goOn_1_0 l G cA H.size h0 g131 m61 g141 (fh_sub hf145 [11, 14, 15, 16] rfl) hE148 hE149) (cwV 1 hT (tq_gV kw_43_18 kw_43_19 kw_43_20 kw_1_5 kw_43_21) rfl rfl rfl (by decide +kernel) ⟨Nat.le_of_ble_eq_true rfl, Nat.le_of_ble_eq_true rfl⟩) ⟨(tq_pre (isC := [0, 11]) hP hD hK hN rfl (by decide)).1, va_recv hK hP (ci := 8) (q0 := 0) rfl rfl, (tq_pre (isC := [0, 11]) hP hD hK hN rfl (by decide)).2⟩ rfl rfl hl.1 rfl (lv_room (Nat.le_of_ble_eq_true rfl)) dX8_asking_70 ⟨Nat.le_of_ble_eq_true rfl, Nat.le_of_ble_eq_true rfl⟩) (fun u154 H locs hw155 hP hD hS => ?_)
  refine W.widen (k := 0) (n := 0) (Nat.le_of_ble_eq_true rfl) (Nat.le_of_ble_eq_true rfl) ?_
  obtain ⟨g156, g157⟩ := u154
  obtain ⟨ho158, hf159, hE160, hE161⟩ := hw155
  try dsimp only at hP hD ho158 hf159 hE160 hE161
  have hf159 := fh_app (fo_fh (l' := [(2, .int 0), (52, .ref m52), (53, .ref m53), (54, .ref m54), (55, .ref m55), (56, .ref m56), (57, .ref m57), (58, .ref m58), (59, .ref m59), (22, .ref m22), (60, .ref m60), (61, .ref m61), (62, .ref m62), (71, .ref m71), (12, .int 0), (13, .int 0), (14, .int 0), (70, .int 0), (69, .int 0), (68, .int 0), (67, .int 0), (66, .int 0), (65, .int 0)]) hf145 ho158 rfl) hf159
  have ho162 := fo_mono (k2 := [72, 70, 69, 68, 67, 66, 65, 64, 2]) (fo_trans ho151 ho158) (by decide +kernel)
  have hf159 : fh g156 91 [(2, .int 0), (52, .ref m52), (53, .ref m53), (54, .ref m54), (55, .ref m55), (56, .ref m56), (57, .ref m57), (58, .ref m58), (59, .ref m59), (22, .ref m22), (60, .ref m60), (61, .ref m61), (62, .ref m62), (71, .ref m71), (12, .int 0), (13, .int 0), (14, .int 0), (70, .int 0), (69, .int 0), (68, .int 0), (67, .int 0), (66, .int 0), (65, .int 0), (72, .int 0)] := hf159
  have hP : va_P G vwCl [(m52, .inl (cA 0, 20, .inl g132)), (m53, .inl (cA 0, 20, .inl g133)), (m54, .inl (cA 0, 100, .inl g134)), (m55, .inl (cA 0, 10, .inl g135)), (m56, .inl (cA 0, 12, .inl g136)), (m57, .inl (cA 0, 12, .inl g137)), (m58, .inl (cA 0, 12, .inl g138)), (m59, .inl (cA 0, 12, .inl g139)), (m22, .inl (cA 0, 6, .inl mf22)), (m60, .inl (cA 0, 2, .inl g140)), (m62, .inl (cA 0, 2, .inl g142)), (m71, .inl (cA 0, 10, .inl g143)), (h0, .inr (8, g156)), (m61, .inl (cA 0, 2, .inl g157))] H := hP
  have hD : va_D A [(m52, .inl (cA 0, 20, .inl g132)), (m53, .inl (cA 0, 20, .inl g133)), (m54, .inl (cA 0, 100, .inl g134)), (m55, .inl (cA 0, 10, .inl g135)), (m56, .inl (cA 0, 12, .inl g136)), (m57, .inl (cA 0, 12, .inl g137)), (m58, .inl (cA 0, 12, .inl g138)), (m59, .inl (cA 0, 12, .inl g139)), (m22, .inl (cA 0, 6, .inl mf22)), (m60, .inl (cA 0, 2, .inl g140)), (m62, .inl (cA 0, 2, .inl g142)), (m71, .inl (cA 0, 10, .inl g143)), (h0, .inr (8, g156)), (m61, .inl (cA 0, 2, .inl g157))] := hD
  refine lv_goto (tgt := 20) hx hb dX8_asking_73 (by decide) ?_
  refine lv_aload_n hx hb dX8_asking_20 rfl (lv_at hl 2 rfl) ?_
  refine va_get (D := G) (ci := 8) (v := .ref m61) (C := RX8) (T := TX8) (N := 91) hx hb hT ku_8 hown hK hP 12 rfl rfl 61 (by decide) (hT _ kw_10_22) (fun _ h9 => h9) (fh_at hf159 11 rfl) dX8_asking_21 ?_
  refine lv_iconst (v := 1) hx hb dX8_asking_24 (by decide) ?_
  refine va_iald (i := 1) hx hb hK hP 13 0 rfl rfl (tq_in (by decide)) dX8_asking_25 ?_
  refine tq_i (w := 1) hE161 ?_
  refine lv_bipush (v := 21) hx hb dX8_asking_26 (by decide) ?_
  refine lv_icmp_ge (tgt := 76) hx hb dX8_asking_28 (by decide) (fun c163 => absurd c163 (by decide)) (fun c163 => ?_)
  refine lv_iconst (v := 0) hx hb dX8_asking_31 (by decide) ?_
  refine lv_istore_n (lv' := [(2, .int 0), (1, .int 0), (0, .ref h0)]) hx hb dX8_asking_32 rfl hl (by decide) rfl (fun ls hl => ?_)
  refine lv_iload_n hx hb dX8_asking_33 rfl (lv_at hl 0 rfl) ?_
  refine lv_aload_n hx hb dX8_asking_34 rfl (lv_at hl 2 rfl) ?_
  refine va_get (D := G) (ci := 8) (v := .int 0) (C := RX8) (T := TX8) (N := 91) hx hb hT ku_8 hown hK hP 12 rfl rfl 12 (by decide) (hT _ kw_12_3) (fun _ h9 => h9) (fh_at hf159 14 rfl) dX8_asking_35 ?_
  refine lv_icmp_ge (tgt := 68) hx hb dX8_asking_38 (by decide) (fun c164 => ?_) (fun c164 => absurd (by decide) c164)
  refine lv_aload_n hx hb dX8_asking_68 rfl (lv_at hl 2 rfl) ?_
  refine lv_iconst (v := 1) hx hb dX8_asking_69 (by decide) ?_
  refine tq_cv (wr := [(m52, .inl (cA 0, 20, .inl g132)), (m53, .inl (cA 0, 20, .inl g133)), (m54, .inl (cA 0, 100, .inl g134)), (m55, .inl (cA 0, 10, .inl g135)), (m56, .inl (cA 0, 12, .inl g136)), (m57, .inl (cA 0, 12, .inl g137)), (m58, .inl (cA 0, 12, .inl g138)), (m59, .inl (cA 0, 12, .inl g139)), (m22, .inl (cA 0, 6, .inl mf22)), (m60, .inl (cA 0, 2, .inl g140)), (m62, .inl (cA 0, 2, .inl g142)), (m71, .inl (cA 0, 10, .inl g143))]) hP hD hS hA [12, 13] [0, 1, 2, 3, 4, 5, 6, 7, 8, 9, 10, 11] rfl rfl (by decide +kernel) (by decide) (va_runV (As := [.int 1]) (rest := []) ⟨hx, hb, hml, hown, hT⟩ (c_X8_goOn_1_1 l G cA H.size h0 g156 m61 g157 (fh_sub hf159 [11, 14, 15, 16] rfl) hE160 hE161) (cwV 1 hT (tq_gV kw_43_18 kw_43_19 kw_43_20 kw_1_5 kw_43_21) rfl rfl rfl (by decide +kernel) ⟨Nat.le_of_ble_eq_true rfl, Nat.le_of_ble_eq_true rfl⟩) ⟨(tq_pre (isC := [12, 13]) hP hD hK hN rfl (by decide)).1, va_recv hK hP (ci := 8) (q0 := 12) rfl rfl, (tq_pre (isC := [12, 13]) hP hD hK hN rfl (by decide)).2⟩ rfl rfl hl.1 rfl (lv_room (Nat.le_of_ble_eq_true rfl)) dX8_asking_70 ⟨Nat.le_of_ble_eq_true rfl, Nat.le_of_ble_eq_true rfl⟩) (fun u165 H locs hw166 hP hD hS => ?_)
  refine W.widen (k := 0) (n := 0) (Nat.le_of_ble_eq_true rfl) (Nat.le_of_ble_eq_true rfl) ?_
  obtain ⟨g167, g168⟩ := u165
  obtain ⟨ho169, hf170, hE171, hE172⟩ := hw166
  try dsimp only at hP hD ho169 hf170 hE171 hE172
  have hf170 := fh_app (fo_fh (l' := [(2, .int 0), (52, .ref m52), (53, .ref m53), (54, .ref m54), (55, .ref m55), (56, .ref m56), (57, .ref m57), (58, .ref m58), (59, .ref m59), (22, .ref m22), (60, .ref m60), (61, .ref m61), (62, .ref m62), (71, .ref m71), (12, .int 0), (13, .int 0), (14, .int 0), (70, .int 0), (69, .int 0), (68, .int 0), (67, .int 0), (66, .int 0), (65, .int 0)]) hf159 ho169 rfl) hf170
  have ho173 := fo_mono (k2 := [72, 70, 69, 68, 67, 66, 65, 64, 2]) (fo_trans ho162 ho169) (by decide +kernel)
  have hf170 : fh g167 91 [(2, .int 0), (52, .ref m52), (53, .ref m53), (54, .ref m54), (55, .ref m55), (56, .ref m56), (57, .ref m57), (58, .ref m58), (59, .ref m59), (22, .ref m22), (60, .ref m60), (61, .ref m61), (62, .ref m62), (71, .ref m71), (12, .int 0), (13, .int 0), (14, .int 0), (70, .int 0), (69, .int 0), (68, .int 0), (67, .int 0), (66, .int 0), (65, .int 0), (72, .int 0)] := hf170
  have hP : va_P G vwCl [(m52, .inl (cA 0, 20, .inl g132)), (m53, .inl (cA 0, 20, .inl g133)), (m54, .inl (cA 0, 100, .inl g134)), (m55, .inl (cA 0, 10, .inl g135)), (m56, .inl (cA 0, 12, .inl g136)), (m57, .inl (cA 0, 12, .inl g137)), (m58, .inl (cA 0, 12, .inl g138)), (m59, .inl (cA 0, 12, .inl g139)), (m22, .inl (cA 0, 6, .inl mf22)), (m60, .inl (cA 0, 2, .inl g140)), (m62, .inl (cA 0, 2, .inl g142)), (m71, .inl (cA 0, 10, .inl g143)), (h0, .inr (8, g167)), (m61, .inl (cA 0, 2, .inl g168))] H := hP
  have hD : va_D A [(m52, .inl (cA 0, 20, .inl g132)), (m53, .inl (cA 0, 20, .inl g133)), (m54, .inl (cA 0, 100, .inl g134)), (m55, .inl (cA 0, 10, .inl g135)), (m56, .inl (cA 0, 12, .inl g136)), (m57, .inl (cA 0, 12, .inl g137)), (m58, .inl (cA 0, 12, .inl g138)), (m59, .inl (cA 0, 12, .inl g139)), (m22, .inl (cA 0, 6, .inl mf22)), (m60, .inl (cA 0, 2, .inl g140)), (m62, .inl (cA 0, 2, .inl g142)), (m71, .inl (cA 0, 10, .inl g143)), (h0, .inr (8, g167)), (m61, .inl (cA 0, 2, .inl g168))] := hD
  refine lv_goto (tgt := 20) hx hb dX8_asking_73 (by decide) ?_
  refine lv_aload_n hx hb dX8_asking_20 rfl (lv_at hl 2 rfl) ?_
  refine va_get (D := G) (ci := 8) (v := .ref m61) (C := RX8) (T := TX8) (N := 91) hx hb hT ku_8 hown hK hP 12 rfl rfl 61 (by decide) (hT _ kw_10_22) (fun _ h9 => h9) (fh_at hf170 11 rfl) dX8_asking_21 ?_
  refine lv_iconst (v := 1) hx hb dX8_asking_24 (by decide) ?_
  refine va_iald (i := 1) hx hb hK hP 13 0 rfl rfl (tq_in (by decide)) dX8_asking_25 ?_
  refine tq_i (w := 2) hE172 ?_
  refine lv_bipush (v := 21) hx hb dX8_asking_26 (by decide) ?_
  refine lv_icmp_ge (tgt := 76) hx hb dX8_asking_28 (by decide) (fun c174 => absurd c174 (by decide)) (fun c174 => ?_)
  refine lv_iconst (v := 0) hx hb dX8_asking_31 (by decide) ?_
  refine lv_istore_n (lv' := [(2, .int 0), (1, .int 0), (0, .ref h0)]) hx hb dX8_asking_32 rfl hl (by decide) rfl (fun ls hl => ?_)
  refine lv_iload_n hx hb dX8_asking_33 rfl (lv_at hl 0 rfl) ?_
  refine lv_aload_n hx hb dX8_asking_34 rfl (lv_at hl 2 rfl) ?_
  refine va_get (D := G) (ci := 8) (v := .int 0) (C := RX8) (T := TX8) (N := 91) hx hb hT ku_8 hown hK hP 12 rfl rfl 12 (by decide) (hT _ kw_12_3) (fun _ h9 => h9) (fh_at hf170 14 rfl) dX8_asking_35 ?_
  refine lv_icmp_ge (tgt := 68) hx hb dX8_asking_38 (by decide) (fun c175 => ?_) (fun c175 => absurd (by decide) c175)
  refine lv_aload_n hx hb dX8_asking_68 rfl (lv_at hl 2 rfl) ?_
  refine lv_iconst (v := 1) hx hb dX8_asking_69 (by decide) ?_
  refine tq_cv (wr := [(m52, .inl (cA 0, 20, .inl g132)), (m53, .inl (cA 0, 20, .inl g133)), (m54, .inl (cA 0, 100, .inl g134)), (m55, .inl (cA 0, 10, .inl g135)), (m56, .inl (cA 0, 12, .inl g136)), (m57, .inl (cA 0, 12, .inl g137)), (m58, .inl (cA 0, 12, .inl g138)), (m59, .inl (cA 0, 12, .inl g139)), (m22, .inl (cA 0, 6, .inl mf22)), (m60, .inl (cA 0, 2, .inl g140)), (m62, .inl (cA 0, 2, .inl g142)), (m71, .inl (cA 0, 10, .inl g143))]) hP hD hS hA [12, 13] [0, 1, 2, 3, 4, 5, 6, 7, 8, 9, 10, 11] rfl rfl (by decide +kernel) (by decide) (va_runV (As := [.int 1]) (rest := []) ⟨hx, hb, hml, hown, hT⟩ (c_X8_goOn_1_2 l G cA H.size h0 g167 m61 g168 (fh_sub hf170 [11, 14, 15, 16] rfl) hE171 hE172) (cwV 1 hT (tq_gV kw_43_18 kw_43_19 kw_43_20 kw_1_5 kw_43_21) rfl rfl rfl (by decide +kernel) ⟨Nat.le_of_ble_eq_true rfl, Nat.le_of_ble_eq_true rfl⟩) ⟨(tq_pre (isC := [12, 13]) hP hD hK hN rfl (by decide)).1, va_recv hK hP (ci := 8) (q0 := 12) rfl rfl, (tq_pre (isC := [12, 13]) hP hD hK hN rfl (by decide)).2⟩ rfl rfl hl.1 rfl (lv_room (Nat.le_of_ble_eq_true rfl)) dX8_asking_70 ⟨Nat.le_of_ble_eq_true rfl, Nat.le_of_ble_eq_true rfl⟩) (fun u176 H locs hw177 hP hD hS => ?_)
  refine W.widen (k := 0) (n := 0) (Nat.le_of_ble_eq_true rfl) (Nat.le_of_ble_eq_true rfl) ?_
  obtain ⟨g178, g179⟩ := u176
  obtain ⟨ho180, hf181, hE182, hE183⟩ := hw177
  try dsimp only at hP hD ho180 hf181 hE182 hE183
  have hf181 := fh_app (fo_fh (l' := [(2, .int 0), (52, .ref m52), (53, .ref m53), (54, .ref m54), (55, .ref m55), (56, .ref m56), (57, .ref m57), (58, .ref m58), (59, .ref m59), (22, .ref m22), (60, .ref m60), (61, .ref m61), (62, .ref m62), (71, .ref m71), (12, .int 0), (13, .int 0), (14, .int 0), (70, .int 0), (69, .int 0), (68, .int 0), (67, .int 0), (66, .int 0), (65, .int 0)]) hf170 ho180 rfl) hf181
  have ho184 := fo_mono (k2 := [72, 70, 69, 68, 67, 66, 65, 64, 2]) (fo_trans ho173 ho180) (by decide +kernel)
  have hf181 : fh g178 91 [(2, .int 0), (52, .ref m52), (53, .ref m53), (54, .ref m54), (55, .ref m55), (56, .ref m56), (57, .ref m57), (58, .ref m58), (59, .ref m59), (22, .ref m22), (60, .ref m60), (61, .ref m61), (62, .ref m62), (71, .ref m71), (12, .int 0), (13, .int 0), (14, .int 0), (70, .int 0), (69, .int 0), (68, .int 0), (67, .int 0), (66, .int 0), (65, .int 0), (72, .int 0)] := hf181
  have hP : va_P G vwCl [(m52, .inl (cA 0, 20, .inl g132)), (m53, .inl (cA 0, 20, .inl g133)), (m54, .inl (cA 0, 100, .inl g134)), (m55, .inl (cA 0, 10, .inl g135)), (m56, .inl (cA 0, 12, .inl g136)), (m57, .inl (cA 0, 12, .inl g137)), (m58, .inl (cA 0, 12, .inl g138)), (m59, .inl (cA 0, 12, .inl g139)), (m22, .inl (cA 0, 6, .inl mf22)), (m60, .inl (cA 0, 2, .inl g140)), (m62, .inl (cA 0, 2, .inl g142)), (m71, .inl (cA 0, 10, .inl g143)), (h0, .inr (8, g178)), (m61, .inl (cA 0, 2, .inl g179))] H := hP
  have hD : va_D A [(m52, .inl (cA 0, 20, .inl g132)), (m53, .inl (cA 0, 20, .inl g133)), (m54, .inl (cA 0, 100, .inl g134)), (m55, .inl (cA 0, 10, .inl g135)), (m56, .inl (cA 0, 12, .inl g136)), (m57, .inl (cA 0, 12, .inl g137)), (m58, .inl (cA 0, 12, .inl g138)), (m59, .inl (cA 0, 12, .inl g139)), (m22, .inl (cA 0, 6, .inl mf22)), (m60, .inl (cA 0, 2, .inl g140)), (m62, .inl (cA 0, 2, .inl g142)), (m71, .inl (cA 0, 10, .inl g143)), (h0, .inr (8, g178)), (m61, .inl (cA 0, 2, .inl g179))] := hD
  refine lv_goto (tgt := 20) hx hb dX8_asking_73 (by decide) ?_
  refine lv_aload_n hx hb dX8_asking_20 rfl (lv_at hl 2 rfl) ?_
  refine va_get (D := G) (ci := 8) (v := .ref m61) (C := RX8) (T := TX8) (N := 91) hx hb hT ku_8 hown hK hP 12 rfl rfl 61 (by decide) (hT _ kw_10_22) (fun _ h9 => h9) (fh_at hf181 11 rfl) dX8_asking_21 ?_
  refine lv_iconst (v := 1) hx hb dX8_asking_24 (by decide) ?_
  refine va_iald (i := 1) hx hb hK hP 13 0 rfl rfl (tq_in (by decide)) dX8_asking_25 ?_
  refine tq_i (w := 3) hE183 ?_
  refine lv_bipush (v := 21) hx hb dX8_asking_26 (by decide) ?_
  refine lv_icmp_ge (tgt := 76) hx hb dX8_asking_28 (by decide) (fun c185 => absurd c185 (by decide)) (fun c185 => ?_)
  refine lv_iconst (v := 0) hx hb dX8_asking_31 (by decide) ?_
  refine lv_istore_n (lv' := [(2, .int 0), (1, .int 0), (0, .ref h0)]) hx hb dX8_asking_32 rfl hl (by decide) rfl (fun ls hl => ?_)
  refine lv_iload_n hx hb dX8_asking_33 rfl (lv_at hl 0 rfl) ?_
  refine lv_aload_n hx hb dX8_asking_34 rfl (lv_at hl 2 rfl) ?_
  refine va_get (D := G) (ci := 8) (v := .int 0) (C := RX8) (T := TX8) (N := 91) hx hb hT ku_8 hown hK hP 12 rfl rfl 12 (by decide) (hT _ kw_12_3) (fun _ h9 => h9) (fh_at hf181 14 rfl) dX8_asking_35 ?_
  refine lv_icmp_ge (tgt := 68) hx hb dX8_asking_38 (by decide) (fun c186 => ?_) (fun c186 => absurd (by decide) c186)
  refine lv_aload_n hx hb dX8_asking_68 rfl (lv_at hl 2 rfl) ?_
  refine lv_iconst (v := 1) hx hb dX8_asking_69 (by decide) ?_
  refine tq_cv (wr := [(m52, .inl (cA 0, 20, .inl g132)), (m53, .inl (cA 0, 20, .inl g133)), (m54, .inl (cA 0, 100, .inl g134)), (m55, .inl (cA 0, 10, .inl g135)), (m56, .inl (cA 0, 12, .inl g136)), (m57, .inl (cA 0, 12, .inl g137)), (m58, .inl (cA 0, 12, .inl g138)), (m59, .inl (cA 0, 12, .inl g139)), (m22, .inl (cA 0, 6, .inl mf22)), (m60, .inl (cA 0, 2, .inl g140)), (m62, .inl (cA 0, 2, .inl g142)), (m71, .inl (cA 0, 10, .inl g143))]) hP hD hS hA [12, 13] [0, 1, 2, 3, 4, 5, 6, 7, 8, 9, 10, 11] rfl rfl (by decide +kernel) (by decide) (va_runV (As := [.int 1]) (rest := []) ⟨hx, hb, hml, hown, hT⟩ (c_X8_goOn_1_3 l G cA H.size h0 g178 m61 g179 (fh_sub hf181 [11, 14, 15, 16] rfl) hE182 hE183) (cwV 1 hT (tq_gV kw_43_18 kw_43_19 kw_43_20 kw_1_5 kw_43_21) rfl rfl rfl (by decide +kernel) ⟨Nat.le_of_ble_eq_true rfl, Nat.le_of_ble_eq_true rfl⟩) ⟨(tq_pre (isC := [12, 13]) hP hD hK hN rfl (by decide)).1, va_recv hK hP (ci := 8) (q0 := 12) rfl rfl, (tq_pre (isC := [12, 13]) hP hD hK hN rfl (by decide)).2⟩ rfl rfl hl.1 rfl (lv_room (Nat.le_of_ble_eq_true rfl)) dX8_asking_70 ⟨Nat.le_of_ble_eq_true rfl, Nat.le_of_ble_eq_true rfl⟩) (fun u187 H locs hw188 hP hD hS => ?_)
  refine W.widen (k := 0) (n := 0) (Nat.le_of_ble_eq_true rfl) (Nat.le_of_ble_eq_true rfl) ?_
  obtain ⟨g189, g190⟩ := u187
  obtain ⟨ho191, hf192, hE193, hE194⟩ := hw188
  try dsimp only at hP hD ho191 hf192 hE193 hE194
  have hf192 := fh_app (fo_fh (l' := [(2, .int 0), (52, .ref m52), (53, .ref m53), (54, .ref m54), (55, .ref m55), (56, .ref m56), (57, .ref m57), (58, .ref m58), (59, .ref m59), (22, .ref m22), (60, .ref m60), (61, .ref m61), (62, .ref m62), (71, .ref m71), (12, .int 0), (13, .int 0), (14, .int 0), (70, .int 0), (69, .int 0), (68, .int 0), (67, .int 0), (66, .int 0), (65, .int 0)]) hf181 ho191 rfl) hf192
  have ho195 := fo_mono (k2 := [72, 70, 69, 68, 67, 66, 65, 64, 2]) (fo_trans ho184 ho191) (by decide +kernel)
  have hf192 : fh g189 91 [(2, .int 0), (52, .ref m52), (53, .ref m53), (54, .ref m54), (55, .ref m55), (56, .ref m56), (57, .ref m57), (58, .ref m58), (59, .ref m59), (22, .ref m22), (60, .ref m60), (61, .ref m61), (62, .ref m62), (71, .ref m71), (12, .int 0), (13, .int 0), (14, .int 0), (70, .int 0), (69, .int 0), (68, .int 0), (67, .int 0), (66, .int 0), (65, .int 0), (72, .int 0)] := hf192
  have hP : va_P G vwCl [(m52, .inl (cA 0, 20, .inl g132)), (m53, .inl (cA 0, 20, .inl g133)), (m54, .inl (cA 0, 100, .inl g134)), (m55, .inl (cA 0, 10, .inl g135)), (m56, .inl (cA 0, 12, .inl g136)), (m57, .inl (cA 0, 12, .inl g137)), (m58, .inl (cA 0, 12, .inl g138)), (m59, .inl (cA 0, 12, .inl g139)), (m22, .inl (cA 0, 6, .inl mf22)), (m60, .inl (cA 0, 2, .inl g140)), (m62, .inl (cA 0, 2, .inl g142)), (m71, .inl (cA 0, 10, .inl g143)), (h0, .inr (8, g189)), (m61, .inl (cA 0, 2, .inl g190))] H := hP
  have hD : va_D A [(m52, .inl (cA 0, 20, .inl g132)), (m53, .inl (cA 0, 20, .inl g133)), (m54, .inl (cA 0, 100, .inl g134)), (m55, .inl (cA 0, 10, .inl g135)), (m56, .inl (cA 0, 12, .inl g136)), (m57, .inl (cA 0, 12, .inl g137)), (m58, .inl (cA 0, 12, .inl g138)), (m59, .inl (cA 0, 12, .inl g139)), (m22, .inl (cA 0, 6, .inl mf22)), (m60, .inl (cA 0, 2, .inl g140)), (m62, .inl (cA 0, 2, .inl g142)), (m71, .inl (cA 0, 10, .inl g143)), (h0, .inr (8, g189)), (m61, .inl (cA 0, 2, .inl g190))] := hD
  refine lv_goto (tgt := 20) hx hb dX8_asking_73 (by decide) ?_
  refine lv_aload_n hx hb dX8_asking_20 rfl (lv_at hl 2 rfl) ?_
  refine va_get (D := G) (ci := 8) (v := .ref m61) (C := RX8) (T := TX8) (N := 91) hx hb hT ku_8 hown hK hP 12 rfl rfl 61 (by decide) (hT _ kw_10_22) (fun _ h9 => h9) (fh_at hf192 11 rfl) dX8_asking_21 ?_
  refine lv_iconst (v := 1) hx hb dX8_asking_24 (by decide) ?_
  refine va_iald (i := 1) hx hb hK hP 13 0 rfl rfl (tq_in (by decide)) dX8_asking_25 ?_
  refine tq_i (w := 4) hE194 ?_
  refine lv_bipush (v := 21) hx hb dX8_asking_26 (by decide) ?_
  refine lv_icmp_ge (tgt := 76) hx hb dX8_asking_28 (by decide) (fun c196 => absurd c196 (by decide)) (fun c196 => ?_)
  refine lv_iconst (v := 0) hx hb dX8_asking_31 (by decide) ?_
  refine lv_istore_n (lv' := [(2, .int 0), (1, .int 0), (0, .ref h0)]) hx hb dX8_asking_32 rfl hl (by decide) rfl (fun ls hl => ?_)
  refine lv_iload_n hx hb dX8_asking_33 rfl (lv_at hl 0 rfl) ?_
  refine lv_aload_n hx hb dX8_asking_34 rfl (lv_at hl 2 rfl) ?_
  refine va_get (D := G) (ci := 8) (v := .int 0) (C := RX8) (T := TX8) (N := 91) hx hb hT ku_8 hown hK hP 12 rfl rfl 12 (by decide) (hT _ kw_12_3) (fun _ h9 => h9) (fh_at hf192 14 rfl) dX8_asking_35 ?_
  refine lv_icmp_ge (tgt := 68) hx hb dX8_asking_38 (by decide) (fun c197 => ?_) (fun c197 => absurd (by decide) c197)
  refine lv_aload_n hx hb dX8_asking_68 rfl (lv_at hl 2 rfl) ?_
  refine lv_iconst (v := 1) hx hb dX8_asking_69 (by decide) ?_
  refine tq_cv (wr := [(m52, .inl (cA 0, 20, .inl g132)), (m53, .inl (cA 0, 20, .inl g133)), (m54, .inl (cA 0, 100, .inl g134)), (m55, .inl (cA 0, 10, .inl g135)), (m56, .inl (cA 0, 12, .inl g136)), (m57, .inl (cA 0, 12, .inl g137)), (m58, .inl (cA 0, 12, .inl g138)), (m59, .inl (cA 0, 12, .inl g139)), (m22, .inl (cA 0, 6, .inl mf22)), (m60, .inl (cA 0, 2, .inl g140)), (m62, .inl (cA 0, 2, .inl g142)), (m71, .inl (cA 0, 10, .inl g143))]) hP hD hS hA [12, 13] [0, 1, 2, 3, 4, 5, 6, 7, 8, 9, 10, 11] rfl rfl (by decide +kernel) (by decide) (va_runV (As := [.int 1]) (rest := []) ⟨hx, hb, hml, hown, hT⟩ (c_X8_goOn_1_4 l G cA H.size h0 g189 m61 g190 (fh_sub hf192 [11, 14, 15, 16] rfl) hE193 hE194) (cwV 1 hT (tq_gV kw_43_18 kw_43_19 kw_43_20 kw_1_5 kw_43_21) rfl rfl rfl (by decide +kernel) ⟨Nat.le_of_ble_eq_true rfl, Nat.le_of_ble_eq_true rfl⟩) ⟨(tq_pre (isC := [12, 13]) hP hD hK hN rfl (by decide)).1, va_recv hK hP (ci := 8) (q0 := 12) rfl rfl, (tq_pre (isC := [12, 13]) hP hD hK hN rfl (by decide)).2⟩ rfl rfl hl.1 rfl (lv_room (Nat.le_of_ble_eq_true rfl)) dX8_asking_70 ⟨Nat.le_of_ble_eq_true rfl, Nat.le_of_ble_eq_true rfl⟩) (fun u198 H locs hw199 hP hD hS => ?_)
  refine W.widen (k := 0) (n := 0) (Nat.le_of_ble_eq_true rfl) (Nat.le_of_ble_eq_true rfl) ?_
  obtain ⟨g200, g201⟩ := u198
  obtain ⟨ho202, hf203, hE204, hE205⟩ := hw199
  try dsimp only at hP hD ho202 hf203 hE204 hE205
  have hf203 := fh_app (fo_fh (l' := [(2, .int 0), (52, .ref m52), (53, .ref m53), (54, .ref m54), (55, .ref m55), (56, .ref m56), (57, .ref m57), (58, .ref m58), (59, .ref m59), (22, .ref m22), (60, .ref m60), (61, .ref m61), (62, .ref m62), (71, .ref m71), (12, .int 0), (13, .int 0), (14, .int 0), (70, .int 0), (69, .int 0), (68, .int 0), (67, .int 0), (66, .int 0), (65, .int 0)]) hf192 ho202 rfl) hf203
  have ho206 := fo_mono (k2 := [72, 70, 69, 68, 67, 66, 65, 64, 2]) (fo_trans ho195 ho202) (by decide +kernel)
  have hf203 : fh g200 91 [(2, .int 0), (52, .ref m52), (53, .ref m53), (54, .ref m54), (55, .ref m55), (56, .ref m56), (57, .ref m57), (58, .ref m58), (59, .ref m59), (22, .ref m22), (60, .ref m60), (61, .ref m61), (62, .ref m62), (71, .ref m71), (12, .int 0), (13, .int 0), (14, .int 0), (70, .int 0), (69, .int 0), (68, .int 0), (67, .int 0), (66, .int 0), (65, .int 0), (72, .int 0)] := hf203
  have hP : va_P G vwCl [(m52, .inl (cA 0, 20, .inl g132)), (m53, .inl (cA 0, 20, .inl g133)), (m54, .inl (cA 0, 100, .inl g134)), (m55, .inl (cA 0, 10, .inl g135)), (m56, .inl (cA 0, 12, .inl g136)), (m57, .inl (cA 0, 12, .inl g137)), (m58, .inl (cA 0, 12, .inl g138)), (m59, .inl (cA 0, 12, .inl g139)), (m22, .inl (cA 0, 6, .inl mf22)), (m60, .inl (cA 0, 2, .inl g140)), (m62, .inl (cA 0, 2, .inl g142)), (m71, .inl (cA 0, 10, .inl g143)), (h0, .inr (8, g200)), (m61, .inl (cA 0, 2, .inl g201))] H := hP
  have hD : va_D A [(m52, .inl (cA 0, 20, .inl g132)), (m53, .inl (cA 0, 20, .inl g133)), (m54, .inl (cA 0, 100, .inl g134)), (m55, .inl (cA 0, 10, .inl g135)), (m56, .inl (cA 0, 12, .inl g136)), (m57, .inl (cA 0, 12, .inl g137)), (m58, .inl (cA 0, 12, .inl g138)), (m59, .inl (cA 0, 12, .inl g139)), (m22, .inl (cA 0, 6, .inl mf22)), (m60, .inl (cA 0, 2, .inl g140)), (m62, .inl (cA 0, 2, .inl g142)), (m71, .inl (cA 0, 10, .inl g143)), (h0, .inr (8, g200)), (m61, .inl (cA 0, 2, .inl g201))] := hD
  refine lv_goto (tgt := 20) hx hb dX8_asking_73 (by decide) ?_
  refine lv_aload_n hx hb dX8_asking_20 rfl (lv_at hl 2 rfl) ?_
  refine va_get (D := G) (ci := 8) (v := .ref m61) (C := RX8) (T := TX8) (N := 91) hx hb hT ku_8 hown hK hP 12 rfl rfl 61 (by decide) (hT _ kw_10_22) (fun _ h9 => h9) (fh_at hf203 11 rfl) dX8_asking_21 ?_
  refine lv_iconst (v := 1) hx hb dX8_asking_24 (by decide) ?_
  refine va_iald (i := 1) hx hb hK hP 13 0 rfl rfl (tq_in (by decide)) dX8_asking_25 ?_
  refine tq_i (w := 5) hE205 ?_
  refine lv_bipush (v := 21) hx hb dX8_asking_26 (by decide) ?_
  refine lv_icmp_ge (tgt := 76) hx hb dX8_asking_28 (by decide) (fun c207 => absurd c207 (by decide)) (fun c207 => ?_)
  refine lv_iconst (v := 0) hx hb dX8_asking_31 (by decide) ?_
  refine lv_istore_n (lv' := [(2, .int 0), (1, .int 0), (0, .ref h0)]) hx hb dX8_asking_32 rfl hl (by decide) rfl (fun ls hl => ?_)
  refine lv_iload_n hx hb dX8_asking_33 rfl (lv_at hl 0 rfl) ?_
  refine lv_aload_n hx hb dX8_asking_34 rfl (lv_at hl 2 rfl) ?_
  refine va_get (D := G) (ci := 8) (v := .int 0) (C := RX8) (T := TX8) (N := 91) hx hb hT ku_8 hown hK hP 12 rfl rfl 12 (by decide) (hT _ kw_12_3) (fun _ h9 => h9) (fh_at hf203 14 rfl) dX8_asking_35 ?_
  refine lv_icmp_ge (tgt := 68) hx hb dX8_asking_38 (by decide) (fun c208 => ?_) (fun c208 => absurd (by decide) c208)
  refine lv_aload_n hx hb dX8_asking_68 rfl (lv_at hl 2 rfl) ?_
  refine lv_iconst (v := 1) hx hb dX8_asking_69 (by decide) ?_
  refine tq_cv (wr := [(m52, .inl (cA 0, 20, .inl g132)), (m53, .inl (cA 0, 20, .inl g133)), (m54, .inl (cA 0, 100, .inl g134)), (m55, .inl (cA 0, 10, .inl g135)), (m56, .inl (cA 0, 12, .inl g136)), (m57, .inl (cA 0, 12, .inl g137)), (m58, .inl (cA 0, 12, .inl g138)), (m59, .inl (cA 0, 12, .inl g139)), (m22, .inl (cA 0, 6, .inl mf22)), (m60, .inl (cA 0, 2, .inl g140)), (m62, .inl (cA 0, 2, .inl g142)), (m71, .inl (cA 0, 10, .inl g143))]) hP hD hS hA [12, 13] [0, 1, 2, 3, 4, 5, 6, 7, 8, 9, 10, 11] rfl rfl (by decide +kernel) (by decide) (va_runV (As := [.int 1]) (rest := []) ⟨hx, hb, hml, hown, hT⟩ (c_X8_goOn_1_5 l G cA H.size h0 g200 m61 g201 (fh_sub hf203 [11, 14, 15, 16] rfl) hE204 hE205) (cwV 1 hT (tq_gV kw_43_18 kw_43_19 kw_43_20 kw_1_5 kw_43_21) rfl rfl rfl (by decide +kernel) ⟨Nat.le_of_ble_eq_true rfl, Nat.le_of_ble_eq_true rfl⟩) ⟨(tq_pre (isC := [12, 13]) hP hD hK hN rfl (by decide)).1, va_recv hK hP (ci := 8) (q0 := 12) rfl rfl, (tq_pre (isC := [12, 13]) hP hD hK hN rfl (by decide)).2⟩ rfl rfl hl.1 rfl (lv_room (Nat.le_of_ble_eq_true rfl)) dX8_asking_70 ⟨Nat.le_of_ble_eq_true rfl, Nat.le_of_ble_eq_true rfl⟩) (fun u209 H locs hw210 hP hD hS => ?_)
  refine W.widen (k := 0) (n := 0) (Nat.le_of_ble_eq_true rfl) (Nat.le_of_ble_eq_true rfl) ?_
  obtain ⟨g211, g212⟩ := u209
  obtain ⟨ho213, hf214, hE215, hE216⟩ := hw210
  try dsimp only at hP hD ho213 hf214 hE215 hE216
  have hf214 := fh_app (fo_fh (l' := [(2, .int 0), (52, .ref m52), (53, .ref m53), (54, .ref m54), (55, .ref m55), (56, .ref m56), (57, .ref m57), (58, .ref m58), (59, .ref m59), (22, .ref m22), (60, .ref m60), (61, .ref m61), (62, .ref m62), (71, .ref m71), (12, .int 0), (13, .int 0), (14, .int 0), (70, .int 0), (69, .int 0), (68, .int 0), (67, .int 0), (66, .int 0), (65, .int 0)]) hf203 ho213 rfl) hf214
  have ho217 := fo_mono (k2 := [72, 70, 69, 68, 67, 66, 65, 64, 2]) (fo_trans ho206 ho213) (by decide +kernel)
  have hf214 : fh g211 91 [(2, .int 0), (52, .ref m52), (53, .ref m53), (54, .ref m54), (55, .ref m55), (56, .ref m56), (57, .ref m57), (58, .ref m58), (59, .ref m59), (22, .ref m22), (60, .ref m60), (61, .ref m61), (62, .ref m62), (71, .ref m71), (12, .int 0), (13, .int 0), (14, .int 0), (70, .int 0), (69, .int 0), (68, .int 0), (67, .int 0), (66, .int 0), (65, .int 0), (72, .int 0)] := hf214
  have hP : va_P G vwCl [(m52, .inl (cA 0, 20, .inl g132)), (m53, .inl (cA 0, 20, .inl g133)), (m54, .inl (cA 0, 100, .inl g134)), (m55, .inl (cA 0, 10, .inl g135)), (m56, .inl (cA 0, 12, .inl g136)), (m57, .inl (cA 0, 12, .inl g137)), (m58, .inl (cA 0, 12, .inl g138)), (m59, .inl (cA 0, 12, .inl g139)), (m22, .inl (cA 0, 6, .inl mf22)), (m60, .inl (cA 0, 2, .inl g140)), (m62, .inl (cA 0, 2, .inl g142)), (m71, .inl (cA 0, 10, .inl g143)), (h0, .inr (8, g211)), (m61, .inl (cA 0, 2, .inl g212))] H := hP
  have hD : va_D A [(m52, .inl (cA 0, 20, .inl g132)), (m53, .inl (cA 0, 20, .inl g133)), (m54, .inl (cA 0, 100, .inl g134)), (m55, .inl (cA 0, 10, .inl g135)), (m56, .inl (cA 0, 12, .inl g136)), (m57, .inl (cA 0, 12, .inl g137)), (m58, .inl (cA 0, 12, .inl g138)), (m59, .inl (cA 0, 12, .inl g139)), (m22, .inl (cA 0, 6, .inl mf22)), (m60, .inl (cA 0, 2, .inl g140)), (m62, .inl (cA 0, 2, .inl g142)), (m71, .inl (cA 0, 10, .inl g143)), (h0, .inr (8, g211)), (m61, .inl (cA 0, 2, .inl g212))] := hD
  refine lv_goto (tgt := 20) hx hb dX8_asking_73 (by decide) ?_
  refine lv_aload_n hx hb dX8_asking_20 rfl (lv_at hl 2 rfl) ?_
  refine va_get (D := G) (ci := 8) (v := .ref m61) (C := RX8) (T := TX8) (N := 91) hx hb hT ku_8 hown hK hP 12 rfl rfl 61 (by decide) (hT _ kw_10_22) (fun _ h9 => h9) (fh_at hf214 11 rfl) dX8_asking_21 ?_
  refine lv_iconst (v := 1) hx hb dX8_asking_24 (by decide) ?_
  refine va_iald (i := 1) hx hb hK hP 13 0 rfl rfl (tq_in (by decide)) dX8_asking_25 ?_
  refine tq_i (w := 6) hE216 ?_
  refine lv_bipush (v := 21) hx hb dX8_asking_26 (by decide) ?_
  refine lv_icmp_ge (tgt := 76) hx hb dX8_asking_28 (by decide) (fun c218 => absurd c218 (by decide)) (fun c218 => ?_)
  refine lv_iconst (v := 0) hx hb dX8_asking_31 (by decide) ?_
  refine lv_istore_n (lv' := [(2, .int 0), (1, .int 0), (0, .ref h0)]) hx hb dX8_asking_32 rfl hl (by decide) rfl (fun ls hl => ?_)
  refine lv_iload_n hx hb dX8_asking_33 rfl (lv_at hl 0 rfl) ?_
  refine lv_aload_n hx hb dX8_asking_34 rfl (lv_at hl 2 rfl) ?_
  refine va_get (D := G) (ci := 8) (v := .int 0) (C := RX8) (T := TX8) (N := 91) hx hb hT ku_8 hown hK hP 12 rfl rfl 12 (by decide) (hT _ kw_12_3) (fun _ h9 => h9) (fh_at hf214 14 rfl) dX8_asking_35 ?_
  refine lv_icmp_ge (tgt := 68) hx hb dX8_asking_38 (by decide) (fun c219 => ?_) (fun c219 => absurd (by decide) c219)
  refine lv_aload_n hx hb dX8_asking_68 rfl (lv_at hl 2 rfl) ?_
  refine lv_iconst (v := 1) hx hb dX8_asking_69 (by decide) ?_
  refine tq_cv (wr := [(m52, .inl (cA 0, 20, .inl g132)), (m53, .inl (cA 0, 20, .inl g133)), (m54, .inl (cA 0, 100, .inl g134)), (m55, .inl (cA 0, 10, .inl g135)), (m56, .inl (cA 0, 12, .inl g136)), (m57, .inl (cA 0, 12, .inl g137)), (m58, .inl (cA 0, 12, .inl g138)), (m59, .inl (cA 0, 12, .inl g139)), (m22, .inl (cA 0, 6, .inl mf22)), (m60, .inl (cA 0, 2, .inl g140)), (m62, .inl (cA 0, 2, .inl g142)), (m71, .inl (cA 0, 10, .inl g143))]) hP hD hS hA [12, 13] [0, 1, 2, 3, 4, 5, 6, 7, 8, 9, 10, 11] rfl rfl (by decide +kernel) (by decide) (va_runV (As := [.int 1]) (rest := []) ⟨hx, hb, hml, hown, hT⟩ (c_X8_goOn_1_6 l G cA H.size h0 g211 m61 g212 (fh_sub hf214 [11, 14, 15, 16] rfl) hE215 hE216) (cwV 1 hT (tq_gV kw_43_18 kw_43_19 kw_43_20 kw_1_5 kw_43_21) rfl rfl rfl (by decide +kernel) ⟨Nat.le_of_ble_eq_true rfl, Nat.le_of_ble_eq_true rfl⟩) ⟨(tq_pre (isC := [12, 13]) hP hD hK hN rfl (by decide)).1, va_recv hK hP (ci := 8) (q0 := 12) rfl rfl, (tq_pre (isC := [12, 13]) hP hD hK hN rfl (by decide)).2⟩ rfl rfl hl.1 rfl (lv_room (Nat.le_of_ble_eq_true rfl)) dX8_asking_70 ⟨Nat.le_of_ble_eq_true rfl, Nat.le_of_ble_eq_true rfl⟩) (fun u220 H locs hw221 hP hD hS => ?_)
  refine W.widen (k := 0) (n := 0) (Nat.le_of_ble_eq_true rfl) (Nat.le_of_ble_eq_true rfl) ?_
  obtain ⟨g222, g223⟩ := u220
  obtain ⟨ho224, hf225, hE226, hE227⟩ := hw221
  try dsimp only at hP hD ho224 hf225 hE226 hE227
  have hf225 := fh_app (fo_fh (l' := [(2, .int 0), (52, .ref m52), (53, .ref m53), (54, .ref m54), (55, .ref m55), (56, .ref m56), (57, .ref m57), (58, .ref m58), (59, .ref m59), (22, .ref m22), (60, .ref m60), (61, .ref m61), (62, .ref m62), (71, .ref m71), (12, .int 0), (13, .int 0), (14, .int 0), (70, .int 0), (69, .int 0), (68, .int 0), (67, .int 0), (66, .int 0), (65, .int 0)]) hf214 ho224 rfl) hf225
  have ho228 := fo_mono (k2 := [72, 70, 69, 68, 67, 66, 65, 64, 2]) (fo_trans ho217 ho224) (by decide +kernel)
  have hf225 : fh g222 91 [(2, .int 0), (52, .ref m52), (53, .ref m53), (54, .ref m54), (55, .ref m55), (56, .ref m56), (57, .ref m57), (58, .ref m58), (59, .ref m59), (22, .ref m22), (60, .ref m60), (61, .ref m61), (62, .ref m62), (71, .ref m71), (12, .int 0), (13, .int 0), (14, .int 0), (70, .int 0), (69, .int 0), (68, .int 0), (67, .int 0), (66, .int 0), (65, .int 0), (72, .int 0)] := hf225
  have hP : va_P G vwCl [(m52, .inl (cA 0, 20, .inl g132)), (m53, .inl (cA 0, 20, .inl g133)), (m54, .inl (cA 0, 100, .inl g134)), (m55, .inl (cA 0, 10, .inl g135)), (m56, .inl (cA 0, 12, .inl g136)), (m57, .inl (cA 0, 12, .inl g137)), (m58, .inl (cA 0, 12, .inl g138)), (m59, .inl (cA 0, 12, .inl g139)), (m22, .inl (cA 0, 6, .inl mf22)), (m60, .inl (cA 0, 2, .inl g140)), (m62, .inl (cA 0, 2, .inl g142)), (m71, .inl (cA 0, 10, .inl g143)), (h0, .inr (8, g222)), (m61, .inl (cA 0, 2, .inl g223))] H := hP
  have hD : va_D A [(m52, .inl (cA 0, 20, .inl g132)), (m53, .inl (cA 0, 20, .inl g133)), (m54, .inl (cA 0, 100, .inl g134)), (m55, .inl (cA 0, 10, .inl g135)), (m56, .inl (cA 0, 12, .inl g136)), (m57, .inl (cA 0, 12, .inl g137)), (m58, .inl (cA 0, 12, .inl g138)), (m59, .inl (cA 0, 12, .inl g139)), (m22, .inl (cA 0, 6, .inl mf22)), (m60, .inl (cA 0, 2, .inl g140)), (m62, .inl (cA 0, 2, .inl g142)), (m71, .inl (cA 0, 10, .inl g143)), (h0, .inr (8, g222)), (m61, .inl (cA 0, 2, .inl g223))] := hD
  refine lv_goto (tgt := 20) hx hb dX8_asking_73 (by decide) ?_
  refine lv_aload_n hx hb dX8_asking_20 rfl (lv_at hl 2 rfl) ?_
  refine va_get (D := G) (ci := 8) (v := .ref m61) (C := RX8) (T := TX8) (N := 91) hx hb hT ku_8 hown hK hP 12 rfl rfl 61 (by decide) (hT _ kw_10_22) (fun _ h9 => h9) (fh_at hf225 11 rfl) dX8_asking_21 ?_
  refine lv_iconst (v := 1) hx hb dX8_asking_24 (by decide) ?_
  refine va_iald (i := 1) hx hb hK hP 13 0 rfl rfl (tq_in (by decide)) dX8_asking_25 ?_
  refine tq_i (w := 7) hE227 ?_
  refine lv_bipush (v := 21) hx hb dX8_asking_26 (by decide) ?_
  refine lv_icmp_ge (tgt := 76) hx hb dX8_asking_28 (by decide) (fun c229 => absurd c229 (by decide)) (fun c229 => ?_)
  refine lv_iconst (v := 0) hx hb dX8_asking_31 (by decide) ?_
  refine lv_istore_n (lv' := [(2, .int 0), (1, .int 0), (0, .ref h0)]) hx hb dX8_asking_32 rfl hl (by decide) rfl (fun ls hl => ?_)
  refine lv_iload_n hx hb dX8_asking_33 rfl (lv_at hl 0 rfl) ?_
  refine lv_aload_n hx hb dX8_asking_34 rfl (lv_at hl 2 rfl) ?_
  refine va_get (D := G) (ci := 8) (v := .int 0) (C := RX8) (T := TX8) (N := 91) hx hb hT ku_8 hown hK hP 12 rfl rfl 12 (by decide) (hT _ kw_12_3) (fun _ h9 => h9) (fh_at hf225 14 rfl) dX8_asking_35 ?_
  refine lv_icmp_ge (tgt := 68) hx hb dX8_asking_38 (by decide) (fun c230 => ?_) (fun c230 => absurd (by decide) c230)
  refine lv_aload_n hx hb dX8_asking_68 rfl (lv_at hl 2 rfl) ?_
  refine lv_iconst (v := 1) hx hb dX8_asking_69 (by decide) ?_
  refine tq_cv (wr := [(m52, .inl (cA 0, 20, .inl g132)), (m53, .inl (cA 0, 20, .inl g133)), (m54, .inl (cA 0, 100, .inl g134)), (m55, .inl (cA 0, 10, .inl g135)), (m56, .inl (cA 0, 12, .inl g136)), (m57, .inl (cA 0, 12, .inl g137)), (m58, .inl (cA 0, 12, .inl g138)), (m59, .inl (cA 0, 12, .inl g139)), (m22, .inl (cA 0, 6, .inl mf22)), (m60, .inl (cA 0, 2, .inl g140)), (m62, .inl (cA 0, 2, .inl g142)), (m71, .inl (cA 0, 10, .inl g143))]) hP hD hS hA [12, 13] [0, 1, 2, 3, 4, 5, 6, 7, 8, 9, 10, 11] rfl rfl (by decide +kernel) (by decide) (va_runV (As := [.int 1]) (rest := []) ⟨hx, hb, hml, hown, hT⟩ (c_X8_goOn_1_7 l G cA H.size h0 g222 m61 g223 (fh_sub hf225 [11, 14, 15, 16] rfl) hE226 hE227) (cwV 1 hT (tq_gV kw_43_18 kw_43_19 kw_43_20 kw_1_5 kw_43_21) rfl rfl rfl (by decide +kernel) ⟨Nat.le_of_ble_eq_true rfl, Nat.le_of_ble_eq_true rfl⟩) ⟨(tq_pre (isC := [12, 13]) hP hD hK hN rfl (by decide)).1, va_recv hK hP (ci := 8) (q0 := 12) rfl rfl, (tq_pre (isC := [12, 13]) hP hD hK hN rfl (by decide)).2⟩ rfl rfl hl.1 rfl (lv_room (Nat.le_of_ble_eq_true rfl)) dX8_asking_70 ⟨Nat.le_of_ble_eq_true rfl, Nat.le_of_ble_eq_true rfl⟩) (fun u231 H locs hw232 hP hD hS => ?_)
  refine W.widen (k := 0) (n := 0) (Nat.le_of_ble_eq_true rfl) (Nat.le_of_ble_eq_true rfl) ?_
  obtain ⟨g233, g234⟩ := u231
  obtain ⟨ho235, hf236, hE237, hE238⟩ := hw232
  try dsimp only at hP hD ho235 hf236 hE237 hE238
  have hf236 := fh_app (fo_fh (l' := [(2, .int 0), (52, .ref m52), (53, .ref m53), (54, .ref m54), (55, .ref m55), (56, .ref m56), (57, .ref m57), (58, .ref m58), (59, .ref m59), (22, .ref m22), (60, .ref m60), (61, .ref m61), (62, .ref m62), (71, .ref m71), (12, .int 0), (13, .int 0), (14, .int 0), (70, .int 0), (69, .int 0), (68, .int 0), (67, .int 0), (66, .int 0), (65, .int 0)]) hf225 ho235 rfl) hf236
  have ho239 := fo_mono (k2 := [72, 70, 69, 68, 67, 66, 65, 64, 2]) (fo_trans ho228 ho235) (by decide +kernel)
  have hf236 : fh g233 91 [(2, .int 0), (52, .ref m52), (53, .ref m53), (54, .ref m54), (55, .ref m55), (56, .ref m56), (57, .ref m57), (58, .ref m58), (59, .ref m59), (22, .ref m22), (60, .ref m60), (61, .ref m61), (62, .ref m62), (71, .ref m71), (12, .int 0), (13, .int 0), (14, .int 0), (70, .int 0), (69, .int 0), (68, .int 0), (67, .int 0), (66, .int 0), (65, .int 0), (72, .int 0)] := hf236
  have hP : va_P G vwCl [(m52, .inl (cA 0, 20, .inl g132)), (m53, .inl (cA 0, 20, .inl g133)), (m54, .inl (cA 0, 100, .inl g134)), (m55, .inl (cA 0, 10, .inl g135)), (m56, .inl (cA 0, 12, .inl g136)), (m57, .inl (cA 0, 12, .inl g137)), (m58, .inl (cA 0, 12, .inl g138)), (m59, .inl (cA 0, 12, .inl g139)), (m22, .inl (cA 0, 6, .inl mf22)), (m60, .inl (cA 0, 2, .inl g140)), (m62, .inl (cA 0, 2, .inl g142)), (m71, .inl (cA 0, 10, .inl g143)), (h0, .inr (8, g233)), (m61, .inl (cA 0, 2, .inl g234))] H := hP
  have hD : va_D A [(m52, .inl (cA 0, 20, .inl g132)), (m53, .inl (cA 0, 20, .inl g133)), (m54, .inl (cA 0, 100, .inl g134)), (m55, .inl (cA 0, 10, .inl g135)), (m56, .inl (cA 0, 12, .inl g136)), (m57, .inl (cA 0, 12, .inl g137)), (m58, .inl (cA 0, 12, .inl g138)), (m59, .inl (cA 0, 12, .inl g139)), (m22, .inl (cA 0, 6, .inl mf22)), (m60, .inl (cA 0, 2, .inl g140)), (m62, .inl (cA 0, 2, .inl g142)), (m71, .inl (cA 0, 10, .inl g143)), (h0, .inr (8, g233)), (m61, .inl (cA 0, 2, .inl g234))] := hD
  refine lv_goto (tgt := 20) hx hb dX8_asking_73 (by decide) ?_
  refine lv_aload_n hx hb dX8_asking_20 rfl (lv_at hl 2 rfl) ?_
  refine va_get (D := G) (ci := 8) (v := .ref m61) (C := RX8) (T := TX8) (N := 91) hx hb hT ku_8 hown hK hP 12 rfl rfl 61 (by decide) (hT _ kw_10_22) (fun _ h9 => h9) (fh_at hf236 11 rfl) dX8_asking_21 ?_
  refine lv_iconst (v := 1) hx hb dX8_asking_24 (by decide) ?_
  refine va_iald (i := 1) hx hb hK hP 13 0 rfl rfl (tq_in (by decide)) dX8_asking_25 ?_
  refine tq_i (w := 8) hE238 ?_
  refine lv_bipush (v := 21) hx hb dX8_asking_26 (by decide) ?_
  refine lv_icmp_ge (tgt := 76) hx hb dX8_asking_28 (by decide) (fun c240 => absurd c240 (by decide)) (fun c240 => ?_)
  refine lv_iconst (v := 0) hx hb dX8_asking_31 (by decide) ?_
  refine lv_istore_n (lv' := [(2, .int 0), (1, .int 0), (0, .ref h0)]) hx hb dX8_asking_32 rfl hl (by decide) rfl (fun ls hl => ?_)
  refine lv_iload_n hx hb dX8_asking_33 rfl (lv_at hl 0 rfl) ?_
  refine lv_aload_n hx hb dX8_asking_34 rfl (lv_at hl 2 rfl) ?_
  refine va_get (D := G) (ci := 8) (v := .int 0) (C := RX8) (T := TX8) (N := 91) hx hb hT ku_8 hown hK hP 12 rfl rfl 12 (by decide) (hT _ kw_12_3) (fun _ h9 => h9) (fh_at hf236 14 rfl) dX8_asking_35 ?_
  refine lv_icmp_ge (tgt := 68) hx hb dX8_asking_38 (by decide) (fun c241 => ?_) (fun c241 => absurd (by decide) c241)
  refine lv_aload_n hx hb dX8_asking_68 rfl (lv_at hl 2 rfl) ?_
  refine lv_iconst (v := 1) hx hb dX8_asking_69 (by decide) ?_
  refine tq_cv (wr := [(m52, .inl (cA 0, 20, .inl g132)), (m53, .inl (cA 0, 20, .inl g133)), (m54, .inl (cA 0, 100, .inl g134)), (m55, .inl (cA 0, 10, .inl g135)), (m56, .inl (cA 0, 12, .inl g136)), (m57, .inl (cA 0, 12, .inl g137)), (m58, .inl (cA 0, 12, .inl g138)), (m59, .inl (cA 0, 12, .inl g139)), (m22, .inl (cA 0, 6, .inl mf22)), (m60, .inl (cA 0, 2, .inl g140)), (m62, .inl (cA 0, 2, .inl g142)), (m71, .inl (cA 0, 10, .inl g143))]) hP hD hS hA [12, 13] [0, 1, 2, 3, 4, 5, 6, 7, 8, 9, 10, 11] rfl rfl (by decide +kernel) (by decide) (va_runV (As := [.int 1]) (rest := []) ⟨hx, hb, hml, hown, hT⟩ (c_X8_goOn_1_8 l G cA H.size h0 g233 m61 g234 (fh_sub hf236 [11, 14, 15, 16] rfl) hE237 hE238) (cwV 1 hT (tq_gV kw_43_18 kw_43_19 kw_43_20 kw_1_5 kw_43_21) rfl rfl rfl (by decide +kernel) ⟨Nat.le_of_ble_eq_true rfl, Nat.le_of_ble_eq_true rfl⟩) ⟨(tq_pre (isC := [12, 13]) hP hD hK hN rfl (by decide)).1, va_recv hK hP (ci := 8) (q0 := 12) rfl rfl, (tq_pre (isC := [12, 13]) hP hD hK hN rfl (by decide)).2⟩ rfl rfl hl.1 rfl (lv_room (Nat.le_of_ble_eq_true rfl)) dX8_asking_70 ⟨Nat.le_of_ble_eq_true rfl, Nat.le_of_ble_eq_true rfl⟩) (fun u242 H locs hw243 hP hD hS => ?_)
  refine W.widen (k := 0) (n := 0) (Nat.le_of_ble_eq_true rfl) (Nat.le_of_ble_eq_true rfl) ?_
  obtain ⟨g244, g245⟩ := u242
  obtain ⟨ho246, hf247, hE248, hE249⟩ := hw243
  try dsimp only at hP hD ho246 hf247 hE248 hE249
  have hf247 := fh_app (fo_fh (l' := [(2, .int 0), (52, .ref m52), (53, .ref m53), (54, .ref m54), (55, .ref m55), (56, .ref m56), (57, .ref m57), (58, .ref m58), (59, .ref m59), (22, .ref m22), (60, .ref m60), (61, .ref m61), (62, .ref m62), (71, .ref m71), (12, .int 0), (13, .int 0), (14, .int 0), (70, .int 0), (69, .int 0), (68, .int 0), (67, .int 0), (66, .int 0), (65, .int 0)]) hf236 ho246 rfl) hf247
  have ho250 := fo_mono (k2 := [72, 70, 69, 68, 67, 66, 65, 64, 2]) (fo_trans ho239 ho246) (by decide +kernel)
  have hf247 : fh g244 91 [(2, .int 0), (52, .ref m52), (53, .ref m53), (54, .ref m54), (55, .ref m55), (56, .ref m56), (57, .ref m57), (58, .ref m58), (59, .ref m59), (22, .ref m22), (60, .ref m60), (61, .ref m61), (62, .ref m62), (71, .ref m71), (12, .int 0), (13, .int 0), (14, .int 0), (70, .int 0), (69, .int 0), (68, .int 0), (67, .int 0), (66, .int 0), (65, .int 0), (72, .int 0)] := hf247
  have hP : va_P G vwCl [(m52, .inl (cA 0, 20, .inl g132)), (m53, .inl (cA 0, 20, .inl g133)), (m54, .inl (cA 0, 100, .inl g134)), (m55, .inl (cA 0, 10, .inl g135)), (m56, .inl (cA 0, 12, .inl g136)), (m57, .inl (cA 0, 12, .inl g137)), (m58, .inl (cA 0, 12, .inl g138)), (m59, .inl (cA 0, 12, .inl g139)), (m22, .inl (cA 0, 6, .inl mf22)), (m60, .inl (cA 0, 2, .inl g140)), (m62, .inl (cA 0, 2, .inl g142)), (m71, .inl (cA 0, 10, .inl g143)), (h0, .inr (8, g244)), (m61, .inl (cA 0, 2, .inl g245))] H := hP
  have hD : va_D A [(m52, .inl (cA 0, 20, .inl g132)), (m53, .inl (cA 0, 20, .inl g133)), (m54, .inl (cA 0, 100, .inl g134)), (m55, .inl (cA 0, 10, .inl g135)), (m56, .inl (cA 0, 12, .inl g136)), (m57, .inl (cA 0, 12, .inl g137)), (m58, .inl (cA 0, 12, .inl g138)), (m59, .inl (cA 0, 12, .inl g139)), (m22, .inl (cA 0, 6, .inl mf22)), (m60, .inl (cA 0, 2, .inl g140)), (m62, .inl (cA 0, 2, .inl g142)), (m71, .inl (cA 0, 10, .inl g143)), (h0, .inr (8, g244)), (m61, .inl (cA 0, 2, .inl g245))] := hD
  refine lv_goto (tgt := 20) hx hb dX8_asking_73 (by decide) ?_
  refine lv_aload_n hx hb dX8_asking_20 rfl (lv_at hl 2 rfl) ?_
  refine va_get (D := G) (ci := 8) (v := .ref m61) (C := RX8) (T := TX8) (N := 91) hx hb hT ku_8 hown hK hP 12 rfl rfl 61 (by decide) (hT _ kw_10_22) (fun _ h9 => h9) (fh_at hf247 11 rfl) dX8_asking_21 ?_
  refine lv_iconst (v := 1) hx hb dX8_asking_24 (by decide) ?_
  refine va_iald (i := 1) hx hb hK hP 13 0 rfl rfl (tq_in (by decide)) dX8_asking_25 ?_
  refine tq_i (w := 9) hE249 ?_
  refine lv_bipush (v := 21) hx hb dX8_asking_26 (by decide) ?_
  refine lv_icmp_ge (tgt := 76) hx hb dX8_asking_28 (by decide) (fun c251 => absurd c251 (by decide)) (fun c251 => ?_)
  refine lv_iconst (v := 0) hx hb dX8_asking_31 (by decide) ?_
  refine lv_istore_n (lv' := [(2, .int 0), (1, .int 0), (0, .ref h0)]) hx hb dX8_asking_32 rfl hl (by decide) rfl (fun ls hl => ?_)
  refine lv_iload_n hx hb dX8_asking_33 rfl (lv_at hl 0 rfl) ?_
  refine lv_aload_n hx hb dX8_asking_34 rfl (lv_at hl 2 rfl) ?_
  refine va_get (D := G) (ci := 8) (v := .int 0) (C := RX8) (T := TX8) (N := 91) hx hb hT ku_8 hown hK hP 12 rfl rfl 12 (by decide) (hT _ kw_12_3) (fun _ h9 => h9) (fh_at hf247 14 rfl) dX8_asking_35 ?_
  refine lv_icmp_ge (tgt := 68) hx hb dX8_asking_38 (by decide) (fun c252 => ?_) (fun c252 => absurd (by decide) c252)
  refine lv_aload_n hx hb dX8_asking_68 rfl (lv_at hl 2 rfl) ?_
  refine lv_iconst (v := 1) hx hb dX8_asking_69 (by decide) ?_
  refine tq_cv (wr := [(m52, .inl (cA 0, 20, .inl g132)), (m53, .inl (cA 0, 20, .inl g133)), (m54, .inl (cA 0, 100, .inl g134)), (m55, .inl (cA 0, 10, .inl g135)), (m56, .inl (cA 0, 12, .inl g136)), (m57, .inl (cA 0, 12, .inl g137)), (m58, .inl (cA 0, 12, .inl g138)), (m59, .inl (cA 0, 12, .inl g139)), (m22, .inl (cA 0, 6, .inl mf22)), (m60, .inl (cA 0, 2, .inl g140)), (m62, .inl (cA 0, 2, .inl g142)), (m71, .inl (cA 0, 10, .inl g143))]) hP hD hS hA [12, 13] [0, 1, 2, 3, 4, 5, 6, 7, 8, 9, 10, 11] rfl rfl (by decide +kernel) (by decide) (va_runV (As := [.int 1]) (rest := []) ⟨hx, hb, hml, hown, hT⟩ (c_X8_goOn_1_9 l G cA H.size h0 g244 m61 g245 (fh_sub hf247 [11, 14, 15, 16] rfl) hE248 hE249) (cwV 1 hT (tq_gV kw_43_18 kw_43_19 kw_43_20 kw_1_5 kw_43_21) rfl rfl rfl (by decide +kernel) ⟨Nat.le_of_ble_eq_true rfl, Nat.le_of_ble_eq_true rfl⟩) ⟨(tq_pre (isC := [12, 13]) hP hD hK hN rfl (by decide)).1, va_recv hK hP (ci := 8) (q0 := 12) rfl rfl, (tq_pre (isC := [12, 13]) hP hD hK hN rfl (by decide)).2⟩ rfl rfl hl.1 rfl (lv_room (Nat.le_of_ble_eq_true rfl)) dX8_asking_70 ⟨Nat.le_of_ble_eq_true rfl, Nat.le_of_ble_eq_true rfl⟩) (fun u253 H locs hw254 hP hD hS => ?_)
  refine W.widen (k := 0) (n := 0) (Nat.le_of_ble_eq_true rfl) (Nat.le_of_ble_eq_true rfl) ?_
  obtain ⟨g255, g256⟩ := u253
  obtain ⟨ho257, hf258, hE259, hE260⟩ := hw254
  try dsimp only at hP hD ho257 hf258 hE259 hE260
  have hf258 := fh_app (fo_fh (l' := [(2, .int 0), (52, .ref m52), (53, .ref m53), (54, .ref m54), (55, .ref m55), (56, .ref m56), (57, .ref m57), (58, .ref m58), (59, .ref m59), (22, .ref m22), (60, .ref m60), (61, .ref m61), (62, .ref m62), (71, .ref m71), (12, .int 0), (13, .int 0), (14, .int 0), (70, .int 0), (69, .int 0), (68, .int 0), (67, .int 0), (66, .int 0), (65, .int 0)]) hf247 ho257 rfl) hf258
  have ho261 := fo_mono (k2 := [72, 70, 69, 68, 67, 66, 65, 64, 2]) (fo_trans ho250 ho257) (by decide +kernel)
  have hf258 : fh g255 91 [(2, .int 0), (52, .ref m52), (53, .ref m53), (54, .ref m54), (55, .ref m55), (56, .ref m56), (57, .ref m57), (58, .ref m58), (59, .ref m59), (22, .ref m22), (60, .ref m60), (61, .ref m61), (62, .ref m62), (71, .ref m71), (12, .int 0), (13, .int 0), (14, .int 0), (70, .int 0), (69, .int 0), (68, .int 0), (67, .int 0), (66, .int 0), (65, .int 0), (72, .int 0)] := hf258
  have hP : va_P G vwCl [(m52, .inl (cA 0, 20, .inl g132)), (m53, .inl (cA 0, 20, .inl g133)), (m54, .inl (cA 0, 100, .inl g134)), (m55, .inl (cA 0, 10, .inl g135)), (m56, .inl (cA 0, 12, .inl g136)), (m57, .inl (cA 0, 12, .inl g137)), (m58, .inl (cA 0, 12, .inl g138)), (m59, .inl (cA 0, 12, .inl g139)), (m22, .inl (cA 0, 6, .inl mf22)), (m60, .inl (cA 0, 2, .inl g140)), (m62, .inl (cA 0, 2, .inl g142)), (m71, .inl (cA 0, 10, .inl g143)), (h0, .inr (8, g255)), (m61, .inl (cA 0, 2, .inl g256))] H := hP
  have hD : va_D A [(m52, .inl (cA 0, 20, .inl g132)), (m53, .inl (cA 0, 20, .inl g133)), (m54, .inl (cA 0, 100, .inl g134)), (m55, .inl (cA 0, 10, .inl g135)), (m56, .inl (cA 0, 12, .inl g136)), (m57, .inl (cA 0, 12, .inl g137)), (m58, .inl (cA 0, 12, .inl g138)), (m59, .inl (cA 0, 12, .inl g139)), (m22, .inl (cA 0, 6, .inl mf22)), (m60, .inl (cA 0, 2, .inl g140)), (m62, .inl (cA 0, 2, .inl g142)), (m71, .inl (cA 0, 10, .inl g143)), (h0, .inr (8, g255)), (m61, .inl (cA 0, 2, .inl g256))] := hD
  refine lv_goto (tgt := 20) hx hb dX8_asking_73 (by decide) ?_
  refine lv_aload_n hx hb dX8_asking_20 rfl (lv_at hl 2 rfl) ?_
  refine va_get (D := G) (ci := 8) (v := .ref m61) (C := RX8) (T := TX8) (N := 91) hx hb hT ku_8 hown hK hP 12 rfl rfl 61 (by decide) (hT _ kw_10_22) (fun _ h9 => h9) (fh_at hf258 11 rfl) dX8_asking_21 ?_
  refine lv_iconst (v := 1) hx hb dX8_asking_24 (by decide) ?_
  refine va_iald (i := 1) hx hb hK hP 13 0 rfl rfl (tq_in (by decide)) dX8_asking_25 ?_
  refine tq_i (w := 10) hE260 ?_
  refine lv_bipush (v := 21) hx hb dX8_asking_26 (by decide) ?_
  refine lv_icmp_ge (tgt := 76) hx hb dX8_asking_28 (by decide) (fun c262 => absurd c262 (by decide)) (fun c262 => ?_)
  refine lv_iconst (v := 0) hx hb dX8_asking_31 (by decide) ?_
  refine lv_istore_n (lv' := [(2, .int 0), (1, .int 0), (0, .ref h0)]) hx hb dX8_asking_32 rfl hl (by decide) rfl (fun ls hl => ?_)
  refine lv_iload_n hx hb dX8_asking_33 rfl (lv_at hl 0 rfl) ?_
  refine lv_aload_n hx hb dX8_asking_34 rfl (lv_at hl 2 rfl) ?_
  refine va_get (D := G) (ci := 8) (v := .int 0) (C := RX8) (T := TX8) (N := 91) hx hb hT ku_8 hown hK hP 12 rfl rfl 12 (by decide) (hT _ kw_12_3) (fun _ h9 => h9) (fh_at hf258 14 rfl) dX8_asking_35 ?_
  refine lv_icmp_ge (tgt := 68) hx hb dX8_asking_38 (by decide) (fun c263 => ?_) (fun c263 => absurd (by decide) c263)
  refine lv_aload_n hx hb dX8_asking_68 rfl (lv_at hl 2 rfl) ?_
  refine lv_iconst (v := 1) hx hb dX8_asking_69 (by decide) ?_
  refine tq_cv (wr := [(m52, .inl (cA 0, 20, .inl g132)), (m53, .inl (cA 0, 20, .inl g133)), (m54, .inl (cA 0, 100, .inl g134)), (m55, .inl (cA 0, 10, .inl g135)), (m56, .inl (cA 0, 12, .inl g136)), (m57, .inl (cA 0, 12, .inl g137)), (m58, .inl (cA 0, 12, .inl g138)), (m59, .inl (cA 0, 12, .inl g139)), (m22, .inl (cA 0, 6, .inl mf22)), (m60, .inl (cA 0, 2, .inl g140)), (m62, .inl (cA 0, 2, .inl g142)), (m71, .inl (cA 0, 10, .inl g143))]) hP hD hS hA [12, 13] [0, 1, 2, 3, 4, 5, 6, 7, 8, 9, 10, 11] rfl rfl (by decide +kernel) (by decide) (va_runV (As := [.int 1]) (rest := []) ⟨hx, hb, hml, hown, hT⟩ (c_X8_goOn_1_10 l G cA H.size h0 g255 m61 g256 (fh_sub hf258 [11, 14, 15, 16] rfl) hE259 hE260) (cwV 1 hT (tq_gV kw_43_18 kw_43_19 kw_43_20 kw_1_5 kw_43_21) rfl rfl rfl (by decide +kernel) ⟨Nat.le_of_ble_eq_true rfl, Nat.le_of_ble_eq_true rfl⟩) ⟨(tq_pre (isC := [12, 13]) hP hD hK hN rfl (by decide)).1, va_recv hK hP (ci := 8) (q0 := 12) rfl rfl, (tq_pre (isC := [12, 13]) hP hD hK hN rfl (by decide)).2⟩ rfl rfl hl.1 rfl (lv_room (Nat.le_of_ble_eq_true rfl)) dX8_asking_70 ⟨Nat.le_of_ble_eq_true rfl, Nat.le_of_ble_eq_true rfl⟩) (fun u264 H locs hw265 hP hD hS => ?_)
  refine W.widen (k := 0) (n := 0) (Nat.le_of_ble_eq_true rfl) (Nat.le_of_ble_eq_true rfl) ?_
  obtain ⟨g266, g267⟩ := u264
  obtain ⟨ho268, hf269, hE270, hE271⟩ := hw265
  try dsimp only at hP hD ho268 hf269 hE270 hE271
  have hf269 := fh_app (fo_fh (l' := [(2, .int 0), (52, .ref m52), (53, .ref m53), (54, .ref m54), (55, .ref m55), (56, .ref m56), (57, .ref m57), (58, .ref m58), (59, .ref m59), (22, .ref m22), (60, .ref m60), (61, .ref m61), (62, .ref m62), (71, .ref m71), (12, .int 0), (13, .int 0), (14, .int 0), (70, .int 0), (69, .int 0), (68, .int 0), (67, .int 0), (66, .int 0), (65, .int 0)]) hf258 ho268 rfl) hf269
  have ho272 := fo_mono (k2 := [72, 70, 69, 68, 67, 66, 65, 64, 2]) (fo_trans ho261 ho268) (by decide +kernel)
  have hf269 : fh g266 91 [(2, .int 0), (52, .ref m52), (53, .ref m53), (54, .ref m54), (55, .ref m55), (56, .ref m56), (57, .ref m57), (58, .ref m58), (59, .ref m59), (22, .ref m22), (60, .ref m60), (61, .ref m61), (62, .ref m62), (71, .ref m71), (12, .int 0), (13, .int 0), (14, .int 0), (70, .int 0), (69, .int 0), (68, .int 0), (67, .int 0), (66, .int 0), (65, .int 0), (72, .int 0)] := hf269
  have hP : va_P G vwCl [(m52, .inl (cA 0, 20, .inl g132)), (m53, .inl (cA 0, 20, .inl g133)), (m54, .inl (cA 0, 100, .inl g134)), (m55, .inl (cA 0, 10, .inl g135)), (m56, .inl (cA 0, 12, .inl g136)), (m57, .inl (cA 0, 12, .inl g137)), (m58, .inl (cA 0, 12, .inl g138)), (m59, .inl (cA 0, 12, .inl g139)), (m22, .inl (cA 0, 6, .inl mf22)), (m60, .inl (cA 0, 2, .inl g140)), (m62, .inl (cA 0, 2, .inl g142)), (m71, .inl (cA 0, 10, .inl g143)), (h0, .inr (8, g266)), (m61, .inl (cA 0, 2, .inl g267))] H := hP
  have hD : va_D A [(m52, .inl (cA 0, 20, .inl g132)), (m53, .inl (cA 0, 20, .inl g133)), (m54, .inl (cA 0, 100, .inl g134)), (m55, .inl (cA 0, 10, .inl g135)), (m56, .inl (cA 0, 12, .inl g136)), (m57, .inl (cA 0, 12, .inl g137)), (m58, .inl (cA 0, 12, .inl g138)), (m59, .inl (cA 0, 12, .inl g139)), (m22, .inl (cA 0, 6, .inl mf22)), (m60, .inl (cA 0, 2, .inl g140)), (m62, .inl (cA 0, 2, .inl g142)), (m71, .inl (cA 0, 10, .inl g143)), (h0, .inr (8, g266)), (m61, .inl (cA 0, 2, .inl g267))] := hD
  refine lv_goto (tgt := 20) hx hb dX8_asking_73 (by decide) ?_
  refine lv_aload_n hx hb dX8_asking_20 rfl (lv_at hl 2 rfl) ?_
  refine va_get (D := G) (ci := 8) (v := .ref m61) (C := RX8) (T := TX8) (N := 91) hx hb hT ku_8 hown hK hP 12 rfl rfl 61 (by decide) (hT _ kw_10_22) (fun _ h9 => h9) (fh_at hf269 11 rfl) dX8_asking_21 ?_
  refine lv_iconst (v := 1) hx hb dX8_asking_24 (by decide) ?_
  refine va_iald (i := 1) hx hb hK hP 13 0 rfl rfl (tq_in (by decide)) dX8_asking_25 ?_
  refine tq_i (w := 11) hE271 ?_
  refine lv_bipush (v := 21) hx hb dX8_asking_26 (by decide) ?_
  refine lv_icmp_ge (tgt := 76) hx hb dX8_asking_28 (by decide) (fun c273 => absurd c273 (by decide)) (fun c273 => ?_)
  refine lv_iconst (v := 0) hx hb dX8_asking_31 (by decide) ?_
  refine lv_istore_n (lv' := [(2, .int 0), (1, .int 0), (0, .ref h0)]) hx hb dX8_asking_32 rfl hl (by decide) rfl (fun ls hl => ?_)
  refine lv_iload_n hx hb dX8_asking_33 rfl (lv_at hl 0 rfl) ?_
  refine lv_aload_n hx hb dX8_asking_34 rfl (lv_at hl 2 rfl) ?_
  refine va_get (D := G) (ci := 8) (v := .int 0) (C := RX8) (T := TX8) (N := 91) hx hb hT ku_8 hown hK hP 12 rfl rfl 12 (by decide) (hT _ kw_12_3) (fun _ h9 => h9) (fh_at hf269 14 rfl) dX8_asking_35 ?_
  refine lv_icmp_ge (tgt := 68) hx hb dX8_asking_38 (by decide) (fun c274 => ?_) (fun c274 => absurd (by decide) c274)
  refine lv_aload_n hx hb dX8_asking_68 rfl (lv_at hl 2 rfl) ?_
  refine lv_iconst (v := 1) hx hb dX8_asking_69 (by decide) ?_
  refine tq_cv (wr := [(m52, .inl (cA 0, 20, .inl g132)), (m53, .inl (cA 0, 20, .inl g133)), (m54, .inl (cA 0, 100, .inl g134)), (m55, .inl (cA 0, 10, .inl g135)), (m56, .inl (cA 0, 12, .inl g136)), (m57, .inl (cA 0, 12, .inl g137)), (m58, .inl (cA 0, 12, .inl g138)), (m59, .inl (cA 0, 12, .inl g139)), (m22, .inl (cA 0, 6, .inl mf22)), (m60, .inl (cA 0, 2, .inl g140)), (m62, .inl (cA 0, 2, .inl g142)), (m71, .inl (cA 0, 10, .inl g143))]) hP hD hS hA [12, 13] [0, 1, 2, 3, 4, 5, 6, 7, 8, 9, 10, 11] rfl rfl (by decide +kernel) (by decide) (va_runV (As := [.int 1]) (rest := []) ⟨hx, hb, hml, hown, hT⟩ (c_X8_goOn_1_11 l G cA H.size h0 g266 m61 g267 (fh_sub hf269 [11, 14, 15, 16] rfl) hE270 hE271) (cwV 1 hT (tq_gV kw_43_18 kw_43_19 kw_43_20 kw_1_5 kw_43_21) rfl rfl rfl (by decide +kernel) ⟨Nat.le_of_ble_eq_true rfl, Nat.le_of_ble_eq_true rfl⟩) ⟨(tq_pre (isC := [12, 13]) hP hD hK hN rfl (by decide)).1, va_recv hK hP (ci := 8) (q0 := 12) rfl rfl, (tq_pre (isC := [12, 13]) hP hD hK hN rfl (by decide)).2⟩ rfl rfl hl.1 rfl (lv_room (Nat.le_of_ble_eq_true rfl)) dX8_asking_70 ⟨Nat.le_of_ble_eq_true rfl, Nat.le_of_ble_eq_true rfl⟩) (fun u275 H locs hw276 hP hD hS => ?_)
  refine W.widen (k := 0) (n := 0) (Nat.le_of_ble_eq_true rfl) (Nat.le_of_ble_eq_true rfl) ?_
  obtain ⟨g277, g278⟩ := u275
  obtain ⟨ho279, hf280, hE281, hE282⟩ := hw276
  try dsimp only at hP hD ho279 hf280 hE281 hE282
  have hf280 := fh_app (fo_fh (l' := [(2, .int 0), (52, .ref m52), (53, .ref m53), (54, .ref m54), (55, .ref m55), (56, .ref m56), (57, .ref m57), (58, .ref m58), (59, .ref m59), (22, .ref m22), (60, .ref m60), (61, .ref m61), (62, .ref m62), (71, .ref m71), (12, .int 0), (13, .int 0), (14, .int 0), (70, .int 0), (69, .int 0), (68, .int 0), (67, .int 0), (66, .int 0), (65, .int 0)]) hf269 ho279 rfl) hf280
  have ho283 := fo_mono (k2 := [72, 70, 69, 68, 67, 66, 65, 64, 2]) (fo_trans ho272 ho279) (by decide +kernel)
  have hf280 : fh g277 91 [(2, .int 0), (52, .ref m52), (53, .ref m53), (54, .ref m54), (55, .ref m55), (56, .ref m56), (57, .ref m57), (58, .ref m58), (59, .ref m59), (22, .ref m22), (60, .ref m60), (61, .ref m61), (62, .ref m62), (71, .ref m71), (12, .int 0), (13, .int 0), (14, .int 0), (70, .int 0), (69, .int 0), (68, .int 0), (67, .int 0), (66, .int 0), (65, .int 0), (72, .int 0)] := hf280
  have hP : va_P G vwCl [(m52, .inl (cA 0, 20, .inl g132)), (m53, .inl (cA 0, 20, .inl g133)), (m54, .inl (cA 0, 100, .inl g134)), (m55, .inl (cA 0, 10, .inl g135)), (m56, .inl (cA 0, 12, .inl g136)), (m57, .inl (cA 0, 12, .inl g137)), (m58, .inl (cA 0, 12, .inl g138)), (m59, .inl (cA 0, 12, .inl g139)), (m22, .inl (cA 0, 6, .inl mf22)), (m60, .inl (cA 0, 2, .inl g140)), (m62, .inl (cA 0, 2, .inl g142)), (m71, .inl (cA 0, 10, .inl g143)), (h0, .inr (8, g277)), (m61, .inl (cA 0, 2, .inl g278))] H := hP
  have hD : va_D A [(m52, .inl (cA 0, 20, .inl g132)), (m53, .inl (cA 0, 20, .inl g133)), (m54, .inl (cA 0, 100, .inl g134)), (m55, .inl (cA 0, 10, .inl g135)), (m56, .inl (cA 0, 12, .inl g136)), (m57, .inl (cA 0, 12, .inl g137)), (m58, .inl (cA 0, 12, .inl g138)), (m59, .inl (cA 0, 12, .inl g139)), (m22, .inl (cA 0, 6, .inl mf22)), (m60, .inl (cA 0, 2, .inl g140)), (m62, .inl (cA 0, 2, .inl g142)), (m71, .inl (cA 0, 10, .inl g143)), (h0, .inr (8, g277)), (m61, .inl (cA 0, 2, .inl g278))] := hD
  refine lv_goto (tgt := 20) hx hb dX8_asking_73 (by decide) ?_
  refine lv_aload_n hx hb dX8_asking_20 rfl (lv_at hl 2 rfl) ?_
  refine va_get (D := G) (ci := 8) (v := .ref m61) (C := RX8) (T := TX8) (N := 91) hx hb hT ku_8 hown hK hP 12 rfl rfl 61 (by decide) (hT _ kw_10_22) (fun _ h9 => h9) (fh_at hf280 11 rfl) dX8_asking_21 ?_
  refine lv_iconst (v := 1) hx hb dX8_asking_24 (by decide) ?_
  refine va_iald (i := 1) hx hb hK hP 13 0 rfl rfl (tq_in (by decide)) dX8_asking_25 ?_
  refine tq_i (w := 12) hE282 ?_
  refine lv_bipush (v := 21) hx hb dX8_asking_26 (by decide) ?_
  refine lv_icmp_ge (tgt := 76) hx hb dX8_asking_28 (by decide) (fun c284 => absurd c284 (by decide)) (fun c284 => ?_)
  refine lv_iconst (v := 0) hx hb dX8_asking_31 (by decide) ?_
  refine lv_istore_n (lv' := [(2, .int 0), (1, .int 0), (0, .ref h0)]) hx hb dX8_asking_32 rfl hl (by decide) rfl (fun ls hl => ?_)
  refine lv_iload_n hx hb dX8_asking_33 rfl (lv_at hl 0 rfl) ?_
  refine lv_aload_n hx hb dX8_asking_34 rfl (lv_at hl 2 rfl) ?_
  refine va_get (D := G) (ci := 8) (v := .int 0) (C := RX8) (T := TX8) (N := 91) hx hb hT ku_8 hown hK hP 12 rfl rfl 12 (by decide) (hT _ kw_12_3) (fun _ h9 => h9) (fh_at hf280 14 rfl) dX8_asking_35 ?_
  refine lv_icmp_ge (tgt := 68) hx hb dX8_asking_38 (by decide) (fun c285 => ?_) (fun c285 => absurd (by decide) c285)
  refine lv_aload_n hx hb dX8_asking_68 rfl (lv_at hl 2 rfl) ?_
  refine lv_iconst (v := 1) hx hb dX8_asking_69 (by decide) ?_
  refine tq_cv (wr := [(m52, .inl (cA 0, 20, .inl g132)), (m53, .inl (cA 0, 20, .inl g133)), (m54, .inl (cA 0, 100, .inl g134)), (m55, .inl (cA 0, 10, .inl g135)), (m56, .inl (cA 0, 12, .inl g136)), (m57, .inl (cA 0, 12, .inl g137)), (m58, .inl (cA 0, 12, .inl g138)), (m59, .inl (cA 0, 12, .inl g139)), (m22, .inl (cA 0, 6, .inl mf22)), (m60, .inl (cA 0, 2, .inl g140)), (m62, .inl (cA 0, 2, .inl g142)), (m71, .inl (cA 0, 10, .inl g143))]) hP hD hS hA [12, 13] [0, 1, 2, 3, 4, 5, 6, 7, 8, 9, 10, 11] rfl rfl (by decide +kernel) (by decide) (va_runV (As := [.int 1]) (rest := []) ⟨hx, hb, hml, hown, hT⟩ (c_X8_goOn_1_12 l G cA H.size h0 g277 m61 g278 (fh_sub hf280 [11, 14, 15, 16] rfl) hE281 hE282) (cwV 1 hT (tq_gV kw_43_18 kw_43_19 kw_43_20 kw_1_5 kw_43_21) rfl rfl rfl (by decide +kernel) ⟨Nat.le_of_ble_eq_true rfl, Nat.le_of_ble_eq_true rfl⟩) ⟨(tq_pre (isC := [12, 13]) hP hD hK hN rfl (by decide)).1, va_recv hK hP (ci := 8) (q0 := 12) rfl rfl, (tq_pre (isC := [12, 13]) hP hD hK hN rfl (by decide)).2⟩ rfl rfl hl.1 rfl (lv_room (Nat.le_of_ble_eq_true rfl)) dX8_asking_70 ⟨Nat.le_of_ble_eq_true rfl, Nat.le_of_ble_eq_true rfl⟩) (fun u286 H locs hw287 hP hD hS => ?_)
  refine W.widen (k := 0) (n := 0) (Nat.le_of_ble_eq_true rfl) (Nat.le_of_ble_eq_true rfl) ?_
  obtain ⟨g288, g289⟩ := u286
  obtain ⟨ho290, hf291, hE292, hE293⟩ := hw287
  try dsimp only at hP hD ho290 hf291 hE292 hE293
  have hf291 := fh_app (fo_fh (l' := [(2, .int 0), (52, .ref m52), (53, .ref m53), (54, .ref m54), (55, .ref m55), (56, .ref m56), (57, .ref m57), (58, .ref m58), (59, .ref m59), (22, .ref m22), (60, .ref m60), (61, .ref m61), (62, .ref m62), (71, .ref m71), (12, .int 0), (13, .int 0), (14, .int 0), (70, .int 0), (69, .int 0), (68, .int 0), (67, .int 0), (66, .int 0), (65, .int 0)]) hf280 ho290 rfl) hf291
  have ho294 := fo_mono (k2 := [72, 70, 69, 68, 67, 66, 65, 64, 2]) (fo_trans ho283 ho290) (by decide +kernel)
  have hf291 : fh g288 91 [(2, .int 0), (52, .ref m52), (53, .ref m53), (54, .ref m54), (55, .ref m55), (56, .ref m56), (57, .ref m57), (58, .ref m58), (59, .ref m59), (22, .ref m22), (60, .ref m60), (61, .ref m61), (62, .ref m62), (71, .ref m71), (12, .int 0), (13, .int 0), (14, .int 0), (70, .int 0), (69, .int 0), (68, .int 0), (67, .int 0), (66, .int 0), (65, .int 0), (72, .int 0)] := hf291
  have hP : va_P G vwCl [(m52, .inl (cA 0, 20, .inl g132)), (m53, .inl (cA 0, 20, .inl g133)), (m54, .inl (cA 0, 100, .inl g134)), (m55, .inl (cA 0, 10, .inl g135)), (m56, .inl (cA 0, 12, .inl g136)), (m57, .inl (cA 0, 12, .inl g137)), (m58, .inl (cA 0, 12, .inl g138)), (m59, .inl (cA 0, 12, .inl g139)), (m22, .inl (cA 0, 6, .inl mf22)), (m60, .inl (cA 0, 2, .inl g140)), (m62, .inl (cA 0, 2, .inl g142)), (m71, .inl (cA 0, 10, .inl g143)), (h0, .inr (8, g288)), (m61, .inl (cA 0, 2, .inl g289))] H := hP
  have hD : va_D A [(m52, .inl (cA 0, 20, .inl g132)), (m53, .inl (cA 0, 20, .inl g133)), (m54, .inl (cA 0, 100, .inl g134)), (m55, .inl (cA 0, 10, .inl g135)), (m56, .inl (cA 0, 12, .inl g136)), (m57, .inl (cA 0, 12, .inl g137)), (m58, .inl (cA 0, 12, .inl g138)), (m59, .inl (cA 0, 12, .inl g139)), (m22, .inl (cA 0, 6, .inl mf22)), (m60, .inl (cA 0, 2, .inl g140)), (m62, .inl (cA 0, 2, .inl g142)), (m71, .inl (cA 0, 10, .inl g143)), (h0, .inr (8, g288)), (m61, .inl (cA 0, 2, .inl g289))] := hD
  refine lv_goto (tgt := 20) hx hb dX8_asking_73 (by decide) ?_
  refine lv_aload_n hx hb dX8_asking_20 rfl (lv_at hl 2 rfl) ?_
  refine va_get (D := G) (ci := 8) (v := .ref m61) (C := RX8) (T := TX8) (N := 91) hx hb hT ku_8 hown hK hP 12 rfl rfl 61 (by decide) (hT _ kw_10_22) (fun _ h9 => h9) (fh_at hf291 11 rfl) dX8_asking_21 ?_
  refine lv_iconst (v := 1) hx hb dX8_asking_24 (by decide) ?_
  refine va_iald (i := 1) hx hb hK hP 13 0 rfl rfl (tq_in (by decide)) dX8_asking_25 ?_
  refine tq_i (w := 13) hE293 ?_
  refine lv_bipush (v := 21) hx hb dX8_asking_26 (by decide) ?_
  refine lv_icmp_ge (tgt := 76) hx hb dX8_asking_28 (by decide) (fun c295 => absurd c295 (by decide)) (fun c295 => ?_)
  refine lv_iconst (v := 0) hx hb dX8_asking_31 (by decide) ?_
  refine lv_istore_n (lv' := [(2, .int 0), (1, .int 0), (0, .ref h0)]) hx hb dX8_asking_32 rfl hl (by decide) rfl (fun ls hl => ?_)
  refine lv_iload_n hx hb dX8_asking_33 rfl (lv_at hl 0 rfl) ?_
  refine lv_aload_n hx hb dX8_asking_34 rfl (lv_at hl 2 rfl) ?_
  refine va_get (D := G) (ci := 8) (v := .int 0) (C := RX8) (T := TX8) (N := 91) hx hb hT ku_8 hown hK hP 12 rfl rfl 12 (by decide) (hT _ kw_12_3) (fun _ h9 => h9) (fh_at hf291 14 rfl) dX8_asking_35 ?_
  refine lv_icmp_ge (tgt := 68) hx hb dX8_asking_38 (by decide) (fun c296 => ?_) (fun c296 => absurd (by decide) c296)
  refine lv_aload_n hx hb dX8_asking_68 rfl (lv_at hl 2 rfl) ?_
  refine lv_iconst (v := 1) hx hb dX8_asking_69 (by decide) ?_
  refine tq_cv (wr := [(m52, .inl (cA 0, 20, .inl g132)), (m53, .inl (cA 0, 20, .inl g133)), (m54, .inl (cA 0, 100, .inl g134)), (m55, .inl (cA 0, 10, .inl g135)), (m56, .inl (cA 0, 12, .inl g136)), (m57, .inl (cA 0, 12, .inl g137)), (m58, .inl (cA 0, 12, .inl g138)), (m59, .inl (cA 0, 12, .inl g139)), (m22, .inl (cA 0, 6, .inl mf22)), (m60, .inl (cA 0, 2, .inl g140)), (m62, .inl (cA 0, 2, .inl g142)), (m71, .inl (cA 0, 10, .inl g143))]) hP hD hS hA [12, 13] [0, 1, 2, 3, 4, 5, 6, 7, 8, 9, 10, 11] rfl rfl (by decide +kernel) (by decide) (va_runV (As := [.int 1]) (rest := []) ⟨hx, hb, hml, hown, hT⟩ (c_X8_goOn_1_13 l G cA H.size h0 g288 m61 g289 (fh_sub hf291 [11, 14, 15, 16] rfl) hE292 hE293) (cwV 1 hT (tq_gV kw_43_18 kw_43_19 kw_43_20 kw_1_5 kw_43_21) rfl rfl rfl (by decide +kernel) ⟨Nat.le_of_ble_eq_true rfl, Nat.le_of_ble_eq_true rfl⟩) ⟨(tq_pre (isC := [12, 13]) hP hD hK hN rfl (by decide)).1, va_recv hK hP (ci := 8) (q0 := 12) rfl rfl, (tq_pre (isC := [12, 13]) hP hD hK hN rfl (by decide)).2⟩ rfl rfl hl.1 rfl (lv_room (Nat.le_of_ble_eq_true rfl)) dX8_asking_70 ⟨Nat.le_of_ble_eq_true rfl, Nat.le_of_ble_eq_true rfl⟩) (fun u297 H locs hw298 hP hD hS => ?_)
  refine W.widen (k := 0) (n := 0) (Nat.le_of_ble_eq_true rfl) (Nat.le_of_ble_eq_true rfl) ?_
  obtain ⟨g299, g300⟩ := u297
  obtain ⟨ho301, hf302, hE303, hE304⟩ := hw298
  try dsimp only at hP hD ho301 hf302 hE303 hE304
  have hf302 := fh_app (fo_fh (l' := [(2, .int 0), (52, .ref m52), (53, .ref m53), (54, .ref m54), (55, .ref m55), (56, .ref m56), (57, .ref m57), (58, .ref m58), (59, .ref m59), (22, .ref m22), (60, .ref m60), (61, .ref m61), (62, .ref m62), (71, .ref m71), (12, .int 0), (13, .int 0), (14, .int 0), (70, .int 0), (69, .int 0), (68, .int 0), (67, .int 0), (66, .int 0), (65, .int 0)]) hf291 ho301 rfl) hf302
  have ho305 := fo_mono (k2 := [72, 70, 69, 68, 67, 66, 65, 64, 2]) (fo_trans ho294 ho301) (by decide +kernel)
  have hf302 : fh g299 91 [(2, .int 0), (52, .ref m52), (53, .ref m53), (54, .ref m54), (55, .ref m55), (56, .ref m56), (57, .ref m57), (58, .ref m58), (59, .ref m59), (22, .ref m22), (60, .ref m60), (61, .ref m61), (62, .ref m62), (71, .ref m71), (12, .int 0), (13, .int 0), (14, .int 0), (70, .int 0), (69, .int 0), (68, .int 0), (67, .int 0), (66, .int 0), (65, .int 0), (72, .int 0)] := hf302
  have hP : va_P G vwCl [(m52, .inl (cA 0, 20, .inl g132)), (m53, .inl (cA 0, 20, .inl g133)), (m54, .inl (cA 0, 100, .inl g134)), (m55, .inl (cA 0, 10, .inl g135)), (m56, .inl (cA 0, 12, .inl g136)), (m57, .inl (cA 0, 12, .inl g137)), (m58, .inl (cA 0, 12, .inl g138)), (m59, .inl (cA 0, 12, .inl g139)), (m22, .inl (cA 0, 6, .inl mf22)), (m60, .inl (cA 0, 2, .inl g140)), (m62, .inl (cA 0, 2, .inl g142)), (m71, .inl (cA 0, 10, .inl g143)), (h0, .inr (8, g299)), (m61, .inl (cA 0, 2, .inl g300))] H := hP
  have hD : va_D A [(m52, .inl (cA 0, 20, .inl g132)), (m53, .inl (cA 0, 20, .inl g133)), (m54, .inl (cA 0, 100, .inl g134)), (m55, .inl (cA 0, 10, .inl g135)), (m56, .inl (cA 0, 12, .inl g136)), (m57, .inl (cA 0, 12, .inl g137)), (m58, .inl (cA 0, 12, .inl g138)), (m59, .inl (cA 0, 12, .inl g139)), (m22, .inl (cA 0, 6, .inl mf22)), (m60, .inl (cA 0, 2, .inl g140)), (m62, .inl (cA 0, 2, .inl g142)), (m71, .inl (cA 0, 10, .inl g143)), (h0, .inr (8, g299)), (m61, .inl (cA 0, 2, .inl g300))] := hD
  refine lv_goto (tgt := 20) hx hb dX8_asking_73 (by decide) ?_
  refine lv_aload_n hx hb dX8_asking_20 rfl (lv_at hl 2 rfl) ?_
  refine va_get (D := G) (ci := 8) (v := .ref m61) (C := RX8) (T := TX8) (N := 91) hx hb hT ku_8 hown hK hP 12 rfl rfl 61 (by decide) (hT _ kw_10_22) (fun _ h9 => h9) (fh_at hf302 11 rfl) dX8_asking_21 ?_
  refine lv_iconst (v := 1) hx hb dX8_asking_24 (by decide) ?_
  refine va_iald (i := 1) hx hb hK hP 13 0 rfl rfl (tq_in (by decide)) dX8_asking_25 ?_
  refine tq_i (w := 14) hE304 ?_
  refine lv_bipush (v := 21) hx hb dX8_asking_26 (by decide) ?_
  refine lv_icmp_ge (tgt := 76) hx hb dX8_asking_28 (by decide) (fun c306 => absurd c306 (by decide)) (fun c306 => ?_)
  refine lv_iconst (v := 0) hx hb dX8_asking_31 (by decide) ?_
  refine lv_istore_n (lv' := [(2, .int 0), (1, .int 0), (0, .ref h0)]) hx hb dX8_asking_32 rfl hl (by decide) rfl (fun ls hl => ?_)
  refine lv_iload_n hx hb dX8_asking_33 rfl (lv_at hl 0 rfl) ?_
  refine lv_aload_n hx hb dX8_asking_34 rfl (lv_at hl 2 rfl) ?_
  refine va_get (D := G) (ci := 8) (v := .int 0) (C := RX8) (T := TX8) (N := 91) hx hb hT ku_8 hown hK hP 12 rfl rfl 12 (by decide) (hT _ kw_12_3) (fun _ h9 => h9) (fh_at hf302 14 rfl) dX8_asking_35 ?_
  refine lv_icmp_ge (tgt := 68) hx hb dX8_asking_38 (by decide) (fun c307 => ?_) (fun c307 => absurd (by decide) c307)
  refine lv_aload_n hx hb dX8_asking_68 rfl (lv_at hl 2 rfl) ?_
  refine lv_iconst (v := 1) hx hb dX8_asking_69 (by decide) ?_
  refine tq_cv (wr := [(m52, .inl (cA 0, 20, .inl g132)), (m53, .inl (cA 0, 20, .inl g133)), (m54, .inl (cA 0, 100, .inl g134)), (m55, .inl (cA 0, 10, .inl g135)), (m56, .inl (cA 0, 12, .inl g136)), (m57, .inl (cA 0, 12, .inl g137)), (m58, .inl (cA 0, 12, .inl g138)), (m59, .inl (cA 0, 12, .inl g139)), (m22, .inl (cA 0, 6, .inl mf22)), (m60, .inl (cA 0, 2, .inl g140)), (m62, .inl (cA 0, 2, .inl g142)), (m71, .inl (cA 0, 10, .inl g143))]) hP hD hS hA [12, 13] [0, 1, 2, 3, 4, 5, 6, 7, 8, 9, 10, 11] rfl rfl (by decide +kernel) (by decide) (va_runV (As := [.int 1]) (rest := []) ⟨hx, hb, hml, hown, hT⟩ (c_X8_goOn_1_14 l G cA H.size h0 g299 m61 g300 (fh_sub hf302 [11, 14, 15, 16] rfl) hE303 hE304) (cwV 1 hT (tq_gV kw_43_18 kw_43_19 kw_43_20 kw_1_5 kw_43_21) rfl rfl rfl (by decide +kernel) ⟨Nat.le_of_ble_eq_true rfl, Nat.le_of_ble_eq_true rfl⟩) ⟨(tq_pre (isC := [12, 13]) hP hD hK hN rfl (by decide)).1, va_recv hK hP (ci := 8) (q0 := 12) rfl rfl, (tq_pre (isC := [12, 13]) hP hD hK hN rfl (by decide)).2⟩ rfl rfl hl.1 rfl (lv_room (Nat.le_of_ble_eq_true rfl)) dX8_asking_70 ⟨Nat.le_of_ble_eq_true rfl, Nat.le_of_ble_eq_true rfl⟩) (fun u308 H locs hw309 hP hD hS => ?_)
  refine W.widen (k := 0) (n := 0) (Nat.le_of_ble_eq_true rfl) (Nat.le_of_ble_eq_true rfl) ?_
  obtain ⟨g310, g311⟩ := u308
  obtain ⟨ho312, hf313, hE314, hE315⟩ := hw309
  try dsimp only at hP hD ho312 hf313 hE314 hE315
  have hf313 := fh_app (fo_fh (l' := [(2, .int 0), (52, .ref m52), (53, .ref m53), (54, .ref m54), (55, .ref m55), (56, .ref m56), (57, .ref m57), (58, .ref m58), (59, .ref m59), (22, .ref m22), (60, .ref m60), (61, .ref m61), (62, .ref m62), (71, .ref m71), (12, .int 0), (13, .int 0), (14, .int 0), (70, .int 0), (69, .int 0), (68, .int 0), (67, .int 0), (66, .int 0), (65, .int 0)]) hf302 ho312 rfl) hf313
  have ho316 := fo_mono (k2 := [72, 70, 69, 68, 67, 66, 65, 64, 2]) (fo_trans ho305 ho312) (by decide +kernel)
  have hf313 : fh g310 91 [(2, .int 0), (52, .ref m52), (53, .ref m53), (54, .ref m54), (55, .ref m55), (56, .ref m56), (57, .ref m57), (58, .ref m58), (59, .ref m59), (22, .ref m22), (60, .ref m60), (61, .ref m61), (62, .ref m62), (71, .ref m71), (12, .int 0), (13, .int 0), (14, .int 0), (70, .int 0), (69, .int 0), (68, .int 0), (67, .int 0), (66, .int 0), (65, .int 0), (72, .int 0)] := hf313
  have hP : va_P G vwCl [(m52, .inl (cA 0, 20, .inl g132)), (m53, .inl (cA 0, 20, .inl g133)), (m54, .inl (cA 0, 100, .inl g134)), (m55, .inl (cA 0, 10, .inl g135)), (m56, .inl (cA 0, 12, .inl g136)), (m57, .inl (cA 0, 12, .inl g137)), (m58, .inl (cA 0, 12, .inl g138)), (m59, .inl (cA 0, 12, .inl g139)), (m22, .inl (cA 0, 6, .inl mf22)), (m60, .inl (cA 0, 2, .inl g140)), (m62, .inl (cA 0, 2, .inl g142)), (m71, .inl (cA 0, 10, .inl g143)), (h0, .inr (8, g310)), (m61, .inl (cA 0, 2, .inl g311))] H := hP
  have hD : va_D A [(m52, .inl (cA 0, 20, .inl g132)), (m53, .inl (cA 0, 20, .inl g133)), (m54, .inl (cA 0, 100, .inl g134)), (m55, .inl (cA 0, 10, .inl g135)), (m56, .inl (cA 0, 12, .inl g136)), (m57, .inl (cA 0, 12, .inl g137)), (m58, .inl (cA 0, 12, .inl g138)), (m59, .inl (cA 0, 12, .inl g139)), (m22, .inl (cA 0, 6, .inl mf22)), (m60, .inl (cA 0, 2, .inl g140)), (m62, .inl (cA 0, 2, .inl g142)), (m71, .inl (cA 0, 10, .inl g143)), (h0, .inr (8, g310)), (m61, .inl (cA 0, 2, .inl g311))] := hD
  refine lv_goto (tgt := 20) hx hb dX8_asking_73 (by decide) ?_
  refine lv_aload_n hx hb dX8_asking_20 rfl (lv_at hl 2 rfl) ?_
  refine va_get (D := G) (ci := 8) (v := .ref m61) (C := RX8) (T := TX8) (N := 91) hx hb hT ku_8 hown hK hP 12 rfl rfl 61 (by decide) (hT _ kw_10_22) (fun _ h9 => h9) (fh_at hf313 11 rfl) dX8_asking_21 ?_
  refine lv_iconst (v := 1) hx hb dX8_asking_24 (by decide) ?_
  refine va_iald (i := 1) hx hb hK hP 13 0 rfl rfl (tq_in (by decide)) dX8_asking_25 ?_
  refine tq_i (w := 15) hE315 ?_
  refine lv_bipush (v := 21) hx hb dX8_asking_26 (by decide) ?_
  refine lv_icmp_ge (tgt := 76) hx hb dX8_asking_28 (by decide) (fun c317 => absurd c317 (by decide)) (fun c317 => ?_)
  refine lv_iconst (v := 0) hx hb dX8_asking_31 (by decide) ?_
  refine lv_istore_n (lv' := [(2, .int 0), (1, .int 0), (0, .ref h0)]) hx hb dX8_asking_32 rfl hl (by decide) rfl (fun ls hl => ?_)
  refine lv_iload_n hx hb dX8_asking_33 rfl (lv_at hl 0 rfl) ?_
  refine lv_aload_n hx hb dX8_asking_34 rfl (lv_at hl 2 rfl) ?_
  refine va_get (D := G) (ci := 8) (v := .int 0) (C := RX8) (T := TX8) (N := 91) hx hb hT ku_8 hown hK hP 12 rfl rfl 12 (by decide) (hT _ kw_12_3) (fun _ h9 => h9) (fh_at hf313 14 rfl) dX8_asking_35 ?_
  refine lv_icmp_ge (tgt := 68) hx hb dX8_asking_38 (by decide) (fun c318 => ?_) (fun c318 => absurd (by decide) c318)
  refine lv_aload_n hx hb dX8_asking_68 rfl (lv_at hl 2 rfl) ?_
  refine lv_iconst (v := 1) hx hb dX8_asking_69 (by decide) ?_
  refine tq_cv (wr := [(m52, .inl (cA 0, 20, .inl g132)), (m53, .inl (cA 0, 20, .inl g133)), (m54, .inl (cA 0, 100, .inl g134)), (m55, .inl (cA 0, 10, .inl g135)), (m56, .inl (cA 0, 12, .inl g136)), (m57, .inl (cA 0, 12, .inl g137)), (m58, .inl (cA 0, 12, .inl g138)), (m59, .inl (cA 0, 12, .inl g139)), (m22, .inl (cA 0, 6, .inl mf22)), (m60, .inl (cA 0, 2, .inl g140)), (m62, .inl (cA 0, 2, .inl g142)), (m71, .inl (cA 0, 10, .inl g143))]) hP hD hS hA [12, 13] [0, 1, 2, 3, 4, 5, 6, 7, 8, 9, 10, 11] rfl rfl (by decide +kernel) (by decide) (va_runV (As := [.int 1]) (rest := []) ⟨hx, hb, hml, hown, hT⟩ (c_X8_goOn_1_15 l G cA H.size h0 g310 m61 g311 (fh_sub hf313 [11, 14, 15, 16] rfl) hE314 hE315) (cwV 1 hT (tq_gV kw_43_18 kw_43_19 kw_43_20 kw_1_5 kw_43_21) rfl rfl rfl (by decide +kernel) ⟨Nat.le_of_ble_eq_true rfl, Nat.le_of_ble_eq_true rfl⟩) ⟨(tq_pre (isC := [12, 13]) hP hD hK hN rfl (by decide)).1, va_recv hK hP (ci := 8) (q0 := 12) rfl rfl, (tq_pre (isC := [12, 13]) hP hD hK hN rfl (by decide)).2⟩ rfl rfl hl.1 rfl (lv_room (Nat.le_of_ble_eq_true rfl)) dX8_asking_70 ⟨Nat.le_of_ble_eq_true rfl, Nat.le_of_ble_eq_true rfl⟩) (fun u319 H locs hw320 hP hD hS => ?_)
  refine W.widen (k := 0) (n := 0) (Nat.le_of_ble_eq_true rfl) (Nat.le_of_ble_eq_true rfl) ?_
  obtain ⟨g321, g322⟩ := u319
  obtain ⟨ho323, hf324, hE325, hE326⟩ := hw320
  try dsimp only at hP hD ho323 hf324 hE325 hE326
  have hf324 := fh_app (fo_fh (l' := [(2, .int 0), (52, .ref m52), (53, .ref m53), (54, .ref m54), (55, .ref m55), (56, .ref m56), (57, .ref m57), (58, .ref m58), (59, .ref m59), (22, .ref m22), (60, .ref m60), (61, .ref m61), (62, .ref m62), (71, .ref m71), (12, .int 0), (13, .int 0), (14, .int 0), (70, .int 0), (69, .int 0), (68, .int 0), (67, .int 0), (66, .int 0), (65, .int 0)]) hf313 ho323 rfl) hf324
  have ho327 := fo_mono (k2 := [72, 70, 69, 68, 67, 66, 65, 64, 2]) (fo_trans ho316 ho323) (by decide +kernel)
  have hf324 : fh g321 91 [(2, .int 0), (52, .ref m52), (53, .ref m53), (54, .ref m54), (55, .ref m55), (56, .ref m56), (57, .ref m57), (58, .ref m58), (59, .ref m59), (22, .ref m22), (60, .ref m60), (61, .ref m61), (62, .ref m62), (71, .ref m71), (12, .int 0), (13, .int 0), (14, .int 0), (70, .int 0), (69, .int 0), (68, .int 0), (67, .int 0), (66, .int 0), (65, .int 0), (72, .int 0)] := hf324
  have hP : va_P G vwCl [(m52, .inl (cA 0, 20, .inl g132)), (m53, .inl (cA 0, 20, .inl g133)), (m54, .inl (cA 0, 100, .inl g134)), (m55, .inl (cA 0, 10, .inl g135)), (m56, .inl (cA 0, 12, .inl g136)), (m57, .inl (cA 0, 12, .inl g137)), (m58, .inl (cA 0, 12, .inl g138)), (m59, .inl (cA 0, 12, .inl g139)), (m22, .inl (cA 0, 6, .inl mf22)), (m60, .inl (cA 0, 2, .inl g140)), (m62, .inl (cA 0, 2, .inl g142)), (m71, .inl (cA 0, 10, .inl g143)), (h0, .inr (8, g321)), (m61, .inl (cA 0, 2, .inl g322))] H := hP
  have hD : va_D A [(m52, .inl (cA 0, 20, .inl g132)), (m53, .inl (cA 0, 20, .inl g133)), (m54, .inl (cA 0, 100, .inl g134)), (m55, .inl (cA 0, 10, .inl g135)), (m56, .inl (cA 0, 12, .inl g136)), (m57, .inl (cA 0, 12, .inl g137)), (m58, .inl (cA 0, 12, .inl g138)), (m59, .inl (cA 0, 12, .inl g139)), (m22, .inl (cA 0, 6, .inl mf22)), (m60, .inl (cA 0, 2, .inl g140)), (m62, .inl (cA 0, 2, .inl g142)), (m71, .inl (cA 0, 10, .inl g143)), (h0, .inr (8, g321)), (m61, .inl (cA 0, 2, .inl g322))] := hD
  refine lv_goto (tgt := 20) hx hb dX8_asking_73 (by decide) ?_
  refine lv_aload_n hx hb dX8_asking_20 rfl (lv_at hl 2 rfl) ?_
  refine va_get (D := G) (ci := 8) (v := .ref m61) (C := RX8) (T := TX8) (N := 91) hx hb hT ku_8 hown hK hP 12 rfl rfl 61 (by decide) (hT _ kw_10_22) (fun _ h9 => h9) (fh_at hf324 11 rfl) dX8_asking_21 ?_
  refine lv_iconst (v := 1) hx hb dX8_asking_24 (by decide) ?_
  refine va_iald (i := 1) hx hb hK hP 13 0 rfl rfl (tq_in (by decide)) dX8_asking_25 ?_
  refine tq_i (w := 16) hE326 ?_
  refine lv_bipush (v := 21) hx hb dX8_asking_26 (by decide) ?_
  refine lv_icmp_ge (tgt := 76) hx hb dX8_asking_28 (by decide) (fun c328 => absurd c328 (by decide)) (fun c328 => ?_)
  refine lv_iconst (v := 0) hx hb dX8_asking_31 (by decide) ?_
  refine lv_istore_n (lv' := [(2, .int 0), (1, .int 0), (0, .ref h0)]) hx hb dX8_asking_32 rfl hl (by decide) rfl (fun ls hl => ?_)
  refine lv_iload_n hx hb dX8_asking_33 rfl (lv_at hl 0 rfl) ?_
  refine lv_aload_n hx hb dX8_asking_34 rfl (lv_at hl 2 rfl) ?_
  refine va_get (D := G) (ci := 8) (v := .int 0) (C := RX8) (T := TX8) (N := 91) hx hb hT ku_8 hown hK hP 12 rfl rfl 12 (by decide) (hT _ kw_12_3) (fun _ h9 => h9) (fh_at hf324 14 rfl) dX8_asking_35 ?_
  refine lv_icmp_ge (tgt := 68) hx hb dX8_asking_38 (by decide) (fun c329 => ?_) (fun c329 => absurd (by decide) c329)
  refine lv_aload_n hx hb dX8_asking_68 rfl (lv_at hl 2 rfl) ?_
  refine lv_iconst (v := 1) hx hb dX8_asking_69 (by decide) ?_
  refine tq_cv (wr := [(m52, .inl (cA 0, 20, .inl g132)), (m53, .inl (cA 0, 20, .inl g133)), (m54, .inl (cA 0, 100, .inl g134)), (m55, .inl (cA 0, 10, .inl g135)), (m56, .inl (cA 0, 12, .inl g136)), (m57, .inl (cA 0, 12, .inl g137)), (m58, .inl (cA 0, 12, .inl g138)), (m59, .inl (cA 0, 12, .inl g139)), (m22, .inl (cA 0, 6, .inl mf22)), (m60, .inl (cA 0, 2, .inl g140)), (m62, .inl (cA 0, 2, .inl g142)), (m71, .inl (cA 0, 10, .inl g143))]) hP hD hS hA [12, 13] [0, 1, 2, 3, 4, 5, 6, 7, 8, 9, 10, 11] rfl rfl (by decide +kernel) (by decide) (va_runV (As := [.int 1]) (rest := []) ⟨hx, hb, hml, hown, hT⟩ (c_X8_goOn_1_16 l G cA H.size h0 g321 m61 g322 (fh_sub hf324 [11, 14, 15, 16] rfl) hE325 hE326) (cwV 1 hT (tq_gV kw_43_18 kw_43_19 kw_43_20 kw_1_5 kw_43_21) rfl rfl rfl (by decide +kernel) ⟨Nat.le_of_ble_eq_true rfl, Nat.le_of_ble_eq_true rfl⟩) ⟨(tq_pre (isC := [12, 13]) hP hD hK hN rfl (by decide)).1, va_recv hK hP (ci := 8) (q0 := 12) rfl rfl, (tq_pre (isC := [12, 13]) hP hD hK hN rfl (by decide)).2⟩ rfl rfl hl.1 rfl (lv_room (Nat.le_of_ble_eq_true rfl)) dX8_asking_70 ⟨Nat.le_of_ble_eq_true rfl, Nat.le_of_ble_eq_true rfl⟩) (fun u330 H locs hw331 hP hD hS => ?_)
  refine W.widen (k := 0) (n := 0) (Nat.le_of_ble_eq_true rfl) (Nat.le_of_ble_eq_true rfl) ?_
  obtain ⟨g332, g333⟩ := u330
  obtain ⟨ho334, hf335, hE336, hE337⟩ := hw331
  try dsimp only at hP hD ho334 hf335 hE336 hE337
  have hf335 := fh_app (fo_fh (l' := [(2, .int 0), (52, .ref m52), (53, .ref m53), (54, .ref m54), (55, .ref m55), (56, .ref m56), (57, .ref m57), (58, .ref m58), (59, .ref m59), (22, .ref m22), (60, .ref m60), (61, .ref m61), (62, .ref m62), (71, .ref m71), (12, .int 0), (13, .int 0), (14, .int 0), (70, .int 0), (69, .int 0), (68, .int 0), (67, .int 0), (66, .int 0), (65, .int 0)]) hf324 ho334 rfl) hf335
  have ho338 := fo_mono (k2 := [72, 70, 69, 68, 67, 66, 65, 64, 2]) (fo_trans ho327 ho334) (by decide +kernel)
  have hf335 : fh g332 91 [(2, .int 0), (52, .ref m52), (53, .ref m53), (54, .ref m54), (55, .ref m55), (56, .ref m56), (57, .ref m57), (58, .ref m58), (59, .ref m59), (22, .ref m22), (60, .ref m60), (61, .ref m61), (62, .ref m62), (71, .ref m71), (12, .int 0), (13, .int 0), (14, .int 0), (70, .int 0), (69, .int 0), (68, .int 0), (67, .int 0), (66, .int 0), (65, .int 0), (72, .int 0)] := hf335
  have hP : va_P G vwCl [(m52, .inl (cA 0, 20, .inl g132)), (m53, .inl (cA 0, 20, .inl g133)), (m54, .inl (cA 0, 100, .inl g134)), (m55, .inl (cA 0, 10, .inl g135)), (m56, .inl (cA 0, 12, .inl g136)), (m57, .inl (cA 0, 12, .inl g137)), (m58, .inl (cA 0, 12, .inl g138)), (m59, .inl (cA 0, 12, .inl g139)), (m22, .inl (cA 0, 6, .inl mf22)), (m60, .inl (cA 0, 2, .inl g140)), (m62, .inl (cA 0, 2, .inl g142)), (m71, .inl (cA 0, 10, .inl g143)), (h0, .inr (8, g332)), (m61, .inl (cA 0, 2, .inl g333))] H := hP
  have hD : va_D A [(m52, .inl (cA 0, 20, .inl g132)), (m53, .inl (cA 0, 20, .inl g133)), (m54, .inl (cA 0, 100, .inl g134)), (m55, .inl (cA 0, 10, .inl g135)), (m56, .inl (cA 0, 12, .inl g136)), (m57, .inl (cA 0, 12, .inl g137)), (m58, .inl (cA 0, 12, .inl g138)), (m59, .inl (cA 0, 12, .inl g139)), (m22, .inl (cA 0, 6, .inl mf22)), (m60, .inl (cA 0, 2, .inl g140)), (m62, .inl (cA 0, 2, .inl g142)), (m71, .inl (cA 0, 10, .inl g143)), (h0, .inr (8, g332)), (m61, .inl (cA 0, 2, .inl g333))] := hD
  refine lv_goto (tgt := 20) hx hb dX8_asking_73 (by decide) ?_
  refine lv_aload_n hx hb dX8_asking_20 rfl (lv_at hl 2 rfl) ?_
  refine va_get (D := G) (ci := 8) (v := .ref m61) (C := RX8) (T := TX8) (N := 91) hx hb hT ku_8 hown hK hP 12 rfl rfl 61 (by decide) (hT _ kw_10_22) (fun _ h9 => h9) (fh_at hf335 11 rfl) dX8_asking_21 ?_
  refine lv_iconst (v := 1) hx hb dX8_asking_24 (by decide) ?_
  refine va_iald (i := 1) hx hb hK hP 13 0 rfl rfl (tq_in (by decide)) dX8_asking_25 ?_
  refine tq_i (w := 17) hE337 ?_
  refine lv_bipush (v := 21) hx hb dX8_asking_26 (by decide) ?_
  refine lv_icmp_ge (tgt := 76) hx hb dX8_asking_28 (by decide) (fun c339 => absurd c339 (by decide)) (fun c339 => ?_)
  refine lv_iconst (v := 0) hx hb dX8_asking_31 (by decide) ?_
  refine lv_istore_n (lv' := [(2, .int 0), (1, .int 0), (0, .ref h0)]) hx hb dX8_asking_32 rfl hl (by decide) rfl (fun ls hl => ?_)
  refine lv_iload_n hx hb dX8_asking_33 rfl (lv_at hl 0 rfl) ?_
  refine lv_aload_n hx hb dX8_asking_34 rfl (lv_at hl 2 rfl) ?_
  refine va_get (D := G) (ci := 8) (v := .int 0) (C := RX8) (T := TX8) (N := 91) hx hb hT ku_8 hown hK hP 12 rfl rfl 12 (by decide) (hT _ kw_12_3) (fun _ h9 => h9) (fh_at hf335 14 rfl) dX8_asking_35 ?_
  refine lv_icmp_ge (tgt := 68) hx hb dX8_asking_38 (by decide) (fun c340 => ?_) (fun c340 => absurd (by decide) c340)
  refine lv_aload_n hx hb dX8_asking_68 rfl (lv_at hl 2 rfl) ?_
  refine lv_iconst (v := 1) hx hb dX8_asking_69 (by decide) ?_
  refine tq_cv (wr := [(m52, .inl (cA 0, 20, .inl g132)), (m53, .inl (cA 0, 20, .inl g133)), (m54, .inl (cA 0, 100, .inl g134)), (m55, .inl (cA 0, 10, .inl g135)), (m56, .inl (cA 0, 12, .inl g136)), (m57, .inl (cA 0, 12, .inl g137)), (m58, .inl (cA 0, 12, .inl g138)), (m59, .inl (cA 0, 12, .inl g139)), (m22, .inl (cA 0, 6, .inl mf22)), (m60, .inl (cA 0, 2, .inl g140)), (m62, .inl (cA 0, 2, .inl g142)), (m71, .inl (cA 0, 10, .inl g143))]) hP hD hS hA [12, 13] [0, 1, 2, 3, 4, 5, 6, 7, 8, 9, 10, 11] rfl rfl (by decide +kernel) (by decide) (va_runV (As := [.int 1]) (rest := []) ⟨hx, hb, hml, hown, hT⟩ (c_X8_goOn_1_17 l G cA H.size h0 g332 m61 g333 (fh_sub hf335 [11, 14, 15, 16] rfl) hE336 hE337) (cwV 1 hT (tq_gV kw_43_18 kw_43_19 kw_43_20 kw_1_5 kw_43_21) rfl rfl rfl (by decide +kernel) ⟨Nat.le_of_ble_eq_true rfl, Nat.le_of_ble_eq_true rfl⟩) ⟨(tq_pre (isC := [12, 13]) hP hD hK hN rfl (by decide)).1, va_recv hK hP (ci := 8) (q0 := 12) rfl rfl, (tq_pre (isC := [12, 13]) hP hD hK hN rfl (by decide)).2⟩ rfl rfl hl.1 rfl (lv_room (Nat.le_of_ble_eq_true rfl)) dX8_asking_70 ⟨Nat.le_of_ble_eq_true rfl, Nat.le_of_ble_eq_true rfl⟩) (fun u341 H locs hw342 hP hD hS => ?_)
  refine W.widen (k := 0) (n := 0) (Nat.le_of_ble_eq_true rfl) (Nat.le_of_ble_eq_true rfl) ?_
  obtain ⟨g343, g344⟩ := u341
  obtain ⟨ho345, hf346, hE347, hE348⟩ := hw342
  try dsimp only at hP hD ho345 hf346 hE347 hE348
  have hf346 := fh_app (fo_fh (l' := [(2, .int 0), (52, .ref m52), (53, .ref m53), (54, .ref m54), (55, .ref m55), (56, .ref m56), (57, .ref m57), (58, .ref m58), (59, .ref m59), (22, .ref m22), (60, .ref m60), (61, .ref m61), (62, .ref m62), (71, .ref m71), (12, .int 0), (13, .int 0), (14, .int 0), (70, .int 0), (69, .int 0), (68, .int 0), (67, .int 0), (66, .int 0), (65, .int 0)]) hf335 ho345 rfl) hf346
  have ho349 := fo_mono (k2 := [72, 70, 69, 68, 67, 66, 65, 64, 2]) (fo_trans ho338 ho345) (by decide +kernel)
  have hf346 : fh g343 91 [(2, .int 0), (52, .ref m52), (53, .ref m53), (54, .ref m54), (55, .ref m55), (56, .ref m56), (57, .ref m57), (58, .ref m58), (59, .ref m59), (22, .ref m22), (60, .ref m60), (61, .ref m61), (62, .ref m62), (71, .ref m71), (12, .int 0), (13, .int 0), (14, .int 0), (70, .int 0), (69, .int 0), (68, .int 0), (67, .int 0), (66, .int 0), (65, .int 0), (72, .int 0)] := hf346
  have hP : va_P G vwCl [(m52, .inl (cA 0, 20, .inl g132)), (m53, .inl (cA 0, 20, .inl g133)), (m54, .inl (cA 0, 100, .inl g134)), (m55, .inl (cA 0, 10, .inl g135)), (m56, .inl (cA 0, 12, .inl g136)), (m57, .inl (cA 0, 12, .inl g137)), (m58, .inl (cA 0, 12, .inl g138)), (m59, .inl (cA 0, 12, .inl g139)), (m22, .inl (cA 0, 6, .inl mf22)), (m60, .inl (cA 0, 2, .inl g140)), (m62, .inl (cA 0, 2, .inl g142)), (m71, .inl (cA 0, 10, .inl g143)), (h0, .inr (8, g343)), (m61, .inl (cA 0, 2, .inl g344))] H := hP
  have hD : va_D A [(m52, .inl (cA 0, 20, .inl g132)), (m53, .inl (cA 0, 20, .inl g133)), (m54, .inl (cA 0, 100, .inl g134)), (m55, .inl (cA 0, 10, .inl g135)), (m56, .inl (cA 0, 12, .inl g136)), (m57, .inl (cA 0, 12, .inl g137)), (m58, .inl (cA 0, 12, .inl g138)), (m59, .inl (cA 0, 12, .inl g139)), (m22, .inl (cA 0, 6, .inl mf22)), (m60, .inl (cA 0, 2, .inl g140)), (m62, .inl (cA 0, 2, .inl g142)), (m71, .inl (cA 0, 10, .inl g143)), (h0, .inr (8, g343)), (m61, .inl (cA 0, 2, .inl g344))] := hD
  refine lv_goto (tgt := 20) hx hb dX8_asking_73 (by decide) ?_
  refine lv_aload_n hx hb dX8_asking_20 rfl (lv_at hl 2 rfl) ?_
  refine va_get (D := G) (ci := 8) (v := .ref m61) (C := RX8) (T := TX8) (N := 91) hx hb hT ku_8 hown hK hP 12 rfl rfl 61 (by decide) (hT _ kw_10_22) (fun _ h9 => h9) (fh_at hf346 11 rfl) dX8_asking_21 ?_
  refine lv_iconst (v := 1) hx hb dX8_asking_24 (by decide) ?_
  refine va_iald (i := 1) hx hb hK hP 13 0 rfl rfl (tq_in (by decide)) dX8_asking_25 ?_
  refine tq_i (w := 18) hE348 ?_
  refine lv_bipush (v := 21) hx hb dX8_asking_26 (by decide) ?_
  refine lv_icmp_ge (tgt := 76) hx hb dX8_asking_28 (by decide) (fun c350 => absurd c350 (by decide)) (fun c350 => ?_)
  refine lv_iconst (v := 0) hx hb dX8_asking_31 (by decide) ?_
  refine lv_istore_n (lv' := [(2, .int 0), (1, .int 0), (0, .ref h0)]) hx hb dX8_asking_32 rfl hl (by decide) rfl (fun ls hl => ?_)
  refine lv_iload_n hx hb dX8_asking_33 rfl (lv_at hl 0 rfl) ?_
  refine lv_aload_n hx hb dX8_asking_34 rfl (lv_at hl 2 rfl) ?_
  refine va_get (D := G) (ci := 8) (v := .int 0) (C := RX8) (T := TX8) (N := 91) hx hb hT ku_8 hown hK hP 12 rfl rfl 12 (by decide) (hT _ kw_12_3) (fun _ h9 => h9) (fh_at hf346 14 rfl) dX8_asking_35 ?_
  refine lv_icmp_ge (tgt := 68) hx hb dX8_asking_38 (by decide) (fun c351 => ?_) (fun c351 => absurd (by decide) c351)
  refine lv_aload_n hx hb dX8_asking_68 rfl (lv_at hl 2 rfl) ?_
  refine lv_iconst (v := 1) hx hb dX8_asking_69 (by decide) ?_
  refine tq_cv (wr := [(m52, .inl (cA 0, 20, .inl g132)), (m53, .inl (cA 0, 20, .inl g133)), (m54, .inl (cA 0, 100, .inl g134)), (m55, .inl (cA 0, 10, .inl g135)), (m56, .inl (cA 0, 12, .inl g136)), (m57, .inl (cA 0, 12, .inl g137)), (m58, .inl (cA 0, 12, .inl g138)), (m59, .inl (cA 0, 12, .inl g139)), (m22, .inl (cA 0, 6, .inl mf22)), (m60, .inl (cA 0, 2, .inl g140)), (m62, .inl (cA 0, 2, .inl g142)), (m71, .inl (cA 0, 10, .inl g143))]) hP hD hS hA [12, 13] [0, 1, 2, 3, 4, 5, 6, 7, 8, 9, 10, 11] rfl rfl (by decide +kernel) (by decide) (va_runV (As := [.int 1]) (rest := []) ⟨hx, hb, hml, hown, hT⟩ (c_X8_goOn_1_18 l G cA H.size h0 g343 m61 g344 (fh_sub hf346 [11, 14, 15, 16] rfl) hE347 hE348) (cwV 1 hT (tq_gV kw_43_18 kw_43_19 kw_43_20 kw_1_5 kw_43_21) rfl rfl rfl (by decide +kernel) ⟨Nat.le_of_ble_eq_true rfl, Nat.le_of_ble_eq_true rfl⟩) ⟨(tq_pre (isC := [12, 13]) hP hD hK hN rfl (by decide)).1, va_recv hK hP (ci := 8) (q0 := 12) rfl rfl, (tq_pre (isC := [12, 13]) hP hD hK hN rfl (by decide)).2⟩ rfl rfl hl.1 rfl (lv_room (Nat.le_of_ble_eq_true rfl)) dX8_asking_70 ⟨Nat.le_of_ble_eq_true rfl, Nat.le_of_ble_eq_true rfl⟩) (fun u352 H locs hw353 hP hD hS => ?_)
  refine W.widen (k := 0) (n := 0) (Nat.le_of_ble_eq_true rfl) (Nat.le_of_ble_eq_true rfl) ?_
  obtain ⟨g354, g355⟩ := u352
  obtain ⟨ho356, hf357, hE358, hE359⟩ := hw353
  try dsimp only at hP hD ho356 hf357 hE358 hE359
  have hf357 := fh_app (fo_fh (l' := [(2, .int 0), (52, .ref m52), (53, .ref m53), (54, .ref m54), (55, .ref m55), (56, .ref m56), (57, .ref m57), (58, .ref m58), (59, .ref m59), (22, .ref m22), (60, .ref m60), (61, .ref m61), (62, .ref m62), (71, .ref m71), (12, .int 0), (13, .int 0), (14, .int 0), (70, .int 0), (69, .int 0), (68, .int 0), (67, .int 0), (66, .int 0), (65, .int 0)]) hf346 ho356 rfl) hf357
  have ho360 := fo_mono (k2 := [72, 70, 69, 68, 67, 66, 65, 64, 2]) (fo_trans ho349 ho356) (by decide +kernel)
  have hf357 : fh g354 91 [(2, .int 0), (52, .ref m52), (53, .ref m53), (54, .ref m54), (55, .ref m55), (56, .ref m56), (57, .ref m57), (58, .ref m58), (59, .ref m59), (22, .ref m22), (60, .ref m60), (61, .ref m61), (62, .ref m62), (71, .ref m71), (12, .int 0), (13, .int 0), (14, .int 0), (70, .int 0), (69, .int 0), (68, .int 0), (67, .int 0), (66, .int 0), (65, .int 0), (72, .int 0)] := hf357
  have hP : va_P G vwCl [(m52, .inl (cA 0, 20, .inl g132)), (m53, .inl (cA 0, 20, .inl g133)), (m54, .inl (cA 0, 100, .inl g134)), (m55, .inl (cA 0, 10, .inl g135)), (m56, .inl (cA 0, 12, .inl g136)), (m57, .inl (cA 0, 12, .inl g137)), (m58, .inl (cA 0, 12, .inl g138)), (m59, .inl (cA 0, 12, .inl g139)), (m22, .inl (cA 0, 6, .inl mf22)), (m60, .inl (cA 0, 2, .inl g140)), (m62, .inl (cA 0, 2, .inl g142)), (m71, .inl (cA 0, 10, .inl g143)), (h0, .inr (8, g354)), (m61, .inl (cA 0, 2, .inl g355))] H := hP
  have hD : va_D A [(m52, .inl (cA 0, 20, .inl g132)), (m53, .inl (cA 0, 20, .inl g133)), (m54, .inl (cA 0, 100, .inl g134)), (m55, .inl (cA 0, 10, .inl g135)), (m56, .inl (cA 0, 12, .inl g136)), (m57, .inl (cA 0, 12, .inl g137)), (m58, .inl (cA 0, 12, .inl g138)), (m59, .inl (cA 0, 12, .inl g139)), (m22, .inl (cA 0, 6, .inl mf22)), (m60, .inl (cA 0, 2, .inl g140)), (m62, .inl (cA 0, 2, .inl g142)), (m71, .inl (cA 0, 10, .inl g143)), (h0, .inr (8, g354)), (m61, .inl (cA 0, 2, .inl g355))] := hD
  refine lv_goto (tgt := 20) hx hb dX8_asking_73 (by decide) ?_
  refine lv_aload_n hx hb dX8_asking_20 rfl (lv_at hl 2 rfl) ?_
  refine va_get (D := G) (ci := 8) (v := .ref m61) (C := RX8) (T := TX8) (N := 91) hx hb hT ku_8 hown hK hP 12 rfl rfl 61 (by decide) (hT _ kw_10_22) (fun _ h9 => h9) (fh_at hf357 11 rfl) dX8_asking_21 ?_
  refine lv_iconst (v := 1) hx hb dX8_asking_24 (by decide) ?_
  refine va_iald (i := 1) hx hb hK hP 13 0 rfl rfl (tq_in (by decide)) dX8_asking_25 ?_
  refine tq_i (w := 19) hE359 ?_
  refine lv_bipush (v := 21) hx hb dX8_asking_26 (by decide) ?_
  refine lv_icmp_ge (tgt := 76) hx hb dX8_asking_28 (by decide) (fun c361 => absurd c361 (by decide)) (fun c361 => ?_)
  refine lv_iconst (v := 0) hx hb dX8_asking_31 (by decide) ?_
  refine lv_istore_n (lv' := [(2, .int 0), (1, .int 0), (0, .ref h0)]) hx hb dX8_asking_32 rfl hl (by decide) rfl (fun ls hl => ?_)
  refine lv_iload_n hx hb dX8_asking_33 rfl (lv_at hl 0 rfl) ?_
  refine lv_aload_n hx hb dX8_asking_34 rfl (lv_at hl 2 rfl) ?_
  refine va_get (D := G) (ci := 8) (v := .int 0) (C := RX8) (T := TX8) (N := 91) hx hb hT ku_8 hown hK hP 12 rfl rfl 12 (by decide) (hT _ kw_12_3) (fun _ h9 => h9) (fh_at hf357 14 rfl) dX8_asking_35 ?_
  refine lv_icmp_ge (tgt := 68) hx hb dX8_asking_38 (by decide) (fun c362 => ?_) (fun c362 => absurd (by decide) c362)
  refine lv_aload_n hx hb dX8_asking_68 rfl (lv_at hl 2 rfl) ?_
  refine lv_iconst (v := 1) hx hb dX8_asking_69 (by decide) ?_
  refine tq_cv (wr := [(m52, .inl (cA 0, 20, .inl g132)), (m53, .inl (cA 0, 20, .inl g133)), (m54, .inl (cA 0, 100, .inl g134)), (m55, .inl (cA 0, 10, .inl g135)), (m56, .inl (cA 0, 12, .inl g136)), (m57, .inl (cA 0, 12, .inl g137)), (m58, .inl (cA 0, 12, .inl g138)), (m59, .inl (cA 0, 12, .inl g139)), (m22, .inl (cA 0, 6, .inl mf22)), (m60, .inl (cA 0, 2, .inl g140)), (m62, .inl (cA 0, 2, .inl g142)), (m71, .inl (cA 0, 10, .inl g143))]) hP hD hS hA [12, 13] [0, 1, 2, 3, 4, 5, 6, 7, 8, 9, 10, 11] rfl rfl (by decide +kernel) (by decide) (va_runV (As := [.int 1]) (rest := []) ⟨hx, hb, hml, hown, hT⟩ (c_X8_goOn_1_19 l G cA H.size h0 g354 m61 g355 (fh_sub hf357 [11, 14, 15, 16] rfl) hE358 hE359) (cwV 1 hT (tq_gV kw_43_18 kw_43_19 kw_43_20 kw_1_5 kw_43_21) rfl rfl rfl (by decide +kernel) ⟨Nat.le_of_ble_eq_true rfl, Nat.le_of_ble_eq_true rfl⟩) ⟨(tq_pre (isC := [12, 13]) hP hD hK hN rfl (by decide)).1, va_recv hK hP (ci := 8) (q0 := 12) rfl rfl, (tq_pre (isC := [12, 13]) hP hD hK hN rfl (by decide)).2⟩ rfl rfl hl.1 rfl (lv_room (Nat.le_of_ble_eq_true rfl)) dX8_asking_70 ⟨Nat.le_of_ble_eq_true rfl, Nat.le_of_ble_eq_true rfl⟩) (fun u363 H locs hw364 hP hD hS => ?_)
  refine W.widen (k := 0) (n := 0) (Nat.le_of_ble_eq_true rfl) (Nat.le_of_ble_eq_true rfl) ?_
  obtain ⟨g365, g366⟩ := u363
  obtain ⟨ho367, hf368, hE369, hE370⟩ := hw364
  try dsimp only at hP hD ho367 hf368 hE369 hE370
  have hf368 := fh_app (fo_fh (l' := [(2, .int 0), (52, .ref m52), (53, .ref m53), (54, .ref m54), (55, .ref m55), (56, .ref m56), (57, .ref m57), (58, .ref m58), (59, .ref m59), (22, .ref m22), (60, .ref m60), (61, .ref m61), (62, .ref m62), (71, .ref m71), (12, .int 0), (13, .int 0), (14, .int 0), (70, .int 0), (69, .int 0), (68, .int 0), (67, .int 0), (66, .int 0), (65, .int 0)]) hf357 ho367 rfl) hf368
  have ho371 := fo_mono (k2 := [72, 70, 69, 68, 67, 66, 65, 64, 2]) (fo_trans ho360 ho367) (by decide +kernel)
  have hf368 : fh g365 91 [(2, .int 0), (52, .ref m52), (53, .ref m53), (54, .ref m54), (55, .ref m55), (56, .ref m56), (57, .ref m57), (58, .ref m58), (59, .ref m59), (22, .ref m22), (60, .ref m60), (61, .ref m61), (62, .ref m62), (71, .ref m71), (12, .int 0), (13, .int 0), (14, .int 0), (70, .int 0), (69, .int 0), (68, .int 0), (67, .int 0), (66, .int 0), (65, .int 0), (72, .int 0)] := hf368
  have hP : va_P G vwCl [(m52, .inl (cA 0, 20, .inl g132)), (m53, .inl (cA 0, 20, .inl g133)), (m54, .inl (cA 0, 100, .inl g134)), (m55, .inl (cA 0, 10, .inl g135)), (m56, .inl (cA 0, 12, .inl g136)), (m57, .inl (cA 0, 12, .inl g137)), (m58, .inl (cA 0, 12, .inl g138)), (m59, .inl (cA 0, 12, .inl g139)), (m22, .inl (cA 0, 6, .inl mf22)), (m60, .inl (cA 0, 2, .inl g140)), (m62, .inl (cA 0, 2, .inl g142)), (m71, .inl (cA 0, 10, .inl g143)), (h0, .inr (8, g365)), (m61, .inl (cA 0, 2, .inl g366))] H := hP
  have hD : va_D A [(m52, .inl (cA 0, 20, .inl g132)), (m53, .inl (cA 0, 20, .inl g133)), (m54, .inl (cA 0, 100, .inl g134)), (m55, .inl (cA 0, 10, .inl g135)), (m56, .inl (cA 0, 12, .inl g136)), (m57, .inl (cA 0, 12, .inl g137)), (m58, .inl (cA 0, 12, .inl g138)), (m59, .inl (cA 0, 12, .inl g139)), (m22, .inl (cA 0, 6, .inl mf22)), (m60, .inl (cA 0, 2, .inl g140)), (m62, .inl (cA 0, 2, .inl g142)), (m71, .inl (cA 0, 10, .inl g143)), (h0, .inr (8, g365)), (m61, .inl (cA 0, 2, .inl g366))] := hD
  refine lv_goto (tgt := 20) hx hb dX8_asking_73 (by decide) ?_
  refine lv_aload_n hx hb dX8_asking_20 rfl (lv_at hl 2 rfl) ?_
  refine va_get (D := G) (ci := 8) (v := .ref m61) (C := RX8) (T := TX8) (N := 91) hx hb hT ku_8 hown hK hP 12 rfl rfl 61 (by decide) (hT _ kw_10_22) (fun _ h9 => h9) (fh_at hf368 11 rfl) dX8_asking_21 ?_
  refine lv_iconst (v := 1) hx hb dX8_asking_24 (by decide) ?_
  refine va_iald (i := 1) hx hb hK hP 13 0 rfl rfl (tq_in (by decide)) dX8_asking_25 ?_
  refine tq_i (w := 20) hE370 ?_
  refine lv_bipush (v := 21) hx hb dX8_asking_26 (by decide) ?_
  refine lv_icmp_ge (tgt := 76) hx hb dX8_asking_28 (by decide) (fun c372 => absurd c372 (by decide)) (fun c372 => ?_)
  refine lv_iconst (v := 0) hx hb dX8_asking_31 (by decide) ?_
  refine lv_istore_n (lv' := [(2, .int 0), (1, .int 0), (0, .ref h0)]) hx hb dX8_asking_32 rfl hl (by decide) rfl (fun ls hl => ?_)
  refine lv_iload_n hx hb dX8_asking_33 rfl (lv_at hl 0 rfl) ?_
  refine lv_aload_n hx hb dX8_asking_34 rfl (lv_at hl 2 rfl) ?_
  refine va_get (D := G) (ci := 8) (v := .int 0) (C := RX8) (T := TX8) (N := 91) hx hb hT ku_8 hown hK hP 12 rfl rfl 12 (by decide) (hT _ kw_12_3) (fun _ h9 => h9) (fh_at hf368 14 rfl) dX8_asking_35 ?_
  refine lv_icmp_ge (tgt := 68) hx hb dX8_asking_38 (by decide) (fun c373 => ?_) (fun c373 => absurd (by decide) c373)
  refine lv_aload_n hx hb dX8_asking_68 rfl (lv_at hl 2 rfl) ?_
  refine lv_iconst (v := 1) hx hb dX8_asking_69 (by decide) ?_
  refine tq_cv (wr := [(m52, .inl (cA 0, 20, .inl g132)), (m53, .inl (cA 0, 20, .inl g133)), (m54, .inl (cA 0, 100, .inl g134)), (m55, .inl (cA 0, 10, .inl g135)), (m56, .inl (cA 0, 12, .inl g136)), (m57, .inl (cA 0, 12, .inl g137)), (m58, .inl (cA 0, 12, .inl g138)), (m59, .inl (cA 0, 12, .inl g139)), (m22, .inl (cA 0, 6, .inl mf22)), (m60, .inl (cA 0, 2, .inl g140)), (m62, .inl (cA 0, 2, .inl g142)), (m71, .inl (cA 0, 10, .inl g143))]) hP hD hS hA [12, 13] [0, 1, 2, 3, 4, 5, 6, 7, 8, 9, 10, 11] rfl rfl (by decide +kernel) (by decide) (va_runV (As := [.int 1]) (rest := []) ⟨hx, hb, hml, hown, hT⟩ (c_X8_goOn_1_20 l G cA H.size h0 g365 m61 g366 (fh_sub hf368 [11, 14, 15, 16] rfl) hE369 hE370) (cwV 1 hT (tq_gV kw_43_18 kw_43_19 kw_43_20 kw_1_5 kw_43_21) rfl rfl rfl (by decide +kernel) ⟨Nat.le_of_ble_eq_true rfl, Nat.le_of_ble_eq_true rfl⟩) ⟨(tq_pre (isC := [12, 13]) hP hD hK hN rfl (by decide)).1, va_recv hK hP (ci := 8) (q0 := 12) rfl rfl, (tq_pre (isC := [12, 13]) hP hD hK hN rfl (by decide)).2⟩ rfl rfl hl.1 rfl (lv_room (Nat.le_of_ble_eq_true rfl)) dX8_asking_70 ⟨Nat.le_of_ble_eq_true rfl, Nat.le_of_ble_eq_true rfl⟩) (fun u374 H locs hw375 hP hD hS => ?_)
  refine W.widen (k := 0) (n := 0) (Nat.le_of_ble_eq_true rfl) (Nat.le_of_ble_eq_true rfl) ?_
  obtain ⟨g376, g377⟩ := u374
  obtain ⟨ho378, hf379, hE380, hE381⟩ := hw375
  try dsimp only at hP hD ho378 hf379 hE380 hE381
  have hf379 := fh_app (fo_fh (l' := [(2, .int 0), (52, .ref m52), (53, .ref m53), (54, .ref m54), (55, .ref m55), (56, .ref m56), (57, .ref m57), (58, .ref m58), (59, .ref m59), (22, .ref m22), (60, .ref m60), (61, .ref m61), (62, .ref m62), (71, .ref m71), (12, .int 0), (13, .int 0), (14, .int 0), (70, .int 0), (69, .int 0), (68, .int 0), (67, .int 0), (66, .int 0), (65, .int 0)]) hf368 ho378 rfl) hf379
  have ho382 := fo_mono (k2 := [72, 70, 69, 68, 67, 66, 65, 64, 2]) (fo_trans ho371 ho378) (by decide +kernel)
  have hf379 : fh g376 91 [(2, .int 0), (52, .ref m52), (53, .ref m53), (54, .ref m54), (55, .ref m55), (56, .ref m56), (57, .ref m57), (58, .ref m58), (59, .ref m59), (22, .ref m22), (60, .ref m60), (61, .ref m61), (62, .ref m62), (71, .ref m71), (12, .int 0), (13, .int 0), (14, .int 0), (70, .int 0), (69, .int 0), (68, .int 0), (67, .int 0), (66, .int 0), (65, .int 0), (72, .int 0)] := hf379
  have hP : va_P G vwCl [(m52, .inl (cA 0, 20, .inl g132)), (m53, .inl (cA 0, 20, .inl g133)), (m54, .inl (cA 0, 100, .inl g134)), (m55, .inl (cA 0, 10, .inl g135)), (m56, .inl (cA 0, 12, .inl g136)), (m57, .inl (cA 0, 12, .inl g137)), (m58, .inl (cA 0, 12, .inl g138)), (m59, .inl (cA 0, 12, .inl g139)), (m22, .inl (cA 0, 6, .inl mf22)), (m60, .inl (cA 0, 2, .inl g140)), (m62, .inl (cA 0, 2, .inl g142)), (m71, .inl (cA 0, 10, .inl g143)), (h0, .inr (8, g376)), (m61, .inl (cA 0, 2, .inl g377))] H := hP
  have hD : va_D A [(m52, .inl (cA 0, 20, .inl g132)), (m53, .inl (cA 0, 20, .inl g133)), (m54, .inl (cA 0, 100, .inl g134)), (m55, .inl (cA 0, 10, .inl g135)), (m56, .inl (cA 0, 12, .inl g136)), (m57, .inl (cA 0, 12, .inl g137)), (m58, .inl (cA 0, 12, .inl g138)), (m59, .inl (cA 0, 12, .inl g139)), (m22, .inl (cA 0, 6, .inl mf22)), (m60, .inl (cA 0, 2, .inl g140)), (m62, .inl (cA 0, 2, .inl g142)), (m71, .inl (cA 0, 10, .inl g143)), (h0, .inr (8, g376)), (m61, .inl (cA 0, 2, .inl g377))] := hD
  refine lv_goto (tgt := 20) hx hb dX8_asking_73 (by decide) ?_
  refine lv_aload_n hx hb dX8_asking_20 rfl (lv_at hl 2 rfl) ?_
  refine va_get (D := G) (ci := 8) (v := .ref m61) (C := RX8) (T := TX8) (N := 91) hx hb hT ku_8 hown hK hP 12 rfl rfl 61 (by decide) (hT _ kw_10_22) (fun _ h9 => h9) (fh_at hf379 11 rfl) dX8_asking_21 ?_
  refine lv_iconst (v := 1) hx hb dX8_asking_24 (by decide) ?_
  refine va_iald (i := 1) hx hb hK hP 13 0 rfl rfl (tq_in (by decide)) dX8_asking_25 ?_
  refine tq_i (w := 21) hE381 ?_
  refine lv_bipush (v := 21) hx hb dX8_asking_26 (by decide) ?_
  refine lv_icmp_ge (tgt := 76) hx hb dX8_asking_28 (by decide) (fun c383 => ?_) (fun c383 => absurd (by decide) c383)
  refine lv_iload_n hx hb dX8_asking_76 rfl (lv_at hl 1 rfl) ?_
  refine lv_aload_n hx hb dX8_asking_77 rfl (lv_at hl 2 rfl) ?_
  refine tq_ci (wr := [(m52, .inl (cA 0, 20, .inl g132)), (m53, .inl (cA 0, 20, .inl g133)), (m54, .inl (cA 0, 100, .inl g134)), (m55, .inl (cA 0, 10, .inl g135)), (m56, .inl (cA 0, 12, .inl g136)), (m57, .inl (cA 0, 12, .inl g137)), (m58, .inl (cA 0, 12, .inl g138)), (m59, .inl (cA 0, 12, .inl g139)), (m22, .inl (cA 0, 6, .inl mf22)), (m62, .inl (cA 0, 2, .inl g142)), (m71, .inl (cA 0, 10, .inl g143)), (m61, .inl (cA 0, 2, .inl g377))]) hP hD hS hA [12, 9] [0, 1, 2, 3, 4, 5, 6, 7, 8, 10, 11, 13] rfl rfl (by decide +kernel) (by decide) (va_runV (As := []) (rest := [.int 0]) ⟨hx, hb, hml, hown, hT⟩ (c_X8_more l G cA H.size h0 g376 m60 g140 (fh_sub hf379 [10] rfl) hE146 hE147) (cwV 0 hT (tq_gV kw_48_13 kw_48_14 kw_48_15 kw_1_5 kw_48_16) rfl rfl rfl (by decide +kernel) ⟨Nat.le_of_ble_eq_true rfl, Nat.le_of_ble_eq_true rfl⟩) ⟨(tq_pre (isC := [12, 9]) hP hD hK hN rfl (by decide)).1, va_recv hK hP (ci := 8) (q0 := 12) rfl rfl, (tq_pre (isC := [12, 9]) hP hD hK hN rfl (by decide)).2⟩ rfl rfl hl.1 rfl (lv_room (Nat.le_of_ble_eq_true rfl)) dX8_asking_78 ⟨Nat.le_of_ble_eq_true rfl, Nat.le_of_ble_eq_true rfl⟩) (fun r384 u385 H locs hw386 hP hD hS => ?_)
  refine W.widen (k := 0) (n := 0) (Nat.le_of_ble_eq_true rfl) (Nat.le_of_ble_eq_true rfl) ?_
  have hr387 := hw386
  subst hr387
  have hP : va_P G vwCl [(m52, .inl (cA 0, 20, .inl g132)), (m53, .inl (cA 0, 20, .inl g133)), (m54, .inl (cA 0, 100, .inl g134)), (m55, .inl (cA 0, 10, .inl g135)), (m56, .inl (cA 0, 12, .inl g136)), (m57, .inl (cA 0, 12, .inl g137)), (m58, .inl (cA 0, 12, .inl g138)), (m59, .inl (cA 0, 12, .inl g139)), (m22, .inl (cA 0, 6, .inl mf22)), (m62, .inl (cA 0, 2, .inl g142)), (m71, .inl (cA 0, 10, .inl g143)), (m61, .inl (cA 0, 2, .inl g377)), (h0, .inr (8, g376)), (m60, .inl (cA 0, 2, .inl g140))] H := hP
  have hD : va_D A [(m52, .inl (cA 0, 20, .inl g132)), (m53, .inl (cA 0, 20, .inl g133)), (m54, .inl (cA 0, 100, .inl g134)), (m55, .inl (cA 0, 10, .inl g135)), (m56, .inl (cA 0, 12, .inl g136)), (m57, .inl (cA 0, 12, .inl g137)), (m58, .inl (cA 0, 12, .inl g138)), (m59, .inl (cA 0, 12, .inl g139)), (m22, .inl (cA 0, 6, .inl mf22)), (m62, .inl (cA 0, 2, .inl g142)), (m71, .inl (cA 0, 10, .inl g143)), (m61, .inl (cA 0, 2, .inl g377)), (h0, .inr (8, g376)), (m60, .inl (cA 0, 2, .inl g140))] := hD
  refine lv_icmp_le (tgt := 93) hx hb dX8_asking_81 (by decide) (fun c388 => ?_) (fun c388 => absurd (by decide) c388)
  refine lv_iconst (v := 0) hx hb dX8_asking_93 (by decide) ?_
  have hP9 : va_P G vwCl [] H := fun k q h => by simp at h
  have hD9 : va_D A [] := ⟨fun i j p q h => by simp at h, fun k q h => by simp at h⟩
  exact W.iret (v := 0) hx hb hr (fun t ht hW => ⟨⟨0, (), rfl, rfl, by rw [ht]; exact hP9, hD9⟩, hS.F ht⟩) hS.2.2 dX8_asking_94
