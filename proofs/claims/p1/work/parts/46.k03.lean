set_option maxHeartbeats 4000000 in
set_option maxRecDepth 100000 in
theorem c_X8_bestRule (l : Launch) (G : va_G) (cA : Nat → ClassId) (sz : Nat) (h0 : Nat) (fs : List Value) (m52 : Nat) (m53 : Nat) (m54 : Nat) (m55 : Nat) (m56 : Nat) (m57 : Nat) (m58 : Nat) (m59 : Nat) (m22 : Nat) (m60 : Nat) (m61 : Nat) (m62 : Nat) (m71 : Nat) (mf52 : Nat → Int32) (mf53 : Nat → Int32) (mf54 : Nat → Int32) (mf55 : Nat → Int32) (mf56 : Nat → Int32) (mf57 : Nat → Int32) (mf58 : Nat → Int32) (mf59 : Nat → Int32) (mf22 : Nat → Int32) (mf60 : Nat → Int32) (mf61 : Nat → Int32) (mf62 : Nat → Int32) (mf71 : Nat → Int32) (hf : fh fs 91 [(52, .ref m52), (53, .ref m53), (54, .ref m54), (55, .ref m55), (56, .ref m56), (57, .ref m57), (58, .ref m58), (59, .ref m59), (22, .ref m22), (60, .ref m60), (61, .ref m61), (62, .ref m62), (71, .ref m71), (12, .int 0), (13, .int 0), (14, .int 0)]) (he60_0 : mf60 0 = 0) (he61_0 : mf61 0 = 0) : Met l yX8_bestRule (.code yX8_bestRule cX8_bestRule 3 (some .int) :: T0) ({ frames := 4, cells := 0, slots := 0, locals := 87 }) (tqP G cA [.ref h0] [(h0, .inr (8, fs)), (m52, .inl (cA 0, 20, .inl mf52)), (m53, .inl (cA 0, 20, .inl mf53)), (m54, .inl (cA 0, 100, .inl mf54)), (m55, .inl (cA 0, 10, .inl mf55)), (m56, .inl (cA 0, 12, .inl mf56)), (m57, .inl (cA 0, 12, .inl mf57)), (m58, .inl (cA 0, 12, .inl mf58)), (m59, .inl (cA 0, 12, .inl mf59)), (m22, .inl (cA 0, 6, .inl mf22)), (m60, .inl (cA 0, 2, .inl mf60)), (m61, .inl (cA 0, 2, .inl mf61)), (m62, .inl (cA 0, 2, .inl mf62)), (m71, .inl (cA 0, 10, .inl mf71))] sz) (tqQi G cA (fun (r : Int32) (u : Unit) => r = 0) (fun (u : Unit) => []) (va_A [(h0, .inr (8, fs)), (m52, .inl (cA 0, 20, .inl mf52)), (m53, .inl (cA 0, 20, .inl mf53)), (m54, .inl (cA 0, 100, .inl mf54)), (m55, .inl (cA 0, 10, .inl mf55)), (m56, .inl (cA 0, 12, .inl mf56)), (m57, .inl (cA 0, 12, .inl mf57)), (m58, .inl (cA 0, 12, .inl mf58)), (m59, .inl (cA 0, 12, .inl mf59)), (m22, .inl (cA 0, 6, .inl mf22)), (m60, .inl (cA 0, 2, .inl mf60)), (m61, .inl (cA 0, 2, .inl mf61)), (m62, .inl (cA 0, 2, .inl mf62)), (m71, .inl (cA 0, 10, .inl mf71))] sz)) 0 0 (va_A [(h0, .inr (8, fs)), (m52, .inl (cA 0, 20, .inl mf52)), (m53, .inl (cA 0, 20, .inl mf53)), (m54, .inl (cA 0, 100, .inl mf54)), (m55, .inl (cA 0, 10, .inl mf55)), (m56, .inl (cA 0, 12, .inl mf56)), (m57, .inl (cA 0, 12, .inl mf57)), (m58, .inl (cA 0, 12, .inl mf58)), (m59, .inl (cA 0, 12, .inl mf59)), (m22, .inl (cA 0, 6, .inl mf22)), (m60, .inl (cA 0, 2, .inl mf60)), (m61, .inl (cA 0, 2, .inl mf61)), (m62, .inl (cA 0, 2, .inl mf62)), (m71, .inl (cA 0, 10, .inl mf71))] sz) := by
  refine Met.ofW (cc := cX8_bestRule) (maxL := 3) (ret := (some .int)) (by decide) rfl ?_
  intro p e s m args below meth c s₁ B hml hv
  obtain ⟨rfl, hsz, hP, hK, hD0, hN⟩ := hv
  have hx := B.exec
  have hb := B.bytes
  have hr := B.returns
  have hts := atoms_spec (ws := .code yX8_bestRule cX8_bestRule 3 (some .int) :: T0) B.pre
  have hT : ∀ w ∈ T0, w.before _ s = true := fun w h => hts w (List.mem_cons_of_mem _ h)
  have hown : s.vm.findClass RX8 = some m.cls := findClass_of_methodNamed B.named
  have hlocks := B.notSynchronized
  subst hsz
  have hD := hD0.self (sz := s.heap.size)
  generalize hAe : va_A [(h0, .inr (8, fs)), (m52, .inl (cA 0, 20, .inl mf52)), (m53, .inl (cA 0, 20, .inl mf53)), (m54, .inl (cA 0, 100, .inl mf54)), (m55, .inl (cA 0, 10, .inl mf55)), (m56, .inl (cA 0, 12, .inl mf56)), (m57, .inl (cA 0, 12, .inl mf57)), (m58, .inl (cA 0, 12, .inl mf58)), (m59, .inl (cA 0, 12, .inl mf59)), (m22, .inl (cA 0, 6, .inl mf22)), (m60, .inl (cA 0, 2, .inl mf60)), (m61, .inl (cA 0, 2, .inl mf61)), (m62, .inl (cA 0, 2, .inl mf62)), (m71, .inl (cA 0, 10, .inl mf71))] s.heap.size = A at hD ⊢
  have hA : ∀ q : Nat, s.heap.size ≤ q → A q := fun q h => by rw [← hAe]; exact Or.inr h
  have hS : va_S A s.heap s.heap [] := va_S.rf
  have hl := lv_entry ([.ref h0]) (n := 3) (Nat.le_of_ble_eq_true rfl)
  rw [lg_entry_eq]
  generalize (lg_sl ([.ref h0]) ++ List.replicate (3 - (lg_sl ([.ref h0])).length) Slot.unset).toArray = ls at hl ⊢
  have hl : lv_has ls 3 [(0, .ref h0)] := hl
  obtain ⟨H, hH⟩ : ∃ z, z = s.heap := ⟨_, rfl⟩
  rw [← hH] at hP
  have hS : va_S A s.heap H [] := by rw [hH]; exact hS
  suffices hgo : W p l e _ s m _ below meth c H [] 0 0 _ _ by rw [hH] at hgo; exact hgo
  have hO := hN.2.2.2.2
  have ho_hf := fo_refl fs
  refine lv_aload_n hx hb dX8_bestRule_0 rfl (lv_at hl 0 rfl) ?_
  refine lv_iconst (v := 0) hx hb dX8_bestRule_1 (by decide) ?_
  refine va_put (D := G) (ci := 8) (v := .int 0) (ty := .int) (C := RX8) (T := TX8) (N := 91) hx hb hT ku_8 tyX8 tyX8_ok nmX8 hown hK hP hD hS 0 rfl rfl 2 (by decide) (hT _ kw_14_0) (fun _ h9 => h9) rfl (by decide +kernel) rfl rfl (fh_lt hf (by decide)) dX8_bestRule_2 (fun H locs hP hD hS => ?_)
  have hP : va_P G vwCl [(h0, .inr (8, (fs.set 2 (.int 0)))), (m52, .inl (cA 0, 20, .inl mf52)), (m53, .inl (cA 0, 20, .inl mf53)), (m54, .inl (cA 0, 100, .inl mf54)), (m55, .inl (cA 0, 10, .inl mf55)), (m56, .inl (cA 0, 12, .inl mf56)), (m57, .inl (cA 0, 12, .inl mf57)), (m58, .inl (cA 0, 12, .inl mf58)), (m59, .inl (cA 0, 12, .inl mf59)), (m22, .inl (cA 0, 6, .inl mf22)), (m60, .inl (cA 0, 2, .inl mf60)), (m61, .inl (cA 0, 2, .inl mf61)), (m62, .inl (cA 0, 2, .inl mf62)), (m71, .inl (cA 0, 10, .inl mf71))] H := hP
  have hD : va_D A [(h0, .inr (8, (fs.set 2 (.int 0)))), (m52, .inl (cA 0, 20, .inl mf52)), (m53, .inl (cA 0, 20, .inl mf53)), (m54, .inl (cA 0, 100, .inl mf54)), (m55, .inl (cA 0, 10, .inl mf55)), (m56, .inl (cA 0, 12, .inl mf56)), (m57, .inl (cA 0, 12, .inl mf57)), (m58, .inl (cA 0, 12, .inl mf58)), (m59, .inl (cA 0, 12, .inl mf59)), (m22, .inl (cA 0, 6, .inl mf22)), (m60, .inl (cA 0, 2, .inl mf60)), (m61, .inl (cA 0, 2, .inl mf61)), (m62, .inl (cA 0, 2, .inl mf62)), (m71, .inl (cA 0, 10, .inl mf71))] := hD
  have hf := fh_set (l' := [(2, .int 0), (52, .ref m52), (53, .ref m53), (54, .ref m54), (55, .ref m55), (56, .ref m56), (57, .ref m57), (58, .ref m58), (59, .ref m59), (22, .ref m22), (60, .ref m60), (61, .ref m61), (62, .ref m62), (71, .ref m71), (12, .int 0), (13, .int 0), (14, .int 0)]) hf 2 (.int 0) (by decide) rfl
  have ho102 := fo_set ho_hf 2 (.int 0)
  generalize (fs.set 2 (.int 0)) = fs101 at hP hD hf ho102
  refine lv_iconst (v := 0) hx hb dX8_bestRule_5 (by decide) ?_
  refine lv_istore_n (lv' := [(1, .int 0), (0, .ref h0)]) hx hb dX8_bestRule_6 rfl hl (by decide) rfl (fun ls hl => ?_)
  refine lv_iconst (v := 1) hx hb dX8_bestRule_7 (by decide) ?_
  refine lv_istore_n (lv' := [(2, .int 1), (1, .int 0), (0, .ref h0)]) hx hb dX8_bestRule_8 rfl hl (by decide) rfl (fun ls hl => ?_)
  refine lv_iload_n hx hb dX8_bestRule_9 rfl (lv_at hl 0 rfl) ?_
  refine lv_iconst (v := 3) hx hb dX8_bestRule_10 (by decide) ?_
  refine lv_icmp_ge (tgt := 39) hx hb dX8_bestRule_11 (by decide) (fun c103 => absurd c103 (by decide)) (fun c103 => ?_)
  refine lv_aload_n hx hb dX8_bestRule_14 rfl (lv_at hl 2 rfl) ?_
  refine lv_iload_n hx hb dX8_bestRule_15 rfl (lv_at hl 0 rfl) ?_
  refine tq_ci (wr := []) hP hD hS hA [0, 1, 2, 3, 4, 5, 6, 7, 8, 9, 10, 11, 12, 13] [] rfl rfl (by decide) (by decide) (va_runV (As := [.int 1]) (rest := []) ⟨hx, hb, hml, hown, hT⟩ (c_X8_liftsBy l G cA H.size h0 1 fs101 m52 m53 m54 m55 m56 m57 m58 m59 m22 m60 m61 m62 m71 mf52 mf53 mf54 mf55 mf56 mf57 mf58 mf59 mf22 mf60 mf61 mf62 mf71 (fh_sub hf [1, 2, 3, 4, 5, 6, 7, 8, 9, 10, 11, 12, 13, 14, 15, 16] rfl) he60_0 he61_0) (cwV 1 hT (tq_gV kw_51_22 kw_51_23 kw_52_0 kw_1_5 kw_52_1) rfl rfl rfl (by decide +kernel) ⟨Nat.le_of_ble_eq_true rfl, Nat.le_of_ble_eq_true rfl⟩) ⟨(tq_pre (isC := [0, 1, 2, 3, 4, 5, 6, 7, 8, 9, 10, 11, 12, 13]) hP hD hK hN rfl (by decide +kernel)).1, va_recv hK hP (ci := 8) (q0 := 0) rfl rfl, (tq_pre (isC := [0, 1, 2, 3, 4, 5, 6, 7, 8, 9, 10, 11, 12, 13]) hP hD hK hN rfl (by decide +kernel)).2⟩ rfl rfl hl.1 rfl (lv_room (Nat.le_of_ble_eq_true rfl)) dX8_bestRule_16 ⟨Nat.le_of_ble_eq_true rfl, Nat.le_of_ble_eq_true rfl⟩) (fun r104 u105 H locs hw106 hP hD hS => ?_)
  refine W.widen (k := 0) (n := 0) (Nat.le_of_ble_eq_true rfl) (Nat.le_of_ble_eq_true rfl) ?_
  obtain ⟨g107, g108, g109, g110, g111, g112, g113, g114, g115, g116, g117, g118, g119⟩ := u105
  obtain ⟨hr120, ho121, hf122, hE123, hE124, hE125, hE126, hE127⟩ := hw106
  try dsimp only at hP hD ho121 hf122 hE123 hE124 hE125 hE126 hE127
  subst hr120
  have hf122 := fh_app (fo_fh (l' := [(2, .int 0), (52, .ref m52), (53, .ref m53), (54, .ref m54), (55, .ref m55), (56, .ref m56), (57, .ref m57), (58, .ref m58), (59, .ref m59), (22, .ref m22), (60, .ref m60), (61, .ref m61), (62, .ref m62), (71, .ref m71), (12, .int 0), (13, .int 0), (14, .int 0)]) hf ho121 rfl) hf122
  have ho128 := fo_mono (k2 := [72, 70, 69, 68, 67, 66, 65, 64, 2]) (fo_trans ho102 ho121) (by decide +kernel)
  have hf122 : fh g107 91 [(2, .int 0), (52, .ref m52), (53, .ref m53), (54, .ref m54), (55, .ref m55), (56, .ref m56), (57, .ref m57), (58, .ref m58), (59, .ref m59), (22, .ref m22), (60, .ref m60), (61, .ref m61), (62, .ref m62), (71, .ref m71), (12, .int 0), (13, .int 0), (14, .int 0), (72, .int 0), (70, .int 0), (69, .int 0), (68, .int 0), (67, .int 0), (66, .int 0), (65, .int 0), (64, .int 1)] := hf122
  have hP : va_P G vwCl [(h0, .inr (8, g107)), (m52, .inl (cA 0, 20, .inl g108)), (m53, .inl (cA 0, 20, .inl g109)), (m54, .inl (cA 0, 100, .inl g110)), (m55, .inl (cA 0, 10, .inl g111)), (m56, .inl (cA 0, 12, .inl g112)), (m57, .inl (cA 0, 12, .inl g113)), (m58, .inl (cA 0, 12, .inl g114)), (m59, .inl (cA 0, 12, .inl g115)), (m22, .inl (cA 0, 6, .inl mf22)), (m60, .inl (cA 0, 2, .inl g116)), (m61, .inl (cA 0, 2, .inl g117)), (m62, .inl (cA 0, 2, .inl g118)), (m71, .inl (cA 0, 10, .inl g119))] H := hP
  have hD : va_D A [(h0, .inr (8, g107)), (m52, .inl (cA 0, 20, .inl g108)), (m53, .inl (cA 0, 20, .inl g109)), (m54, .inl (cA 0, 100, .inl g110)), (m55, .inl (cA 0, 10, .inl g111)), (m56, .inl (cA 0, 12, .inl g112)), (m57, .inl (cA 0, 12, .inl g113)), (m58, .inl (cA 0, 12, .inl g114)), (m59, .inl (cA 0, 12, .inl g115)), (m22, .inl (cA 0, 6, .inl mf22)), (m60, .inl (cA 0, 2, .inl g116)), (m61, .inl (cA 0, 2, .inl g117)), (m62, .inl (cA 0, 2, .inl g118)), (m71, .inl (cA 0, 10, .inl g119))] := hD
  refine lv_aload_n hx hb dX8_bestRule_19 rfl (lv_at hl 2 rfl) ?_
  refine lv_iload_n hx hb dX8_bestRule_20 rfl (lv_at hl 1 rfl) ?_
  refine tq_ci (wr := []) hP hD hS hA [0, 1, 2, 3, 4, 5, 6, 7, 8, 9, 10, 11, 12, 13] [] rfl rfl (by decide) (by decide) (va_runV (As := [.int 0]) (rest := [.int 0]) ⟨hx, hb, hml, hown, hT⟩ (c_X8_liftsBy l G cA H.size h0 0 g107 m52 m53 m54 m55 m56 m57 m58 m59 m22 m60 m61 m62 m71 g108 g109 g110 g111 g112 g113 g114 g115 mf22 g116 g117 g118 g119 (fh_sub hf122 [1, 2, 3, 4, 5, 6, 7, 8, 9, 10, 11, 12, 13, 14, 15, 16] rfl) hE123 hE125) (cwV 1 hT (tq_gV kw_51_22 kw_51_23 kw_52_0 kw_1_5 kw_52_1) rfl rfl rfl (by decide +kernel) ⟨Nat.le_of_ble_eq_true rfl, Nat.le_of_ble_eq_true rfl⟩) ⟨(tq_pre (isC := [0, 1, 2, 3, 4, 5, 6, 7, 8, 9, 10, 11, 12, 13]) hP hD hK hN rfl (by decide +kernel)).1, va_recv hK hP (ci := 8) (q0 := 0) rfl rfl, (tq_pre (isC := [0, 1, 2, 3, 4, 5, 6, 7, 8, 9, 10, 11, 12, 13]) hP hD hK hN rfl (by decide +kernel)).2⟩ rfl rfl hl.1 rfl (lv_room (Nat.le_of_ble_eq_true rfl)) dX8_bestRule_21 ⟨Nat.le_of_ble_eq_true rfl, Nat.le_of_ble_eq_true rfl⟩) (fun r129 u130 H locs hw131 hP hD hS => ?_)
  refine W.widen (k := 0) (n := 0) (Nat.le_of_ble_eq_true rfl) (Nat.le_of_ble_eq_true rfl) ?_
  obtain ⟨g132, g133, g134, g135, g136, g137, g138, g139, g140, g141, g142, g143, g144⟩ := u130
  obtain ⟨hr145, ho146, hf147, hE148, hE149, hE150, hE151, hE152⟩ := hw131
  try dsimp only at hP hD ho146 hf147 hE148 hE149 hE150 hE151 hE152
  subst hr145
  have hf147 := fh_app (fo_fh (l' := [(2, .int 0), (52, .ref m52), (53, .ref m53), (54, .ref m54), (55, .ref m55), (56, .ref m56), (57, .ref m57), (58, .ref m58), (59, .ref m59), (22, .ref m22), (60, .ref m60), (61, .ref m61), (62, .ref m62), (71, .ref m71), (12, .int 0), (13, .int 0), (14, .int 0)]) hf122 ho146 rfl) hf147
  have ho153 := fo_mono (k2 := [72, 70, 69, 68, 67, 66, 65, 64, 2]) (fo_trans ho128 ho146) (by decide +kernel)
  have hf147 : fh g132 91 [(2, .int 0), (52, .ref m52), (53, .ref m53), (54, .ref m54), (55, .ref m55), (56, .ref m56), (57, .ref m57), (58, .ref m58), (59, .ref m59), (22, .ref m22), (60, .ref m60), (61, .ref m61), (62, .ref m62), (71, .ref m71), (12, .int 0), (13, .int 0), (14, .int 0), (72, .int 0), (70, .int 0), (69, .int 0), (68, .int 0), (67, .int 0), (66, .int 0), (65, .int 0), (64, .int 0)] := hf147
  have hP : va_P G vwCl [(h0, .inr (8, g132)), (m52, .inl (cA 0, 20, .inl g133)), (m53, .inl (cA 0, 20, .inl g134)), (m54, .inl (cA 0, 100, .inl g135)), (m55, .inl (cA 0, 10, .inl g136)), (m56, .inl (cA 0, 12, .inl g137)), (m57, .inl (cA 0, 12, .inl g138)), (m58, .inl (cA 0, 12, .inl g139)), (m59, .inl (cA 0, 12, .inl g140)), (m22, .inl (cA 0, 6, .inl mf22)), (m60, .inl (cA 0, 2, .inl g141)), (m61, .inl (cA 0, 2, .inl g142)), (m62, .inl (cA 0, 2, .inl g143)), (m71, .inl (cA 0, 10, .inl g144))] H := hP
  have hD : va_D A [(h0, .inr (8, g132)), (m52, .inl (cA 0, 20, .inl g133)), (m53, .inl (cA 0, 20, .inl g134)), (m54, .inl (cA 0, 100, .inl g135)), (m55, .inl (cA 0, 10, .inl g136)), (m56, .inl (cA 0, 12, .inl g137)), (m57, .inl (cA 0, 12, .inl g138)), (m58, .inl (cA 0, 12, .inl g139)), (m59, .inl (cA 0, 12, .inl g140)), (m22, .inl (cA 0, 6, .inl mf22)), (m60, .inl (cA 0, 2, .inl g141)), (m61, .inl (cA 0, 2, .inl g142)), (m62, .inl (cA 0, 2, .inl g143)), (m71, .inl (cA 0, 10, .inl g144))] := hD
  refine lv_icmp_ge (tgt := 31) hx hb dX8_bestRule_24 (by decide) (fun c154 => ?_) (fun c154 => absurd (by decide) c154)
  refine lv_iload_n hx hb dX8_bestRule_31 rfl (lv_at hl 1 rfl) ?_
  refine lv_istore_n (lv' := [(1, .int 0), (2, .int 1), (0, .ref h0)]) hx hb dX8_bestRule_32 rfl hl (by decide) rfl (fun ls hl => ?_)
  refine lv_iinc (v := 2) (lv' := [(2, .int 2), (1, .int 0), (0, .ref h0)]) hx hb dX8_bestRule_33 hl (k := 1) rfl (by decide) (by decide) rfl (fun ls hl => ?_)
  refine lv_goto (tgt := 9) hx hb dX8_bestRule_36 (by decide) ?_
  refine lv_iload_n hx hb dX8_bestRule_9 rfl (lv_at hl 0 rfl) ?_
  refine lv_iconst (v := 3) hx hb dX8_bestRule_10 (by decide) ?_
  refine lv_icmp_ge (tgt := 39) hx hb dX8_bestRule_11 (by decide) (fun c155 => absurd c155 (by decide)) (fun c155 => ?_)
  refine lv_aload_n hx hb dX8_bestRule_14 rfl (lv_at hl 2 rfl) ?_
  refine lv_iload_n hx hb dX8_bestRule_15 rfl (lv_at hl 0 rfl) ?_
  refine tq_ci (wr := []) hP hD hS hA [0, 1, 2, 3, 4, 5, 6, 7, 8, 9, 10, 11, 12, 13] [] rfl rfl (by decide) (by decide) (va_runV (As := [.int 2]) (rest := []) ⟨hx, hb, hml, hown, hT⟩ (c_X8_liftsBy l G cA H.size h0 2 g132 m52 m53 m54 m55 m56 m57 m58 m59 m22 m60 m61 m62 m71 g133 g134 g135 g136 g137 g138 g139 g140 mf22 g141 g142 g143 g144 (fh_sub hf147 [1, 2, 3, 4, 5, 6, 7, 8, 9, 10, 11, 12, 13, 14, 15, 16] rfl) hE148 hE150) (cwV 1 hT (tq_gV kw_51_22 kw_51_23 kw_52_0 kw_1_5 kw_52_1) rfl rfl rfl (by decide +kernel) ⟨Nat.le_of_ble_eq_true rfl, Nat.le_of_ble_eq_true rfl⟩) ⟨(tq_pre (isC := [0, 1, 2, 3, 4, 5, 6, 7, 8, 9, 10, 11, 12, 13]) hP hD hK hN rfl (by decide +kernel)).1, va_recv hK hP (ci := 8) (q0 := 0) rfl rfl, (tq_pre (isC := [0, 1, 2, 3, 4, 5, 6, 7, 8, 9, 10, 11, 12, 13]) hP hD hK hN rfl (by decide +kernel)).2⟩ rfl rfl hl.1 rfl (lv_room (Nat.le_of_ble_eq_true rfl)) dX8_bestRule_16 ⟨Nat.le_of_ble_eq_true rfl, Nat.le_of_ble_eq_true rfl⟩) (fun r156 u157 H locs hw158 hP hD hS => ?_)
  refine W.widen (k := 0) (n := 0) (Nat.le_of_ble_eq_true rfl) (Nat.le_of_ble_eq_true rfl) ?_
  obtain ⟨g159, g160, g161, g162, g163, g164, g165, g166, g167, g168, g169, g170, g171⟩ := u157
  obtain ⟨hr172, ho173, hf174, hE175, hE176, hE177, hE178, hE179⟩ := hw158
  try dsimp only at hP hD ho173 hf174 hE175 hE176 hE177 hE178 hE179
  subst hr172
  have hf174 := fh_app (fo_fh (l' := [(2, .int 0), (52, .ref m52), (53, .ref m53), (54, .ref m54), (55, .ref m55), (56, .ref m56), (57, .ref m57), (58, .ref m58), (59, .ref m59), (22, .ref m22), (60, .ref m60), (61, .ref m61), (62, .ref m62), (71, .ref m71), (12, .int 0), (13, .int 0), (14, .int 0)]) hf147 ho173 rfl) hf174
  have ho180 := fo_mono (k2 := [72, 70, 69, 68, 67, 66, 65, 64, 2]) (fo_trans ho153 ho173) (by decide +kernel)
  have hf174 : fh g159 91 [(2, .int 0), (52, .ref m52), (53, .ref m53), (54, .ref m54), (55, .ref m55), (56, .ref m56), (57, .ref m57), (58, .ref m58), (59, .ref m59), (22, .ref m22), (60, .ref m60), (61, .ref m61), (62, .ref m62), (71, .ref m71), (12, .int 0), (13, .int 0), (14, .int 0), (72, .int 0), (70, .int 0), (69, .int 0), (68, .int 0), (67, .int 0), (66, .int 0), (65, .int 0), (64, .int 2)] := hf174
  have hP : va_P G vwCl [(h0, .inr (8, g159)), (m52, .inl (cA 0, 20, .inl g160)), (m53, .inl (cA 0, 20, .inl g161)), (m54, .inl (cA 0, 100, .inl g162)), (m55, .inl (cA 0, 10, .inl g163)), (m56, .inl (cA 0, 12, .inl g164)), (m57, .inl (cA 0, 12, .inl g165)), (m58, .inl (cA 0, 12, .inl g166)), (m59, .inl (cA 0, 12, .inl g167)), (m22, .inl (cA 0, 6, .inl mf22)), (m60, .inl (cA 0, 2, .inl g168)), (m61, .inl (cA 0, 2, .inl g169)), (m62, .inl (cA 0, 2, .inl g170)), (m71, .inl (cA 0, 10, .inl g171))] H := hP
  have hD : va_D A [(h0, .inr (8, g159)), (m52, .inl (cA 0, 20, .inl g160)), (m53, .inl (cA 0, 20, .inl g161)), (m54, .inl (cA 0, 100, .inl g162)), (m55, .inl (cA 0, 10, .inl g163)), (m56, .inl (cA 0, 12, .inl g164)), (m57, .inl (cA 0, 12, .inl g165)), (m58, .inl (cA 0, 12, .inl g166)), (m59, .inl (cA 0, 12, .inl g167)), (m22, .inl (cA 0, 6, .inl mf22)), (m60, .inl (cA 0, 2, .inl g168)), (m61, .inl (cA 0, 2, .inl g169)), (m62, .inl (cA 0, 2, .inl g170)), (m71, .inl (cA 0, 10, .inl g171))] := hD
  refine lv_aload_n hx hb dX8_bestRule_19 rfl (lv_at hl 2 rfl) ?_
  refine lv_iload_n hx hb dX8_bestRule_20 rfl (lv_at hl 1 rfl) ?_
  refine tq_ci (wr := []) hP hD hS hA [0, 1, 2, 3, 4, 5, 6, 7, 8, 9, 10, 11, 12, 13] [] rfl rfl (by decide) (by decide) (va_runV (As := [.int 0]) (rest := [.int 0]) ⟨hx, hb, hml, hown, hT⟩ (c_X8_liftsBy l G cA H.size h0 0 g159 m52 m53 m54 m55 m56 m57 m58 m59 m22 m60 m61 m62 m71 g160 g161 g162 g163 g164 g165 g166 g167 mf22 g168 g169 g170 g171 (fh_sub hf174 [1, 2, 3, 4, 5, 6, 7, 8, 9, 10, 11, 12, 13, 14, 15, 16] rfl) hE175 hE177) (cwV 1 hT (tq_gV kw_51_22 kw_51_23 kw_52_0 kw_1_5 kw_52_1) rfl rfl rfl (by decide +kernel) ⟨Nat.le_of_ble_eq_true rfl, Nat.le_of_ble_eq_true rfl⟩) ⟨(tq_pre (isC := [0, 1, 2, 3, 4, 5, 6, 7, 8, 9, 10, 11, 12, 13]) hP hD hK hN rfl (by decide +kernel)).1, va_recv hK hP (ci := 8) (q0 := 0) rfl rfl, (tq_pre (isC := [0, 1, 2, 3, 4, 5, 6, 7, 8, 9, 10, 11, 12, 13]) hP hD hK hN rfl (by decide +kernel)).2⟩ rfl rfl hl.1 rfl (lv_room (Nat.le_of_ble_eq_true rfl)) dX8_bestRule_21 ⟨Nat.le_of_ble_eq_true rfl, Nat.le_of_ble_eq_true rfl⟩) (fun r181 u182 H locs hw183 hP hD hS => ?_)
  refine W.widen (k := 0) (n := 0) (Nat.le_of_ble_eq_true rfl) (Nat.le_of_ble_eq_true rfl) ?_
  obtain ⟨g184, g185, g186, g187, g188, g189, g190, g191, g192, g193, g194, g195, g196⟩ := u182
  obtain ⟨hr197, ho198, hf199, hE200, hE201, hE202, hE203, hE204⟩ := hw183
  try dsimp only at hP hD ho198 hf199 hE200 hE201 hE202 hE203 hE204
  subst hr197
  have hf199 := fh_app (fo_fh (l' := [(2, .int 0), (52, .ref m52), (53, .ref m53), (54, .ref m54), (55, .ref m55), (56, .ref m56), (57, .ref m57), (58, .ref m58), (59, .ref m59), (22, .ref m22), (60, .ref m60), (61, .ref m61), (62, .ref m62), (71, .ref m71), (12, .int 0), (13, .int 0), (14, .int 0)]) hf174 ho198 rfl) hf199
  have ho205 := fo_mono (k2 := [72, 70, 69, 68, 67, 66, 65, 64, 2]) (fo_trans ho180 ho198) (by decide +kernel)
  have hf199 : fh g184 91 [(2, .int 0), (52, .ref m52), (53, .ref m53), (54, .ref m54), (55, .ref m55), (56, .ref m56), (57, .ref m57), (58, .ref m58), (59, .ref m59), (22, .ref m22), (60, .ref m60), (61, .ref m61), (62, .ref m62), (71, .ref m71), (12, .int 0), (13, .int 0), (14, .int 0), (72, .int 0), (70, .int 0), (69, .int 0), (68, .int 0), (67, .int 0), (66, .int 0), (65, .int 0), (64, .int 0)] := hf199
  have hP : va_P G vwCl [(h0, .inr (8, g184)), (m52, .inl (cA 0, 20, .inl g185)), (m53, .inl (cA 0, 20, .inl g186)), (m54, .inl (cA 0, 100, .inl g187)), (m55, .inl (cA 0, 10, .inl g188)), (m56, .inl (cA 0, 12, .inl g189)), (m57, .inl (cA 0, 12, .inl g190)), (m58, .inl (cA 0, 12, .inl g191)), (m59, .inl (cA 0, 12, .inl g192)), (m22, .inl (cA 0, 6, .inl mf22)), (m60, .inl (cA 0, 2, .inl g193)), (m61, .inl (cA 0, 2, .inl g194)), (m62, .inl (cA 0, 2, .inl g195)), (m71, .inl (cA 0, 10, .inl g196))] H := hP
  have hD : va_D A [(h0, .inr (8, g184)), (m52, .inl (cA 0, 20, .inl g185)), (m53, .inl (cA 0, 20, .inl g186)), (m54, .inl (cA 0, 100, .inl g187)), (m55, .inl (cA 0, 10, .inl g188)), (m56, .inl (cA 0, 12, .inl g189)), (m57, .inl (cA 0, 12, .inl g190)), (m58, .inl (cA 0, 12, .inl g191)), (m59, .inl (cA 0, 12, .inl g192)), (m22, .inl (cA 0, 6, .inl mf22)), (m60, .inl (cA 0, 2, .inl g193)), (m61, .inl (cA 0, 2, .inl g194)), (m62, .inl (cA 0, 2, .inl g195)), (m71, .inl (cA 0, 10, .inl g196))] := hD
  refine lv_icmp_ge (tgt := 31) hx hb dX8_bestRule_24 (by decide) (fun c206 => ?_) (fun c206 => absurd (by decide) c206)
  refine lv_iload_n hx hb dX8_bestRule_31 rfl (lv_at hl 1 rfl) ?_
  refine lv_istore_n (lv' := [(1, .int 0), (2, .int 2), (0, .ref h0)]) hx hb dX8_bestRule_32 rfl hl (by decide) rfl (fun ls hl => ?_)
  refine lv_iinc (v := 3) (lv' := [(2, .int 3), (1, .int 0), (0, .ref h0)]) hx hb dX8_bestRule_33 hl (k := 1) rfl (by decide) (by decide) rfl (fun ls hl => ?_)
  refine lv_goto (tgt := 9) hx hb dX8_bestRule_36 (by decide) ?_
  refine lv_iload_n hx hb dX8_bestRule_9 rfl (lv_at hl 0 rfl) ?_
  refine lv_iconst (v := 3) hx hb dX8_bestRule_10 (by decide) ?_
  refine lv_icmp_ge (tgt := 39) hx hb dX8_bestRule_11 (by decide) (fun c207 => ?_) (fun c207 => absurd (by decide) c207)
  refine lv_iload_n hx hb dX8_bestRule_39 rfl (lv_at hl 1 rfl) ?_
  have hP9 : va_P G vwCl [] H := fun k q h => by simp at h
  have hD9 : va_D A [] := ⟨fun i j p q h => by simp at h, fun k q h => by simp at h⟩
  exact W.iret (v := 0) hx hb hr (fun t ht hW => ⟨⟨0, (), rfl, rfl, by rw [ht]; exact hP9, hD9⟩, hS.F ht⟩) hS.2.2 dX8_bestRule_40
