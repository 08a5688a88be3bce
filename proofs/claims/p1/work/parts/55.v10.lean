set_option maxHeartbeats 4000000 in
set_option maxRecDepth 100000 in
theorem d_X8_init (l : Launch) (G : va_G) (cA : Nat → ClassId) (sz : Nat) (h0 : Nat) (fs : List Value) (hf : fh fs 91 [(1, .int 0), (4, .int 0)]) : Met l yX8_init (.code yX8_init cX8_init 1 none :: T0) ({ frames := 3, cells := 49, slots := 3443, locals := 63 }) (tqP G cA [.ref h0] [(h0, .inr (8, fs))] sz) (va_Qv (fun (_ : Unit) => True) (fun _ t => mW2 G cA (va_A [(h0, .inr (8, fs))] sz) h0 t) (va_A [(h0, .inr (8, fs))] sz)) 49 3443 (va_A [(h0, .inr (8, fs))] sz) := by
  refine Met.ofW (cc := cX8_init) (maxL := 1) (ret := none) (by decide) rfl ?_
  intro p e s m args below meth c s₁ B hml hv
  obtain ⟨rfl, hsz, hP, hK, hD0, hN⟩ := hv
  have hx := B.exec
  have hb := B.bytes
  have hr := B.returns
  have hts := atoms_spec (ws := .code yX8_init cX8_init 1 none :: T0) B.pre
  have hT : ∀ w ∈ T0, w.before _ s = true := fun w h => hts w (List.mem_cons_of_mem _ h)
  have hown : s.vm.findClass RX8 = some m.cls := findClass_of_methodNamed B.named
  have hlocks := B.notSynchronized
  have hin : meth.name = "<init>" := (name_of_methodNamed B.named B.method).1
  subst hsz
  have hD := hD0.self (sz := s.heap.size)
  generalize hAe : va_A [(h0, .inr (8, fs))] s.heap.size = A at hD ⊢
  have hA : ∀ q : Nat, s.heap.size ≤ q → A q := fun q h => by rw [← hAe]; exact Or.inr h
  have hS : va_S A s.heap s.heap [] := va_S.rf
  have hl := lv_entry ([.ref h0]) (n := 1) (Nat.le_of_ble_eq_true rfl)
  rw [lg_entry_eq]
  generalize (lg_sl ([.ref h0]) ++ List.replicate (1 - (lg_sl ([.ref h0])).length) Slot.unset).toArray = ls at hl ⊢
  have hl : lv_has ls 1 [(0, .ref h0)] := hl
  obtain ⟨H, hH⟩ : ∃ z, z = s.heap := ⟨_, rfl⟩
  rw [← hH] at hP
  have hS : va_S A s.heap H [] := by rw [hH]; exact hS
  suffices hgo : W p l e _ s m _ below meth c H [] 0 0 _ _ by rw [hH] at hgo; exact hgo
  have hO := hN.2.2.2.2
  refine lv_aload_n hx hb dX8_init_0 rfl (lv_at hl 0 rfl) ?_
  refine W.objInit hx hb hown (hT _ kw_9_9) (hT _ kw_1_11) (hT _ kw_1_12) rfl (by rw [hml]; exact hl.1) rfl dX8_init_1 (Nat.le_of_ble_eq_true rfl) (Nat.le_of_ble_eq_true rfl) ?_
  refine W.eq (g2 := F0 m 4 ls []) rfl ?_
  refine lv_aload_n hx hb dX8_init_4 rfl (lv_at hl 0 rfl) ?_
  refine lv_sipush (v := 700) hx hb dX8_init_5 (by decide) ?_
  refine tq_newa (atype := .int) (ty := .int) (n := 700) (N' := 700) (a0 := (700, .inl (fun _ => 0))) hx hb (hT _ kw_2_13) rfl hK hP hD hS hA 0 (cA 0) rfl (fun _ => rfl) (by decide) (by decide) (by decide) (Nat.le_of_ble_eq_true rfl) (Nat.le_of_ble_eq_true rfl) dX8_init_8 (fun q101 H hP hD hS => ?_)
  have hP : va_P G vwCl [(h0, .inr (8, fs)), (q101, .inl (cA 0, 700, .inl ((fun _ => 0))))] H := hP
  have hD : va_D A [(h0, .inr (8, fs)), (q101, .inl (cA 0, 700, .inl ((fun _ => 0))))] := hD
  refine W.widen (k := 1) (n := 700) (Nat.le_of_ble_eq_true rfl) (Nat.le_of_ble_eq_true rfl) ?_
  obtain ⟨f102, ef102⟩ : ∃ z : Nat → Int32, z = (fun _ => 0) := ⟨_, rfl⟩
  rw [← ef102] at hP hD
  refine va_putF (D := G) (ci := 8) (v := .ref q101) (ty := (.array .int)) (C := RX8) (T := TX8) (N := 91) hx hb hT ku_8 tyX8 tyX8_ok nmX8 hown hK hP hD hS 0 rfl rfl 0 (by decide) (hT _ kw_9_10) (fun _ h9 => h9) rfl hin rfl (by decide +kernel) rfl rfl (fh_lt hf (by decide)) dX8_init_10 (fun H locs hP hD hS => ?_)
  have hP : va_P G vwCl [(h0, .inr (8, (fs.set 0 (.ref q101)))), (q101, .inl (cA 0, 700, .inl f102))] H := hP
  have hD : va_D A [(h0, .inr (8, (fs.set 0 (.ref q101)))), (q101, .inl (cA 0, 700, .inl f102))] := hD
  have hf := fh_set (l' := [(0, .ref q101), (1, .int 0), (4, .int 0)]) hf 0 (.ref q101) (by decide) rfl
  generalize (fs.set 0 (.ref q101)) = fs103 at hP hD hf
  refine lv_aload_n hx hb dX8_init_13 rfl (lv_at hl 0 rfl) ?_
  refine lv_sipush (v := 153) hx hb dX8_init_14 (by decide) ?_
  refine tq_newa (atype := .int) (ty := .int) (n := 153) (N' := 153) (a0 := (153, .inl (fun _ => 0))) hx hb (hT _ kw_2_13) rfl hK hP hD hS hA 0 (cA 0) rfl (fun _ => rfl) (by decide) (by decide) (by decide) (Nat.le_of_ble_eq_true rfl) (Nat.le_of_ble_eq_true rfl) dX8_init_17 (fun q104 H hP hD hS => ?_)
  have hP : va_P G vwCl [(h0, .inr (8, fs103)), (q101, .inl (cA 0, 700, .inl f102)), (q104, .inl (cA 0, 153, .inl ((fun _ => 0))))] H := hP
  have hD : va_D A [(h0, .inr (8, fs103)), (q101, .inl (cA 0, 700, .inl f102)), (q104, .inl (cA 0, 153, .inl ((fun _ => 0))))] := hD
  refine W.widen (k := 2) (n := 853) (Nat.le_of_ble_eq_true rfl) (Nat.le_of_ble_eq_true rfl) ?_
  obtain ⟨f105, ef105⟩ : ∃ z : Nat → Int32, z = (fun _ => 0) := ⟨_, rfl⟩
  rw [← ef105] at hP hD
  refine lv_dup hx hb dX8_init_19 rfl ?_
  refine lv_iconst (v := 0) hx hb dX8_init_20 (by decide) ?_
  refine lv_bipush (v := 112) hx hb dX8_init_21 (by decide) ?_
  refine va_iast (i := 0) hx hb hK hP hD hS 2 0 rfl rfl (tq_in (by decide)) dX8_init_23 (fun H locs hP hD hS => ?_)
  have hP : va_P G vwCl [(h0, .inr (8, fs103)), (q101, .inl (cA 0, 700, .inl f102)), (q104, .inl (cA 0, 153, .inl ((upd f105 (0 : Int32).toNatClampNeg 112))))] H := hP
  have hD : va_D A [(h0, .inr (8, fs103)), (q101, .inl (cA 0, 700, .inl f102)), (q104, .inl (cA 0, 153, .inl ((upd f105 (0 : Int32).toNatClampNeg 112))))] := hD
  generalize (upd f105 (0 : Int32).toNatClampNeg 112) = f106 at hP hD
  refine lv_dup hx hb dX8_init_24 rfl ?_
  refine lv_iconst (v := 1) hx hb dX8_init_25 (by decide) ?_
  refine lv_bipush (v := 108) hx hb dX8_init_26 (by decide) ?_
  refine va_iast (i := 1) hx hb hK hP hD hS 2 0 rfl rfl (tq_in (by decide)) dX8_init_28 (fun H locs hP hD hS => ?_)
  have hP : va_P G vwCl [(h0, .inr (8, fs103)), (q101, .inl (cA 0, 700, .inl f102)), (q104, .inl (cA 0, 153, .inl ((upd f106 (1 : Int32).toNatClampNeg 108))))] H := hP
  have hD : va_D A [(h0, .inr (8, fs103)), (q101, .inl (cA 0, 700, .inl f102)), (q104, .inl (cA 0, 153, .inl ((upd f106 (1 : Int32).toNatClampNeg 108))))] := hD
  generalize (upd f106 (1 : Int32).toNatClampNeg 108) = f107 at hP hD
  refine lv_dup hx hb dX8_init_29 rfl ?_
  refine lv_iconst (v := 2) hx hb dX8_init_30 (by decide) ?_
  refine lv_bipush (v := 97) hx hb dX8_init_31 (by decide) ?_
  refine va_iast (i := 2) hx hb hK hP hD hS 2 0 rfl rfl (tq_in (by decide)) dX8_init_33 (fun H locs hP hD hS => ?_)
  have hP : va_P G vwCl [(h0, .inr (8, fs103)), (q101, .inl (cA 0, 700, .inl f102)), (q104, .inl (cA 0, 153, .inl ((upd f107 (2 : Int32).toNatClampNeg 97))))] H := hP
  have hD : va_D A [(h0, .inr (8, fs103)), (q101, .inl (cA 0, 700, .inl f102)), (q104, .inl (cA 0, 153, .inl ((upd f107 (2 : Int32).toNatClampNeg 97))))] := hD
  generalize (upd f107 (2 : Int32).toNatClampNeg 97) = f108 at hP hD
  refine lv_dup hx hb dX8_init_34 rfl ?_
  refine lv_iconst (v := 3) hx hb dX8_init_35 (by decide) ?_
  refine lv_bipush (v := 99) hx hb dX8_init_36 (by decide) ?_
  refine va_iast (i := 3) hx hb hK hP hD hS 2 0 rfl rfl (tq_in (by decide)) dX8_init_38 (fun H locs hP hD hS => ?_)
  have hP : va_P G vwCl [(h0, .inr (8, fs103)), (q101, .inl (cA 0, 700, .inl f102)), (q104, .inl (cA 0, 153, .inl ((upd f108 (3 : Int32).toNatClampNeg 99))))] H := hP
  have hD : va_D A [(h0, .inr (8, fs103)), (q101, .inl (cA 0, 700, .inl f102)), (q104, .inl (cA 0, 153, .inl ((upd f108 (3 : Int32).toNatClampNeg 99))))] := hD
  generalize (upd f108 (3 : Int32).toNatClampNeg 99) = f109 at hP hD
  refine lv_dup hx hb dX8_init_39 rfl ?_
  refine lv_iconst (v := 4) hx hb dX8_init_40 (by decide) ?_
  refine lv_bipush (v := 101) hx hb dX8_init_41 (by decide) ?_
  refine va_iast (i := 4) hx hb hK hP hD hS 2 0 rfl rfl (tq_in (by decide)) dX8_init_43 (fun H locs hP hD hS => ?_)
  have hP : va_P G vwCl [(h0, .inr (8, fs103)), (q101, .inl (cA 0, 700, .inl f102)), (q104, .inl (cA 0, 153, .inl ((upd f109 (4 : Int32).toNatClampNeg 101))))] H := hP
  have hD : va_D A [(h0, .inr (8, fs103)), (q101, .inl (cA 0, 700, .inl f102)), (q104, .inl (cA 0, 153, .inl ((upd f109 (4 : Int32).toNatClampNeg 101))))] := hD
  generalize (upd f109 (4 : Int32).toNatClampNeg 101) = f110 at hP hD
  refine lv_dup hx hb dX8_init_44 rfl ?_
  refine lv_iconst (v := 5) hx hb dX8_init_45 (by decide) ?_
  refine lv_bipush (v := 32) hx hb dX8_init_46 (by decide) ?_
  refine va_iast (i := 5) hx hb hK hP hD hS 2 0 rfl rfl (tq_in (by decide)) dX8_init_48 (fun H locs hP hD hS => ?_)
  have hP : va_P G vwCl [(h0, .inr (8, fs103)), (q101, .inl (cA 0, 700, .inl f102)), (q104, .inl (cA 0, 153, .inl ((upd f110 (5 : Int32).toNatClampNeg 32))))] H := hP
  have hD : va_D A [(h0, .inr (8, fs103)), (q101, .inl (cA 0, 700, .inl f102)), (q104, .inl (cA 0, 153, .inl ((upd f110 (5 : Int32).toNatClampNeg 32))))] := hD
  generalize (upd f110 (5 : Int32).toNatClampNeg 32) = f111 at hP hD
  refine lv_dup hx hb dX8_init_49 rfl ?_
  refine lv_bipush (v := 6) hx hb dX8_init_50 (by decide) ?_
  refine lv_bipush (v := 112) hx hb dX8_init_52 (by decide) ?_
  refine va_iast (i := 6) hx hb hK hP hD hS 2 0 rfl rfl (tq_in (by decide)) dX8_init_54 (fun H locs hP hD hS => ?_)
  have hP : va_P G vwCl [(h0, .inr (8, fs103)), (q101, .inl (cA 0, 700, .inl f102)), (q104, .inl (cA 0, 153, .inl ((upd f111 (6 : Int32).toNatClampNeg 112))))] H := hP
  have hD : va_D A [(h0, .inr (8, fs103)), (q101, .inl (cA 0, 700, .inl f102)), (q104, .inl (cA 0, 153, .inl ((upd f111 (6 : Int32).toNatClampNeg 112))))] := hD
  generalize (upd f111 (6 : Int32).toNatClampNeg 112) = f112 at hP hD
  refine lv_dup hx hb dX8_init_55 rfl ?_
  refine lv_bipush (v := 7) hx hb dX8_init_56 (by decide) ?_
  refine lv_bipush (v := 101) hx hb dX8_init_58 (by decide) ?_
  refine va_iast (i := 7) hx hb hK hP hD hS 2 0 rfl rfl (tq_in (by decide)) dX8_init_60 (fun H locs hP hD hS => ?_)
  have hP : va_P G vwCl [(h0, .inr (8, fs103)), (q101, .inl (cA 0, 700, .inl f102)), (q104, .inl (cA 0, 153, .inl ((upd f112 (7 : Int32).toNatClampNeg 101))))] H := hP
  have hD : va_D A [(h0, .inr (8, fs103)), (q101, .inl (cA 0, 700, .inl f102)), (q104, .inl (cA 0, 153, .inl ((upd f112 (7 : Int32).toNatClampNeg 101))))] := hD
  generalize (upd f112 (7 : Int32).toNatClampNeg 101) = f113 at hP hD
  refine lv_dup hx hb dX8_init_61 rfl ?_
  refine lv_bipush (v := 8) hx hb dX8_init_62 (by decide) ?_
  refine lv_bipush (v := 114) hx hb dX8_init_64 (by decide) ?_
  refine va_iast (i := 8) hx hb hK hP hD hS 2 0 rfl rfl (tq_in (by decide)) dX8_init_66 (fun H locs hP hD hS => ?_)
  have hP : va_P G vwCl [(h0, .inr (8, fs103)), (q101, .inl (cA 0, 700, .inl f102)), (q104, .inl (cA 0, 153, .inl ((upd f113 (8 : Int32).toNatClampNeg 114))))] H := hP
  have hD : va_D A [(h0, .inr (8, fs103)), (q101, .inl (cA 0, 700, .inl f102)), (q104, .inl (cA 0, 153, .inl ((upd f113 (8 : Int32).toNatClampNeg 114))))] := hD
  generalize (upd f113 (8 : Int32).toNatClampNeg 114) = f114 at hP hD
  refine lv_dup hx hb dX8_init_67 rfl ?_
  refine lv_bipush (v := 9) hx hb dX8_init_68 (by decide) ?_
  refine lv_bipush (v := 115) hx hb dX8_init_70 (by decide) ?_
  refine va_iast (i := 9) hx hb hK hP hD hS 2 0 rfl rfl (tq_in (by decide)) dX8_init_72 (fun H locs hP hD hS => ?_)
  have hP : va_P G vwCl [(h0, .inr (8, fs103)), (q101, .inl (cA 0, 700, .inl f102)), (q104, .inl (cA 0, 153, .inl ((upd f114 (9 : Int32).toNatClampNeg 115))))] H := hP
  have hD : va_D A [(h0, .inr (8, fs103)), (q101, .inl (cA 0, 700, .inl f102)), (q104, .inl (cA 0, 153, .inl ((upd f114 (9 : Int32).toNatClampNeg 115))))] := hD
  generalize (upd f114 (9 : Int32).toNatClampNeg 115) = f115 at hP hD
  refine lv_dup hx hb dX8_init_73 rfl ?_
  refine lv_bipush (v := 10) hx hb dX8_init_74 (by decide) ?_
  refine lv_bipush (v := 111) hx hb dX8_init_76 (by decide) ?_
  refine va_iast (i := 10) hx hb hK hP hD hS 2 0 rfl rfl (tq_in (by decide)) dX8_init_78 (fun H locs hP hD hS => ?_)
  have hP : va_P G vwCl [(h0, .inr (8, fs103)), (q101, .inl (cA 0, 700, .inl f102)), (q104, .inl (cA 0, 153, .inl ((upd f115 (10 : Int32).toNatClampNeg 111))))] H := hP
  have hD : va_D A [(h0, .inr (8, fs103)), (q101, .inl (cA 0, 700, .inl f102)), (q104, .inl (cA 0, 153, .inl ((upd f115 (10 : Int32).toNatClampNeg 111))))] := hD
  generalize (upd f115 (10 : Int32).toNatClampNeg 111) = f116 at hP hD
  refine lv_dup hx hb dX8_init_79 rfl ?_
  refine lv_bipush (v := 11) hx hb dX8_init_80 (by decide) ?_
  refine lv_bipush (v := 110) hx hb dX8_init_82 (by decide) ?_
  refine va_iast (i := 11) hx hb hK hP hD hS 2 0 rfl rfl (tq_in (by decide)) dX8_init_84 (fun H locs hP hD hS => ?_)
  have hP : va_P G vwCl [(h0, .inr (8, fs103)), (q101, .inl (cA 0, 700, .inl f102)), (q104, .inl (cA 0, 153, .inl ((upd f116 (11 : Int32).toNatClampNeg 110))))] H := hP
  have hD : va_D A [(h0, .inr (8, fs103)), (q101, .inl (cA 0, 700, .inl f102)), (q104, .inl (cA 0, 153, .inl ((upd f116 (11 : Int32).toNatClampNeg 110))))] := hD
  generalize (upd f116 (11 : Int32).toNatClampNeg 110) = f117 at hP hD
  refine lv_dup hx hb dX8_init_85 rfl ?_
  refine lv_bipush (v := 12) hx hb dX8_init_86 (by decide) ?_
  refine lv_bipush (v := 32) hx hb dX8_init_88 (by decide) ?_
  refine va_iast (i := 12) hx hb hK hP hD hS 2 0 rfl rfl (tq_in (by decide)) dX8_init_90 (fun H locs hP hD hS => ?_)
  have hP : va_P G vwCl [(h0, .inr (8, fs103)), (q101, .inl (cA 0, 700, .inl f102)), (q104, .inl (cA 0, 153, .inl ((upd f117 (12 : Int32).toNatClampNeg 32))))] H := hP
  have hD : va_D A [(h0, .inr (8, fs103)), (q101, .inl (cA 0, 700, .inl f102)), (q104, .inl (cA 0, 153, .inl ((upd f117 (12 : Int32).toNatClampNeg 32))))] := hD
  generalize (upd f117 (12 : Int32).toNatClampNeg 32) = f118 at hP hD
  refine lv_dup hx hb dX8_init_91 rfl ?_
  refine lv_bipush (v := 13) hx hb dX8_init_92 (by decide) ?_
  refine lv_bipush (v := 112) hx hb dX8_init_94 (by decide) ?_
  refine va_iast (i := 13) hx hb hK hP hD hS 2 0 rfl rfl (tq_in (by decide)) dX8_init_96 (fun H locs hP hD hS => ?_)
  have hP : va_P G vwCl [(h0, .inr (8, fs103)), (q101, .inl (cA 0, 700, .inl f102)), (q104, .inl (cA 0, 153, .inl ((upd f118 (13 : Int32).toNatClampNeg 112))))] H := hP
  have hD : va_D A [(h0, .inr (8, fs103)), (q101, .inl (cA 0, 700, .inl f102)), (q104, .inl (cA 0, 153, .inl ((upd f118 (13 : Int32).toNatClampNeg 112))))] := hD
  generalize (upd f118 (13 : Int32).toNatClampNeg 112) = f119 at hP hD
  refine lv_dup hx hb dX8_init_97 rfl ?_
  refine lv_bipush (v := 14) hx hb dX8_init_98 (by decide) ?_
  refine lv_bipush (v := 105) hx hb dX8_init_100 (by decide) ?_
  refine va_iast (i := 14) hx hb hK hP hD hS 2 0 rfl rfl (tq_in (by decide)) dX8_init_102 (fun H locs hP hD hS => ?_)
  have hP : va_P G vwCl [(h0, .inr (8, fs103)), (q101, .inl (cA 0, 700, .inl f102)), (q104, .inl (cA 0, 153, .inl ((upd f119 (14 : Int32).toNatClampNeg 105))))] H := hP
  have hD : va_D A [(h0, .inr (8, fs103)), (q101, .inl (cA 0, 700, .inl f102)), (q104, .inl (cA 0, 153, .inl ((upd f119 (14 : Int32).toNatClampNeg 105))))] := hD
  generalize (upd f119 (14 : Int32).toNatClampNeg 105) = f120 at hP hD
  refine lv_dup hx hb dX8_init_103 rfl ?_
  refine lv_bipush (v := 15) hx hb dX8_init_104 (by decide) ?_
  refine lv_bipush (v := 101) hx hb dX8_init_106 (by decide) ?_
  refine va_iast (i := 15) hx hb hK hP hD hS 2 0 rfl rfl (tq_in (by decide)) dX8_init_108 (fun H locs hP hD hS => ?_)
  have hP : va_P G vwCl [(h0, .inr (8, fs103)), (q101, .inl (cA 0, 700, .inl f102)), (q104, .inl (cA 0, 153, .inl ((upd f120 (15 : Int32).toNatClampNeg 101))))] H := hP
  have hD : va_D A [(h0, .inr (8, fs103)), (q101, .inl (cA 0, 700, .inl f102)), (q104, .inl (cA 0, 153, .inl ((upd f120 (15 : Int32).toNatClampNeg 101))))] := hD
  generalize (upd f120 (15 : Int32).toNatClampNeg 101) = f121 at hP hD
  refine lv_dup hx hb dX8_init_109 rfl ?_
  refine lv_bipush (v := 16) hx hb dX8_init_110 (by decide) ?_
  refine lv_bipush (v := 99) hx hb dX8_init_112 (by decide) ?_
  refine va_iast (i := 16) hx hb hK hP hD hS 2 0 rfl rfl (tq_in (by decide)) dX8_init_114 (fun H locs hP hD hS => ?_)
  have hP : va_P G vwCl [(h0, .inr (8, fs103)), (q101, .inl (cA 0, 700, .inl f102)), (q104, .inl (cA 0, 153, .inl ((upd f121 (16 : Int32).toNatClampNeg 99))))] H := hP
  have hD : va_D A [(h0, .inr (8, fs103)), (q101, .inl (cA 0, 700, .inl f102)), (q104, .inl (cA 0, 153, .inl ((upd f121 (16 : Int32).toNatClampNeg 99))))] := hD
  generalize (upd f121 (16 : Int32).toNatClampNeg 99) = f122 at hP hD
  refine lv_dup hx hb dX8_init_115 rfl ?_
  refine lv_bipush (v := 17) hx hb dX8_init_116 (by decide) ?_
  refine lv_bipush (v := 101) hx hb dX8_init_118 (by decide) ?_
  refine va_iast (i := 17) hx hb hK hP hD hS 2 0 rfl rfl (tq_in (by decide)) dX8_init_120 (fun H locs hP hD hS => ?_)
  have hP : va_P G vwCl [(h0, .inr (8, fs103)), (q101, .inl (cA 0, 700, .inl f102)), (q104, .inl (cA 0, 153, .inl ((upd f122 (17 : Int32).toNatClampNeg 101))))] H := hP
  have hD : va_D A [(h0, .inr (8, fs103)), (q101, .inl (cA 0, 700, .inl f102)), (q104, .inl (cA 0, 153, .inl ((upd f122 (17 : Int32).toNatClampNeg 101))))] := hD
  generalize (upd f122 (17 : Int32).toNatClampNeg 101) = f123 at hP hD
  refine lv_dup hx hb dX8_init_121 rfl ?_
  refine lv_bipush (v := 18) hx hb dX8_init_122 (by decide) ?_
  refine lv_bipush (v := 32) hx hb dX8_init_124 (by decide) ?_
  refine va_iast (i := 18) hx hb hK hP hD hS 2 0 rfl rfl (tq_in (by decide)) dX8_init_126 (fun H locs hP hD hS => ?_)
  have hP : va_P G vwCl [(h0, .inr (8, fs103)), (q101, .inl (cA 0, 700, .inl f102)), (q104, .inl (cA 0, 153, .inl ((upd f123 (18 : Int32).toNatClampNeg 32))))] H := hP
  have hD : va_D A [(h0, .inr (8, fs103)), (q101, .inl (cA 0, 700, .inl f102)), (q104, .inl (cA 0, 153, .inl ((upd f123 (18 : Int32).toNatClampNeg 32))))] := hD
  generalize (upd f123 (18 : Int32).toNatClampNeg 32) = f124 at hP hD
  refine lv_dup hx hb dX8_init_127 rfl ?_
  refine lv_bipush (v := 19) hx hb dX8_init_128 (by decide) ?_
  refine lv_bipush (v := 119) hx hb dX8_init_130 (by decide) ?_
  refine va_iast (i := 19) hx hb hK hP hD hS 2 0 rfl rfl (tq_in (by decide)) dX8_init_132 (fun H locs hP hD hS => ?_)
  have hP : va_P G vwCl [(h0, .inr (8, fs103)), (q101, .inl (cA 0, 700, .inl f102)), (q104, .inl (cA 0, 153, .inl ((upd f124 (19 : Int32).toNatClampNeg 119))))] H := hP
  have hD : va_D A [(h0, .inr (8, fs103)), (q101, .inl (cA 0, 700, .inl f102)), (q104, .inl (cA 0, 153, .inl ((upd f124 (19 : Int32).toNatClampNeg 119))))] := hD
  generalize (upd f124 (19 : Int32).toNatClampNeg 119) = f125 at hP hD
  refine lv_dup hx hb dX8_init_133 rfl ?_
  refine lv_bipush (v := 20) hx hb dX8_init_134 (by decide) ?_
  refine lv_bipush (v := 97) hx hb dX8_init_136 (by decide) ?_
  refine va_iast (i := 20) hx hb hK hP hD hS 2 0 rfl rfl (tq_in (by decide)) dX8_init_138 (fun H locs hP hD hS => ?_)
  have hP : va_P G vwCl [(h0, .inr (8, fs103)), (q101, .inl (cA 0, 700, .inl f102)), (q104, .inl (cA 0, 153, .inl ((upd f125 (20 : Int32).toNatClampNeg 97))))] H := hP
  have hD : va_D A [(h0, .inr (8, fs103)), (q101, .inl (cA 0, 700, .inl f102)), (q104, .inl (cA 0, 153, .inl ((upd f125 (20 : Int32).toNatClampNeg 97))))] := hD
  generalize (upd f125 (20 : Int32).toNatClampNeg 97) = f126 at hP hD
  refine lv_dup hx hb dX8_init_139 rfl ?_
  refine lv_bipush (v := 21) hx hb dX8_init_140 (by decide) ?_
  refine lv_bipush (v := 105) hx hb dX8_init_142 (by decide) ?_
  refine va_iast (i := 21) hx hb hK hP hD hS 2 0 rfl rfl (tq_in (by decide)) dX8_init_144 (fun H locs hP hD hS => ?_)
  have hP : va_P G vwCl [(h0, .inr (8, fs103)), (q101, .inl (cA 0, 700, .inl f102)), (q104, .inl (cA 0, 153, .inl ((upd f126 (21 : Int32).toNatClampNeg 105))))] H := hP
  have hD : va_D A [(h0, .inr (8, fs103)), (q101, .inl (cA 0, 700, .inl f102)), (q104, .inl (cA 0, 153, .inl ((upd f126 (21 : Int32).toNatClampNeg 105))))] := hD
  generalize (upd f126 (21 : Int32).toNatClampNeg 105) = f127 at hP hD
  refine lv_dup hx hb dX8_init_145 rfl ?_
  refine lv_bipush (v := 22) hx hb dX8_init_146 (by decide) ?_
  refine lv_bipush (v := 116) hx hb dX8_init_148 (by decide) ?_
  refine va_iast (i := 22) hx hb hK hP hD hS 2 0 rfl rfl (tq_in (by decide)) dX8_init_150 (fun H locs hP hD hS => ?_)
  have hP : va_P G vwCl [(h0, .inr (8, fs103)), (q101, .inl (cA 0, 700, .inl f102)), (q104, .inl (cA 0, 153, .inl ((upd f127 (22 : Int32).toNatClampNeg 116))))] H := hP
  have hD : va_D A [(h0, .inr (8, fs103)), (q101, .inl (cA 0, 700, .inl f102)), (q104, .inl (cA 0, 153, .inl ((upd f127 (22 : Int32).toNatClampNeg 116))))] := hD
  generalize (upd f127 (22 : Int32).toNatClampNeg 116) = f128 at hP hD
  refine lv_dup hx hb dX8_init_151 rfl ?_
  refine lv_bipush (v := 23) hx hb dX8_init_152 (by decide) ?_
  refine lv_bipush (v := 32) hx hb dX8_init_154 (by decide) ?_
  refine va_iast (i := 23) hx hb hK hP hD hS 2 0 rfl rfl (tq_in (by decide)) dX8_init_156 (fun H locs hP hD hS => ?_)
  have hP : va_P G vwCl [(h0, .inr (8, fs103)), (q101, .inl (cA 0, 700, .inl f102)), (q104, .inl (cA 0, 153, .inl ((upd f128 (23 : Int32).toNatClampNeg 32))))] H := hP
  have hD : va_D A [(h0, .inr (8, fs103)), (q101, .inl (cA 0, 700, .inl f102)), (q104, .inl (cA 0, 153, .inl ((upd f128 (23 : Int32).toNatClampNeg 32))))] := hD
  generalize (upd f128 (23 : Int32).toNatClampNeg 32) = f129 at hP hD
  refine lv_dup hx hb dX8_init_157 rfl ?_
  refine lv_bipush (v := 24) hx hb dX8_init_158 (by decide) ?_
  refine lv_bipush (v := 114) hx hb dX8_init_160 (by decide) ?_
  refine va_iast (i := 24) hx hb hK hP hD hS 2 0 rfl rfl (tq_in (by decide)) dX8_init_162 (fun H locs hP hD hS => ?_)
  have hP : va_P G vwCl [(h0, .inr (8, fs103)), (q101, .inl (cA 0, 700, .inl f102)), (q104, .inl (cA 0, 153, .inl ((upd f129 (24 : Int32).toNatClampNeg 114))))] H := hP
  have hD : va_D A [(h0, .inr (8, fs103)), (q101, .inl (cA 0, 700, .inl f102)), (q104, .inl (cA 0, 153, .inl ((upd f129 (24 : Int32).toNatClampNeg 114))))] := hD
  generalize (upd f129 (24 : Int32).toNatClampNeg 114) = f130 at hP hD
  refine lv_dup hx hb dX8_init_163 rfl ?_
  refine lv_bipush (v := 25) hx hb dX8_init_164 (by decide) ?_
  refine lv_bipush (v := 117) hx hb dX8_init_166 (by decide) ?_
  refine va_iast (i := 25) hx hb hK hP hD hS 2 0 rfl rfl (tq_in (by decide)) dX8_init_168 (fun H locs hP hD hS => ?_)
  have hP : va_P G vwCl [(h0, .inr (8, fs103)), (q101, .inl (cA 0, 700, .inl f102)), (q104, .inl (cA 0, 153, .inl ((upd f130 (25 : Int32).toNatClampNeg 117))))] H := hP
  have hD : va_D A [(h0, .inr (8, fs103)), (q101, .inl (cA 0, 700, .inl f102)), (q104, .inl (cA 0, 153, .inl ((upd f130 (25 : Int32).toNatClampNeg 117))))] := hD
  generalize (upd f130 (25 : Int32).toNatClampNeg 117) = f131 at hP hD
  refine lv_dup hx hb dX8_init_169 rfl ?_
  refine lv_bipush (v := 26) hx hb dX8_init_170 (by decide) ?_
  refine lv_bipush (v := 108) hx hb dX8_init_172 (by decide) ?_
  refine va_iast (i := 26) hx hb hK hP hD hS 2 0 rfl rfl (tq_in (by decide)) dX8_init_174 (fun H locs hP hD hS => ?_)
  have hP : va_P G vwCl [(h0, .inr (8, fs103)), (q101, .inl (cA 0, 700, .inl f102)), (q104, .inl (cA 0, 153, .inl ((upd f131 (26 : Int32).toNatClampNeg 108))))] H := hP
  have hD : va_D A [(h0, .inr (8, fs103)), (q101, .inl (cA 0, 700, .inl f102)), (q104, .inl (cA 0, 153, .inl ((upd f131 (26 : Int32).toNatClampNeg 108))))] := hD
  generalize (upd f131 (26 : Int32).toNatClampNeg 108) = f132 at hP hD
  refine lv_dup hx hb dX8_init_175 rfl ?_
  refine lv_bipush (v := 27) hx hb dX8_init_176 (by decide) ?_
  refine lv_bipush (v := 101) hx hb dX8_init_178 (by decide) ?_
  refine va_iast (i := 27) hx hb hK hP hD hS 2 0 rfl rfl (tq_in (by decide)) dX8_init_180 (fun H locs hP hD hS => ?_)
  have hP : va_P G vwCl [(h0, .inr (8, fs103)), (q101, .inl (cA 0, 700, .inl f102)), (q104, .inl (cA 0, 153, .inl ((upd f132 (27 : Int32).toNatClampNeg 101))))] H := hP
  have hD : va_D A [(h0, .inr (8, fs103)), (q101, .inl (cA 0, 700, .inl f102)), (q104, .inl (cA 0, 153, .inl ((upd f132 (27 : Int32).toNatClampNeg 101))))] := hD
  generalize (upd f132 (27 : Int32).toNatClampNeg 101) = f133 at hP hD
  refine lv_dup hx hb dX8_init_181 rfl ?_
  refine lv_bipush (v := 28) hx hb dX8_init_182 (by decide) ?_
  refine lv_bipush (v := 32) hx hb dX8_init_184 (by decide) ?_
  refine va_iast (i := 28) hx hb hK hP hD hS 2 0 rfl rfl (tq_in (by decide)) dX8_init_186 (fun H locs hP hD hS => ?_)
  have hP : va_P G vwCl [(h0, .inr (8, fs103)), (q101, .inl (cA 0, 700, .inl f102)), (q104, .inl (cA 0, 153, .inl ((upd f133 (28 : Int32).toNatClampNeg 32))))] H := hP
  have hD : va_D A [(h0, .inr (8, fs103)), (q101, .inl (cA 0, 700, .inl f102)), (q104, .inl (cA 0, 153, .inl ((upd f133 (28 : Int32).toNatClampNeg 32))))] := hD
  generalize (upd f133 (28 : Int32).toNatClampNeg 32) = f134 at hP hD
  refine lv_dup hx hb dX8_init_187 rfl ?_
  refine lv_bipush (v := 29) hx hb dX8_init_188 (by decide) ?_
  refine lv_bipush (v := 99) hx hb dX8_init_190 (by decide) ?_
  refine va_iast (i := 29) hx hb hK hP hD hS 2 0 rfl rfl (tq_in (by decide)) dX8_init_192 (fun H locs hP hD hS => ?_)
  have hP : va_P G vwCl [(h0, .inr (8, fs103)), (q101, .inl (cA 0, 700, .inl f102)), (q104, .inl (cA 0, 153, .inl ((upd f134 (29 : Int32).toNatClampNeg 99))))] H := hP
  have hD : va_D A [(h0, .inr (8, fs103)), (q101, .inl (cA 0, 700, .inl f102)), (q104, .inl (cA 0, 153, .inl ((upd f134 (29 : Int32).toNatClampNeg 99))))] := hD
  generalize (upd f134 (29 : Int32).toNatClampNeg 99) = f135 at hP hD
  refine lv_dup hx hb dX8_init_193 rfl ?_
  refine lv_bipush (v := 30) hx hb dX8_init_194 (by decide) ?_
  refine lv_bipush (v := 117) hx hb dX8_init_196 (by decide) ?_
  refine va_iast (i := 30) hx hb hK hP hD hS 2 0 rfl rfl (tq_in (by decide)) dX8_init_198 (fun H locs hP hD hS => ?_)
  have hP : va_P G vwCl [(h0, .inr (8, fs103)), (q101, .inl (cA 0, 700, .inl f102)), (q104, .inl (cA 0, 153, .inl ((upd f135 (30 : Int32).toNatClampNeg 117))))] H := hP
  have hD : va_D A [(h0, .inr (8, fs103)), (q101, .inl (cA 0, 700, .inl f102)), (q104, .inl (cA 0, 153, .inl ((upd f135 (30 : Int32).toNatClampNeg 117))))] := hD
  generalize (upd f135 (30 : Int32).toNatClampNeg 117) = f136 at hP hD
  refine lv_dup hx hb dX8_init_199 rfl ?_
  refine lv_bipush (v := 31) hx hb dX8_init_200 (by decide) ?_
  refine lv_bipush (v := 114) hx hb dX8_init_202 (by decide) ?_
  refine va_iast (i := 31) hx hb hK hP hD hS 2 0 rfl rfl (tq_in (by decide)) dX8_init_204 (fun H locs hP hD hS => ?_)
  have hP : va_P G vwCl [(h0, .inr (8, fs103)), (q101, .inl (cA 0, 700, .inl f102)), (q104, .inl (cA 0, 153, .inl ((upd f136 (31 : Int32).toNatClampNeg 114))))] H := hP
  have hD : va_D A [(h0, .inr (8, fs103)), (q101, .inl (cA 0, 700, .inl f102)), (q104, .inl (cA 0, 153, .inl ((upd f136 (31 : Int32).toNatClampNeg 114))))] := hD
  generalize (upd f136 (31 : Int32).toNatClampNeg 114) = f137 at hP hD
  refine lv_dup hx hb dX8_init_205 rfl ?_
  refine lv_bipush (v := 32) hx hb dX8_init_206 (by decide) ?_
  refine lv_bipush (v := 118) hx hb dX8_init_208 (by decide) ?_
  refine va_iast (i := 32) hx hb hK hP hD hS 2 0 rfl rfl (tq_in (by decide)) dX8_init_210 (fun H locs hP hD hS => ?_)
  have hP : va_P G vwCl [(h0, .inr (8, fs103)), (q101, .inl (cA 0, 700, .inl f102)), (q104, .inl (cA 0, 153, .inl ((upd f137 (32 : Int32).toNatClampNeg 118))))] H := hP
  have hD : va_D A [(h0, .inr (8, fs103)), (q101, .inl (cA 0, 700, .inl f102)), (q104, .inl (cA 0, 153, .inl ((upd f137 (32 : Int32).toNatClampNeg 118))))] := hD
  generalize (upd f137 (32 : Int32).toNatClampNeg 118) = f138 at hP hD
  refine lv_dup hx hb dX8_init_211 rfl ?_
  refine lv_bipush (v := 33) hx hb dX8_init_212 (by decide) ?_
  refine lv_bipush (v := 101) hx hb dX8_init_214 (by decide) ?_
  refine va_iast (i := 33) hx hb hK hP hD hS 2 0 rfl rfl (tq_in (by decide)) dX8_init_216 (fun H locs hP hD hS => ?_)
  have hP : va_P G vwCl [(h0, .inr (8, fs103)), (q101, .inl (cA 0, 700, .inl f102)), (q104, .inl (cA 0, 153, .inl ((upd f138 (33 : Int32).toNatClampNeg 101))))] H := hP
  have hD : va_D A [(h0, .inr (8, fs103)), (q101, .inl (cA 0, 700, .inl f102)), (q104, .inl (cA 0, 153, .inl ((upd f138 (33 : Int32).toNatClampNeg 101))))] := hD
  generalize (upd f138 (33 : Int32).toNatClampNeg 101) = f139 at hP hD
  refine lv_dup hx hb dX8_init_217 rfl ?_
  refine lv_bipush (v := 34) hx hb dX8_init_218 (by decide) ?_
  refine lv_bipush (v := 32) hx hb dX8_init_220 (by decide) ?_
  refine va_iast (i := 34) hx hb hK hP hD hS 2 0 rfl rfl (tq_in (by decide)) dX8_init_222 (fun H locs hP hD hS => ?_)
  have hP : va_P G vwCl [(h0, .inr (8, fs103)), (q101, .inl (cA 0, 700, .inl f102)), (q104, .inl (cA 0, 153, .inl ((upd f139 (34 : Int32).toNatClampNeg 32))))] H := hP
  have hD : va_D A [(h0, .inr (8, fs103)), (q101, .inl (cA 0, 700, .inl f102)), (q104, .inl (cA 0, 153, .inl ((upd f139 (34 : Int32).toNatClampNeg 32))))] := hD
  generalize (upd f139 (34 : Int32).toNatClampNeg 32) = f140 at hP hD
  refine lv_dup hx hb dX8_init_223 rfl ?_
  refine lv_bipush (v := 35) hx hb dX8_init_224 (by decide) ?_
  refine lv_bipush (v := 115) hx hb dX8_init_226 (by decide) ?_
  refine va_iast (i := 35) hx hb hK hP hD hS 2 0 rfl rfl (tq_in (by decide)) dX8_init_228 (fun H locs hP hD hS => ?_)
  have hP : va_P G vwCl [(h0, .inr (8, fs103)), (q101, .inl (cA 0, 700, .inl f102)), (q104, .inl (cA 0, 153, .inl ((upd f140 (35 : Int32).toNatClampNeg 115))))] H := hP
  have hD : va_D A [(h0, .inr (8, fs103)), (q101, .inl (cA 0, 700, .inl f102)), (q104, .inl (cA 0, 153, .inl ((upd f140 (35 : Int32).toNatClampNeg 115))))] := hD
  generalize (upd f140 (35 : Int32).toNatClampNeg 115) = f141 at hP hD
  refine lv_dup hx hb dX8_init_229 rfl ?_
  refine lv_bipush (v := 36) hx hb dX8_init_230 (by decide) ?_
  refine lv_bipush (v := 101) hx hb dX8_init_232 (by decide) ?_
  refine va_iast (i := 36) hx hb hK hP hD hS 2 0 rfl rfl (tq_in (by decide)) dX8_init_234 (fun H locs hP hD hS => ?_)
  have hP : va_P G vwCl [(h0, .inr (8, fs103)), (q101, .inl (cA 0, 700, .inl f102)), (q104, .inl (cA 0, 153, .inl ((upd f141 (36 : Int32).toNatClampNeg 101))))] H := hP
  have hD : va_D A [(h0, .inr (8, fs103)), (q101, .inl (cA 0, 700, .inl f102)), (q104, .inl (cA 0, 153, .inl ((upd f141 (36 : Int32).toNatClampNeg 101))))] := hD
  generalize (upd f141 (36 : Int32).toNatClampNeg 101) = f142 at hP hD
  refine lv_dup hx hb dX8_init_235 rfl ?_
  refine lv_bipush (v := 37) hx hb dX8_init_236 (by decide) ?_
  refine lv_bipush (v := 101) hx hb dX8_init_238 (by decide) ?_
  refine va_iast (i := 37) hx hb hK hP hD hS 2 0 rfl rfl (tq_in (by decide)) dX8_init_240 (fun H locs hP hD hS => ?_)
  have hP : va_P G vwCl [(h0, .inr (8, fs103)), (q101, .inl (cA 0, 700, .inl f102)), (q104, .inl (cA 0, 153, .inl ((upd f142 (37 : Int32).toNatClampNeg 101))))] H := hP
  have hD : va_D A [(h0, .inr (8, fs103)), (q101, .inl (cA 0, 700, .inl f102)), (q104, .inl (cA 0, 153, .inl ((upd f142 (37 : Int32).toNatClampNeg 101))))] := hD
  generalize (upd f142 (37 : Int32).toNatClampNeg 101) = f143 at hP hD
  refine lv_dup hx hb dX8_init_241 rfl ?_
  refine lv_bipush (v := 38) hx hb dX8_init_242 (by decide) ?_
  refine lv_bipush (v := 100) hx hb dX8_init_244 (by decide) ?_
  refine va_iast (i := 38) hx hb hK hP hD hS 2 0 rfl rfl (tq_in (by decide)) dX8_init_246 (fun H locs hP hD hS => ?_)
  have hP : va_P G vwCl [(h0, .inr (8, fs103)), (q101, .inl (cA 0, 700, .inl f102)), (q104, .inl (cA 0, 153, .inl ((upd f143 (38 : Int32).toNatClampNeg 100))))] H := hP
  have hD : va_D A [(h0, .inr (8, fs103)), (q101, .inl (cA 0, 700, .inl f102)), (q104, .inl (cA 0, 153, .inl ((upd f143 (38 : Int32).toNatClampNeg 100))))] := hD
  generalize (upd f143 (38 : Int32).toNatClampNeg 100) = f144 at hP hD
  refine lv_dup hx hb dX8_init_247 rfl ?_
  refine lv_bipush (v := 39) hx hb dX8_init_248 (by decide) ?_
  refine lv_bipush (v := 32) hx hb dX8_init_250 (by decide) ?_
  refine va_iast (i := 39) hx hb hK hP hD hS 2 0 rfl rfl (tq_in (by decide)) dX8_init_252 (fun H locs hP hD hS => ?_)
  have hP : va_P G vwCl [(h0, .inr (8, fs103)), (q101, .inl (cA 0, 700, .inl f102)), (q104, .inl (cA 0, 153, .inl ((upd f144 (39 : Int32).toNatClampNeg 32))))] H := hP
  have hD : va_D A [(h0, .inr (8, fs103)), (q101, .inl (cA 0, 700, .inl f102)), (q104, .inl (cA 0, 153, .inl ((upd f144 (39 : Int32).toNatClampNeg 32))))] := hD
  generalize (upd f144 (39 : Int32).toNatClampNeg 32) = f145 at hP hD
  refine lv_dup hx hb dX8_init_253 rfl ?_
  refine lv_bipush (v := 40) hx hb dX8_init_254 (by decide) ?_
  refine lv_bipush (v := 108) hx hb dX8_init_256 (by decide) ?_
  refine va_iast (i := 40) hx hb hK hP hD hS 2 0 rfl rfl (tq_in (by decide)) dX8_init_258 (fun H locs hP hD hS => ?_)
  have hP : va_P G vwCl [(h0, .inr (8, fs103)), (q101, .inl (cA 0, 700, .inl f102)), (q104, .inl (cA 0, 153, .inl ((upd f145 (40 : Int32).toNatClampNeg 108))))] H := hP
  have hD : va_D A [(h0, .inr (8, fs103)), (q101, .inl (cA 0, 700, .inl f102)), (q104, .inl (cA 0, 153, .inl ((upd f145 (40 : Int32).toNatClampNeg 108))))] := hD
  generalize (upd f145 (40 : Int32).toNatClampNeg 108) = f146 at hP hD
  refine lv_dup hx hb dX8_init_259 rfl ?_
  refine lv_bipush (v := 41) hx hb dX8_init_260 (by decide) ?_
  refine lv_bipush (v := 97) hx hb dX8_init_262 (by decide) ?_
  refine va_iast (i := 41) hx hb hK hP hD hS 2 0 rfl rfl (tq_in (by decide)) dX8_init_264 (fun H locs hP hD hS => ?_)
  have hP : va_P G vwCl [(h0, .inr (8, fs103)), (q101, .inl (cA 0, 700, .inl f102)), (q104, .inl (cA 0, 153, .inl ((upd f146 (41 : Int32).toNatClampNeg 97))))] H := hP
  have hD : va_D A [(h0, .inr (8, fs103)), (q101, .inl (cA 0, 700, .inl f102)), (q104, .inl (cA 0, 153, .inl ((upd f146 (41 : Int32).toNatClampNeg 97))))] := hD
  generalize (upd f146 (41 : Int32).toNatClampNeg 97) = f147 at hP hD
  refine lv_dup hx hb dX8_init_265 rfl ?_
  refine lv_bipush (v := 42) hx hb dX8_init_266 (by decide) ?_
  refine lv_bipush (v := 119) hx hb dX8_init_268 (by decide) ?_
  refine va_iast (i := 42) hx hb hK hP hD hS 2 0 rfl rfl (tq_in (by decide)) dX8_init_270 (fun H locs hP hD hS => ?_)
  have hP : va_P G vwCl [(h0, .inr (8, fs103)), (q101, .inl (cA 0, 700, .inl f102)), (q104, .inl (cA 0, 153, .inl ((upd f147 (42 : Int32).toNatClampNeg 119))))] H := hP
  have hD : va_D A [(h0, .inr (8, fs103)), (q101, .inl (cA 0, 700, .inl f102)), (q104, .inl (cA 0, 153, .inl ((upd f147 (42 : Int32).toNatClampNeg 119))))] := hD
  generalize (upd f147 (42 : Int32).toNatClampNeg 119) = f148 at hP hD
  refine lv_dup hx hb dX8_init_271 rfl ?_
  refine lv_bipush (v := 43) hx hb dX8_init_272 (by decide) ?_
  refine lv_bipush (v := 32) hx hb dX8_init_274 (by decide) ?_
  refine va_iast (i := 43) hx hb hK hP hD hS 2 0 rfl rfl (tq_in (by decide)) dX8_init_276 (fun H locs hP hD hS => ?_)
  have hP : va_P G vwCl [(h0, .inr (8, fs103)), (q101, .inl (cA 0, 700, .inl f102)), (q104, .inl (cA 0, 153, .inl ((upd f148 (43 : Int32).toNatClampNeg 32))))] H := hP
  have hD : va_D A [(h0, .inr (8, fs103)), (q101, .inl (cA 0, 700, .inl f102)), (q104, .inl (cA 0, 153, .inl ((upd f148 (43 : Int32).toNatClampNeg 32))))] := hD
  generalize (upd f148 (43 : Int32).toNatClampNeg 32) = f149 at hP hD
  refine lv_dup hx hb dX8_init_277 rfl ?_
  refine lv_bipush (v := 44) hx hb dX8_init_278 (by decide) ?_
  refine lv_bipush (v := 110) hx hb dX8_init_280 (by decide) ?_
  refine va_iast (i := 44) hx hb hK hP hD hS 2 0 rfl rfl (tq_in (by decide)) dX8_init_282 (fun H locs hP hD hS => ?_)
  have hP : va_P G vwCl [(h0, .inr (8, fs103)), (q101, .inl (cA 0, 700, .inl f102)), (q104, .inl (cA 0, 153, .inl ((upd f149 (44 : Int32).toNatClampNeg 110))))] H := hP
  have hD : va_D A [(h0, .inr (8, fs103)), (q101, .inl (cA 0, 700, .inl f102)), (q104, .inl (cA 0, 153, .inl ((upd f149 (44 : Int32).toNatClampNeg 110))))] := hD
  generalize (upd f149 (44 : Int32).toNatClampNeg 110) = f150 at hP hD
  refine lv_dup hx hb dX8_init_283 rfl ?_
  refine lv_bipush (v := 45) hx hb dX8_init_284 (by decide) ?_
  refine lv_bipush (v := 101) hx hb dX8_init_286 (by decide) ?_
  refine va_iast (i := 45) hx hb hK hP hD hS 2 0 rfl rfl (tq_in (by decide)) dX8_init_288 (fun H locs hP hD hS => ?_)
  have hP : va_P G vwCl [(h0, .inr (8, fs103)), (q101, .inl (cA 0, 700, .inl f102)), (q104, .inl (cA 0, 153, .inl ((upd f150 (45 : Int32).toNatClampNeg 101))))] H := hP
  have hD : va_D A [(h0, .inr (8, fs103)), (q101, .inl (cA 0, 700, .inl f102)), (q104, .inl (cA 0, 153, .inl ((upd f150 (45 : Int32).toNatClampNeg 101))))] := hD
  generalize (upd f150 (45 : Int32).toNatClampNeg 101) = f151 at hP hD
  refine lv_dup hx hb dX8_init_289 rfl ?_
  refine lv_bipush (v := 46) hx hb dX8_init_290 (by decide) ?_
  refine lv_bipush (v := 116) hx hb dX8_init_292 (by decide) ?_
  refine va_iast (i := 46) hx hb hK hP hD hS 2 0 rfl rfl (tq_in (by decide)) dX8_init_294 (fun H locs hP hD hS => ?_)
  have hP : va_P G vwCl [(h0, .inr (8, fs103)), (q101, .inl (cA 0, 700, .inl f102)), (q104, .inl (cA 0, 153, .inl ((upd f151 (46 : Int32).toNatClampNeg 116))))] H := hP
  have hD : va_D A [(h0, .inr (8, fs103)), (q101, .inl (cA 0, 700, .inl f102)), (q104, .inl (cA 0, 153, .inl ((upd f151 (46 : Int32).toNatClampNeg 116))))] := hD
  generalize (upd f151 (46 : Int32).toNatClampNeg 116) = f152 at hP hD
  refine lv_dup hx hb dX8_init_295 rfl ?_
  refine lv_bipush (v := 47) hx hb dX8_init_296 (by decide) ?_
  refine lv_bipush (v := 32) hx hb dX8_init_298 (by decide) ?_
  refine va_iast (i := 47) hx hb hK hP hD hS 2 0 rfl rfl (tq_in (by decide)) dX8_init_300 (fun H locs hP hD hS => ?_)
  have hP : va_P G vwCl [(h0, .inr (8, fs103)), (q101, .inl (cA 0, 700, .inl f102)), (q104, .inl (cA 0, 153, .inl ((upd f152 (47 : Int32).toNatClampNeg 32))))] H := hP
  have hD : va_D A [(h0, .inr (8, fs103)), (q101, .inl (cA 0, 700, .inl f102)), (q104, .inl (cA 0, 153, .inl ((upd f152 (47 : Int32).toNatClampNeg 32))))] := hD
  generalize (upd f152 (47 : Int32).toNatClampNeg 32) = f153 at hP hD
  refine lv_dup hx hb dX8_init_301 rfl ?_
  refine lv_bipush (v := 48) hx hb dX8_init_302 (by decide) ?_
  refine lv_bipush (v := 115) hx hb dX8_init_304 (by decide) ?_
  refine va_iast (i := 48) hx hb hK hP hD hS 2 0 rfl rfl (tq_in (by decide)) dX8_init_306 (fun H locs hP hD hS => ?_)
  have hP : va_P G vwCl [(h0, .inr (8, fs103)), (q101, .inl (cA 0, 700, .inl f102)), (q104, .inl (cA 0, 153, .inl ((upd f153 (48 : Int32).toNatClampNeg 115))))] H := hP
  have hD : va_D A [(h0, .inr (8, fs103)), (q101, .inl (cA 0, 700, .inl f102)), (q104, .inl (cA 0, 153, .inl ((upd f153 (48 : Int32).toNatClampNeg 115))))] := hD
  generalize (upd f153 (48 : Int32).toNatClampNeg 115) = f154 at hP hD
  refine lv_dup hx hb dX8_init_307 rfl ?_
  refine lv_bipush (v := 49) hx hb dX8_init_308 (by decide) ?_
  refine lv_bipush (v := 104) hx hb dX8_init_310 (by decide) ?_
  refine va_iast (i := 49) hx hb hK hP hD hS 2 0 rfl rfl (tq_in (by decide)) dX8_init_312 (fun H locs hP hD hS => ?_)
  have hP : va_P G vwCl [(h0, .inr (8, fs103)), (q101, .inl (cA 0, 700, .inl f102)), (q104, .inl (cA 0, 153, .inl ((upd f154 (49 : Int32).toNatClampNeg 104))))] H := hP
  have hD : va_D A [(h0, .inr (8, fs103)), (q101, .inl (cA 0, 700, .inl f102)), (q104, .inl (cA 0, 153, .inl ((upd f154 (49 : Int32).toNatClampNeg 104))))] := hD
  generalize (upd f154 (49 : Int32).toNatClampNeg 104) = f155 at hP hD
  refine lv_dup hx hb dX8_init_313 rfl ?_
  refine lv_bipush (v := 50) hx hb dX8_init_314 (by decide) ?_
  refine lv_bipush (v := 101) hx hb dX8_init_316 (by decide) ?_
  refine va_iast (i := 50) hx hb hK hP hD hS 2 0 rfl rfl (tq_in (by decide)) dX8_init_318 (fun H locs hP hD hS => ?_)
  have hP : va_P G vwCl [(h0, .inr (8, fs103)), (q101, .inl (cA 0, 700, .inl f102)), (q104, .inl (cA 0, 153, .inl ((upd f155 (50 : Int32).toNatClampNeg 101))))] H := hP
  have hD : va_D A [(h0, .inr (8, fs103)), (q101, .inl (cA 0, 700, .inl f102)), (q104, .inl (cA 0, 153, .inl ((upd f155 (50 : Int32).toNatClampNeg 101))))] := hD
  generalize (upd f155 (50 : Int32).toNatClampNeg 101) = f156 at hP hD
  refine lv_dup hx hb dX8_init_319 rfl ?_
  refine lv_bipush (v := 51) hx hb dX8_init_320 (by decide) ?_
  refine lv_bipush (v := 108) hx hb dX8_init_322 (by decide) ?_
  refine va_iast (i := 51) hx hb hK hP hD hS 2 0 rfl rfl (tq_in (by decide)) dX8_init_324 (fun H locs hP hD hS => ?_)
  have hP : va_P G vwCl [(h0, .inr (8, fs103)), (q101, .inl (cA 0, 700, .inl f102)), (q104, .inl (cA 0, 153, .inl ((upd f156 (51 : Int32).toNatClampNeg 108))))] H := hP
  have hD : va_D A [(h0, .inr (8, fs103)), (q101, .inl (cA 0, 700, .inl f102)), (q104, .inl (cA 0, 153, .inl ((upd f156 (51 : Int32).toNatClampNeg 108))))] := hD
  generalize (upd f156 (51 : Int32).toNatClampNeg 108) = f157 at hP hD
  refine lv_dup hx hb dX8_init_325 rfl ?_
  refine lv_bipush (v := 52) hx hb dX8_init_326 (by decide) ?_
  refine lv_bipush (v := 102) hx hb dX8_init_328 (by decide) ?_
  refine va_iast (i := 52) hx hb hK hP hD hS 2 0 rfl rfl (tq_in (by decide)) dX8_init_330 (fun H locs hP hD hS => ?_)
  have hP : va_P G vwCl [(h0, .inr (8, fs103)), (q101, .inl (cA 0, 700, .inl f102)), (q104, .inl (cA 0, 153, .inl ((upd f157 (52 : Int32).toNatClampNeg 102))))] H := hP
  have hD : va_D A [(h0, .inr (8, fs103)), (q101, .inl (cA 0, 700, .inl f102)), (q104, .inl (cA 0, 153, .inl ((upd f157 (52 : Int32).toNatClampNeg 102))))] := hD
  generalize (upd f157 (52 : Int32).toNatClampNeg 102) = f158 at hP hD
  refine lv_dup hx hb dX8_init_331 rfl ?_
  refine lv_bipush (v := 53) hx hb dX8_init_332 (by decide) ?_
  refine lv_bipush (v := 32) hx hb dX8_init_334 (by decide) ?_
  refine va_iast (i := 53) hx hb hK hP hD hS 2 0 rfl rfl (tq_in (by decide)) dX8_init_336 (fun H locs hP hD hS => ?_)
  have hP : va_P G vwCl [(h0, .inr (8, fs103)), (q101, .inl (cA 0, 700, .inl f102)), (q104, .inl (cA 0, 153, .inl ((upd f158 (53 : Int32).toNatClampNeg 32))))] H := hP
  have hD : va_D A [(h0, .inr (8, fs103)), (q101, .inl (cA 0, 700, .inl f102)), (q104, .inl (cA 0, 153, .inl ((upd f158 (53 : Int32).toNatClampNeg 32))))] := hD
  generalize (upd f158 (53 : Int32).toNatClampNeg 32) = f159 at hP hD
  refine lv_dup hx hb dX8_init_337 rfl ?_
  refine lv_bipush (v := 54) hx hb dX8_init_338 (by decide) ?_
  refine lv_bipush (v := 102) hx hb dX8_init_340 (by decide) ?_
  refine va_iast (i := 54) hx hb hK hP hD hS 2 0 rfl rfl (tq_in (by decide)) dX8_init_342 (fun H locs hP hD hS => ?_)
  have hP : va_P G vwCl [(h0, .inr (8, fs103)), (q101, .inl (cA 0, 700, .inl f102)), (q104, .inl (cA 0, 153, .inl ((upd f159 (54 : Int32).toNatClampNeg 102))))] H := hP
  have hD : va_D A [(h0, .inr (8, fs103)), (q101, .inl (cA 0, 700, .inl f102)), (q104, .inl (cA 0, 153, .inl ((upd f159 (54 : Int32).toNatClampNeg 102))))] := hD
  generalize (upd f159 (54 : Int32).toNatClampNeg 102) = f160 at hP hD
  refine lv_dup hx hb dX8_init_343 rfl ?_
  refine lv_bipush (v := 55) hx hb dX8_init_344 (by decide) ?_
  refine lv_bipush (v := 108) hx hb dX8_init_346 (by decide) ?_
  refine va_iast (i := 55) hx hb hK hP hD hS 2 0 rfl rfl (tq_in (by decide)) dX8_init_348 (fun H locs hP hD hS => ?_)
  have hP : va_P G vwCl [(h0, .inr (8, fs103)), (q101, .inl (cA 0, 700, .inl f102)), (q104, .inl (cA 0, 153, .inl ((upd f160 (55 : Int32).toNatClampNeg 108))))] H := hP
  have hD : va_D A [(h0, .inr (8, fs103)), (q101, .inl (cA 0, 700, .inl f102)), (q104, .inl (cA 0, 153, .inl ((upd f160 (55 : Int32).toNatClampNeg 108))))] := hD
  generalize (upd f160 (55 : Int32).toNatClampNeg 108) = f161 at hP hD
  refine lv_dup hx hb dX8_init_349 rfl ?_
  refine lv_bipush (v := 56) hx hb dX8_init_350 (by decide) ?_
  refine lv_bipush (v := 111) hx hb dX8_init_352 (by decide) ?_
  refine va_iast (i := 56) hx hb hK hP hD hS 2 0 rfl rfl (tq_in (by decide)) dX8_init_354 (fun H locs hP hD hS => ?_)
  have hP : va_P G vwCl [(h0, .inr (8, fs103)), (q101, .inl (cA 0, 700, .inl f102)), (q104, .inl (cA 0, 153, .inl ((upd f161 (56 : Int32).toNatClampNeg 111))))] H := hP
  have hD : va_D A [(h0, .inr (8, fs103)), (q101, .inl (cA 0, 700, .inl f102)), (q104, .inl (cA 0, 153, .inl ((upd f161 (56 : Int32).toNatClampNeg 111))))] := hD
  generalize (upd f161 (56 : Int32).toNatClampNeg 111) = f162 at hP hD
  refine lv_dup hx hb dX8_init_355 rfl ?_
  refine lv_bipush (v := 57) hx hb dX8_init_356 (by decide) ?_
  refine lv_bipush (v := 111) hx hb dX8_init_358 (by decide) ?_
  refine va_iast (i := 57) hx hb hK hP hD hS 2 0 rfl rfl (tq_in (by decide)) dX8_init_360 (fun H locs hP hD hS => ?_)
  have hP : va_P G vwCl [(h0, .inr (8, fs103)), (q101, .inl (cA 0, 700, .inl f102)), (q104, .inl (cA 0, 153, .inl ((upd f162 (57 : Int32).toNatClampNeg 111))))] H := hP
  have hD : va_D A [(h0, .inr (8, fs103)), (q101, .inl (cA 0, 700, .inl f102)), (q104, .inl (cA 0, 153, .inl ((upd f162 (57 : Int32).toNatClampNeg 111))))] := hD
  generalize (upd f162 (57 : Int32).toNatClampNeg 111) = f163 at hP hD
  refine lv_dup hx hb dX8_init_361 rfl ?_
  refine lv_bipush (v := 58) hx hb dX8_init_362 (by decide) ?_
  refine lv_bipush (v := 114) hx hb dX8_init_364 (by decide) ?_
  refine va_iast (i := 58) hx hb hK hP hD hS 2 0 rfl rfl (tq_in (by decide)) dX8_init_366 (fun H locs hP hD hS => ?_)
  have hP : va_P G vwCl [(h0, .inr (8, fs103)), (q101, .inl (cA 0, 700, .inl f102)), (q104, .inl (cA 0, 153, .inl ((upd f163 (58 : Int32).toNatClampNeg 114))))] H := hP
  have hD : va_D A [(h0, .inr (8, fs103)), (q101, .inl (cA 0, 700, .inl f102)), (q104, .inl (cA 0, 153, .inl ((upd f163 (58 : Int32).toNatClampNeg 114))))] := hD
  generalize (upd f163 (58 : Int32).toNatClampNeg 114) = f164 at hP hD
  refine lv_dup hx hb dX8_init_367 rfl ?_
  refine lv_bipush (v := 59) hx hb dX8_init_368 (by decide) ?_
  refine lv_bipush (v := 32) hx hb dX8_init_370 (by decide) ?_
  refine va_iast (i := 59) hx hb hK hP hD hS 2 0 rfl rfl (tq_in (by decide)) dX8_init_372 (fun H locs hP hD hS => ?_)
  have hP : va_P G vwCl [(h0, .inr (8, fs103)), (q101, .inl (cA 0, 700, .inl f102)), (q104, .inl (cA 0, 153, .inl ((upd f164 (59 : Int32).toNatClampNeg 32))))] H := hP
  have hD : va_D A [(h0, .inr (8, fs103)), (q101, .inl (cA 0, 700, .inl f102)), (q104, .inl (cA 0, 153, .inl ((upd f164 (59 : Int32).toNatClampNeg 32))))] := hD
  generalize (upd f164 (59 : Int32).toNatClampNeg 32) = f165 at hP hD
  refine lv_dup hx hb dX8_init_373 rfl ?_
  refine lv_bipush (v := 60) hx hb dX8_init_374 (by decide) ?_
  refine lv_bipush (v := 115) hx hb dX8_init_376 (by decide) ?_
  refine va_iast (i := 60) hx hb hK hP hD hS 2 0 rfl rfl (tq_in (by decide)) dX8_init_378 (fun H locs hP hD hS => ?_)
  have hP : va_P G vwCl [(h0, .inr (8, fs103)), (q101, .inl (cA 0, 700, .inl f102)), (q104, .inl (cA 0, 153, .inl ((upd f165 (60 : Int32).toNatClampNeg 115))))] H := hP
  have hD : va_D A [(h0, .inr (8, fs103)), (q101, .inl (cA 0, 700, .inl f102)), (q104, .inl (cA 0, 153, .inl ((upd f165 (60 : Int32).toNatClampNeg 115))))] := hD
  generalize (upd f165 (60 : Int32).toNatClampNeg 115) = f166 at hP hD
  refine lv_dup hx hb dX8_init_379 rfl ?_
  refine lv_bipush (v := 61) hx hb dX8_init_380 (by decide) ?_
  refine lv_bipush (v := 101) hx hb dX8_init_382 (by decide) ?_
  refine va_iast (i := 61) hx hb hK hP hD hS 2 0 rfl rfl (tq_in (by decide)) dX8_init_384 (fun H locs hP hD hS => ?_)
  have hP : va_P G vwCl [(h0, .inr (8, fs103)), (q101, .inl (cA 0, 700, .inl f102)), (q104, .inl (cA 0, 153, .inl ((upd f166 (61 : Int32).toNatClampNeg 101))))] H := hP
  have hD : va_D A [(h0, .inr (8, fs103)), (q101, .inl (cA 0, 700, .inl f102)), (q104, .inl (cA 0, 153, .inl ((upd f166 (61 : Int32).toNatClampNeg 101))))] := hD
  generalize (upd f166 (61 : Int32).toNatClampNeg 101) = f167 at hP hD
  refine lv_dup hx hb dX8_init_385 rfl ?_
  refine lv_bipush (v := 62) hx hb dX8_init_386 (by decide) ?_
  refine lv_bipush (v := 97) hx hb dX8_init_388 (by decide) ?_
  refine va_iast (i := 62) hx hb hK hP hD hS 2 0 rfl rfl (tq_in (by decide)) dX8_init_390 (fun H locs hP hD hS => ?_)
  have hP : va_P G vwCl [(h0, .inr (8, fs103)), (q101, .inl (cA 0, 700, .inl f102)), (q104, .inl (cA 0, 153, .inl ((upd f167 (62 : Int32).toNatClampNeg 97))))] H := hP
  have hD : va_D A [(h0, .inr (8, fs103)), (q101, .inl (cA 0, 700, .inl f102)), (q104, .inl (cA 0, 153, .inl ((upd f167 (62 : Int32).toNatClampNeg 97))))] := hD
  generalize (upd f167 (62 : Int32).toNatClampNeg 97) = f168 at hP hD
  refine lv_dup hx hb dX8_init_391 rfl ?_
  refine lv_bipush (v := 63) hx hb dX8_init_392 (by decide) ?_
  refine lv_bipush (v := 116) hx hb dX8_init_394 (by decide) ?_
  refine va_iast (i := 63) hx hb hK hP hD hS 2 0 rfl rfl (tq_in (by decide)) dX8_init_396 (fun H locs hP hD hS => ?_)
  have hP : va_P G vwCl [(h0, .inr (8, fs103)), (q101, .inl (cA 0, 700, .inl f102)), (q104, .inl (cA 0, 153, .inl ((upd f168 (63 : Int32).toNatClampNeg 116))))] H := hP
  have hD : va_D A [(h0, .inr (8, fs103)), (q101, .inl (cA 0, 700, .inl f102)), (q104, .inl (cA 0, 153, .inl ((upd f168 (63 : Int32).toNatClampNeg 116))))] := hD
  generalize (upd f168 (63 : Int32).toNatClampNeg 116) = f169 at hP hD
  refine lv_dup hx hb dX8_init_397 rfl ?_
  refine lv_bipush (v := 64) hx hb dX8_init_398 (by decide) ?_
  refine lv_bipush (v := 32) hx hb dX8_init_400 (by decide) ?_
  refine va_iast (i := 64) hx hb hK hP hD hS 2 0 rfl rfl (tq_in (by decide)) dX8_init_402 (fun H locs hP hD hS => ?_)
  have hP : va_P G vwCl [(h0, .inr (8, fs103)), (q101, .inl (cA 0, 700, .inl f102)), (q104, .inl (cA 0, 153, .inl ((upd f169 (64 : Int32).toNatClampNeg 32))))] H := hP
  have hD : va_D A [(h0, .inr (8, fs103)), (q101, .inl (cA 0, 700, .inl f102)), (q104, .inl (cA 0, 153, .inl ((upd f169 (64 : Int32).toNatClampNeg 32))))] := hD
  generalize (upd f169 (64 : Int32).toNatClampNeg 32) = f170 at hP hD
  refine lv_dup hx hb dX8_init_403 rfl ?_
  refine lv_bipush (v := 65) hx hb dX8_init_404 (by decide) ?_
  refine lv_bipush (v := 104) hx hb dX8_init_406 (by decide) ?_
  refine va_iast (i := 65) hx hb hK hP hD hS 2 0 rfl rfl (tq_in (by decide)) dX8_init_408 (fun H locs hP hD hS => ?_)
  have hP : va_P G vwCl [(h0, .inr (8, fs103)), (q101, .inl (cA 0, 700, .inl f102)), (q104, .inl (cA 0, 153, .inl ((upd f170 (65 : Int32).toNatClampNeg 104))))] H := hP
  have hD : va_D A [(h0, .inr (8, fs103)), (q101, .inl (cA 0, 700, .inl f102)), (q104, .inl (cA 0, 153, .inl ((upd f170 (65 : Int32).toNatClampNeg 104))))] := hD
  generalize (upd f170 (65 : Int32).toNatClampNeg 104) = f171 at hP hD
  refine lv_dup hx hb dX8_init_409 rfl ?_
  refine lv_bipush (v := 66) hx hb dX8_init_410 (by decide) ?_
  refine lv_bipush (v := 97) hx hb dX8_init_412 (by decide) ?_
  refine va_iast (i := 66) hx hb hK hP hD hS 2 0 rfl rfl (tq_in (by decide)) dX8_init_414 (fun H locs hP hD hS => ?_)
  have hP : va_P G vwCl [(h0, .inr (8, fs103)), (q101, .inl (cA 0, 700, .inl f102)), (q104, .inl (cA 0, 153, .inl ((upd f171 (66 : Int32).toNatClampNeg 97))))] H := hP
  have hD : va_D A [(h0, .inr (8, fs103)), (q101, .inl (cA 0, 700, .inl f102)), (q104, .inl (cA 0, 153, .inl ((upd f171 (66 : Int32).toNatClampNeg 97))))] := hD
  generalize (upd f171 (66 : Int32).toNatClampNeg 97) = f172 at hP hD
  refine lv_dup hx hb dX8_init_415 rfl ?_
  refine lv_bipush (v := 67) hx hb dX8_init_416 (by decide) ?_
  refine lv_bipush (v := 108) hx hb dX8_init_418 (by decide) ?_
  refine va_iast (i := 67) hx hb hK hP hD hS 2 0 rfl rfl (tq_in (by decide)) dX8_init_420 (fun H locs hP hD hS => ?_)
  have hP : va_P G vwCl [(h0, .inr (8, fs103)), (q101, .inl (cA 0, 700, .inl f102)), (q104, .inl (cA 0, 153, .inl ((upd f172 (67 : Int32).toNatClampNeg 108))))] H := hP
  have hD : va_D A [(h0, .inr (8, fs103)), (q101, .inl (cA 0, 700, .inl f102)), (q104, .inl (cA 0, 153, .inl ((upd f172 (67 : Int32).toNatClampNeg 108))))] := hD
  generalize (upd f172 (67 : Int32).toNatClampNeg 108) = f173 at hP hD
  refine lv_dup hx hb dX8_init_421 rfl ?_
  refine lv_bipush (v := 68) hx hb dX8_init_422 (by decide) ?_
  refine lv_bipush (v := 108) hx hb dX8_init_424 (by decide) ?_
  refine va_iast (i := 68) hx hb hK hP hD hS 2 0 rfl rfl (tq_in (by decide)) dX8_init_426 (fun H locs hP hD hS => ?_)
  have hP : va_P G vwCl [(h0, .inr (8, fs103)), (q101, .inl (cA 0, 700, .inl f102)), (q104, .inl (cA 0, 153, .inl ((upd f173 (68 : Int32).toNatClampNeg 108))))] H := hP
  have hD : va_D A [(h0, .inr (8, fs103)), (q101, .inl (cA 0, 700, .inl f102)), (q104, .inl (cA 0, 153, .inl ((upd f173 (68 : Int32).toNatClampNeg 108))))] := hD
  generalize (upd f173 (68 : Int32).toNatClampNeg 108) = f174 at hP hD
  refine lv_dup hx hb dX8_init_427 rfl ?_
  refine lv_bipush (v := 69) hx hb dX8_init_428 (by decide) ?_
  refine lv_bipush (v := 32) hx hb dX8_init_430 (by decide) ?_
  refine va_iast (i := 69) hx hb hK hP hD hS 2 0 rfl rfl (tq_in (by decide)) dX8_init_432 (fun H locs hP hD hS => ?_)
  have hP : va_P G vwCl [(h0, .inr (8, fs103)), (q101, .inl (cA 0, 700, .inl f102)), (q104, .inl (cA 0, 153, .inl ((upd f174 (69 : Int32).toNatClampNeg 32))))] H := hP
  have hD : va_D A [(h0, .inr (8, fs103)), (q101, .inl (cA 0, 700, .inl f102)), (q104, .inl (cA 0, 153, .inl ((upd f174 (69 : Int32).toNatClampNeg 32))))] := hD
  generalize (upd f174 (69 : Int32).toNatClampNeg 32) = f175 at hP hD
  refine lv_dup hx hb dX8_init_433 rfl ?_
  refine lv_bipush (v := 70) hx hb dX8_init_434 (by decide) ?_
  refine lv_bipush (v := 102) hx hb dX8_init_436 (by decide) ?_
  refine va_iast (i := 70) hx hb hK hP hD hS 2 0 rfl rfl (tq_in (by decide)) dX8_init_438 (fun H locs hP hD hS => ?_)
  have hP : va_P G vwCl [(h0, .inr (8, fs103)), (q101, .inl (cA 0, 700, .inl f102)), (q104, .inl (cA 0, 153, .inl ((upd f175 (70 : Int32).toNatClampNeg 102))))] H := hP
  have hD : va_D A [(h0, .inr (8, fs103)), (q101, .inl (cA 0, 700, .inl f102)), (q104, .inl (cA 0, 153, .inl ((upd f175 (70 : Int32).toNatClampNeg 102))))] := hD
  generalize (upd f175 (70 : Int32).toNatClampNeg 102) = f176 at hP hD
  refine lv_dup hx hb dX8_init_439 rfl ?_
  refine lv_bipush (v := 71) hx hb dX8_init_440 (by decide) ?_
  refine lv_bipush (v := 105) hx hb dX8_init_442 (by decide) ?_
  refine va_iast (i := 71) hx hb hK hP hD hS 2 0 rfl rfl (tq_in (by decide)) dX8_init_444 (fun H locs hP hD hS => ?_)
  have hP : va_P G vwCl [(h0, .inr (8, fs103)), (q101, .inl (cA 0, 700, .inl f102)), (q104, .inl (cA 0, 153, .inl ((upd f176 (71 : Int32).toNatClampNeg 105))))] H := hP
  have hD : va_D A [(h0, .inr (8, fs103)), (q101, .inl (cA 0, 700, .inl f102)), (q104, .inl (cA 0, 153, .inl ((upd f176 (71 : Int32).toNatClampNeg 105))))] := hD
  generalize (upd f176 (71 : Int32).toNatClampNeg 105) = f177 at hP hD
  refine lv_dup hx hb dX8_init_445 rfl ?_
  refine lv_bipush (v := 72) hx hb dX8_init_446 (by decide) ?_
  refine lv_bipush (v := 114) hx hb dX8_init_448 (by decide) ?_
  refine va_iast (i := 72) hx hb hK hP hD hS 2 0 rfl rfl (tq_in (by decide)) dX8_init_450 (fun H locs hP hD hS => ?_)
  have hP : va_P G vwCl [(h0, .inr (8, fs103)), (q101, .inl (cA 0, 700, .inl f102)), (q104, .inl (cA 0, 153, .inl ((upd f177 (72 : Int32).toNatClampNeg 114))))] H := hP
  have hD : va_D A [(h0, .inr (8, fs103)), (q101, .inl (cA 0, 700, .inl f102)), (q104, .inl (cA 0, 153, .inl ((upd f177 (72 : Int32).toNatClampNeg 114))))] := hD
  generalize (upd f177 (72 : Int32).toNatClampNeg 114) = f178 at hP hD
  refine lv_dup hx hb dX8_init_451 rfl ?_
  refine lv_bipush (v := 73) hx hb dX8_init_452 (by decide) ?_
  refine lv_bipush (v := 115) hx hb dX8_init_454 (by decide) ?_
  refine va_iast (i := 73) hx hb hK hP hD hS 2 0 rfl rfl (tq_in (by decide)) dX8_init_456 (fun H locs hP hD hS => ?_)
  have hP : va_P G vwCl [(h0, .inr (8, fs103)), (q101, .inl (cA 0, 700, .inl f102)), (q104, .inl (cA 0, 153, .inl ((upd f178 (73 : Int32).toNatClampNeg 115))))] H := hP
  have hD : va_D A [(h0, .inr (8, fs103)), (q101, .inl (cA 0, 700, .inl f102)), (q104, .inl (cA 0, 153, .inl ((upd f178 (73 : Int32).toNatClampNeg 115))))] := hD
  generalize (upd f178 (73 : Int32).toNatClampNeg 115) = f179 at hP hD
  refine lv_dup hx hb dX8_init_457 rfl ?_
  refine lv_bipush (v := 74) hx hb dX8_init_458 (by decide) ?_
  refine lv_bipush (v := 116) hx hb dX8_init_460 (by decide) ?_
  refine va_iast (i := 74) hx hb hK hP hD hS 2 0 rfl rfl (tq_in (by decide)) dX8_init_462 (fun H locs hP hD hS => ?_)
  have hP : va_P G vwCl [(h0, .inr (8, fs103)), (q101, .inl (cA 0, 700, .inl f102)), (q104, .inl (cA 0, 153, .inl ((upd f179 (74 : Int32).toNatClampNeg 116))))] H := hP
  have hD : va_D A [(h0, .inr (8, fs103)), (q101, .inl (cA 0, 700, .inl f102)), (q104, .inl (cA 0, 153, .inl ((upd f179 (74 : Int32).toNatClampNeg 116))))] := hD
  generalize (upd f179 (74 : Int32).toNatClampNeg 116) = f180 at hP hD
  refine lv_dup hx hb dX8_init_463 rfl ?_
  refine lv_bipush (v := 75) hx hb dX8_init_464 (by decide) ?_
  refine lv_bipush (v := 32) hx hb dX8_init_466 (by decide) ?_
  refine va_iast (i := 75) hx hb hK hP hD hS 2 0 rfl rfl (tq_in (by decide)) dX8_init_468 (fun H locs hP hD hS => ?_)
  have hP : va_P G vwCl [(h0, .inr (8, fs103)), (q101, .inl (cA 0, 700, .inl f102)), (q104, .inl (cA 0, 153, .inl ((upd f180 (75 : Int32).toNatClampNeg 32))))] H := hP
  have hD : va_D A [(h0, .inr (8, fs103)), (q101, .inl (cA 0, 700, .inl f102)), (q104, .inl (cA 0, 153, .inl ((upd f180 (75 : Int32).toNatClampNeg 32))))] := hD
  generalize (upd f180 (75 : Int32).toNatClampNeg 32) = f181 at hP hD
  refine lv_dup hx hb dX8_init_469 rfl ?_
  refine lv_bipush (v := 76) hx hb dX8_init_470 (by decide) ?_
  refine lv_bipush (v := 108) hx hb dX8_init_472 (by decide) ?_
  refine va_iast (i := 76) hx hb hK hP hD hS 2 0 rfl rfl (tq_in (by decide)) dX8_init_474 (fun H locs hP hD hS => ?_)
  have hP : va_P G vwCl [(h0, .inr (8, fs103)), (q101, .inl (cA 0, 700, .inl f102)), (q104, .inl (cA 0, 153, .inl ((upd f181 (76 : Int32).toNatClampNeg 108))))] H := hP
  have hD : va_D A [(h0, .inr (8, fs103)), (q101, .inl (cA 0, 700, .inl f102)), (q104, .inl (cA 0, 153, .inl ((upd f181 (76 : Int32).toNatClampNeg 108))))] := hD
  generalize (upd f181 (76 : Int32).toNatClampNeg 108) = f182 at hP hD
  refine lv_dup hx hb dX8_init_475 rfl ?_
  refine lv_bipush (v := 77) hx hb dX8_init_476 (by decide) ?_
  refine lv_bipush (v := 105) hx hb dX8_init_478 (by decide) ?_
  refine va_iast (i := 77) hx hb hK hP hD hS 2 0 rfl rfl (tq_in (by decide)) dX8_init_480 (fun H locs hP hD hS => ?_)
  have hP : va_P G vwCl [(h0, .inr (8, fs103)), (q101, .inl (cA 0, 700, .inl f102)), (q104, .inl (cA 0, 153, .inl ((upd f182 (77 : Int32).toNatClampNeg 105))))] H := hP
  have hD : va_D A [(h0, .inr (8, fs103)), (q101, .inl (cA 0, 700, .inl f102)), (q104, .inl (cA 0, 153, .inl ((upd f182 (77 : Int32).toNatClampNeg 105))))] := hD
  generalize (upd f182 (77 : Int32).toNatClampNeg 105) = f183 at hP hD
  refine lv_dup hx hb dX8_init_481 rfl ?_
  refine lv_bipush (v := 78) hx hb dX8_init_482 (by decide) ?_
  refine lv_bipush (v := 103) hx hb dX8_init_484 (by decide) ?_
  refine va_iast (i := 78) hx hb hK hP hD hS 2 0 rfl rfl (tq_in (by decide)) dX8_init_486 (fun H locs hP hD hS => ?_)
  have hP : va_P G vwCl [(h0, .inr (8, fs103)), (q101, .inl (cA 0, 700, .inl f102)), (q104, .inl (cA 0, 153, .inl ((upd f183 (78 : Int32).toNatClampNeg 103))))] H := hP
  have hD : va_D A [(h0, .inr (8, fs103)), (q101, .inl (cA 0, 700, .inl f102)), (q104, .inl (cA 0, 153, .inl ((upd f183 (78 : Int32).toNatClampNeg 103))))] := hD
  generalize (upd f183 (78 : Int32).toNatClampNeg 103) = f184 at hP hD
  refine lv_dup hx hb dX8_init_487 rfl ?_
  refine lv_bipush (v := 79) hx hb dX8_init_488 (by decide) ?_
  refine lv_bipush (v := 104) hx hb dX8_init_490 (by decide) ?_
  refine va_iast (i := 79) hx hb hK hP hD hS 2 0 rfl rfl (tq_in (by decide)) dX8_init_492 (fun H locs hP hD hS => ?_)
  have hP : va_P G vwCl [(h0, .inr (8, fs103)), (q101, .inl (cA 0, 700, .inl f102)), (q104, .inl (cA 0, 153, .inl ((upd f184 (79 : Int32).toNatClampNeg 104))))] H := hP
  have hD : va_D A [(h0, .inr (8, fs103)), (q101, .inl (cA 0, 700, .inl f102)), (q104, .inl (cA 0, 153, .inl ((upd f184 (79 : Int32).toNatClampNeg 104))))] := hD
  generalize (upd f184 (79 : Int32).toNatClampNeg 104) = f185 at hP hD
  refine lv_dup hx hb dX8_init_493 rfl ?_
  refine lv_bipush (v := 80) hx hb dX8_init_494 (by decide) ?_
  refine lv_bipush (v := 116) hx hb dX8_init_496 (by decide) ?_
  refine va_iast (i := 80) hx hb hK hP hD hS 2 0 rfl rfl (tq_in (by decide)) dX8_init_498 (fun H locs hP hD hS => ?_)
  have hP : va_P G vwCl [(h0, .inr (8, fs103)), (q101, .inl (cA 0, 700, .inl f102)), (q104, .inl (cA 0, 153, .inl ((upd f185 (80 : Int32).toNatClampNeg 116))))] H := hP
  have hD : va_D A [(h0, .inr (8, fs103)), (q101, .inl (cA 0, 700, .inl f102)), (q104, .inl (cA 0, 153, .inl ((upd f185 (80 : Int32).toNatClampNeg 116))))] := hD
  generalize (upd f185 (80 : Int32).toNatClampNeg 116) = f186 at hP hD
  refine lv_dup hx hb dX8_init_499 rfl ?_
  refine lv_bipush (v := 81) hx hb dX8_init_500 (by decide) ?_
  refine lv_bipush (v := 32) hx hb dX8_init_502 (by decide) ?_
  refine va_iast (i := 81) hx hb hK hP hD hS 2 0 rfl rfl (tq_in (by decide)) dX8_init_504 (fun H locs hP hD hS => ?_)
  have hP : va_P G vwCl [(h0, .inr (8, fs103)), (q101, .inl (cA 0, 700, .inl f102)), (q104, .inl (cA 0, 153, .inl ((upd f186 (81 : Int32).toNatClampNeg 32))))] H := hP
  have hD : va_D A [(h0, .inr (8, fs103)), (q101, .inl (cA 0, 700, .inl f102)), (q104, .inl (cA 0, 153, .inl ((upd f186 (81 : Int32).toNatClampNeg 32))))] := hD
  generalize (upd f186 (81 : Int32).toNatClampNeg 32) = f187 at hP hD
  refine lv_dup hx hb dX8_init_505 rfl ?_
  refine lv_bipush (v := 82) hx hb dX8_init_506 (by decide) ?_
  refine lv_bipush (v := 108) hx hb dX8_init_508 (by decide) ?_
  refine va_iast (i := 82) hx hb hK hP hD hS 2 0 rfl rfl (tq_in (by decide)) dX8_init_510 (fun H locs hP hD hS => ?_)
  have hP : va_P G vwCl [(h0, .inr (8, fs103)), (q101, .inl (cA 0, 700, .inl f102)), (q104, .inl (cA 0, 153, .inl ((upd f187 (82 : Int32).toNatClampNeg 108))))] H := hP
  have hD : va_D A [(h0, .inr (8, fs103)), (q101, .inl (cA 0, 700, .inl f102)), (q104, .inl (cA 0, 153, .inl ((upd f187 (82 : Int32).toNatClampNeg 108))))] := hD
  generalize (upd f187 (82 : Int32).toNatClampNeg 108) = f188 at hP hD
  refine lv_dup hx hb dX8_init_511 rfl ?_
  refine lv_bipush (v := 83) hx hb dX8_init_512 (by decide) ?_
  refine lv_bipush (v := 97) hx hb dX8_init_514 (by decide) ?_
  refine va_iast (i := 83) hx hb hK hP hD hS 2 0 rfl rfl (tq_in (by decide)) dX8_init_516 (fun H locs hP hD hS => ?_)
  have hP : va_P G vwCl [(h0, .inr (8, fs103)), (q101, .inl (cA 0, 700, .inl f102)), (q104, .inl (cA 0, 153, .inl ((upd f188 (83 : Int32).toNatClampNeg 97))))] H := hP
  have hD : va_D A [(h0, .inr (8, fs103)), (q101, .inl (cA 0, 700, .inl f102)), (q104, .inl (cA 0, 153, .inl ((upd f188 (83 : Int32).toNatClampNeg 97))))] := hD
  generalize (upd f188 (83 : Int32).toNatClampNeg 97) = f189 at hP hD
  refine lv_dup hx hb dX8_init_517 rfl ?_
  refine lv_bipush (v := 84) hx hb dX8_init_518 (by decide) ?_
  refine lv_bipush (v := 115) hx hb dX8_init_520 (by decide) ?_
  refine va_iast (i := 84) hx hb hK hP hD hS 2 0 rfl rfl (tq_in (by decide)) dX8_init_522 (fun H locs hP hD hS => ?_)
  have hP : va_P G vwCl [(h0, .inr (8, fs103)), (q101, .inl (cA 0, 700, .inl f102)), (q104, .inl (cA 0, 153, .inl ((upd f189 (84 : Int32).toNatClampNeg 115))))] H := hP
  have hD : va_D A [(h0, .inr (8, fs103)), (q101, .inl (cA 0, 700, .inl f102)), (q104, .inl (cA 0, 153, .inl ((upd f189 (84 : Int32).toNatClampNeg 115))))] := hD
  generalize (upd f189 (84 : Int32).toNatClampNeg 115) = f190 at hP hD
  refine lv_dup hx hb dX8_init_523 rfl ?_
  refine lv_bipush (v := 85) hx hb dX8_init_524 (by decide) ?_
  refine lv_bipush (v := 116) hx hb dX8_init_526 (by decide) ?_
  refine va_iast (i := 85) hx hb hK hP hD hS 2 0 rfl rfl (tq_in (by decide)) dX8_init_528 (fun H locs hP hD hS => ?_)
  have hP : va_P G vwCl [(h0, .inr (8, fs103)), (q101, .inl (cA 0, 700, .inl f102)), (q104, .inl (cA 0, 153, .inl ((upd f190 (85 : Int32).toNatClampNeg 116))))] H := hP
  have hD : va_D A [(h0, .inr (8, fs103)), (q101, .inl (cA 0, 700, .inl f102)), (q104, .inl (cA 0, 153, .inl ((upd f190 (85 : Int32).toNatClampNeg 116))))] := hD
  generalize (upd f190 (85 : Int32).toNatClampNeg 116) = f191 at hP hD
  refine lv_dup hx hb dX8_init_529 rfl ?_
  refine lv_bipush (v := 86) hx hb dX8_init_530 (by decide) ?_
  refine lv_bipush (v := 32) hx hb dX8_init_532 (by decide) ?_
  refine va_iast (i := 86) hx hb hK hP hD hS 2 0 rfl rfl (tq_in (by decide)) dX8_init_534 (fun H locs hP hD hS => ?_)
  have hP : va_P G vwCl [(h0, .inr (8, fs103)), (q101, .inl (cA 0, 700, .inl f102)), (q104, .inl (cA 0, 153, .inl ((upd f191 (86 : Int32).toNatClampNeg 32))))] H := hP
  have hD : va_D A [(h0, .inr (8, fs103)), (q101, .inl (cA 0, 700, .inl f102)), (q104, .inl (cA 0, 153, .inl ((upd f191 (86 : Int32).toNatClampNeg 32))))] := hD
  generalize (upd f191 (86 : Int32).toNatClampNeg 32) = f192 at hP hD
  refine lv_dup hx hb dX8_init_535 rfl ?_
  refine lv_bipush (v := 87) hx hb dX8_init_536 (by decide) ?_
  refine lv_bipush (v := 108) hx hb dX8_init_538 (by decide) ?_
  refine va_iast (i := 87) hx hb hK hP hD hS 2 0 rfl rfl (tq_in (by decide)) dX8_init_540 (fun H locs hP hD hS => ?_)
  have hP : va_P G vwCl [(h0, .inr (8, fs103)), (q101, .inl (cA 0, 700, .inl f102)), (q104, .inl (cA 0, 153, .inl ((upd f192 (87 : Int32).toNatClampNeg 108))))] H := hP
  have hD : va_D A [(h0, .inr (8, fs103)), (q101, .inl (cA 0, 700, .inl f102)), (q104, .inl (cA 0, 153, .inl ((upd f192 (87 : Int32).toNatClampNeg 108))))] := hD
  generalize (upd f192 (87 : Int32).toNatClampNeg 108) = f193 at hP hD
  refine lv_dup hx hb dX8_init_541 rfl ?_
  refine lv_bipush (v := 88) hx hb dX8_init_542 (by decide) ?_
  refine lv_bipush (v := 105) hx hb dX8_init_544 (by decide) ?_
  refine va_iast (i := 88) hx hb hK hP hD hS 2 0 rfl rfl (tq_in (by decide)) dX8_init_546 (fun H locs hP hD hS => ?_)
  have hP : va_P G vwCl [(h0, .inr (8, fs103)), (q101, .inl (cA 0, 700, .inl f102)), (q104, .inl (cA 0, 153, .inl ((upd f193 (88 : Int32).toNatClampNeg 105))))] H := hP
  have hD : va_D A [(h0, .inr (8, fs103)), (q101, .inl (cA 0, 700, .inl f102)), (q104, .inl (cA 0, 153, .inl ((upd f193 (88 : Int32).toNatClampNeg 105))))] := hD
  generalize (upd f193 (88 : Int32).toNatClampNeg 105) = f194 at hP hD
  refine lv_dup hx hb dX8_init_547 rfl ?_
  refine lv_bipush (v := 89) hx hb dX8_init_548 (by decide) ?_
  refine lv_bipush (v := 102) hx hb dX8_init_550 (by decide) ?_
  refine va_iast (i := 89) hx hb hK hP hD hS 2 0 rfl rfl (tq_in (by decide)) dX8_init_552 (fun H locs hP hD hS => ?_)
  have hP : va_P G vwCl [(h0, .inr (8, fs103)), (q101, .inl (cA 0, 700, .inl f102)), (q104, .inl (cA 0, 153, .inl ((upd f194 (89 : Int32).toNatClampNeg 102))))] H := hP
  have hD : va_D A [(h0, .inr (8, fs103)), (q101, .inl (cA 0, 700, .inl f102)), (q104, .inl (cA 0, 153, .inl ((upd f194 (89 : Int32).toNatClampNeg 102))))] := hD
  generalize (upd f194 (89 : Int32).toNatClampNeg 102) = f195 at hP hD
  refine lv_dup hx hb dX8_init_553 rfl ?_
  refine lv_bipush (v := 90) hx hb dX8_init_554 (by decide) ?_
  refine lv_bipush (v := 116) hx hb dX8_init_556 (by decide) ?_
  refine va_iast (i := 90) hx hb hK hP hD hS 2 0 rfl rfl (tq_in (by decide)) dX8_init_558 (fun H locs hP hD hS => ?_)
  have hP : va_P G vwCl [(h0, .inr (8, fs103)), (q101, .inl (cA 0, 700, .inl f102)), (q104, .inl (cA 0, 153, .inl ((upd f195 (90 : Int32).toNatClampNeg 116))))] H := hP
  have hD : va_D A [(h0, .inr (8, fs103)), (q101, .inl (cA 0, 700, .inl f102)), (q104, .inl (cA 0, 153, .inl ((upd f195 (90 : Int32).toNatClampNeg 116))))] := hD
  generalize (upd f195 (90 : Int32).toNatClampNeg 116) = f196 at hP hD
  refine lv_dup hx hb dX8_init_559 rfl ?_
  refine lv_bipush (v := 91) hx hb dX8_init_560 (by decide) ?_
  refine lv_bipush (v := 32) hx hb dX8_init_562 (by decide) ?_
  refine va_iast (i := 91) hx hb hK hP hD hS 2 0 rfl rfl (tq_in (by decide)) dX8_init_564 (fun H locs hP hD hS => ?_)
  have hP : va_P G vwCl [(h0, .inr (8, fs103)), (q101, .inl (cA 0, 700, .inl f102)), (q104, .inl (cA 0, 153, .inl ((upd f196 (91 : Int32).toNatClampNeg 32))))] H := hP
  have hD : va_D A [(h0, .inr (8, fs103)), (q101, .inl (cA 0, 700, .inl f102)), (q104, .inl (cA 0, 153, .inl ((upd f196 (91 : Int32).toNatClampNeg 32))))] := hD
  generalize (upd f196 (91 : Int32).toNatClampNeg 32) = f197 at hP hD
  refine lv_dup hx hb dX8_init_565 rfl ?_
  refine lv_bipush (v := 92) hx hb dX8_init_566 (by decide) ?_
  refine lv_bipush (v := 102) hx hb dX8_init_568 (by decide) ?_
  refine va_iast (i := 92) hx hb hK hP hD hS 2 0 rfl rfl (tq_in (by decide)) dX8_init_570 (fun H locs hP hD hS => ?_)
  have hP : va_P G vwCl [(h0, .inr (8, fs103)), (q101, .inl (cA 0, 700, .inl f102)), (q104, .inl (cA 0, 153, .inl ((upd f197 (92 : Int32).toNatClampNeg 102))))] H := hP
  have hD : va_D A [(h0, .inr (8, fs103)), (q101, .inl (cA 0, 700, .inl f102)), (q104, .inl (cA 0, 153, .inl ((upd f197 (92 : Int32).toNatClampNeg 102))))] := hD
  generalize (upd f197 (92 : Int32).toNatClampNeg 102) = f198 at hP hD
  refine lv_dup hx hb dX8_init_571 rfl ?_
  refine lv_bipush (v := 93) hx hb dX8_init_572 (by decide) ?_
  refine lv_bipush (v := 97) hx hb dX8_init_574 (by decide) ?_
  refine va_iast (i := 93) hx hb hK hP hD hS 2 0 rfl rfl (tq_in (by decide)) dX8_init_576 (fun H locs hP hD hS => ?_)
  have hP : va_P G vwCl [(h0, .inr (8, fs103)), (q101, .inl (cA 0, 700, .inl f102)), (q104, .inl (cA 0, 153, .inl ((upd f198 (93 : Int32).toNatClampNeg 97))))] H := hP
  have hD : va_D A [(h0, .inr (8, fs103)), (q101, .inl (cA 0, 700, .inl f102)), (q104, .inl (cA 0, 153, .inl ((upd f198 (93 : Int32).toNatClampNeg 97))))] := hD
  generalize (upd f198 (93 : Int32).toNatClampNeg 97) = f199 at hP hD
  refine lv_dup hx hb dX8_init_577 rfl ?_
  refine lv_bipush (v := 94) hx hb dX8_init_578 (by decide) ?_
  refine lv_bipush (v := 108) hx hb dX8_init_580 (by decide) ?_
  refine va_iast (i := 94) hx hb hK hP hD hS 2 0 rfl rfl (tq_in (by decide)) dX8_init_582 (fun H locs hP hD hS => ?_)
  have hP : va_P G vwCl [(h0, .inr (8, fs103)), (q101, .inl (cA 0, 700, .inl f102)), (q104, .inl (cA 0, 153, .inl ((upd f199 (94 : Int32).toNatClampNeg 108))))] H := hP
  have hD : va_D A [(h0, .inr (8, fs103)), (q101, .inl (cA 0, 700, .inl f102)), (q104, .inl (cA 0, 153, .inl ((upd f199 (94 : Int32).toNatClampNeg 108))))] := hD
  generalize (upd f199 (94 : Int32).toNatClampNeg 108) = f200 at hP hD
  refine lv_dup hx hb dX8_init_583 rfl ?_
  refine lv_bipush (v := 95) hx hb dX8_init_584 (by decide) ?_
  refine lv_bipush (v := 108) hx hb dX8_init_586 (by decide) ?_
  refine va_iast (i := 95) hx hb hK hP hD hS 2 0 rfl rfl (tq_in (by decide)) dX8_init_588 (fun H locs hP hD hS => ?_)
  have hP : va_P G vwCl [(h0, .inr (8, fs103)), (q101, .inl (cA 0, 700, .inl f102)), (q104, .inl (cA 0, 153, .inl ((upd f200 (95 : Int32).toNatClampNeg 108))))] H := hP
  have hD : va_D A [(h0, .inr (8, fs103)), (q101, .inl (cA 0, 700, .inl f102)), (q104, .inl (cA 0, 153, .inl ((upd f200 (95 : Int32).toNatClampNeg 108))))] := hD
  generalize (upd f200 (95 : Int32).toNatClampNeg 108) = f201 at hP hD
  refine lv_dup hx hb dX8_init_589 rfl ?_
  refine lv_bipush (v := 96) hx hb dX8_init_590 (by decide) ?_
  refine lv_bipush (v := 32) hx hb dX8_init_592 (by decide) ?_
  refine va_iast (i := 96) hx hb hK hP hD hS 2 0 rfl rfl (tq_in (by decide)) dX8_init_594 (fun H locs hP hD hS => ?_)
  have hP : va_P G vwCl [(h0, .inr (8, fs103)), (q101, .inl (cA 0, 700, .inl f102)), (q104, .inl (cA 0, 153, .inl ((upd f201 (96 : Int32).toNatClampNeg 32))))] H := hP
  have hD : va_D A [(h0, .inr (8, fs103)), (q101, .inl (cA 0, 700, .inl f102)), (q104, .inl (cA 0, 153, .inl ((upd f201 (96 : Int32).toNatClampNeg 32))))] := hD
  generalize (upd f201 (96 : Int32).toNatClampNeg 32) = f202 at hP hD
  refine lv_dup hx hb dX8_init_595 rfl ?_
  refine lv_bipush (v := 97) hx hb dX8_init_596 (by decide) ?_
  refine lv_bipush (v := 115) hx hb dX8_init_598 (by decide) ?_
  refine va_iast (i := 97) hx hb hK hP hD hS 2 0 rfl rfl (tq_in (by decide)) dX8_init_600 (fun H locs hP hD hS => ?_)
  have hP : va_P G vwCl [(h0, .inr (8, fs103)), (q101, .inl (cA 0, 700, .inl f102)), (q104, .inl (cA 0, 153, .inl ((upd f202 (97 : Int32).toNatClampNeg 115))))] H := hP
  have hD : va_D A [(h0, .inr (8, fs103)), (q101, .inl (cA 0, 700, .inl f102)), (q104, .inl (cA 0, 153, .inl ((upd f202 (97 : Int32).toNatClampNeg 115))))] := hD
  generalize (upd f202 (97 : Int32).toNatClampNeg 115) = f203 at hP hD
  refine lv_dup hx hb dX8_init_601 rfl ?_
  refine lv_bipush (v := 98) hx hb dX8_init_602 (by decide) ?_
  refine lv_bipush (v := 116) hx hb dX8_init_604 (by decide) ?_
  refine va_iast (i := 98) hx hb hK hP hD hS 2 0 rfl rfl (tq_in (by decide)) dX8_init_606 (fun H locs hP hD hS => ?_)
  have hP : va_P G vwCl [(h0, .inr (8, fs103)), (q101, .inl (cA 0, 700, .inl f102)), (q104, .inl (cA 0, 153, .inl ((upd f203 (98 : Int32).toNatClampNeg 116))))] H := hP
  have hD : va_D A [(h0, .inr (8, fs103)), (q101, .inl (cA 0, 700, .inl f102)), (q104, .inl (cA 0, 153, .inl ((upd f203 (98 : Int32).toNatClampNeg 116))))] := hD
  generalize (upd f203 (98 : Int32).toNatClampNeg 116) = f204 at hP hD
  refine lv_dup hx hb dX8_init_607 rfl ?_
  refine lv_bipush (v := 99) hx hb dX8_init_608 (by decide) ?_
  refine lv_bipush (v := 101) hx hb dX8_init_610 (by decide) ?_
  refine va_iast (i := 99) hx hb hK hP hD hS 2 0 rfl rfl (tq_in (by decide)) dX8_init_612 (fun H locs hP hD hS => ?_)
  have hP : va_P G vwCl [(h0, .inr (8, fs103)), (q101, .inl (cA 0, 700, .inl f102)), (q104, .inl (cA 0, 153, .inl ((upd f204 (99 : Int32).toNatClampNeg 101))))] H := hP
  have hD : va_D A [(h0, .inr (8, fs103)), (q101, .inl (cA 0, 700, .inl f102)), (q104, .inl (cA 0, 153, .inl ((upd f204 (99 : Int32).toNatClampNeg 101))))] := hD
  generalize (upd f204 (99 : Int32).toNatClampNeg 101) = f205 at hP hD
  refine lv_dup hx hb dX8_init_613 rfl ?_
  refine lv_bipush (v := 100) hx hb dX8_init_614 (by decide) ?_
  refine lv_bipush (v := 97) hx hb dX8_init_616 (by decide) ?_
  refine va_iast (i := 100) hx hb hK hP hD hS 2 0 rfl rfl (tq_in (by decide)) dX8_init_618 (fun H locs hP hD hS => ?_)
  have hP : va_P G vwCl [(h0, .inr (8, fs103)), (q101, .inl (cA 0, 700, .inl f102)), (q104, .inl (cA 0, 153, .inl ((upd f205 (100 : Int32).toNatClampNeg 97))))] H := hP
  have hD : va_D A [(h0, .inr (8, fs103)), (q101, .inl (cA 0, 700, .inl f102)), (q104, .inl (cA 0, 153, .inl ((upd f205 (100 : Int32).toNatClampNeg 97))))] := hD
  generalize (upd f205 (100 : Int32).toNatClampNeg 97) = f206 at hP hD
  refine lv_dup hx hb dX8_init_619 rfl ?_
  refine lv_bipush (v := 101) hx hb dX8_init_620 (by decide) ?_
  refine lv_bipush (v := 108) hx hb dX8_init_622 (by decide) ?_
  refine va_iast (i := 101) hx hb hK hP hD hS 2 0 rfl rfl (tq_in (by decide)) dX8_init_624 (fun H locs hP hD hS => ?_)
  have hP : va_P G vwCl [(h0, .inr (8, fs103)), (q101, .inl (cA 0, 700, .inl f102)), (q104, .inl (cA 0, 153, .inl ((upd f206 (101 : Int32).toNatClampNeg 108))))] H := hP
  have hD : va_D A [(h0, .inr (8, fs103)), (q101, .inl (cA 0, 700, .inl f102)), (q104, .inl (cA 0, 153, .inl ((upd f206 (101 : Int32).toNatClampNeg 108))))] := hD
  generalize (upd f206 (101 : Int32).toNatClampNeg 108) = f207 at hP hD
  refine lv_dup hx hb dX8_init_625 rfl ?_
  refine lv_bipush (v := 102) hx hb dX8_init_626 (by decide) ?_
  refine lv_bipush (v := 32) hx hb dX8_init_628 (by decide) ?_
  refine va_iast (i := 102) hx hb hK hP hD hS 2 0 rfl rfl (tq_in (by decide)) dX8_init_630 (fun H locs hP hD hS => ?_)
  have hP : va_P G vwCl [(h0, .inr (8, fs103)), (q101, .inl (cA 0, 700, .inl f102)), (q104, .inl (cA 0, 153, .inl ((upd f207 (102 : Int32).toNatClampNeg 32))))] H := hP
  have hD : va_D A [(h0, .inr (8, fs103)), (q101, .inl (cA 0, 700, .inl f102)), (q104, .inl (cA 0, 153, .inl ((upd f207 (102 : Int32).toNatClampNeg 32))))] := hD
  generalize (upd f207 (102 : Int32).toNatClampNeg 32) = f208 at hP hD
  refine lv_dup hx hb dX8_init_631 rfl ?_
  refine lv_bipush (v := 103) hx hb dX8_init_632 (by decide) ?_
  refine lv_bipush (v := 97) hx hb dX8_init_634 (by decide) ?_
  refine va_iast (i := 103) hx hb hK hP hD hS 2 0 rfl rfl (tq_in (by decide)) dX8_init_636 (fun H locs hP hD hS => ?_)
  have hP : va_P G vwCl [(h0, .inr (8, fs103)), (q101, .inl (cA 0, 700, .inl f102)), (q104, .inl (cA 0, 153, .inl ((upd f208 (103 : Int32).toNatClampNeg 97))))] H := hP
  have hD : va_D A [(h0, .inr (8, fs103)), (q101, .inl (cA 0, 700, .inl f102)), (q104, .inl (cA 0, 153, .inl ((upd f208 (103 : Int32).toNatClampNeg 97))))] := hD
  generalize (upd f208 (103 : Int32).toNatClampNeg 97) = f209 at hP hD
  refine lv_dup hx hb dX8_init_637 rfl ?_
  refine lv_bipush (v := 104) hx hb dX8_init_638 (by decide) ?_
  refine lv_bipush (v := 110) hx hb dX8_init_640 (by decide) ?_
  refine va_iast (i := 104) hx hb hK hP hD hS 2 0 rfl rfl (tq_in (by decide)) dX8_init_642 (fun H locs hP hD hS => ?_)
  have hP : va_P G vwCl [(h0, .inr (8, fs103)), (q101, .inl (cA 0, 700, .inl f102)), (q104, .inl (cA 0, 153, .inl ((upd f209 (104 : Int32).toNatClampNeg 110))))] H := hP
  have hD : va_D A [(h0, .inr (8, fs103)), (q101, .inl (cA 0, 700, .inl f102)), (q104, .inl (cA 0, 153, .inl ((upd f209 (104 : Int32).toNatClampNeg 110))))] := hD
  generalize (upd f209 (104 : Int32).toNatClampNeg 110) = f210 at hP hD
  refine lv_dup hx hb dX8_init_643 rfl ?_
  refine lv_bipush (v := 105) hx hb dX8_init_644 (by decide) ?_
  refine lv_bipush (v := 100) hx hb dX8_init_646 (by decide) ?_
  refine va_iast (i := 105) hx hb hK hP hD hS 2 0 rfl rfl (tq_in (by decide)) dX8_init_648 (fun H locs hP hD hS => ?_)
  have hP : va_P G vwCl [(h0, .inr (8, fs103)), (q101, .inl (cA 0, 700, .inl f102)), (q104, .inl (cA 0, 153, .inl ((upd f210 (105 : Int32).toNatClampNeg 100))))] H := hP
  have hD : va_D A [(h0, .inr (8, fs103)), (q101, .inl (cA 0, 700, .inl f102)), (q104, .inl (cA 0, 153, .inl ((upd f210 (105 : Int32).toNatClampNeg 100))))] := hD
  generalize (upd f210 (105 : Int32).toNatClampNeg 100) = f211 at hP hD
  refine lv_dup hx hb dX8_init_649 rfl ?_
  refine lv_bipush (v := 106) hx hb dX8_init_650 (by decide) ?_
  refine lv_bipush (v := 32) hx hb dX8_init_652 (by decide) ?_
  refine va_iast (i := 106) hx hb hK hP hD hS 2 0 rfl rfl (tq_in (by decide)) dX8_init_654 (fun H locs hP hD hS => ?_)
  have hP : va_P G vwCl [(h0, .inr (8, fs103)), (q101, .inl (cA 0, 700, .inl f102)), (q104, .inl (cA 0, 153, .inl ((upd f211 (106 : Int32).toNatClampNeg 32))))] H := hP
  have hD : va_D A [(h0, .inr (8, fs103)), (q101, .inl (cA 0, 700, .inl f102)), (q104, .inl (cA 0, 153, .inl ((upd f211 (106 : Int32).toNatClampNeg 32))))] := hD
  generalize (upd f211 (106 : Int32).toNatClampNeg 32) = f212 at hP hD
  refine lv_dup hx hb dX8_init_655 rfl ?_
  refine lv_bipush (v := 107) hx hb dX8_init_656 (by decide) ?_
  refine lv_bipush (v := 111) hx hb dX8_init_658 (by decide) ?_
  refine va_iast (i := 107) hx hb hK hP hD hS 2 0 rfl rfl (tq_in (by decide)) dX8_init_660 (fun H locs hP hD hS => ?_)
  have hP : va_P G vwCl [(h0, .inr (8, fs103)), (q101, .inl (cA 0, 700, .inl f102)), (q104, .inl (cA 0, 153, .inl ((upd f212 (107 : Int32).toNatClampNeg 111))))] H := hP
  have hD : va_D A [(h0, .inr (8, fs103)), (q101, .inl (cA 0, 700, .inl f102)), (q104, .inl (cA 0, 153, .inl ((upd f212 (107 : Int32).toNatClampNeg 111))))] := hD
  generalize (upd f212 (107 : Int32).toNatClampNeg 111) = f213 at hP hD
  refine lv_dup hx hb dX8_init_661 rfl ?_
  refine lv_bipush (v := 108) hx hb dX8_init_662 (by decide) ?_
  refine lv_bipush (v := 114) hx hb dX8_init_664 (by decide) ?_
  refine va_iast (i := 108) hx hb hK hP hD hS 2 0 rfl rfl (tq_in (by decide)) dX8_init_666 (fun H locs hP hD hS => ?_)
  have hP : va_P G vwCl [(h0, .inr (8, fs103)), (q101, .inl (cA 0, 700, .inl f102)), (q104, .inl (cA 0, 153, .inl ((upd f213 (108 : Int32).toNatClampNeg 114))))] H := hP
  have hD : va_D A [(h0, .inr (8, fs103)), (q101, .inl (cA 0, 700, .inl f102)), (q104, .inl (cA 0, 153, .inl ((upd f213 (108 : Int32).toNatClampNeg 114))))] := hD
  generalize (upd f213 (108 : Int32).toNatClampNeg 114) = f214 at hP hD
  refine lv_dup hx hb dX8_init_667 rfl ?_
  refine lv_bipush (v := 109) hx hb dX8_init_668 (by decide) ?_
  refine lv_bipush (v := 32) hx hb dX8_init_670 (by decide) ?_
  refine va_iast (i := 109) hx hb hK hP hD hS 2 0 rfl rfl (tq_in (by decide)) dX8_init_672 (fun H locs hP hD hS => ?_)
  have hP : va_P G vwCl [(h0, .inr (8, fs103)), (q101, .inl (cA 0, 700, .inl f102)), (q104, .inl (cA 0, 153, .inl ((upd f214 (109 : Int32).toNatClampNeg 32))))] H := hP
  have hD : va_D A [(h0, .inr (8, fs103)), (q101, .inl (cA 0, 700, .inl f102)), (q104, .inl (cA 0, 153, .inl ((upd f214 (109 : Int32).toNatClampNeg 32))))] := hD
  generalize (upd f214 (109 : Int32).toNatClampNeg 32) = f215 at hP hD
  refine lv_dup hx hb dX8_init_673 rfl ?_
  refine lv_bipush (v := 110) hx hb dX8_init_674 (by decide) ?_
  refine lv_bipush (v := 110) hx hb dX8_init_676 (by decide) ?_
  refine va_iast (i := 110) hx hb hK hP hD hS 2 0 rfl rfl (tq_in (by decide)) dX8_init_678 (fun H locs hP hD hS => ?_)
  have hP : va_P G vwCl [(h0, .inr (8, fs103)), (q101, .inl (cA 0, 700, .inl f102)), (q104, .inl (cA 0, 153, .inl ((upd f215 (110 : Int32).toNatClampNeg 110))))] H := hP
  have hD : va_D A [(h0, .inr (8, fs103)), (q101, .inl (cA 0, 700, .inl f102)), (q104, .inl (cA 0, 153, .inl ((upd f215 (110 : Int32).toNatClampNeg 110))))] := hD
  generalize (upd f215 (110 : Int32).toNatClampNeg 110) = f216 at hP hD
  refine lv_dup hx hb dX8_init_679 rfl ?_
  refine lv_bipush (v := 111) hx hb dX8_init_680 (by decide) ?_
  refine lv_bipush (v := 111) hx hb dX8_init_682 (by decide) ?_
  refine va_iast (i := 111) hx hb hK hP hD hS 2 0 rfl rfl (tq_in (by decide)) dX8_init_684 (fun H locs hP hD hS => ?_)
  have hP : va_P G vwCl [(h0, .inr (8, fs103)), (q101, .inl (cA 0, 700, .inl f102)), (q104, .inl (cA 0, 153, .inl ((upd f216 (111 : Int32).toNatClampNeg 111))))] H := hP
  have hD : va_D A [(h0, .inr (8, fs103)), (q101, .inl (cA 0, 700, .inl f102)), (q104, .inl (cA 0, 153, .inl ((upd f216 (111 : Int32).toNatClampNeg 111))))] := hD
  generalize (upd f216 (111 : Int32).toNatClampNeg 111) = f217 at hP hD
  refine lv_dup hx hb dX8_init_685 rfl ?_
  refine lv_bipush (v := 112) hx hb dX8_init_686 (by decide) ?_
  refine lv_bipush (v := 116) hx hb dX8_init_688 (by decide) ?_
  refine va_iast (i := 112) hx hb hK hP hD hS 2 0 rfl rfl (tq_in (by decide)) dX8_init_690 (fun H locs hP hD hS => ?_)
  have hP : va_P G vwCl [(h0, .inr (8, fs103)), (q101, .inl (cA 0, 700, .inl f102)), (q104, .inl (cA 0, 153, .inl ((upd f217 (112 : Int32).toNatClampNeg 116))))] H := hP
  have hD : va_D A [(h0, .inr (8, fs103)), (q101, .inl (cA 0, 700, .inl f102)), (q104, .inl (cA 0, 153, .inl ((upd f217 (112 : Int32).toNatClampNeg 116))))] := hD
  generalize (upd f217 (112 : Int32).toNatClampNeg 116) = f218 at hP hD
  refine lv_dup hx hb dX8_init_691 rfl ?_
  refine lv_bipush (v := 113) hx hb dX8_init_692 (by decide) ?_
  refine lv_bipush (v := 32) hx hb dX8_init_694 (by decide) ?_
  refine va_iast (i := 113) hx hb hK hP hD hS 2 0 rfl rfl (tq_in (by decide)) dX8_init_696 (fun H locs hP hD hS => ?_)
  have hP : va_P G vwCl [(h0, .inr (8, fs103)), (q101, .inl (cA 0, 700, .inl f102)), (q104, .inl (cA 0, 153, .inl ((upd f218 (113 : Int32).toNatClampNeg 32))))] H := hP
  have hD : va_D A [(h0, .inr (8, fs103)), (q101, .inl (cA 0, 700, .inl f102)), (q104, .inl (cA 0, 153, .inl ((upd f218 (113 : Int32).toNatClampNeg 32))))] := hD
  generalize (upd f218 (113 : Int32).toNatClampNeg 32) = f219 at hP hD
  refine lv_dup hx hb dX8_init_697 rfl ?_
  refine lv_bipush (v := 114) hx hb dX8_init_698 (by decide) ?_
  refine lv_bipush (v := 104) hx hb dX8_init_700 (by decide) ?_
  refine va_iast (i := 114) hx hb hK hP hD hS 2 0 rfl rfl (tq_in (by decide)) dX8_init_702 (fun H locs hP hD hS => ?_)
  have hP : va_P G vwCl [(h0, .inr (8, fs103)), (q101, .inl (cA 0, 700, .inl f102)), (q104, .inl (cA 0, 153, .inl ((upd f219 (114 : Int32).toNatClampNeg 104))))] H := hP
  have hD : va_D A [(h0, .inr (8, fs103)), (q101, .inl (cA 0, 700, .inl f102)), (q104, .inl (cA 0, 153, .inl ((upd f219 (114 : Int32).toNatClampNeg 104))))] := hD
  generalize (upd f219 (114 : Int32).toNatClampNeg 104) = f220 at hP hD
  refine lv_dup hx hb dX8_init_703 rfl ?_
  refine lv_bipush (v := 115) hx hb dX8_init_704 (by decide) ?_
  refine lv_bipush (v := 101) hx hb dX8_init_706 (by decide) ?_
  refine va_iast (i := 115) hx hb hK hP hD hS 2 0 rfl rfl (tq_in (by decide)) dX8_init_708 (fun H locs hP hD hS => ?_)
  have hP : va_P G vwCl [(h0, .inr (8, fs103)), (q101, .inl (cA 0, 700, .inl f102)), (q104, .inl (cA 0, 153, .inl ((upd f220 (115 : Int32).toNatClampNeg 101))))] H := hP
  have hD : va_D A [(h0, .inr (8, fs103)), (q101, .inl (cA 0, 700, .inl f102)), (q104, .inl (cA 0, 153, .inl ((upd f220 (115 : Int32).toNatClampNeg 101))))] := hD
  generalize (upd f220 (115 : Int32).toNatClampNeg 101) = f221 at hP hD
  refine lv_dup hx hb dX8_init_709 rfl ?_
  refine lv_bipush (v := 116) hx hb dX8_init_710 (by decide) ?_
  refine lv_bipush (v := 97) hx hb dX8_init_712 (by decide) ?_
  refine va_iast (i := 116) hx hb hK hP hD hS 2 0 rfl rfl (tq_in (by decide)) dX8_init_714 (fun H locs hP hD hS => ?_)
  have hP : va_P G vwCl [(h0, .inr (8, fs103)), (q101, .inl (cA 0, 700, .inl f102)), (q104, .inl (cA 0, 153, .inl ((upd f221 (116 : Int32).toNatClampNeg 97))))] H := hP
  have hD : va_D A [(h0, .inr (8, fs103)), (q101, .inl (cA 0, 700, .inl f102)), (q104, .inl (cA 0, 153, .inl ((upd f221 (116 : Int32).toNatClampNeg 97))))] := hD
  generalize (upd f221 (116 : Int32).toNatClampNeg 97) = f222 at hP hD
  refine lv_dup hx hb dX8_init_715 rfl ?_
  refine lv_bipush (v := 117) hx hb dX8_init_716 (by decide) ?_
  refine lv_bipush (v := 118) hx hb dX8_init_718 (by decide) ?_
  refine va_iast (i := 117) hx hb hK hP hD hS 2 0 rfl rfl (tq_in (by decide)) dX8_init_720 (fun H locs hP hD hS => ?_)
  have hP : va_P G vwCl [(h0, .inr (8, fs103)), (q101, .inl (cA 0, 700, .inl f102)), (q104, .inl (cA 0, 153, .inl ((upd f222 (117 : Int32).toNatClampNeg 118))))] H := hP
  have hD : va_D A [(h0, .inr (8, fs103)), (q101, .inl (cA 0, 700, .inl f102)), (q104, .inl (cA 0, 153, .inl ((upd f222 (117 : Int32).toNatClampNeg 118))))] := hD
  generalize (upd f222 (117 : Int32).toNatClampNeg 118) = f223 at hP hD
  refine lv_dup hx hb dX8_init_721 rfl ?_
  refine lv_bipush (v := 118) hx hb dX8_init_722 (by decide) ?_
  refine lv_bipush (v := 121) hx hb dX8_init_724 (by decide) ?_
  refine va_iast (i := 118) hx hb hK hP hD hS 2 0 rfl rfl (tq_in (by decide)) dX8_init_726 (fun H locs hP hD hS => ?_)
  have hP : va_P G vwCl [(h0, .inr (8, fs103)), (q101, .inl (cA 0, 700, .inl f102)), (q104, .inl (cA 0, 153, .inl ((upd f223 (118 : Int32).toNatClampNeg 121))))] H := hP
  have hD : va_D A [(h0, .inr (8, fs103)), (q101, .inl (cA 0, 700, .inl f102)), (q104, .inl (cA 0, 153, .inl ((upd f223 (118 : Int32).toNatClampNeg 121))))] := hD
  generalize (upd f223 (118 : Int32).toNatClampNeg 121) = f224 at hP hD
  refine lv_dup hx hb dX8_init_727 rfl ?_
  refine lv_bipush (v := 119) hx hb dX8_init_728 (by decide) ?_
  refine lv_bipush (v := 32) hx hb dX8_init_730 (by decide) ?_
  refine va_iast (i := 119) hx hb hK hP hD hS 2 0 rfl rfl (tq_in (by decide)) dX8_init_732 (fun H locs hP hD hS => ?_)
  have hP : va_P G vwCl [(h0, .inr (8, fs103)), (q101, .inl (cA 0, 700, .inl f102)), (q104, .inl (cA 0, 153, .inl ((upd f224 (119 : Int32).toNatClampNeg 32))))] H := hP
  have hD : va_D A [(h0, .inr (8, fs103)), (q101, .inl (cA 0, 700, .inl f102)), (q104, .inl (cA 0, 153, .inl ((upd f224 (119 : Int32).toNatClampNeg 32))))] := hD
  generalize (upd f224 (119 : Int32).toNatClampNeg 32) = f225 at hP hD
  refine lv_dup hx hb dX8_init_733 rfl ?_
  refine lv_bipush (v := 120) hx hb dX8_init_734 (by decide) ?_
  refine lv_bipush (v := 102) hx hb dX8_init_736 (by decide) ?_
  refine va_iast (i := 120) hx hb hK hP hD hS 2 0 rfl rfl (tq_in (by decide)) dX8_init_738 (fun H locs hP hD hS => ?_)
  have hP : va_P G vwCl [(h0, .inr (8, fs103)), (q101, .inl (cA 0, 700, .inl f102)), (q104, .inl (cA 0, 153, .inl ((upd f225 (120 : Int32).toNatClampNeg 102))))] H := hP
  have hD : va_D A [(h0, .inr (8, fs103)), (q101, .inl (cA 0, 700, .inl f102)), (q104, .inl (cA 0, 153, .inl ((upd f225 (120 : Int32).toNatClampNeg 102))))] := hD
  generalize (upd f225 (120 : Int32).toNatClampNeg 102) = f226 at hP hD
  refine lv_dup hx hb dX8_init_739 rfl ?_
  refine lv_bipush (v := 121) hx hb dX8_init_740 (by decide) ?_
  refine lv_bipush (v := 114) hx hb dX8_init_742 (by decide) ?_
  refine va_iast (i := 121) hx hb hK hP hD hS 2 0 rfl rfl (tq_in (by decide)) dX8_init_744 (fun H locs hP hD hS => ?_)
  have hP : va_P G vwCl [(h0, .inr (8, fs103)), (q101, .inl (cA 0, 700, .inl f102)), (q104, .inl (cA 0, 153, .inl ((upd f226 (121 : Int32).toNatClampNeg 114))))] H := hP
  have hD : va_D A [(h0, .inr (8, fs103)), (q101, .inl (cA 0, 700, .inl f102)), (q104, .inl (cA 0, 153, .inl ((upd f226 (121 : Int32).toNatClampNeg 114))))] := hD
  generalize (upd f226 (121 : Int32).toNatClampNeg 114) = f227 at hP hD
  refine lv_dup hx hb dX8_init_745 rfl ?_
  refine lv_bipush (v := 122) hx hb dX8_init_746 (by decide) ?_
  refine lv_bipush (v := 97) hx hb dX8_init_748 (by decide) ?_
  refine va_iast (i := 122) hx hb hK hP hD hS 2 0 rfl rfl (tq_in (by decide)) dX8_init_750 (fun H locs hP hD hS => ?_)
  have hP : va_P G vwCl [(h0, .inr (8, fs103)), (q101, .inl (cA 0, 700, .inl f102)), (q104, .inl (cA 0, 153, .inl ((upd f227 (122 : Int32).toNatClampNeg 97))))] H := hP
  have hD : va_D A [(h0, .inr (8, fs103)), (q101, .inl (cA 0, 700, .inl f102)), (q104, .inl (cA 0, 153, .inl ((upd f227 (122 : Int32).toNatClampNeg 97))))] := hD
  generalize (upd f227 (122 : Int32).toNatClampNeg 97) = f228 at hP hD
  refine lv_dup hx hb dX8_init_751 rfl ?_
  refine lv_bipush (v := 123) hx hb dX8_init_752 (by decide) ?_
  refine lv_bipush (v := 105) hx hb dX8_init_754 (by decide) ?_
  refine va_iast (i := 123) hx hb hK hP hD hS 2 0 rfl rfl (tq_in (by decide)) dX8_init_756 (fun H locs hP hD hS => ?_)
  have hP : va_P G vwCl [(h0, .inr (8, fs103)), (q101, .inl (cA 0, 700, .inl f102)), (q104, .inl (cA 0, 153, .inl ((upd f228 (123 : Int32).toNatClampNeg 105))))] H := hP
  have hD : va_D A [(h0, .inr (8, fs103)), (q101, .inl (cA 0, 700, .inl f102)), (q104, .inl (cA 0, 153, .inl ((upd f228 (123 : Int32).toNatClampNeg 105))))] := hD
  generalize (upd f228 (123 : Int32).toNatClampNeg 105) = f229 at hP hD
  refine lv_dup hx hb dX8_init_757 rfl ?_
  refine lv_bipush (v := 124) hx hb dX8_init_758 (by decide) ?_
  refine lv_bipush (v := 108) hx hb dX8_init_760 (by decide) ?_
  refine va_iast (i := 124) hx hb hK hP hD hS 2 0 rfl rfl (tq_in (by decide)) dX8_init_762 (fun H locs hP hD hS => ?_)
  have hP : va_P G vwCl [(h0, .inr (8, fs103)), (q101, .inl (cA 0, 700, .inl f102)), (q104, .inl (cA 0, 153, .inl ((upd f229 (124 : Int32).toNatClampNeg 108))))] H := hP
  have hD : va_D A [(h0, .inr (8, fs103)), (q101, .inl (cA 0, 700, .inl f102)), (q104, .inl (cA 0, 153, .inl ((upd f229 (124 : Int32).toNatClampNeg 108))))] := hD
  generalize (upd f229 (124 : Int32).toNatClampNeg 108) = f230 at hP hD
  refine lv_dup hx hb dX8_init_763 rfl ?_
  refine lv_bipush (v := 125) hx hb dX8_init_764 (by decide) ?_
  refine lv_bipush (v := 32) hx hb dX8_init_766 (by decide) ?_
  refine va_iast (i := 125) hx hb hK hP hD hS 2 0 rfl rfl (tq_in (by decide)) dX8_init_768 (fun H locs hP hD hS => ?_)
  have hP : va_P G vwCl [(h0, .inr (8, fs103)), (q101, .inl (cA 0, 700, .inl f102)), (q104, .inl (cA 0, 153, .inl ((upd f230 (125 : Int32).toNatClampNeg 32))))] H := hP
  have hD : va_D A [(h0, .inr (8, fs103)), (q101, .inl (cA 0, 700, .inl f102)), (q104, .inl (cA 0, 153, .inl ((upd f230 (125 : Int32).toNatClampNeg 32))))] := hD
  generalize (upd f230 (125 : Int32).toNatClampNeg 32) = f231 at hP hD
  refine lv_dup hx hb dX8_init_769 rfl ?_
  refine lv_bipush (v := 126) hx hb dX8_init_770 (by decide) ?_
  refine lv_bipush (v := 97) hx hb dX8_init_772 (by decide) ?_
  refine va_iast (i := 126) hx hb hK hP hD hS 2 0 rfl rfl (tq_in (by decide)) dX8_init_774 (fun H locs hP hD hS => ?_)
  have hP : va_P G vwCl [(h0, .inr (8, fs103)), (q101, .inl (cA 0, 700, .inl f102)), (q104, .inl (cA 0, 153, .inl ((upd f231 (126 : Int32).toNatClampNeg 97))))] H := hP
  have hD : va_D A [(h0, .inr (8, fs103)), (q101, .inl (cA 0, 700, .inl f102)), (q104, .inl (cA 0, 153, .inl ((upd f231 (126 : Int32).toNatClampNeg 97))))] := hD
  generalize (upd f231 (126 : Int32).toNatClampNeg 97) = f232 at hP hD
  refine lv_dup hx hb dX8_init_775 rfl ?_
  refine lv_bipush (v := 127) hx hb dX8_init_776 (by decide) ?_
  refine lv_bipush (v := 98) hx hb dX8_init_778 (by decide) ?_
  refine va_iast (i := 127) hx hb hK hP hD hS 2 0 rfl rfl (tq_in (by decide)) dX8_init_780 (fun H locs hP hD hS => ?_)
  have hP : va_P G vwCl [(h0, .inr (8, fs103)), (q101, .inl (cA 0, 700, .inl f102)), (q104, .inl (cA 0, 153, .inl ((upd f232 (127 : Int32).toNatClampNeg 98))))] H := hP
  have hD : va_D A [(h0, .inr (8, fs103)), (q101, .inl (cA 0, 700, .inl f102)), (q104, .inl (cA 0, 153, .inl ((upd f232 (127 : Int32).toNatClampNeg 98))))] := hD
  generalize (upd f232 (127 : Int32).toNatClampNeg 98) = f233 at hP hD
  refine lv_dup hx hb dX8_init_781 rfl ?_
  refine lv_sipush (v := 128) hx hb dX8_init_782 (by decide) ?_
  refine lv_bipush (v := 111) hx hb dX8_init_785 (by decide) ?_
  refine va_iast (i := 128) hx hb hK hP hD hS 2 0 rfl rfl (tq_in (by decide)) dX8_init_787 (fun H locs hP hD hS => ?_)
  have hP : va_P G vwCl [(h0, .inr (8, fs103)), (q101, .inl (cA 0, 700, .inl f102)), (q104, .inl (cA 0, 153, .inl ((upd f233 (128 : Int32).toNatClampNeg 111))))] H := hP
  have hD : va_D A [(h0, .inr (8, fs103)), (q101, .inl (cA 0, 700, .inl f102)), (q104, .inl (cA 0, 153, .inl ((upd f233 (128 : Int32).toNatClampNeg 111))))] := hD
  generalize (upd f233 (128 : Int32).toNatClampNeg 111) = f234 at hP hD
  refine lv_dup hx hb dX8_init_788 rfl ?_
  refine lv_sipush (v := 129) hx hb dX8_init_789 (by decide) ?_
  refine lv_bipush (v := 118) hx hb dX8_init_792 (by decide) ?_
  refine va_iast (i := 129) hx hb hK hP hD hS 2 0 rfl rfl (tq_in (by decide)) dX8_init_794 (fun H locs hP hD hS => ?_)
  have hP : va_P G vwCl [(h0, .inr (8, fs103)), (q101, .inl (cA 0, 700, .inl f102)), (q104, .inl (cA 0, 153, .inl ((upd f234 (129 : Int32).toNatClampNeg 118))))] H := hP
  have hD : va_D A [(h0, .inr (8, fs103)), (q101, .inl (cA 0, 700, .inl f102)), (q104, .inl (cA 0, 153, .inl ((upd f234 (129 : Int32).toNatClampNeg 118))))] := hD
  generalize (upd f234 (129 : Int32).toNatClampNeg 118) = f235 at hP hD
  refine lv_dup hx hb dX8_init_795 rfl ?_
  refine lv_sipush (v := 130) hx hb dX8_init_796 (by decide) ?_
  refine lv_bipush (v := 101) hx hb dX8_init_799 (by decide) ?_
  refine va_iast (i := 130) hx hb hK hP hD hS 2 0 rfl rfl (tq_in (by decide)) dX8_init_801 (fun H locs hP hD hS => ?_)
  have hP : va_P G vwCl [(h0, .inr (8, fs103)), (q101, .inl (cA 0, 700, .inl f102)), (q104, .inl (cA 0, 153, .inl ((upd f235 (130 : Int32).toNatClampNeg 101))))] H := hP
  have hD : va_D A [(h0, .inr (8, fs103)), (q101, .inl (cA 0, 700, .inl f102)), (q104, .inl (cA 0, 153, .inl ((upd f235 (130 : Int32).toNatClampNeg 101))))] := hD
  generalize (upd f235 (130 : Int32).toNatClampNeg 101) = f236 at hP hD
  refine lv_dup hx hb dX8_init_802 rfl ?_
  refine lv_sipush (v := 131) hx hb dX8_init_803 (by decide) ?_
  refine lv_bipush (v := 32) hx hb dX8_init_806 (by decide) ?_
  refine va_iast (i := 131) hx hb hK hP hD hS 2 0 rfl rfl (tq_in (by decide)) dX8_init_808 (fun H locs hP hD hS => ?_)
  have hP : va_P G vwCl [(h0, .inr (8, fs103)), (q101, .inl (cA 0, 700, .inl f102)), (q104, .inl (cA 0, 153, .inl ((upd f236 (131 : Int32).toNatClampNeg 32))))] H := hP
  have hD : va_D A [(h0, .inr (8, fs103)), (q101, .inl (cA 0, 700, .inl f102)), (q104, .inl (cA 0, 153, .inl ((upd f236 (131 : Int32).toNatClampNeg 32))))] := hD
  generalize (upd f236 (131 : Int32).toNatClampNeg 32) = f237 at hP hD
  refine lv_dup hx hb dX8_init_809 rfl ?_
  refine lv_sipush (v := 132) hx hb dX8_init_810 (by decide) ?_
  refine lv_bipush (v := 107) hx hb dX8_init_813 (by decide) ?_
  refine va_iast (i := 132) hx hb hK hP hD hS 2 0 rfl rfl (tq_in (by decide)) dX8_init_815 (fun H locs hP hD hS => ?_)
  have hP : va_P G vwCl [(h0, .inr (8, fs103)), (q101, .inl (cA 0, 700, .inl f102)), (q104, .inl (cA 0, 153, .inl ((upd f237 (132 : Int32).toNatClampNeg 107))))] H := hP
  have hD : va_D A [(h0, .inr (8, fs103)), (q101, .inl (cA 0, 700, .inl f102)), (q104, .inl (cA 0, 153, .inl ((upd f237 (132 : Int32).toNatClampNeg 107))))] := hD
  generalize (upd f237 (132 : Int32).toNatClampNeg 107) = f238 at hP hD
  refine lv_dup hx hb dX8_init_816 rfl ?_
  refine lv_sipush (v := 133) hx hb dX8_init_817 (by decide) ?_
  refine lv_bipush (v := 105) hx hb dX8_init_820 (by decide) ?_
  refine va_iast (i := 133) hx hb hK hP hD hS 2 0 rfl rfl (tq_in (by decide)) dX8_init_822 (fun H locs hP hD hS => ?_)
  have hP : va_P G vwCl [(h0, .inr (8, fs103)), (q101, .inl (cA 0, 700, .inl f102)), (q104, .inl (cA 0, 153, .inl ((upd f238 (133 : Int32).toNatClampNeg 105))))] H := hP
  have hD : va_D A [(h0, .inr (8, fs103)), (q101, .inl (cA 0, 700, .inl f102)), (q104, .inl (cA 0, 153, .inl ((upd f238 (133 : Int32).toNatClampNeg 105))))] := hD
  generalize (upd f238 (133 : Int32).toNatClampNeg 105) = f239 at hP hD
  refine lv_dup hx hb dX8_init_823 rfl ?_
  refine lv_sipush (v := 134) hx hb dX8_init_824 (by decide) ?_
  refine lv_bipush (v := 110) hx hb dX8_init_827 (by decide) ?_
  refine va_iast (i := 134) hx hb hK hP hD hS 2 0 rfl rfl (tq_in (by decide)) dX8_init_829 (fun H locs hP hD hS => ?_)
  have hP : va_P G vwCl [(h0, .inr (8, fs103)), (q101, .inl (cA 0, 700, .inl f102)), (q104, .inl (cA 0, 153, .inl ((upd f239 (134 : Int32).toNatClampNeg 110))))] H := hP
  have hD : va_D A [(h0, .inr (8, fs103)), (q101, .inl (cA 0, 700, .inl f102)), (q104, .inl (cA 0, 153, .inl ((upd f239 (134 : Int32).toNatClampNeg 110))))] := hD
  generalize (upd f239 (134 : Int32).toNatClampNeg 110) = f240 at hP hD
  refine lv_dup hx hb dX8_init_830 rfl ?_
  refine lv_sipush (v := 135) hx hb dX8_init_831 (by decide) ?_
  refine lv_bipush (v := 100) hx hb dX8_init_834 (by decide) ?_
  refine va_iast (i := 135) hx hb hK hP hD hS 2 0 rfl rfl (tq_in (by decide)) dX8_init_836 (fun H locs hP hD hS => ?_)
  have hP : va_P G vwCl [(h0, .inr (8, fs103)), (q101, .inl (cA 0, 700, .inl f102)), (q104, .inl (cA 0, 153, .inl ((upd f240 (135 : Int32).toNatClampNeg 100))))] H := hP
  have hD : va_D A [(h0, .inr (8, fs103)), (q101, .inl (cA 0, 700, .inl f102)), (q104, .inl (cA 0, 153, .inl ((upd f240 (135 : Int32).toNatClampNeg 100))))] := hD
  generalize (upd f240 (135 : Int32).toNatClampNeg 100) = f241 at hP hD
  refine lv_dup hx hb dX8_init_837 rfl ?_
  refine lv_sipush (v := 136) hx hb dX8_init_838 (by decide) ?_
  refine lv_bipush (v := 32) hx hb dX8_init_841 (by decide) ?_
  refine va_iast (i := 136) hx hb hK hP hD hS 2 0 rfl rfl (tq_in (by decide)) dX8_init_843 (fun H locs hP hD hS => ?_)
  have hP : va_P G vwCl [(h0, .inr (8, fs103)), (q101, .inl (cA 0, 700, .inl f102)), (q104, .inl (cA 0, 153, .inl ((upd f241 (136 : Int32).toNatClampNeg 32))))] H := hP
  have hD : va_D A [(h0, .inr (8, fs103)), (q101, .inl (cA 0, 700, .inl f102)), (q104, .inl (cA 0, 153, .inl ((upd f241 (136 : Int32).toNatClampNeg 32))))] := hD
  generalize (upd f241 (136 : Int32).toNatClampNeg 32) = f242 at hP hD
  refine lv_dup hx hb dX8_init_844 rfl ?_
  refine lv_sipush (v := 137) hx hb dX8_init_845 (by decide) ?_
  refine lv_bipush (v := 97) hx hb dX8_init_848 (by decide) ?_
  refine va_iast (i := 137) hx hb hK hP hD hS 2 0 rfl rfl (tq_in (by decide)) dX8_init_850 (fun H locs hP hD hS => ?_)
  have hP : va_P G vwCl [(h0, .inr (8, fs103)), (q101, .inl (cA 0, 700, .inl f102)), (q104, .inl (cA 0, 153, .inl ((upd f242 (137 : Int32).toNatClampNeg 97))))] H := hP
  have hD : va_D A [(h0, .inr (8, fs103)), (q101, .inl (cA 0, 700, .inl f102)), (q104, .inl (cA 0, 153, .inl ((upd f242 (137 : Int32).toNatClampNeg 97))))] := hD
  generalize (upd f242 (137 : Int32).toNatClampNeg 97) = f243 at hP hD
  refine lv_dup hx hb dX8_init_851 rfl ?_
  refine lv_sipush (v := 138) hx hb dX8_init_852 (by decide) ?_
  refine lv_bipush (v := 98) hx hb dX8_init_855 (by decide) ?_
  refine va_iast (i := 138) hx hb hK hP hD hS 2 0 rfl rfl (tq_in (by decide)) dX8_init_857 (fun H locs hP hD hS => ?_)
  have hP : va_P G vwCl [(h0, .inr (8, fs103)), (q101, .inl (cA 0, 700, .inl f102)), (q104, .inl (cA 0, 153, .inl ((upd f243 (138 : Int32).toNatClampNeg 98))))] H := hP
  have hD : va_D A [(h0, .inr (8, fs103)), (q101, .inl (cA 0, 700, .inl f102)), (q104, .inl (cA 0, 153, .inl ((upd f243 (138 : Int32).toNatClampNeg 98))))] := hD
  generalize (upd f243 (138 : Int32).toNatClampNeg 98) = f244 at hP hD
  refine lv_dup hx hb dX8_init_858 rfl ?_
  refine lv_sipush (v := 139) hx hb dX8_init_859 (by decide) ?_
  refine lv_bipush (v := 108) hx hb dX8_init_862 (by decide) ?_
  refine va_iast (i := 139) hx hb hK hP hD hS 2 0 rfl rfl (tq_in (by decide)) dX8_init_864 (fun H locs hP hD hS => ?_)
  have hP : va_P G vwCl [(h0, .inr (8, fs103)), (q101, .inl (cA 0, 700, .inl f102)), (q104, .inl (cA 0, 153, .inl ((upd f244 (139 : Int32).toNatClampNeg 108))))] H := hP
  have hD : va_D A [(h0, .inr (8, fs103)), (q101, .inl (cA 0, 700, .inl f102)), (q104, .inl (cA 0, 153, .inl ((upd f244 (139 : Int32).toNatClampNeg 108))))] := hD
  generalize (upd f244 (139 : Int32).toNatClampNeg 108) = f245 at hP hD
  refine lv_dup hx hb dX8_init_865 rfl ?_
  refine lv_sipush (v := 140) hx hb dX8_init_866 (by decide) ?_
  refine lv_bipush (v := 101) hx hb dX8_init_869 (by decide) ?_
  refine va_iast (i := 140) hx hb hK hP hD hS 2 0 rfl rfl (tq_in (by decide)) dX8_init_871 (fun H locs hP hD hS => ?_)
  have hP : va_P G vwCl [(h0, .inr (8, fs103)), (q101, .inl (cA 0, 700, .inl f102)), (q104, .inl (cA 0, 153, .inl ((upd f245 (140 : Int32).toNatClampNeg 101))))] H := hP
  have hD : va_D A [(h0, .inr (8, fs103)), (q101, .inl (cA 0, 700, .inl f102)), (q104, .inl (cA 0, 153, .inl ((upd f245 (140 : Int32).toNatClampNeg 101))))] := hD
  generalize (upd f245 (140 : Int32).toNatClampNeg 101) = f246 at hP hD
  refine lv_dup hx hb dX8_init_872 rfl ?_
  refine lv_sipush (v := 141) hx hb dX8_init_873 (by decide) ?_
  refine lv_bipush (v := 32) hx hb dX8_init_876 (by decide) ?_
  refine va_iast (i := 141) hx hb hK hP hD hS 2 0 rfl rfl (tq_in (by decide)) dX8_init_878 (fun H locs hP hD hS => ?_)
  have hP : va_P G vwCl [(h0, .inr (8, fs103)), (q101, .inl (cA 0, 700, .inl f102)), (q104, .inl (cA 0, 153, .inl ((upd f246 (141 : Int32).toNatClampNeg 32))))] H := hP
  have hD : va_D A [(h0, .inr (8, fs103)), (q101, .inl (cA 0, 700, .inl f102)), (q104, .inl (cA 0, 153, .inl ((upd f246 (141 : Int32).toNatClampNeg 32))))] := hD
  generalize (upd f246 (141 : Int32).toNatClampNeg 32) = f247 at hP hD
  refine lv_dup hx hb dX8_init_879 rfl ?_
  refine lv_sipush (v := 142) hx hb dX8_init_880 (by decide) ?_
  refine lv_bipush (v := 115) hx hb dX8_init_883 (by decide) ?_
  refine va_iast (i := 142) hx hb hK hP hD hS 2 0 rfl rfl (tq_in (by decide)) dX8_init_885 (fun H locs hP hD hS => ?_)
  have hP : va_P G vwCl [(h0, .inr (8, fs103)), (q101, .inl (cA 0, 700, .inl f102)), (q104, .inl (cA 0, 153, .inl ((upd f247 (142 : Int32).toNatClampNeg 115))))] H := hP
  have hD : va_D A [(h0, .inr (8, fs103)), (q101, .inl (cA 0, 700, .inl f102)), (q104, .inl (cA 0, 153, .inl ((upd f247 (142 : Int32).toNatClampNeg 115))))] := hD
  generalize (upd f247 (142 : Int32).toNatClampNeg 115) = f248 at hP hD
  refine lv_dup hx hb dX8_init_886 rfl ?_
  refine lv_sipush (v := 143) hx hb dX8_init_887 (by decide) ?_
  refine lv_bipush (v := 116) hx hb dX8_init_890 (by decide) ?_
  refine va_iast (i := 143) hx hb hK hP hD hS 2 0 rfl rfl (tq_in (by decide)) dX8_init_892 (fun H locs hP hD hS => ?_)
  have hP : va_P G vwCl [(h0, .inr (8, fs103)), (q101, .inl (cA 0, 700, .inl f102)), (q104, .inl (cA 0, 153, .inl ((upd f248 (143 : Int32).toNatClampNeg 116))))] H := hP
  have hD : va_D A [(h0, .inr (8, fs103)), (q101, .inl (cA 0, 700, .inl f102)), (q104, .inl (cA 0, 153, .inl ((upd f248 (143 : Int32).toNatClampNeg 116))))] := hD
  generalize (upd f248 (143 : Int32).toNatClampNeg 116) = f249 at hP hD
  refine lv_dup hx hb dX8_init_893 rfl ?_
  refine lv_sipush (v := 144) hx hb dX8_init_894 (by decide) ?_
  refine lv_bipush (v := 111) hx hb dX8_init_897 (by decide) ?_
  refine va_iast (i := 144) hx hb hK hP hD hS 2 0 rfl rfl (tq_in (by decide)) dX8_init_899 (fun H locs hP hD hS => ?_)
  have hP : va_P G vwCl [(h0, .inr (8, fs103)), (q101, .inl (cA 0, 700, .inl f102)), (q104, .inl (cA 0, 153, .inl ((upd f249 (144 : Int32).toNatClampNeg 111))))] H := hP
  have hD : va_D A [(h0, .inr (8, fs103)), (q101, .inl (cA 0, 700, .inl f102)), (q104, .inl (cA 0, 153, .inl ((upd f249 (144 : Int32).toNatClampNeg 111))))] := hD
  generalize (upd f249 (144 : Int32).toNatClampNeg 111) = f250 at hP hD
  refine lv_dup hx hb dX8_init_900 rfl ?_
  refine lv_sipush (v := 145) hx hb dX8_init_901 (by decide) ?_
  refine lv_bipush (v := 112) hx hb dX8_init_904 (by decide) ?_
  refine va_iast (i := 145) hx hb hK hP hD hS 2 0 rfl rfl (tq_in (by decide)) dX8_init_906 (fun H locs hP hD hS => ?_)
  have hP : va_P G vwCl [(h0, .inr (8, fs103)), (q101, .inl (cA 0, 700, .inl f102)), (q104, .inl (cA 0, 153, .inl ((upd f250 (145 : Int32).toNatClampNeg 112))))] H := hP
  have hD : va_D A [(h0, .inr (8, fs103)), (q101, .inl (cA 0, 700, .inl f102)), (q104, .inl (cA 0, 153, .inl ((upd f250 (145 : Int32).toNatClampNeg 112))))] := hD
  generalize (upd f250 (145 : Int32).toNatClampNeg 112) = f251 at hP hD
  refine lv_dup hx hb dX8_init_907 rfl ?_
  refine lv_sipush (v := 146) hx hb dX8_init_908 (by decide) ?_
  refine lv_bipush (v := 32) hx hb dX8_init_911 (by decide) ?_
  refine va_iast (i := 146) hx hb hK hP hD hS 2 0 rfl rfl (tq_in (by decide)) dX8_init_913 (fun H locs hP hD hS => ?_)
  have hP : va_P G vwCl [(h0, .inr (8, fs103)), (q101, .inl (cA 0, 700, .inl f102)), (q104, .inl (cA 0, 153, .inl ((upd f251 (146 : Int32).toNatClampNeg 32))))] H := hP
  have hD : va_D A [(h0, .inr (8, fs103)), (q101, .inl (cA 0, 700, .inl f102)), (q104, .inl (cA 0, 153, .inl ((upd f251 (146 : Int32).toNatClampNeg 32))))] := hD
  generalize (upd f251 (146 : Int32).toNatClampNeg 32) = f252 at hP hD
  refine lv_dup hx hb dX8_init_914 rfl ?_
  refine lv_sipush (v := 147) hx hb dX8_init_915 (by decide) ?_
  refine lv_bipush (v := 98) hx hb dX8_init_918 (by decide) ?_
  refine va_iast (i := 147) hx hb hK hP hD hS 2 0 rfl rfl (tq_in (by decide)) dX8_init_920 (fun H locs hP hD hS => ?_)
  have hP : va_P G vwCl [(h0, .inr (8, fs103)), (q101, .inl (cA 0, 700, .inl f102)), (q104, .inl (cA 0, 153, .inl ((upd f252 (147 : Int32).toNatClampNeg 98))))] H := hP
  have hD : va_D A [(h0, .inr (8, fs103)), (q101, .inl (cA 0, 700, .inl f102)), (q104, .inl (cA 0, 153, .inl ((upd f252 (147 : Int32).toNatClampNeg 98))))] := hD
  generalize (upd f252 (147 : Int32).toNatClampNeg 98) = f253 at hP hD
  refine lv_dup hx hb dX8_init_921 rfl ?_
  refine lv_sipush (v := 148) hx hb dX8_init_922 (by decide) ?_
  refine lv_bipush (v := 101) hx hb dX8_init_925 (by decide) ?_
  refine va_iast (i := 148) hx hb hK hP hD hS 2 0 rfl rfl (tq_in (by decide)) dX8_init_927 (fun H locs hP hD hS => ?_)
  have hP : va_P G vwCl [(h0, .inr (8, fs103)), (q101, .inl (cA 0, 700, .inl f102)), (q104, .inl (cA 0, 153, .inl ((upd f253 (148 : Int32).toNatClampNeg 101))))] H := hP
  have hD : va_D A [(h0, .inr (8, fs103)), (q101, .inl (cA 0, 700, .inl f102)), (q104, .inl (cA 0, 153, .inl ((upd f253 (148 : Int32).toNatClampNeg 101))))] := hD
  generalize (upd f253 (148 : Int32).toNatClampNeg 101) = f254 at hP hD
  refine lv_dup hx hb dX8_init_928 rfl ?_
  refine lv_sipush (v := 149) hx hb dX8_init_929 (by decide) ?_
  refine lv_bipush (v := 97) hx hb dX8_init_932 (by decide) ?_
  refine va_iast (i := 149) hx hb hK hP hD hS 2 0 rfl rfl (tq_in (by decide)) dX8_init_934 (fun H locs hP hD hS => ?_)
  have hP : va_P G vwCl [(h0, .inr (8, fs103)), (q101, .inl (cA 0, 700, .inl f102)), (q104, .inl (cA 0, 153, .inl ((upd f254 (149 : Int32).toNatClampNeg 97))))] H := hP
  have hD : va_D A [(h0, .inr (8, fs103)), (q101, .inl (cA 0, 700, .inl f102)), (q104, .inl (cA 0, 153, .inl ((upd f254 (149 : Int32).toNatClampNeg 97))))] := hD
  generalize (upd f254 (149 : Int32).toNatClampNeg 97) = f255 at hP hD
  refine lv_dup hx hb dX8_init_935 rfl ?_
  refine lv_sipush (v := 150) hx hb dX8_init_936 (by decide) ?_
  refine lv_bipush (v := 114) hx hb dX8_init_939 (by decide) ?_
  refine va_iast (i := 150) hx hb hK hP hD hS 2 0 rfl rfl (tq_in (by decide)) dX8_init_941 (fun H locs hP hD hS => ?_)
  have hP : va_P G vwCl [(h0, .inr (8, fs103)), (q101, .inl (cA 0, 700, .inl f102)), (q104, .inl (cA 0, 153, .inl ((upd f255 (150 : Int32).toNatClampNeg 114))))] H := hP
  have hD : va_D A [(h0, .inr (8, fs103)), (q101, .inl (cA 0, 700, .inl f102)), (q104, .inl (cA 0, 153, .inl ((upd f255 (150 : Int32).toNatClampNeg 114))))] := hD
  generalize (upd f255 (150 : Int32).toNatClampNeg 114) = f256 at hP hD
  refine lv_dup hx hb dX8_init_942 rfl ?_
  refine lv_sipush (v := 151) hx hb dX8_init_943 (by decide) ?_
  refine lv_bipush (v := 115) hx hb dX8_init_946 (by decide) ?_
  refine va_iast (i := 151) hx hb hK hP hD hS 2 0 rfl rfl (tq_in (by decide)) dX8_init_948 (fun H locs hP hD hS => ?_)
  have hP : va_P G vwCl [(h0, .inr (8, fs103)), (q101, .inl (cA 0, 700, .inl f102)), (q104, .inl (cA 0, 153, .inl ((upd f256 (151 : Int32).toNatClampNeg 115))))] H := hP
  have hD : va_D A [(h0, .inr (8, fs103)), (q101, .inl (cA 0, 700, .inl f102)), (q104, .inl (cA 0, 153, .inl ((upd f256 (151 : Int32).toNatClampNeg 115))))] := hD
  generalize (upd f256 (151 : Int32).toNatClampNeg 115) = f257 at hP hD
  refine lv_dup hx hb dX8_init_949 rfl ?_
  refine lv_sipush (v := 152) hx hb dX8_init_950 (by decide) ?_
  refine lv_bipush (v := 32) hx hb dX8_init_953 (by decide) ?_
  refine va_iast (i := 152) hx hb hK hP hD hS 2 0 rfl rfl (tq_in (by decide)) dX8_init_955 (fun H locs hP hD hS => ?_)
  have hP : va_P G vwCl [(h0, .inr (8, fs103)), (q101, .inl (cA 0, 700, .inl f102)), (q104, .inl (cA 0, 153, .inl ((upd f257 (152 : Int32).toNatClampNeg 32))))] H := hP
  have hD : va_D A [(h0, .inr (8, fs103)), (q101, .inl (cA 0, 700, .inl f102)), (q104, .inl (cA 0, 153, .inl ((upd f257 (152 : Int32).toNatClampNeg 32))))] := hD
  generalize (upd f257 (152 : Int32).toNatClampNeg 32) = f258 at hP hD
  refine va_putF (D := G) (ci := 8) (v := .ref q104) (ty := (.array .int)) (C := RX8) (T := TX8) (N := 91) hx hb hT ku_8 tyX8 tyX8_ok nmX8 hown hK hP hD hS 0 rfl rfl 3 (by decide) (hT _ kw_9_11) (fun _ h9 => h9) rfl hin rfl (by decide +kernel) rfl rfl (fh_lt hf (by decide)) dX8_init_956 (fun H locs hP hD hS => ?_)
  have hP : va_P G vwCl [(h0, .inr (8, (fs103.set 3 (.ref q104)))), (q101, .inl (cA 0, 700, .inl f102)), (q104, .inl (cA 0, 153, .inl f258))] H := hP
  have hD : va_D A [(h0, .inr (8, (fs103.set 3 (.ref q104)))), (q101, .inl (cA 0, 700, .inl f102)), (q104, .inl (cA 0, 153, .inl f258))] := hD
  have hf := fh_set (l' := [(3, .ref q104), (0, .ref q101), (1, .int 0), (4, .int 0)]) hf 3 (.ref q104) (by decide) rfl
  generalize (fs103.set 3 (.ref q104)) = fs259 at hP hD hf
  exact d_X8_init_s1 h0 fs fs259 q104 q101 f102 f258 hx hb hr hml hT hown hlocks hin hK hN hA hP hD hS hl hf
