set_option maxHeartbeats 4000000 in
set_option maxRecDepth 100000 in
theorem c_X8_go (l : Launch) (G : va_G) (cA : Nat → ClassId) (sz : Nat) (h0 : Nat) (x : Int32) (fs : List Value) (m22 : Nat) (m61 : Nat) (m71 : Nat) (mf22 : Nat → Int32) (mf61 : Nat → Int32) (mf71 : Nat → Int32) (hf : fh fs 91 [(22, .ref m22), (61, .ref m61), (71, .ref m71), (12, .int 0), (13, .int 0), (14, .int 0), (82, .int 0)]) (he61_0 : mf61 0 = 0) : Met l yX8_go (.code yX8_go cX8_go 3 (some .int) :: T0) ({ frames := 2, cells := 0, slots := 0, locals := 46 }) (tqP G cA [.ref h0, .int x] [(h0, .inr (8, fs)), (m22, .inl (cA 0, 6, .inl mf22)), (m61, .inl (cA 0, 2, .inl mf61)), (m71, .inl (cA 0, 10, .inl mf71))] sz) (tqQi G cA (fun (r : Int32) (u : Unit) => r = ((sp_go x))) (fun (u : Unit) => []) (va_A [(h0, .inr (8, fs)), (m22, .inl (cA 0, 6, .inl mf22)), (m61, .inl (cA 0, 2, .inl mf61)), (m71, .inl (cA 0, 10, .inl mf71))] sz)) 0 0 (va_A [(h0, .inr (8, fs)), (m22, .inl (cA 0, 6, .inl mf22)), (m61, .inl (cA 0, 2, .inl mf61)), (m71, .inl (cA 0, 10, .inl mf71))] sz) := by
  refine Met.ofW (cc := cX8_go) (maxL := 3) (ret := (some .int)) (by decide) rfl ?_
  intro p e s m args below meth c s₁ B hml hv
  obtain ⟨rfl, hsz, hP, hK, hD0, hN⟩ := hv
  have hx := B.exec
  have hb := B.bytes
  have hr := B.returns
  have hts := atoms_spec (ws := .code yX8_go cX8_go 3 (some .int) :: T0) B.pre
  have hT : ∀ w ∈ T0, w.before _ s = true := fun w h => hts w (List.mem_cons_of_mem _ h)
  have hown : s.vm.findClass RX8 = some m.cls := findClass_of_methodNamed B.named
  have hlocks := B.notSynchronized
  subst hsz
  have hD := hD0.self (sz := s.heap.size)
  generalize hAe : va_A [(h0, .inr (8, fs)), (m22, .inl (cA 0, 6, .inl mf22)), (m61, .inl (cA 0, 2, .inl mf61)), (m71, .inl (cA 0, 10, .inl mf71))] s.heap.size = A at hD ⊢
  have hA : ∀ q : Nat, s.heap.size ≤ q → A q := fun q h => by rw [← hAe]; exact Or.inr h
  have hS : va_S A s.heap s.heap [] := va_S.rf
  have hl := lv_entry ([.ref h0, .int x]) (n := 3) (Nat.le_of_ble_eq_true rfl)
  rw [lg_entry_eq]
  generalize (lg_sl ([.ref h0, .int x]) ++ List.replicate (3 - (lg_sl ([.ref h0, .int x])).length) Slot.unset).toArray = ls at hl ⊢
  have hl : lv_has ls 3 [(0, .ref h0), (1, .int x)] := hl
  obtain ⟨H, hH⟩ : ∃ z, z = s.heap := ⟨_, rfl⟩
  rw [← hH] at hP
  have hS : va_S A s.heap H [] := by rw [hH]; exact hS
  suffices hgo : W p l e _ s m _ below meth c H [] 0 0 _ _ by rw [hH] at hgo; exact hgo
  have hO := hN.2.2.2.2
  have ho_hf := fo_refl fs
  refine lv_aload_n hx hb dX8_go_0 rfl (lv_at hl 0 rfl) ?_
  refine lv_iconst (v := 0) hx hb dX8_go_1 (by decide) ?_
  refine va_put (D := G) (ci := 8) (v := .int 0) (ty := .int) (C := RX8) (T := TX8) (N := 91) hx hb hT ku_8 tyX8 tyX8_ok nmX8 hown hK hP hD hS 0 rfl rfl 2 (by decide) (hT _ kw_14_0) (fun _ h9 => h9) rfl (by decide +kernel) rfl rfl (fh_lt hf (by decide)) dX8_go_2 (fun H locs hP hD hS => ?_)
  have hP : va_P G vwCl [(h0, .inr (8, (fs.set 2 (.int 0)))), (m22, .inl (cA 0, 6, .inl mf22)), (m61, .inl (cA 0, 2, .inl mf61)), (m71, .inl (cA 0, 10, .inl mf71))] H := hP
  have hD : va_D A [(h0, .inr (8, (fs.set 2 (.int 0)))), (m22, .inl (cA 0, 6, .inl mf22)), (m61, .inl (cA 0, 2, .inl mf61)), (m71, .inl (cA 0, 10, .inl mf71))] := hD
  have hf := fh_set (l' := [(2, .int 0), (22, .ref m22), (61, .ref m61), (71, .ref m71), (12, .int 0), (13, .int 0), (14, .int 0), (82, .int 0)]) hf 2 (.int 0) (by decide) rfl
  have ho102 := fo_set ho_hf 2 (.int 0)
  generalize (fs.set 2 (.int 0)) = fs101 at hP hD hf ho102
  refine lv_iload_n hx hb dX8_go_5 rfl (lv_at hl 1 rfl) ?_
  refine lv_iconst (v := 0) hx hb dX8_go_6 (by decide) ?_
  refine lv_bipush (v := 21) hx hb dX8_go_7 (by decide) ?_
  rcases (show x.toInt < 0 ∨ 21 < x.toInt ∨ (0 ≤ x.toInt ∧ x.toInt ≤ 21) by omega) with k103 | k103 | k103
  · skip
    refine tq_ci (wr := [(h0, .inr (8, fs101)), (m22, .inl (cA 0, 6, .inl mf22)), (m61, .inl (cA 0, 2, .inl mf61)), (m71, .inl (cA 0, 10, .inl mf71))]) hP hD hS hA [] [0, 1, 2, 3] rfl rfl (by decide) (by decide) (va_runS (As := [.int x, .int 0, .int 21]) (rest := []) ⟨hx, hb, hml, hown, hT⟩ (c_X8_isIn_l_021 l G cA H.size x (by omega)) (va_cwS 3 hT (tq_gS kw_24_11 kw_24_12 kw_1_5 kw_24_13) rfl rfl rfl (by decide +kernel) ⟨Nat.le_of_ble_eq_true rfl, Nat.le_of_ble_eq_true rfl⟩) (tq_pre (isC := []) hP hD hK hN rfl (by decide)) rfl rfl hl.1 rfl (lv_room (Nat.le_of_ble_eq_true rfl)) dX8_go_9 ⟨Nat.le_of_ble_eq_true rfl, Nat.le_of_ble_eq_true rfl⟩) (fun r104 u105 H locs hw106 hP hD hS => ?_)
    refine W.widen (k := 0) (n := 0) (Nat.le_of_ble_eq_true rfl) (Nat.le_of_ble_eq_true rfl) ?_
    have hr107 := hw106
    subst hr107
    have hP : va_P G vwCl [(h0, .inr (8, fs101)), (m22, .inl (cA 0, 6, .inl mf22)), (m61, .inl (cA 0, 2, .inl mf61)), (m71, .inl (cA 0, 10, .inl mf71))] H := hP
    have hD : va_D A [(h0, .inr (8, fs101)), (m22, .inl (cA 0, 6, .inl mf22)), (m61, .inl (cA 0, 2, .inl mf61)), (m71, .inl (cA 0, 10, .inl mf71))] := hD
    refine lv_if_eq (tgt := 28) hx hb dX8_go_12 (by decide) (fun c108 => ?_) (fun c108 => absurd (by decide) c108)
    refine lv_iconst (v := (-1)) hx hb dX8_go_28 (by decide) ?_
    have hP9 : va_P G vwCl [] H := fun k q h => by simp at h
    have hD9 : va_D A [] := ⟨fun i j p q h => by simp at h, fun k q h => by simp at h⟩
    exact W.iret (v := (-1)) hx hb hr (fun t ht hW => ⟨⟨(-1), (), rfl, (by unfold sp_go; (repeat' split) <;> first | rfl | (exfalso; omega) | decide), by rw [ht]; exact hP9, hD9⟩, hS.F ht⟩) hS.2.2 dX8_go_29
  · skip
    refine tq_ci (wr := [(h0, .inr (8, fs101)), (m22, .inl (cA 0, 6, .inl mf22)), (m61, .inl (cA 0, 2, .inl mf61)), (m71, .inl (cA 0, 10, .inl mf71))]) hP hD hS hA [] [0, 1, 2, 3] rfl rfl (by decide) (by decide) (va_runS (As := [.int x, .int 0, .int 21]) (rest := []) ⟨hx, hb, hml, hown, hT⟩ (c_X8_isIn_h_021 l G cA H.size x (by omega)) (va_cwS 3 hT (tq_gS kw_24_11 kw_24_12 kw_1_5 kw_24_13) rfl rfl rfl (by decide +kernel) ⟨Nat.le_of_ble_eq_true rfl, Nat.le_of_ble_eq_true rfl⟩) (tq_pre (isC := []) hP hD hK hN rfl (by decide)) rfl rfl hl.1 rfl (lv_room (Nat.le_of_ble_eq_true rfl)) dX8_go_9 ⟨Nat.le_of_ble_eq_true rfl, Nat.le_of_ble_eq_true rfl⟩) (fun r109 u110 H locs hw111 hP hD hS => ?_)
    refine W.widen (k := 0) (n := 0) (Nat.le_of_ble_eq_true rfl) (Nat.le_of_ble_eq_true rfl) ?_
    have hr112 := hw111
    subst hr112
    have hP : va_P G vwCl [(h0, .inr (8, fs101)), (m22, .inl (cA 0, 6, .inl mf22)), (m61, .inl (cA 0, 2, .inl mf61)), (m71, .inl (cA 0, 10, .inl mf71))] H := hP
    have hD : va_D A [(h0, .inr (8, fs101)), (m22, .inl (cA 0, 6, .inl mf22)), (m61, .inl (cA 0, 2, .inl mf61)), (m71, .inl (cA 0, 10, .inl mf71))] := hD
    refine lv_if_eq (tgt := 28) hx hb dX8_go_12 (by decide) (fun c113 => ?_) (fun c113 => absurd (by decide) c113)
    refine lv_iconst (v := (-1)) hx hb dX8_go_28 (by decide) ?_
    have hP9 : va_P G vwCl [] H := fun k q h => by simp at h
    have hD9 : va_D A [] := ⟨fun i j p q h => by simp at h, fun k q h => by simp at h⟩
    exact W.iret (v := (-1)) hx hb hr (fun t ht hW => ⟨⟨(-1), (), rfl, (by unfold sp_go; (repeat' split) <;> first | rfl | (exfalso; omega) | decide), by rw [ht]; exact hP9, hD9⟩, hS.F ht⟩) hS.2.2 dX8_go_29
  · skip
    refine tq_ci (wr := [(h0, .inr (8, fs101)), (m22, .inl (cA 0, 6, .inl mf22)), (m61, .inl (cA 0, 2, .inl mf61)), (m71, .inl (cA 0, 10, .inl mf71))]) hP hD hS hA [] [0, 1, 2, 3] rfl rfl (by decide) (by decide) (va_runS (As := [.int x, .int 0, .int 21]) (rest := []) ⟨hx, hb, hml, hown, hT⟩ (c_X8_isIn_i_021 l G cA H.size x (by omega)) (va_cwS 3 hT (tq_gS kw_24_11 kw_24_12 kw_1_5 kw_24_13) rfl rfl rfl (by decide +kernel) ⟨Nat.le_of_ble_eq_true rfl, Nat.le_of_ble_eq_true rfl⟩) (tq_pre (isC := []) hP hD hK hN rfl (by decide)) rfl rfl hl.1 rfl (lv_room (Nat.le_of_ble_eq_true rfl)) dX8_go_9 ⟨Nat.le_of_ble_eq_true rfl, Nat.le_of_ble_eq_true rfl⟩) (fun r114 u115 H locs hw116 hP hD hS => ?_)
    refine W.widen (k := 0) (n := 0) (Nat.le_of_ble_eq_true rfl) (Nat.le_of_ble_eq_true rfl) ?_
    have hr117 := hw116
    subst hr117
    have hP : va_P G vwCl [(h0, .inr (8, fs101)), (m22, .inl (cA 0, 6, .inl mf22)), (m61, .inl (cA 0, 2, .inl mf61)), (m71, .inl (cA 0, 10, .inl mf71))] H := hP
    have hD : va_D A [(h0, .inr (8, fs101)), (m22, .inl (cA 0, 6, .inl mf22)), (m61, .inl (cA 0, 2, .inl mf61)), (m71, .inl (cA 0, 10, .inl mf71))] := hD
    refine lv_if_eq (tgt := 28) hx hb dX8_go_12 (by decide) (fun c118 => absurd c118 (by decide)) (fun c118 => ?_)
    refine lv_aload_n hx hb dX8_go_15 rfl (lv_at hl 0 rfl) ?_
    refine va_get (D := G) (ci := 8) (v := .ref m61) (C := RX8) (T := TX8) (N := 91) hx hb hT ku_8 hown hK hP 0 rfl rfl 61 (by decide) (hT _ kw_10_22) (fun _ h9 => h9) (fh_at hf 2 rfl) dX8_go_16 ?_
    refine lv_iconst (v := 0) hx hb dX8_go_19 (by decide) ?_
    refine va_iald (i := 0) hx hb hK hP 2 0 rfl rfl (tq_in (by decide)) dX8_go_20 ?_
    refine tq_i (w := 0) he61_0 ?_
    refine lv_iload_n hx hb dX8_go_21 rfl (lv_at hl 1 rfl) ?_
    refine lv_iadd hx hb dX8_go_22 ?_
    refine tq_i (w := x) (Int32.zero_add _) ?_
    refine lv_bipush (v := 21) hx hb dX8_go_23 (by decide) ?_
    refine lv_icmp_le (tgt := 30) hx hb dX8_go_25 (by decide) (fun c119 => ?_) (fun c119 => ?_)
    · have k119 := tq_le (a := x.toInt) (b := 21) rfl (by decide) c119
      refine lv_aload_n hx hb dX8_go_30 rfl (lv_at hl 0 rfl) ?_
      refine tq_cv (wr := [(m61, .inl (cA 0, 2, .inl mf61))]) hP hD hS hA [0, 1, 3] [2] rfl rfl (by decide) (by decide) (va_runV (As := []) (rest := []) ⟨hx, hb, hml, hown, hT⟩ (c_X8_plainTried l G cA H.size h0 fs101 m22 m71 mf22 mf71 (fh_sub hf [1, 3] rfl)) (cwV 0 hT (tq_gV kw_12_22 kw_12_23 kw_13_0 kw_1_5 kw_13_1) rfl rfl rfl (by decide +kernel) ⟨Nat.le_of_ble_eq_true rfl, Nat.le_of_ble_eq_true rfl⟩) ⟨(tq_pre (isC := [0, 1, 3]) hP hD hK hN rfl (by decide)).1, va_recv hK hP (ci := 8) (q0 := 0) rfl rfl, (tq_pre (isC := [0, 1, 3]) hP hD hK hN rfl (by decide)).2⟩ rfl rfl hl.1 rfl (lv_room (Nat.le_of_ble_eq_true rfl)) dX8_go_31 ⟨Nat.le_of_ble_eq_true rfl, Nat.le_of_ble_eq_true rfl⟩) (fun u120 H locs hw121 hP hD hS => ?_)
      refine W.widen (k := 0) (n := 0) (Nat.le_of_ble_eq_true rfl) (Nat.le_of_ble_eq_true rfl) ?_
      obtain ⟨g122, g123⟩ := u120
      obtain ⟨ho124, hf125⟩ := hw121
      try dsimp only at hP hD ho124 hf125
      have hf125 := fh_app (fo_fh (l' := [(2, .int 0), (22, .ref m22), (61, .ref m61), (71, .ref m71), (12, .int 0), (13, .int 0), (14, .int 0), (82, .int 0)]) hf ho124 rfl) hf125
      have ho126 := fo_mono (k2 := [70, 69, 68, 67, 66, 65, 64, 2]) (fo_trans ho102 ho124) (by decide +kernel)
      have hf125 : fh g122 91 [(2, .int 0), (22, .ref m22), (61, .ref m61), (71, .ref m71), (12, .int 0), (13, .int 0), (14, .int 0), (82, .int 0), (70, .int 0), (69, .int 0), (68, .int 0), (67, .int 0), (66, .int 0), (65, .int 0)] := hf125
      have hP : va_P G vwCl [(m61, .inl (cA 0, 2, .inl mf61)), (h0, .inr (8, g122)), (m22, .inl (cA 0, 6, .inl mf22)), (m71, .inl (cA 0, 10, .inl g123))] H := hP
      have hD : va_D A [(m61, .inl (cA 0, 2, .inl mf61)), (h0, .inr (8, g122)), (m22, .inl (cA 0, 6, .inl mf22)), (m71, .inl (cA 0, 10, .inl g123))] := hD
      refine lv_aload_n hx hb dX8_go_34 rfl (lv_at hl 0 rfl) ?_
      refine lv_iconst (v := 1) hx hb dX8_go_35 (by decide) ?_
      refine va_put (D := G) (ci := 8) (v := .int 1) (ty := .boolean) (C := RX8) (T := TX8) (N := 91) hx hb hT ku_8 tyX8 tyX8_ok nmX8 hown hK hP hD hS 1 rfl rfl 65 (by decide) (hT _ kw_13_3) (fun _ h9 => h9) rfl (by decide +kernel) rfl rfl (fh_lt hf125 (by decide)) dX8_go_36 (fun H locs hP hD hS => ?_)
      have hP : va_P G vwCl [(m61, .inl (cA 0, 2, .inl mf61)), (h0, .inr (8, (g122.set 65 (.int 1)))), (m22, .inl (cA 0, 6, .inl mf22)), (m71, .inl (cA 0, 10, .inl g123))] H := hP
      have hD : va_D A [(m61, .inl (cA 0, 2, .inl mf61)), (h0, .inr (8, (g122.set 65 (.int 1)))), (m22, .inl (cA 0, 6, .inl mf22)), (m71, .inl (cA 0, 10, .inl g123))] := hD
      have hf125 := fh_set (l' := [(65, .int 1), (2, .int 0), (22, .ref m22), (61, .ref m61), (71, .ref m71), (12, .int 0), (13, .int 0), (14, .int 0), (82, .int 0), (70, .int 0), (69, .int 0), (68, .int 0), (67, .int 0), (66, .int 0)]) hf125 65 (.int 1) (by decide) rfl
      have ho128 := fo_mono (k2 := [70, 69, 68, 67, 66, 65, 64, 2]) (fo_set ho126 65 (.int 1)) (by decide)
      generalize (g122.set 65 (.int 1)) = fs127 at hP hD hf125 ho128
      refine lv_iconst (v := 0) hx hb dX8_go_39 (by decide) ?_
      refine lv_istore_n (lv' := [(2, .int 0), (0, .ref h0), (1, .int x)]) hx hb dX8_go_40 rfl hl (by decide) rfl (fun ls hl => ?_)
      refine lv_iload_n hx hb dX8_go_41 rfl (lv_at hl 0 rfl) ?_
      refine lv_iload_n hx hb dX8_go_42 rfl (lv_at hl 2 rfl) ?_
      refine lv_icmp_ge (tgt := 57) hx hb dX8_go_43 (by decide) (fun c129 => ?_) (fun c129 => ?_)
      · have k129 := tq_le (a := x.toInt) (b := 0) rfl (by decide) c129
        obtain rfl : x = 0 := tq_is (by rw [show (0 : Int32).toInt = 0 from by decide]; omega)
        refine lv_aload_n hx hb dX8_go_57 rfl (lv_at hl 1 rfl) ?_
        refine lv_iconst (v := 0) hx hb dX8_go_58 (by decide) ?_
        refine va_put (D := G) (ci := 8) (v := .int 0) (ty := .boolean) (C := RX8) (T := TX8) (N := 91) hx hb hT ku_8 tyX8 tyX8_ok nmX8 hown hK hP hD hS 1 rfl rfl 65 (by decide) (hT _ kw_13_3) (fun _ h9 => h9) rfl (by decide +kernel) rfl rfl (fh_lt hf125 (by decide)) dX8_go_59 (fun H locs hP hD hS => ?_)
        have hP : va_P G vwCl [(m61, .inl (cA 0, 2, .inl mf61)), (h0, .inr (8, (fs127.set 65 (.int 0)))), (m22, .inl (cA 0, 6, .inl mf22)), (m71, .inl (cA 0, 10, .inl g123))] H := hP
        have hD : va_D A [(m61, .inl (cA 0, 2, .inl mf61)), (h0, .inr (8, (fs127.set 65 (.int 0)))), (m22, .inl (cA 0, 6, .inl mf22)), (m71, .inl (cA 0, 10, .inl g123))] := hD
        have hf125 := fh_set (l' := [(65, .int 0), (2, .int 0), (22, .ref m22), (61, .ref m61), (71, .ref m71), (12, .int 0), (13, .int 0), (14, .int 0), (82, .int 0), (70, .int 0), (69, .int 0), (68, .int 0), (67, .int 0), (66, .int 0)]) hf125 65 (.int 0) (by decide) rfl
        have ho131 := fo_mono (k2 := [70, 69, 68, 67, 66, 65, 64, 2]) (fo_set ho128 65 (.int 0)) (by decide)
        generalize (fs127.set 65 (.int 0)) = fs130 at hP hD hf125 ho131
        refine lv_aload_n hx hb dX8_go_62 rfl (lv_at hl 1 rfl) ?_
        refine lv_iload_n hx hb dX8_go_63 rfl (lv_at hl 2 rfl) ?_
        refine lv_if_le (tgt := 71) hx hb dX8_go_64 (by decide) (fun c132 => ?_) (fun c132 => absurd (by decide) c132)
        refine lv_aload_n hx hb dX8_go_71 rfl (lv_at hl 1 rfl) ?_
        refine va_get (D := G) (ci := 8) (v := .int 0) (C := RX8) (T := TX8) (N := 91) hx hb hT ku_8 hown hK hP 1 rfl rfl 82 (by decide) (hT _ kw_12_16) (fun _ h9 => h9) (fh_at hf125 8 rfl) dX8_go_72 ?_
        refine va_put (D := G) (ci := 8) (v := .int 0) (ty := .int) (C := RX8) (T := TX8) (N := 91) hx hb hT ku_8 tyX8 tyX8_ok nmX8 hown hK hP hD hS 1 rfl rfl 82 (by decide) (hT _ kw_12_16) (fun _ h9 => h9) rfl (by decide +kernel) rfl rfl (fh_lt hf125 (by decide)) dX8_go_75 (fun H locs hP hD hS => ?_)
        have hP : va_P G vwCl [(m61, .inl (cA 0, 2, .inl mf61)), (h0, .inr (8, (fs130.set 82 (.int 0)))), (m22, .inl (cA 0, 6, .inl mf22)), (m71, .inl (cA 0, 10, .inl g123))] H := hP
        have hD : va_D A [(m61, .inl (cA 0, 2, .inl mf61)), (h0, .inr (8, (fs130.set 82 (.int 0)))), (m22, .inl (cA 0, 6, .inl mf22)), (m71, .inl (cA 0, 10, .inl g123))] := hD
        have hf125 := fh_set (l' := [(82, .int 0), (65, .int 0), (2, .int 0), (22, .ref m22), (61, .ref m61), (71, .ref m71), (12, .int 0), (13, .int 0), (14, .int 0), (70, .int 0), (69, .int 0), (68, .int 0), (67, .int 0), (66, .int 0)]) hf125 82 (.int 0) (by decide) rfl
        have ho134 := fo_set ho131 82 (.int 0)
        generalize (fs130.set 82 (.int 0)) = fs133 at hP hD hf125 ho134
        refine lv_aload_n hx hb dX8_go_78 rfl (lv_at hl 1 rfl) ?_
        refine va_get (D := G) (ci := 8) (v := .ref m61) (C := RX8) (T := TX8) (N := 91) hx hb hT ku_8 hown hK hP 1 rfl rfl 61 (by decide) (hT _ kw_10_22) (fun _ h9 => h9) (fh_at hf125 4 rfl) dX8_go_79 ?_
        refine lv_iconst (v := 0) hx hb dX8_go_82 (by decide) ?_
        refine va_iald (i := 0) hx hb hK hP 0 0 rfl rfl (tq_in (by decide)) dX8_go_83 ?_
        refine tq_i (w := 0) he61_0 ?_
        have hP9 : va_P G vwCl [] H := fun k q h => by simp at h
        have hD9 : va_D A [] := ⟨fun i j p q h => by simp at h, fun k q h => by simp at h⟩
        exact W.iret (v := 0) hx hb hr (fun t ht hW => ⟨⟨0, (), rfl, (by unfold sp_go; (repeat' split) <;> first | rfl | (exfalso; omega) | decide), by rw [ht]; exact hP9, hD9⟩, hS.F ht⟩) hS.2.2 dX8_go_84
      · have k129 := tq_len (a := x.toInt) (b := 0) rfl (by decide) c129
        refine lv_aload_n hx hb dX8_go_46 rfl (lv_at hl 1 rfl) ?_
        refine lv_iconst (v := 0) hx hb dX8_go_47 (by decide) ?_
        refine tq_cv (wr := [(m22, .inl (cA 0, 6, .inl mf22)), (m71, .inl (cA 0, 10, .inl g123))]) hP hD hS hA [1, 0] [2, 3] rfl rfl (by decide) (by decide) (va_runV (As := [.int 0]) (rest := []) ⟨hx, hb, hml, hown, hT⟩ (c_X8_goOn_0_0 l G cA H.size h0 fs127 m61 mf61 (fh_sub hf125 [3, 5, 6, 7] rfl) he61_0) (cwV 1 hT (tq_gV kw_43_18 kw_43_19 kw_43_20 kw_1_5 kw_43_21) rfl rfl rfl (by decide +kernel) ⟨Nat.le_of_ble_eq_true rfl, Nat.le_of_ble_eq_true rfl⟩) ⟨(tq_pre (isC := [1, 0]) hP hD hK hN rfl (by decide)).1, va_recv hK hP (ci := 8) (q0 := 1) rfl rfl, (tq_pre (isC := [1, 0]) hP hD hK hN rfl (by decide)).2⟩ rfl rfl hl.1 rfl (lv_room (Nat.le_of_ble_eq_true rfl)) dX8_go_48 ⟨Nat.le_of_ble_eq_true rfl, Nat.le_of_ble_eq_true rfl⟩) (fun u135 H locs hw136 hP hD hS => ?_)
        refine W.widen (k := 0) (n := 0) (Nat.le_of_ble_eq_true rfl) (Nat.le_of_ble_eq_true rfl) ?_
        obtain ⟨g137, g138⟩ := u135
        obtain ⟨ho139, hf140, hE141⟩ := hw136
        try dsimp only at hP hD ho139 hf140 hE141
        have hf140 := fh_app (fo_fh (l' := [(65, .int 1), (2, .int 0), (22, .ref m22), (61, .ref m61), (71, .ref m71), (12, .int 0), (13, .int 0), (14, .int 0), (82, .int 0), (70, .int 0), (69, .int 0), (68, .int 0), (67, .int 0), (66, .int 0)]) hf125 ho139 rfl) hf140
        have ho142 := fo_mono (k2 := [72, 70, 69, 68, 67, 66, 65, 64, 2]) (fo_trans ho128 ho139) (by decide +kernel)
        have hf140 : fh g137 91 [(65, .int 1), (2, .int 0), (22, .ref m22), (61, .ref m61), (71, .ref m71), (12, .int 0), (13, .int 0), (14, .int 0), (82, .int 0), (70, .int 0), (69, .int 0), (68, .int 0), (67, .int 0), (66, .int 0), (72, .int 0)] := hf140
        have hP : va_P G vwCl [(m22, .inl (cA 0, 6, .inl mf22)), (m71, .inl (cA 0, 10, .inl g123)), (h0, .inr (8, g137)), (m61, .inl (cA 0, 2, .inl g138))] H := hP
        have hD : va_D A [(m22, .inl (cA 0, 6, .inl mf22)), (m71, .inl (cA 0, 10, .inl g123)), (h0, .inr (8, g137)), (m61, .inl (cA 0, 2, .inl g138))] := hD
        refine lv_iinc (v := 1) (lv' := [(2, .int 1), (0, .ref h0), (1, .int x)]) hx hb dX8_go_51 hl (k := 0) rfl (by decide) (by decide) rfl (fun ls hl => ?_)
        refine lv_goto (tgt := 41) hx hb dX8_go_54 (by decide) ?_
        refine lv_iload_n hx hb dX8_go_41 rfl (lv_at hl 0 rfl) ?_
        refine lv_iload_n hx hb dX8_go_42 rfl (lv_at hl 2 rfl) ?_
        refine lv_icmp_ge (tgt := 57) hx hb dX8_go_43 (by decide) (fun c143 => ?_) (fun c143 => ?_)
        · have k143 := tq_le (a := x.toInt) (b := 1) rfl (by decide) c143
          obtain rfl : x = 1 := tq_is (by rw [show (1 : Int32).toInt = 1 from by decide]; omega)
          refine lv_aload_n hx hb dX8_go_57 rfl (lv_at hl 1 rfl) ?_
          refine lv_iconst (v := 0) hx hb dX8_go_58 (by decide) ?_
          refine va_put (D := G) (ci := 8) (v := .int 0) (ty := .boolean) (C := RX8) (T := TX8) (N := 91) hx hb hT ku_8 tyX8 tyX8_ok nmX8 hown hK hP hD hS 2 rfl rfl 65 (by decide) (hT _ kw_13_3) (fun _ h9 => h9) rfl (by decide +kernel) rfl rfl (fh_lt hf140 (by decide)) dX8_go_59 (fun H locs hP hD hS => ?_)
          have hP : va_P G vwCl [(m22, .inl (cA 0, 6, .inl mf22)), (m71, .inl (cA 0, 10, .inl g123)), (h0, .inr (8, (g137.set 65 (.int 0)))), (m61, .inl (cA 0, 2, .inl g138))] H := hP
          have hD : va_D A [(m22, .inl (cA 0, 6, .inl mf22)), (m71, .inl (cA 0, 10, .inl g123)), (h0, .inr (8, (g137.set 65 (.int 0)))), (m61, .inl (cA 0, 2, .inl g138))] := hD
          have hf140 := fh_set (l' := [(65, .int 0), (2, .int 0), (22, .ref m22), (61, .ref m61), (71, .ref m71), (12, .int 0), (13, .int 0), (14, .int 0), (82, .int 0), (70, .int 0), (69, .int 0), (68, .int 0), (67, .int 0), (66, .int 0), (72, .int 0)]) hf140 65 (.int 0) (by decide) rfl
          have ho145 := fo_mono (k2 := [72, 70, 69, 68, 67, 66, 65, 64, 2]) (fo_set ho142 65 (.int 0)) (by decide)
          generalize (g137.set 65 (.int 0)) = fs144 at hP hD hf140 ho145
          refine lv_aload_n hx hb dX8_go_62 rfl (lv_at hl 1 rfl) ?_
          refine lv_iload_n hx hb dX8_go_63 rfl (lv_at hl 2 rfl) ?_
          refine lv_if_le (tgt := 71) hx hb dX8_go_64 (by decide) (fun c146 => absurd c146 (by decide)) (fun c146 => ?_)
          refine lv_iconst (v := 0) hx hb dX8_go_67 (by decide) ?_
          refine lv_goto (tgt := 75) hx hb dX8_go_68 (by decide) ?_
          refine va_put (D := G) (ci := 8) (v := .int 0) (ty := .int) (C := RX8) (T := TX8) (N := 91) hx hb hT ku_8 tyX8 tyX8_ok nmX8 hown hK hP hD hS 2 rfl rfl 82 (by decide) (hT _ kw_12_16) (fun _ h9 => h9) rfl (by decide +kernel) rfl rfl (fh_lt hf140 (by decide)) dX8_go_75 (fun H locs hP hD hS => ?_)
          have hP : va_P G vwCl [(m22, .inl (cA 0, 6, .inl mf22)), (m71, .inl (cA 0, 10, .inl g123)), (h0, .inr (8, (fs144.set 82 (.int 0)))), (m61, .inl (cA 0, 2, .inl g138))] H := hP
          have hD : va_D A [(m22, .inl (cA 0, 6, .inl mf22)), (m71, .inl (cA 0, 10, .inl g123)), (h0, .inr (8, (fs144.set 82 (.int 0)))), (m61, .inl (cA 0, 2, .inl g138))] := hD
          have hf140 := fh_set (l' := [(82, .int 0), (65, .int 0), (2, .int 0), (22, .ref m22), (61, .ref m61), (71, .ref m71), (12, .int 0), (13, .int 0), (14, .int 0), (70, .int 0), (69, .int 0), (68, .int 0), (67, .int 0), (66, .int 0), (72, .int 0)]) hf140 82 (.int 0) (by decide) rfl
          have ho148 := fo_set ho145 82 (.int 0)
          generalize (fs144.set 82 (.int 0)) = fs147 at hP hD hf140 ho148
          refine lv_aload_n hx hb dX8_go_78 rfl (lv_at hl 1 rfl) ?_
          refine va_get (D := G) (ci := 8) (v := .ref m61) (C := RX8) (T := TX8) (N := 91) hx hb hT ku_8 hown hK hP 2 rfl rfl 61 (by decide) (hT _ kw_10_22) (fun _ h9 => h9) (fh_at hf140 4 rfl) dX8_go_79 ?_
          refine lv_iconst (v := 0) hx hb dX8_go_82 (by decide) ?_
          refine va_iald (i := 0) hx hb hK hP 3 0 rfl rfl (tq_in (by decide)) dX8_go_83 ?_
          refine tq_i (w := 1) hE141 ?_
          have hP9 : va_P G vwCl [] H := fun k q h => by simp at h
          have hD9 : va_D A [] := ⟨fun i j p q h => by simp at h, fun k q h => by simp at h⟩
          exact W.iret (v := 1) hx hb hr (fun t ht hW => ⟨⟨1, (), rfl, (by unfold sp_go; (repeat' split) <;> first | rfl | (exfalso; omega) | decide), by rw [ht]; exact hP9, hD9⟩, hS.F ht⟩) hS.2.2 dX8_go_84
        · have k143 := tq_len (a := x.toInt) (b := 1) rfl (by decide) c143
          refine lv_aload_n hx hb dX8_go_46 rfl (lv_at hl 1 rfl) ?_
          refine lv_iconst (v := 0) hx hb dX8_go_47 (by decide) ?_
          refine tq_cv (wr := [(m22, .inl (cA 0, 6, .inl mf22)), (m71, .inl (cA 0, 10, .inl g123))]) hP hD hS hA [2, 3] [0, 1] rfl rfl (by decide) (by decide) (va_runV (As := [.int 0]) (rest := []) ⟨hx, hb, hml, hown, hT⟩ (c_X8_goOn_0_1 l G cA H.size h0 g137 m61 g138 (fh_sub hf140 [3, 5, 6, 7] rfl) hE141) (cwV 1 hT (tq_gV kw_43_18 kw_43_19 kw_43_20 kw_1_5 kw_43_21) rfl rfl rfl (by decide +kernel) ⟨Nat.le_of_ble_eq_true rfl, Nat.le_of_ble_eq_true rfl⟩) ⟨(tq_pre (isC := [2, 3]) hP hD hK hN rfl (by decide)).1, va_recv hK hP (ci := 8) (q0 := 2) rfl rfl, (tq_pre (isC := [2, 3]) hP hD hK hN rfl (by decide)).2⟩ rfl rfl hl.1 rfl (lv_room (Nat.le_of_ble_eq_true rfl)) dX8_go_48 ⟨Nat.le_of_ble_eq_true rfl, Nat.le_of_ble_eq_true rfl⟩) (fun u149 H locs hw150 hP hD hS => ?_)
          refine W.widen (k := 0) (n := 0) (Nat.le_of_ble_eq_true rfl) (Nat.le_of_ble_eq_true rfl) ?_
          obtain ⟨g151, g152⟩ := u149
          obtain ⟨ho153, hf154, hE155⟩ := hw150
          try dsimp only at hP hD ho153 hf154 hE155
          have hf154 := fh_app (fo_fh (l' := [(65, .int 1), (2, .int 0), (22, .ref m22), (61, .ref m61), (71, .ref m71), (12, .int 0), (13, .int 0), (14, .int 0), (82, .int 0), (70, .int 0), (69, .int 0), (68, .int 0), (67, .int 0), (66, .int 0)]) hf140 ho153 rfl) hf154
          have ho156 := fo_mono (k2 := [72, 70, 69, 68, 67, 66, 65, 64, 2]) (fo_trans ho142 ho153) (by decide +kernel)
          have hf154 : fh g151 91 [(65, .int 1), (2, .int 0), (22, .ref m22), (61, .ref m61), (71, .ref m71), (12, .int 0), (13, .int 0), (14, .int 0), (82, .int 0), (70, .int 0), (69, .int 0), (68, .int 0), (67, .int 0), (66, .int 0), (72, .int 0)] := hf154
          have hP : va_P G vwCl [(m22, .inl (cA 0, 6, .inl mf22)), (m71, .inl (cA 0, 10, .inl g123)), (h0, .inr (8, g151)), (m61, .inl (cA 0, 2, .inl g152))] H := hP
          have hD : va_D A [(m22, .inl (cA 0, 6, .inl mf22)), (m71, .inl (cA 0, 10, .inl g123)), (h0, .inr (8, g151)), (m61, .inl (cA 0, 2, .inl g152))] := hD
          refine lv_iinc (v := 2) (lv' := [(2, .int 2), (0, .ref h0), (1, .int x)]) hx hb dX8_go_51 hl (k := 0) rfl (by decide) (by decide) rfl (fun ls hl => ?_)
          refine lv_goto (tgt := 41) hx hb dX8_go_54 (by decide) ?_
          refine lv_iload_n hx hb dX8_go_41 rfl (lv_at hl 0 rfl) ?_
          refine lv_iload_n hx hb dX8_go_42 rfl (lv_at hl 2 rfl) ?_
          refine lv_icmp_ge (tgt := 57) hx hb dX8_go_43 (by decide) (fun c157 => ?_) (fun c157 => ?_)
          · have k157 := tq_le (a := x.toInt) (b := 2) rfl (by decide) c157
            obtain rfl : x = 2 := tq_is (by rw [show (2 : Int32).toInt = 2 from by decide]; omega)
            refine lv_aload_n hx hb dX8_go_57 rfl (lv_at hl 1 rfl) ?_
            refine lv_iconst (v := 0) hx hb dX8_go_58 (by decide) ?_
            refine va_put (D := G) (ci := 8) (v := .int 0) (ty := .boolean) (C := RX8) (T := TX8) (N := 91) hx hb hT ku_8 tyX8 tyX8_ok nmX8 hown hK hP hD hS 2 rfl rfl 65 (by decide) (hT _ kw_13_3) (fun _ h9 => h9) rfl (by decide +kernel) rfl rfl (fh_lt hf154 (by decide)) dX8_go_59 (fun H locs hP hD hS => ?_)
            have hP : va_P G vwCl [(m22, .inl (cA 0, 6, .inl mf22)), (m71, .inl (cA 0, 10, .inl g123)), (h0, .inr (8, (g151.set 65 (.int 0)))), (m61, .inl (cA 0, 2, .inl g152))] H := hP
            have hD : va_D A [(m22, .inl (cA 0, 6, .inl mf22)), (m71, .inl (cA 0, 10, .inl g123)), (h0, .inr (8, (g151.set 65 (.int 0)))), (m61, .inl (cA 0, 2, .inl g152))] := hD
            have hf154 := fh_set (l' := [(65, .int 0), (2, .int 0), (22, .ref m22), (61, .ref m61), (71, .ref m71), (12, .int 0), (13, .int 0), (14, .int 0), (82, .int 0), (70, .int 0), (69, .int 0), (68, .int 0), (67, .int 0), (66, .int 0), (72, .int 0)]) hf154 65 (.int 0) (by decide) rfl
            have ho159 := fo_mono (k2 := [72, 70, 69, 68, 67, 66, 65, 64, 2]) (fo_set ho156 65 (.int 0)) (by decide)
            generalize (g151.set 65 (.int 0)) = fs158 at hP hD hf154 ho159
            refine lv_aload_n hx hb dX8_go_62 rfl (lv_at hl 1 rfl) ?_
            refine lv_iload_n hx hb dX8_go_63 rfl (lv_at hl 2 rfl) ?_
            refine lv_if_le (tgt := 71) hx hb dX8_go_64 (by decide) (fun c160 => absurd c160 (by decide)) (fun c160 => ?_)
            refine lv_iconst (v := 0) hx hb dX8_go_67 (by decide) ?_
            refine lv_goto (tgt := 75) hx hb dX8_go_68 (by decide) ?_
            refine va_put (D := G) (ci := 8) (v := .int 0) (ty := .int) (C := RX8) (T := TX8) (N := 91) hx hb hT ku_8 tyX8 tyX8_ok nmX8 hown hK hP hD hS 2 rfl rfl 82 (by decide) (hT _ kw_12_16) (fun _ h9 => h9) rfl (by decide +kernel) rfl rfl (fh_lt hf154 (by decide)) dX8_go_75 (fun H locs hP hD hS => ?_)
            have hP : va_P G vwCl [(m22, .inl (cA 0, 6, .inl mf22)), (m71, .inl (cA 0, 10, .inl g123)), (h0, .inr (8, (fs158.set 82 (.int 0)))), (m61, .inl (cA 0, 2, .inl g152))] H := hP
            have hD : va_D A [(m22, .inl (cA 0, 6, .inl mf22)), (m71, .inl (cA 0, 10, .inl g123)), (h0, .inr (8, (fs158.set 82 (.int 0)))), (m61, .inl (cA 0, 2, .inl g152))] := hD
            have hf154 := fh_set (l' := [(82, .int 0), (65, .int 0), (2, .int 0), (22, .ref m22), (61, .ref m61), (71, .ref m71), (12, .int 0), (13, .int 0), (14, .int 0), (70, .int 0), (69, .int 0), (68, .int 0), (67, .int 0), (66, .int 0), (72, .int 0)]) hf154 82 (.int 0) (by decide) rfl
            have ho162 := fo_set ho159 82 (.int 0)
            generalize (fs158.set 82 (.int 0)) = fs161 at hP hD hf154 ho162
            refine lv_aload_n hx hb dX8_go_78 rfl (lv_at hl 1 rfl) ?_
            refine va_get (D := G) (ci := 8) (v := .ref m61) (C := RX8) (T := TX8) (N := 91) hx hb hT ku_8 hown hK hP 2 rfl rfl 61 (by decide) (hT _ kw_10_22) (fun _ h9 => h9) (fh_at hf154 4 rfl) dX8_go_79 ?_
            refine lv_iconst (v := 0) hx hb dX8_go_82 (by decide) ?_
            refine va_iald (i := 0) hx hb hK hP 3 0 rfl rfl (tq_in (by decide)) dX8_go_83 ?_
            refine tq_i (w := 2) hE155 ?_
            have hP9 : va_P G vwCl [] H := fun k q h => by simp at h
            have hD9 : va_D A [] := ⟨fun i j p q h => by simp at h, fun k q h => by simp at h⟩
            exact W.iret (v := 2) hx hb hr (fun t ht hW => ⟨⟨2, (), rfl, (by unfold sp_go; (repeat' split) <;> first | rfl | (exfalso; omega) | decide), by rw [ht]; exact hP9, hD9⟩, hS.F ht⟩) hS.2.2 dX8_go_84
          · have k157 := tq_len (a := x.toInt) (b := 2) rfl (by decide) c157
            refine lv_aload_n hx hb dX8_go_46 rfl (lv_at hl 1 rfl) ?_
            refine lv_iconst (v := 0) hx hb dX8_go_47 (by decide) ?_
            refine tq_cv (wr := [(m22, .inl (cA 0, 6, .inl mf22)), (m71, .inl (cA 0, 10, .inl g123))]) hP hD hS hA [2, 3] [0, 1] rfl rfl (by decide) (by decide) (va_runV (As := [.int 0]) (rest := []) ⟨hx, hb, hml, hown, hT⟩ (c_X8_goOn_0_2 l G cA H.size h0 g151 m61 g152 (fh_sub hf154 [3, 5, 6, 7] rfl) hE155) (cwV 1 hT (tq_gV kw_43_18 kw_43_19 kw_43_20 kw_1_5 kw_43_21) rfl rfl rfl (by decide +kernel) ⟨Nat.le_of_ble_eq_true rfl, Nat.le_of_ble_eq_true rfl⟩) ⟨(tq_pre (isC := [2, 3]) hP hD hK hN rfl (by decide)).1, va_recv hK hP (ci := 8) (q0 := 2) rfl rfl, (tq_pre (isC := [2, 3]) hP hD hK hN rfl (by decide)).2⟩ rfl rfl hl.1 rfl (lv_room (Nat.le_of_ble_eq_true rfl)) dX8_go_48 ⟨Nat.le_of_ble_eq_true rfl, Nat.le_of_ble_eq_true rfl⟩) (fun u163 H locs hw164 hP hD hS => ?_)
            refine W.widen (k := 0) (n := 0) (Nat.le_of_ble_eq_true rfl) (Nat.le_of_ble_eq_true rfl) ?_
            obtain ⟨g165, g166⟩ := u163
            obtain ⟨ho167, hf168, hE169⟩ := hw164
            try dsimp only at hP hD ho167 hf168 hE169
            have hf168 := fh_app (fo_fh (l' := [(65, .int 1), (2, .int 0), (22, .ref m22), (61, .ref m61), (71, .ref m71), (12, .int 0), (13, .int 0), (14, .int 0), (82, .int 0), (70, .int 0), (69, .int 0), (68, .int 0), (67, .int 0), (66, .int 0)]) hf154 ho167 rfl) hf168
            have ho170 := fo_mono (k2 := [72, 70, 69, 68, 67, 66, 65, 64, 2]) (fo_trans ho156 ho167) (by decide +kernel)
            have hf168 : fh g165 91 [(65, .int 1), (2, .int 0), (22, .ref m22), (61, .ref m61), (71, .ref m71), (12, .int 0), (13, .int 0), (14, .int 0), (82, .int 0), (70, .int 0), (69, .int 0), (68, .int 0), (67, .int 0), (66, .int 0), (72, .int 0)] := hf168
            have hP : va_P G vwCl [(m22, .inl (cA 0, 6, .inl mf22)), (m71, .inl (cA 0, 10, .inl g123)), (h0, .inr (8, g165)), (m61, .inl (cA 0, 2, .inl g166))] H := hP
            have hD : va_D A [(m22, .inl (cA 0, 6, .inl mf22)), (m71, .inl (cA 0, 10, .inl g123)), (h0, .inr (8, g165)), (m61, .inl (cA 0, 2, .inl g166))] := hD
            refine lv_iinc (v := 3) (lv' := [(2, .int 3), (0, .ref h0), (1, .int x)]) hx hb dX8_go_51 hl (k := 0) rfl (by decide) (by decide) rfl (fun ls hl => ?_)
            refine lv_goto (tgt := 41) hx hb dX8_go_54 (by decide) ?_
            refine lv_iload_n hx hb dX8_go_41 rfl (lv_at hl 0 rfl) ?_
            refine lv_iload_n hx hb dX8_go_42 rfl (lv_at hl 2 rfl) ?_
            refine lv_icmp_ge (tgt := 57) hx hb dX8_go_43 (by decide) (fun c171 => ?_) (fun c171 => ?_)
            · have k171 := tq_le (a := x.toInt) (b := 3) rfl (by decide) c171
              obtain rfl : x = 3 := tq_is (by rw [show (3 : Int32).toInt = 3 from by decide]; omega)
              refine lv_aload_n hx hb dX8_go_57 rfl (lv_at hl 1 rfl) ?_
              refine lv_iconst (v := 0) hx hb dX8_go_58 (by decide) ?_
              refine va_put (D := G) (ci := 8) (v := .int 0) (ty := .boolean) (C := RX8) (T := TX8) (N := 91) hx hb hT ku_8 tyX8 tyX8_ok nmX8 hown hK hP hD hS 2 rfl rfl 65 (by decide) (hT _ kw_13_3) (fun _ h9 => h9) rfl (by decide +kernel) rfl rfl (fh_lt hf168 (by decide)) dX8_go_59 (fun H locs hP hD hS => ?_)
              have hP : va_P G vwCl [(m22, .inl (cA 0, 6, .inl mf22)), (m71, .inl (cA 0, 10, .inl g123)), (h0, .inr (8, (g165.set 65 (.int 0)))), (m61, .inl (cA 0, 2, .inl g166))] H := hP
              have hD : va_D A [(m22, .inl (cA 0, 6, .inl mf22)), (m71, .inl (cA 0, 10, .inl g123)), (h0, .inr (8, (g165.set 65 (.int 0)))), (m61, .inl (cA 0, 2, .inl g166))] := hD
              have hf168 := fh_set (l' := [(65, .int 0), (2, .int 0), (22, .ref m22), (61, .ref m61), (71, .ref m71), (12, .int 0), (13, .int 0), (14, .int 0), (82, .int 0), (70, .int 0), (69, .int 0), (68, .int 0), (67, .int 0), (66, .int 0), (72, .int 0)]) hf168 65 (.int 0) (by decide) rfl
              have ho173 := fo_mono (k2 := [72, 70, 69, 68, 67, 66, 65, 64, 2]) (fo_set ho170 65 (.int 0)) (by decide)
              generalize (g165.set 65 (.int 0)) = fs172 at hP hD hf168 ho173
              refine lv_aload_n hx hb dX8_go_62 rfl (lv_at hl 1 rfl) ?_
              refine lv_iload_n hx hb dX8_go_63 rfl (lv_at hl 2 rfl) ?_
              refine lv_if_le (tgt := 71) hx hb dX8_go_64 (by decide) (fun c174 => absurd c174 (by decide)) (fun c174 => ?_)
              refine lv_iconst (v := 0) hx hb dX8_go_67 (by decide) ?_
              refine lv_goto (tgt := 75) hx hb dX8_go_68 (by decide) ?_
              refine va_put (D := G) (ci := 8) (v := .int 0) (ty := .int) (C := RX8) (T := TX8) (N := 91) hx hb hT ku_8 tyX8 tyX8_ok nmX8 hown hK hP hD hS 2 rfl rfl 82 (by decide) (hT _ kw_12_16) (fun _ h9 => h9) rfl (by decide +kernel) rfl rfl (fh_lt hf168 (by decide)) dX8_go_75 (fun H locs hP hD hS => ?_)
              have hP : va_P G vwCl [(m22, .inl (cA 0, 6, .inl mf22)), (m71, .inl (cA 0, 10, .inl g123)), (h0, .inr (8, (fs172.set 82 (.int 0)))), (m61, .inl (cA 0, 2, .inl g166))] H := hP
              have hD : va_D A [(m22, .inl (cA 0, 6, .inl mf22)), (m71, .inl (cA 0, 10, .inl g123)), (h0, .inr (8, (fs172.set 82 (.int 0)))), (m61, .inl (cA 0, 2, .inl g166))] := hD
              have hf168 := fh_set (l' := [(82, .int 0), (65, .int 0), (2, .int 0), (22, .ref m22), (61, .ref m61), (71, .ref m71), (12, .int 0), (13, .int 0), (14, .int 0), (70, .int 0), (69, .int 0), (68, .int 0), (67, .int 0), (66, .int 0), (72, .int 0)]) hf168 82 (.int 0) (by decide) rfl
              have ho176 := fo_set ho173 82 (.int 0)
              generalize (fs172.set 82 (.int 0)) = fs175 at hP hD hf168 ho176
              refine lv_aload_n hx hb dX8_go_78 rfl (lv_at hl 1 rfl) ?_
              refine va_get (D := G) (ci := 8) (v := .ref m61) (C := RX8) (T := TX8) (N := 91) hx hb hT ku_8 hown hK hP 2 rfl rfl 61 (by decide) (hT _ kw_10_22) (fun _ h9 => h9) (fh_at hf168 4 rfl) dX8_go_79 ?_
              refine lv_iconst (v := 0) hx hb dX8_go_82 (by decide) ?_
              refine va_iald (i := 0) hx hb hK hP 3 0 rfl rfl (tq_in (by decide)) dX8_go_83 ?_
              refine tq_i (w := 3) hE169 ?_
              have hP9 : va_P G vwCl [] H := fun k q h => by simp at h
              have hD9 : va_D A [] := ⟨fun i j p q h => by simp at h, fun k q h => by simp at h⟩
              exact W.iret (v := 3) hx hb hr (fun t ht hW => ⟨⟨3, (), rfl, (by unfold sp_go; (repeat' split) <;> first | rfl | (exfalso; omega) | decide), by rw [ht]; exact hP9, hD9⟩, hS.F ht⟩) hS.2.2 dX8_go_84
            · have k171 := tq_len (a := x.toInt) (b := 3) rfl (by decide) c171
              refine lv_aload_n hx hb dX8_go_46 rfl (lv_at hl 1 rfl) ?_
              refine lv_iconst (v := 0) hx hb dX8_go_47 (by decide) ?_
              refine tq_cv (wr := [(m22, .inl (cA 0, 6, .inl mf22)), (m71, .inl (cA 0, 10, .inl g123))]) hP hD hS hA [2, 3] [0, 1] rfl rfl (by decide) (by decide) (va_runV (As := [.int 0]) (rest := []) ⟨hx, hb, hml, hown, hT⟩ (c_X8_goOn_0_3 l G cA H.size h0 g165 m61 g166 (fh_sub hf168 [3, 5, 6, 7] rfl) hE169) (cwV 1 hT (tq_gV kw_43_18 kw_43_19 kw_43_20 kw_1_5 kw_43_21) rfl rfl rfl (by decide +kernel) ⟨Nat.le_of_ble_eq_true rfl, Nat.le_of_ble_eq_true rfl⟩) ⟨(tq_pre (isC := [2, 3]) hP hD hK hN rfl (by decide)).1, va_recv hK hP (ci := 8) (q0 := 2) rfl rfl, (tq_pre (isC := [2, 3]) hP hD hK hN rfl (by decide)).2⟩ rfl rfl hl.1 rfl (lv_room (Nat.le_of_ble_eq_true rfl)) dX8_go_48 ⟨Nat.le_of_ble_eq_true rfl, Nat.le_of_ble_eq_true rfl⟩) (fun u177 H locs hw178 hP hD hS => ?_)
              refine W.widen (k := 0) (n := 0) (Nat.le_of_ble_eq_true rfl) (Nat.le_of_ble_eq_true rfl) ?_
              obtain ⟨g179, g180⟩ := u177
              obtain ⟨ho181, hf182, hE183⟩ := hw178
              try dsimp only at hP hD ho181 hf182 hE183
              have hf182 := fh_app (fo_fh (l' := [(65, .int 1), (2, .int 0), (22, .ref m22), (61, .ref m61), (71, .ref m71), (12, .int 0), (13, .int 0), (14, .int 0), (82, .int 0), (70, .int 0), (69, .int 0), (68, .int 0), (67, .int 0), (66, .int 0)]) hf168 ho181 rfl) hf182
              have ho184 := fo_mono (k2 := [72, 70, 69, 68, 67, 66, 65, 64, 2]) (fo_trans ho170 ho181) (by decide +kernel)
              have hf182 : fh g179 91 [(65, .int 1), (2, .int 0), (22, .ref m22), (61, .ref m61), (71, .ref m71), (12, .int 0), (13, .int 0), (14, .int 0), (82, .int 0), (70, .int 0), (69, .int 0), (68, .int 0), (67, .int 0), (66, .int 0), (72, .int 0)] := hf182
              have hP : va_P G vwCl [(m22, .inl (cA 0, 6, .inl mf22)), (m71, .inl (cA 0, 10, .inl g123)), (h0, .inr (8, g179)), (m61, .inl (cA 0, 2, .inl g180))] H := hP
              have hD : va_D A [(m22, .inl (cA 0, 6, .inl mf22)), (m71, .inl (cA 0, 10, .inl g123)), (h0, .inr (8, g179)), (m61, .inl (cA 0, 2, .inl g180))] := hD
              refine lv_iinc (v := 4) (lv' := [(2, .int 4), (0, .ref h0), (1, .int x)]) hx hb dX8_go_51 hl (k := 0) rfl (by decide) (by decide) rfl (fun ls hl => ?_)
              refine lv_goto (tgt := 41) hx hb dX8_go_54 (by decide) ?_
              refine lv_iload_n hx hb dX8_go_41 rfl (lv_at hl 0 rfl) ?_
              refine lv_iload_n hx hb dX8_go_42 rfl (lv_at hl 2 rfl) ?_
              refine lv_icmp_ge (tgt := 57) hx hb dX8_go_43 (by decide) (fun c185 => ?_) (fun c185 => ?_)
              · have k185 := tq_le (a := x.toInt) (b := 4) rfl (by decide) c185
                obtain rfl : x = 4 := tq_is (by rw [show (4 : Int32).toInt = 4 from by decide]; omega)
                refine lv_aload_n hx hb dX8_go_57 rfl (lv_at hl 1 rfl) ?_
                refine lv_iconst (v := 0) hx hb dX8_go_58 (by decide) ?_
                refine va_put (D := G) (ci := 8) (v := .int 0) (ty := .boolean) (C := RX8) (T := TX8) (N := 91) hx hb hT ku_8 tyX8 tyX8_ok nmX8 hown hK hP hD hS 2 rfl rfl 65 (by decide) (hT _ kw_13_3) (fun _ h9 => h9) rfl (by decide +kernel) rfl rfl (fh_lt hf182 (by decide)) dX8_go_59 (fun H locs hP hD hS => ?_)
                have hP : va_P G vwCl [(m22, .inl (cA 0, 6, .inl mf22)), (m71, .inl (cA 0, 10, .inl g123)), (h0, .inr (8, (g179.set 65 (.int 0)))), (m61, .inl (cA 0, 2, .inl g180))] H := hP
                have hD : va_D A [(m22, .inl (cA 0, 6, .inl mf22)), (m71, .inl (cA 0, 10, .inl g123)), (h0, .inr (8, (g179.set 65 (.int 0)))), (m61, .inl (cA 0, 2, .inl g180))] := hD
                have hf182 := fh_set (l' := [(65, .int 0), (2, .int 0), (22, .ref m22), (61, .ref m61), (71, .ref m71), (12, .int 0), (13, .int 0), (14, .int 0), (82, .int 0), (70, .int 0), (69, .int 0), (68, .int 0), (67, .int 0), (66, .int 0), (72, .int 0)]) hf182 65 (.int 0) (by decide) rfl
                have ho187 := fo_mono (k2 := [72, 70, 69, 68, 67, 66, 65, 64, 2]) (fo_set ho184 65 (.int 0)) (by decide)
                generalize (g179.set 65 (.int 0)) = fs186 at hP hD hf182 ho187
                refine lv_aload_n hx hb dX8_go_62 rfl (lv_at hl 1 rfl) ?_
                refine lv_iload_n hx hb dX8_go_63 rfl (lv_at hl 2 rfl) ?_
                refine lv_if_le (tgt := 71) hx hb dX8_go_64 (by decide) (fun c188 => absurd c188 (by decide)) (fun c188 => ?_)
                refine lv_iconst (v := 0) hx hb dX8_go_67 (by decide) ?_
                refine lv_goto (tgt := 75) hx hb dX8_go_68 (by decide) ?_
                refine va_put (D := G) (ci := 8) (v := .int 0) (ty := .int) (C := RX8) (T := TX8) (N := 91) hx hb hT ku_8 tyX8 tyX8_ok nmX8 hown hK hP hD hS 2 rfl rfl 82 (by decide) (hT _ kw_12_16) (fun _ h9 => h9) rfl (by decide +kernel) rfl rfl (fh_lt hf182 (by decide)) dX8_go_75 (fun H locs hP hD hS => ?_)
                have hP : va_P G vwCl [(m22, .inl (cA 0, 6, .inl mf22)), (m71, .inl (cA 0, 10, .inl g123)), (h0, .inr (8, (fs186.set 82 (.int 0)))), (m61, .inl (cA 0, 2, .inl g180))] H := hP
                have hD : va_D A [(m22, .inl (cA 0, 6, .inl mf22)), (m71, .inl (cA 0, 10, .inl g123)), (h0, .inr (8, (fs186.set 82 (.int 0)))), (m61, .inl (cA 0, 2, .inl g180))] := hD
                have hf182 := fh_set (l' := [(82, .int 0), (65, .int 0), (2, .int 0), (22, .ref m22), (61, .ref m61), (71, .ref m71), (12, .int 0), (13, .int 0), (14, .int 0), (70, .int 0), (69, .int 0), (68, .int 0), (67, .int 0), (66, .int 0), (72, .int 0)]) hf182 82 (.int 0) (by decide) rfl
                have ho190 := fo_set ho187 82 (.int 0)
                generalize (fs186.set 82 (.int 0)) = fs189 at hP hD hf182 ho190
                refine lv_aload_n hx hb dX8_go_78 rfl (lv_at hl 1 rfl) ?_
                refine va_get (D := G) (ci := 8) (v := .ref m61) (C := RX8) (T := TX8) (N := 91) hx hb hT ku_8 hown hK hP 2 rfl rfl 61 (by decide) (hT _ kw_10_22) (fun _ h9 => h9) (fh_at hf182 4 rfl) dX8_go_79 ?_
                refine lv_iconst (v := 0) hx hb dX8_go_82 (by decide) ?_
                refine va_iald (i := 0) hx hb hK hP 3 0 rfl rfl (tq_in (by decide)) dX8_go_83 ?_
                refine tq_i (w := 4) hE183 ?_
                have hP9 : va_P G vwCl [] H := fun k q h => by simp at h
                have hD9 : va_D A [] := ⟨fun i j p q h => by simp at h, fun k q h => by simp at h⟩
                exact W.iret (v := 4) hx hb hr (fun t ht hW => ⟨⟨4, (), rfl, (by unfold sp_go; (repeat' split) <;> first | rfl | (exfalso; omega) | decide), by rw [ht]; exact hP9, hD9⟩, hS.F ht⟩) hS.2.2 dX8_go_84
              · have k185 := tq_len (a := x.toInt) (b := 4) rfl (by decide) c185
                refine lv_aload_n hx hb dX8_go_46 rfl (lv_at hl 1 rfl) ?_
                refine lv_iconst (v := 0) hx hb dX8_go_47 (by decide) ?_
                refine tq_cv (wr := [(m22, .inl (cA 0, 6, .inl mf22)), (m71, .inl (cA 0, 10, .inl g123))]) hP hD hS hA [2, 3] [0, 1] rfl rfl (by decide) (by decide) (va_runV (As := [.int 0]) (rest := []) ⟨hx, hb, hml, hown, hT⟩ (c_X8_goOn_0_4 l G cA H.size h0 g179 m61 g180 (fh_sub hf182 [3, 5, 6, 7] rfl) hE183) (cwV 1 hT (tq_gV kw_43_18 kw_43_19 kw_43_20 kw_1_5 kw_43_21) rfl rfl rfl (by decide +kernel) ⟨Nat.le_of_ble_eq_true rfl, Nat.le_of_ble_eq_true rfl⟩) ⟨(tq_pre (isC := [2, 3]) hP hD hK hN rfl (by decide)).1, va_recv hK hP (ci := 8) (q0 := 2) rfl rfl, (tq_pre (isC := [2, 3]) hP hD hK hN rfl (by decide)).2⟩ rfl rfl hl.1 rfl (lv_room (Nat.le_of_ble_eq_true rfl)) dX8_go_48 ⟨Nat.le_of_ble_eq_true rfl, Nat.le_of_ble_eq_true rfl⟩) (fun u191 H locs hw192 hP hD hS => ?_)
                refine W.widen (k := 0) (n := 0) (Nat.le_of_ble_eq_true rfl) (Nat.le_of_ble_eq_true rfl) ?_
                obtain ⟨g193, g194⟩ := u191
                obtain ⟨ho195, hf196, hE197⟩ := hw192
                try dsimp only at hP hD ho195 hf196 hE197
                have hf196 := fh_app (fo_fh (l' := [(65, .int 1), (2, .int 0), (22, .ref m22), (61, .ref m61), (71, .ref m71), (12, .int 0), (13, .int 0), (14, .int 0), (82, .int 0), (70, .int 0), (69, .int 0), (68, .int 0), (67, .int 0), (66, .int 0)]) hf182 ho195 rfl) hf196
                have ho198 := fo_mono (k2 := [72, 70, 69, 68, 67, 66, 65, 64, 2]) (fo_trans ho184 ho195) (by decide +kernel)
                have hf196 : fh g193 91 [(65, .int 1), (2, .int 0), (22, .ref m22), (61, .ref m61), (71, .ref m71), (12, .int 0), (13, .int 0), (14, .int 0), (82, .int 0), (70, .int 0), (69, .int 0), (68, .int 0), (67, .int 0), (66, .int 0), (72, .int 0)] := hf196
                have hP : va_P G vwCl [(m22, .inl (cA 0, 6, .inl mf22)), (m71, .inl (cA 0, 10, .inl g123)), (h0, .inr (8, g193)), (m61, .inl (cA 0, 2, .inl g194))] H := hP
                have hD : va_D A [(m22, .inl (cA 0, 6, .inl mf22)), (m71, .inl (cA 0, 10, .inl g123)), (h0, .inr (8, g193)), (m61, .inl (cA 0, 2, .inl g194))] := hD
                refine lv_iinc (v := 5) (lv' := [(2, .int 5), (0, .ref h0), (1, .int x)]) hx hb dX8_go_51 hl (k := 0) rfl (by decide) (by decide) rfl (fun ls hl => ?_)
                refine lv_goto (tgt := 41) hx hb dX8_go_54 (by decide) ?_
                refine lv_iload_n hx hb dX8_go_41 rfl (lv_at hl 0 rfl) ?_
                refine lv_iload_n hx hb dX8_go_42 rfl (lv_at hl 2 rfl) ?_
                refine lv_icmp_ge (tgt := 57) hx hb dX8_go_43 (by decide) (fun c199 => ?_) (fun c199 => ?_)
                · have k199 := tq_le (a := x.toInt) (b := 5) rfl (by decide) c199
                  obtain rfl : x = 5 := tq_is (by rw [show (5 : Int32).toInt = 5 from by decide]; omega)
                  refine lv_aload_n hx hb dX8_go_57 rfl (lv_at hl 1 rfl) ?_
                  refine lv_iconst (v := 0) hx hb dX8_go_58 (by decide) ?_
                  refine va_put (D := G) (ci := 8) (v := .int 0) (ty := .boolean) (C := RX8) (T := TX8) (N := 91) hx hb hT ku_8 tyX8 tyX8_ok nmX8 hown hK hP hD hS 2 rfl rfl 65 (by decide) (hT _ kw_13_3) (fun _ h9 => h9) rfl (by decide +kernel) rfl rfl (fh_lt hf196 (by decide)) dX8_go_59 (fun H locs hP hD hS => ?_)
                  have hP : va_P G vwCl [(m22, .inl (cA 0, 6, .inl mf22)), (m71, .inl (cA 0, 10, .inl g123)), (h0, .inr (8, (g193.set 65 (.int 0)))), (m61, .inl (cA 0, 2, .inl g194))] H := hP
                  have hD : va_D A [(m22, .inl (cA 0, 6, .inl mf22)), (m71, .inl (cA 0, 10, .inl g123)), (h0, .inr (8, (g193.set 65 (.int 0)))), (m61, .inl (cA 0, 2, .inl g194))] := hD
                  have hf196 := fh_set (l' := [(65, .int 0), (2, .int 0), (22, .ref m22), (61, .ref m61), (71, .ref m71), (12, .int 0), (13, .int 0), (14, .int 0), (82, .int 0), (70, .int 0), (69, .int 0), (68, .int 0), (67, .int 0), (66, .int 0), (72, .int 0)]) hf196 65 (.int 0) (by decide) rfl
                  have ho201 := fo_mono (k2 := [72, 70, 69, 68, 67, 66, 65, 64, 2]) (fo_set ho198 65 (.int 0)) (by decide)
                  generalize (g193.set 65 (.int 0)) = fs200 at hP hD hf196 ho201
                  refine lv_aload_n hx hb dX8_go_62 rfl (lv_at hl 1 rfl) ?_
                  refine lv_iload_n hx hb dX8_go_63 rfl (lv_at hl 2 rfl) ?_
                  refine lv_if_le (tgt := 71) hx hb dX8_go_64 (by decide) (fun c202 => absurd c202 (by decide)) (fun c202 => ?_)
                  refine lv_iconst (v := 0) hx hb dX8_go_67 (by decide) ?_
                  refine lv_goto (tgt := 75) hx hb dX8_go_68 (by decide) ?_
                  refine va_put (D := G) (ci := 8) (v := .int 0) (ty := .int) (C := RX8) (T := TX8) (N := 91) hx hb hT ku_8 tyX8 tyX8_ok nmX8 hown hK hP hD hS 2 rfl rfl 82 (by decide) (hT _ kw_12_16) (fun _ h9 => h9) rfl (by decide +kernel) rfl rfl (fh_lt hf196 (by decide)) dX8_go_75 (fun H locs hP hD hS => ?_)
                  have hP : va_P G vwCl [(m22, .inl (cA 0, 6, .inl mf22)), (m71, .inl (cA 0, 10, .inl g123)), (h0, .inr (8, (fs200.set 82 (.int 0)))), (m61, .inl (cA 0, 2, .inl g194))] H := hP
                  have hD : va_D A [(m22, .inl (cA 0, 6, .inl mf22)), (m71, .inl (cA 0, 10, .inl g123)), (h0, .inr (8, (fs200.set 82 (.int 0)))), (m61, .inl (cA 0, 2, .inl g194))] := hD
                  have hf196 := fh_set (l' := [(82, .int 0), (65, .int 0), (2, .int 0), (22, .ref m22), (61, .ref m61), (71, .ref m71), (12, .int 0), (13, .int 0), (14, .int 0), (70, .int 0), (69, .int 0), (68, .int 0), (67, .int 0), (66, .int 0), (72, .int 0)]) hf196 82 (.int 0) (by decide) rfl
                  have ho204 := fo_set ho201 82 (.int 0)
                  generalize (fs200.set 82 (.int 0)) = fs203 at hP hD hf196 ho204
                  refine lv_aload_n hx hb dX8_go_78 rfl (lv_at hl 1 rfl) ?_
                  refine va_get (D := G) (ci := 8) (v := .ref m61) (C := RX8) (T := TX8) (N := 91) hx hb hT ku_8 hown hK hP 2 rfl rfl 61 (by decide) (hT _ kw_10_22) (fun _ h9 => h9) (fh_at hf196 4 rfl) dX8_go_79 ?_
                  refine lv_iconst (v := 0) hx hb dX8_go_82 (by decide) ?_
                  refine va_iald (i := 0) hx hb hK hP 3 0 rfl rfl (tq_in (by decide)) dX8_go_83 ?_
                  refine tq_i (w := 5) hE197 ?_
                  have hP9 : va_P G vwCl [] H := fun k q h => by simp at h
                  have hD9 : va_D A [] := ⟨fun i j p q h => by simp at h, fun k q h => by simp at h⟩
                  exact W.iret (v := 5) hx hb hr (fun t ht hW => ⟨⟨5, (), rfl, (by unfold sp_go; (repeat' split) <;> first | rfl | (exfalso; omega) | decide), by rw [ht]; exact hP9, hD9⟩, hS.F ht⟩) hS.2.2 dX8_go_84
                · have k199 := tq_len (a := x.toInt) (b := 5) rfl (by decide) c199
                  refine lv_aload_n hx hb dX8_go_46 rfl (lv_at hl 1 rfl) ?_
                  refine lv_iconst (v := 0) hx hb dX8_go_47 (by decide) ?_
                  refine tq_cv (wr := [(m22, .inl (cA 0, 6, .inl mf22)), (m71, .inl (cA 0, 10, .inl g123))]) hP hD hS hA [2, 3] [0, 1] rfl rfl (by decide) (by decide) (va_runV (As := [.int 0]) (rest := []) ⟨hx, hb, hml, hown, hT⟩ (c_X8_goOn_0_5 l G cA H.size h0 g193 m61 g194 (fh_sub hf196 [3, 5, 6, 7] rfl) hE197) (cwV 1 hT (tq_gV kw_43_18 kw_43_19 kw_43_20 kw_1_5 kw_43_21) rfl rfl rfl (by decide +kernel) ⟨Nat.le_of_ble_eq_true rfl, Nat.le_of_ble_eq_true rfl⟩) ⟨(tq_pre (isC := [2, 3]) hP hD hK hN rfl (by decide)).1, va_recv hK hP (ci := 8) (q0 := 2) rfl rfl, (tq_pre (isC := [2, 3]) hP hD hK hN rfl (by decide)).2⟩ rfl rfl hl.1 rfl (lv_room (Nat.le_of_ble_eq_true rfl)) dX8_go_48 ⟨Nat.le_of_ble_eq_true rfl, Nat.le_of_ble_eq_true rfl⟩) (fun u205 H locs hw206 hP hD hS => ?_)
                  refine W.widen (k := 0) (n := 0) (Nat.le_of_ble_eq_true rfl) (Nat.le_of_ble_eq_true rfl) ?_
                  obtain ⟨g207, g208⟩ := u205
                  obtain ⟨ho209, hf210, hE211⟩ := hw206
                  try dsimp only at hP hD ho209 hf210 hE211
                  have hf210 := fh_app (fo_fh (l' := [(65, .int 1), (2, .int 0), (22, .ref m22), (61, .ref m61), (71, .ref m71), (12, .int 0), (13, .int 0), (14, .int 0), (82, .int 0), (70, .int 0), (69, .int 0), (68, .int 0), (67, .int 0), (66, .int 0)]) hf196 ho209 rfl) hf210
                  have ho212 := fo_mono (k2 := [72, 70, 69, 68, 67, 66, 65, 64, 2]) (fo_trans ho198 ho209) (by decide +kernel)
                  have hf210 : fh g207 91 [(65, .int 1), (2, .int 0), (22, .ref m22), (61, .ref m61), (71, .ref m71), (12, .int 0), (13, .int 0), (14, .int 0), (82, .int 0), (70, .int 0), (69, .int 0), (68, .int 0), (67, .int 0), (66, .int 0), (72, .int 0)] := hf210
                  have hP : va_P G vwCl [(m22, .inl (cA 0, 6, .inl mf22)), (m71, .inl (cA 0, 10, .inl g123)), (h0, .inr (8, g207)), (m61, .inl (cA 0, 2, .inl g208))] H := hP
                  have hD : va_D A [(m22, .inl (cA 0, 6, .inl mf22)), (m71, .inl (cA 0, 10, .inl g123)), (h0, .inr (8, g207)), (m61, .inl (cA 0, 2, .inl g208))] := hD
                  refine lv_iinc (v := 6) (lv' := [(2, .int 6), (0, .ref h0), (1, .int x)]) hx hb dX8_go_51 hl (k := 0) rfl (by decide) (by decide) rfl (fun ls hl => ?_)
                  refine lv_goto (tgt := 41) hx hb dX8_go_54 (by decide) ?_
                  refine lv_iload_n hx hb dX8_go_41 rfl (lv_at hl 0 rfl) ?_
                  refine lv_iload_n hx hb dX8_go_42 rfl (lv_at hl 2 rfl) ?_
                  refine lv_icmp_ge (tgt := 57) hx hb dX8_go_43 (by decide) (fun c213 => ?_) (fun c213 => ?_)
                  · have k213 := tq_le (a := x.toInt) (b := 6) rfl (by decide) c213
                    obtain rfl : x = 6 := tq_is (by rw [show (6 : Int32).toInt = 6 from by decide]; omega)
                    refine lv_aload_n hx hb dX8_go_57 rfl (lv_at hl 1 rfl) ?_
                    refine lv_iconst (v := 0) hx hb dX8_go_58 (by decide) ?_
                    refine va_put (D := G) (ci := 8) (v := .int 0) (ty := .boolean) (C := RX8) (T := TX8) (N := 91) hx hb hT ku_8 tyX8 tyX8_ok nmX8 hown hK hP hD hS 2 rfl rfl 65 (by decide) (hT _ kw_13_3) (fun _ h9 => h9) rfl (by decide +kernel) rfl rfl (fh_lt hf210 (by decide)) dX8_go_59 (fun H locs hP hD hS => ?_)
                    have hP : va_P G vwCl [(m22, .inl (cA 0, 6, .inl mf22)), (m71, .inl (cA 0, 10, .inl g123)), (h0, .inr (8, (g207.set 65 (.int 0)))), (m61, .inl (cA 0, 2, .inl g208))] H := hP
                    have hD : va_D A [(m22, .inl (cA 0, 6, .inl mf22)), (m71, .inl (cA 0, 10, .inl g123)), (h0, .inr (8, (g207.set 65 (.int 0)))), (m61, .inl (cA 0, 2, .inl g208))] := hD
                    have hf210 := fh_set (l' := [(65, .int 0), (2, .int 0), (22, .ref m22), (61, .ref m61), (71, .ref m71), (12, .int 0), (13, .int 0), (14, .int 0), (82, .int 0), (70, .int 0), (69, .int 0), (68, .int 0), (67, .int 0), (66, .int 0), (72, .int 0)]) hf210 65 (.int 0) (by decide) rfl
                    have ho215 := fo_mono (k2 := [72, 70, 69, 68, 67, 66, 65, 64, 2]) (fo_set ho212 65 (.int 0)) (by decide)
                    generalize (g207.set 65 (.int 0)) = fs214 at hP hD hf210 ho215
                    refine lv_aload_n hx hb dX8_go_62 rfl (lv_at hl 1 rfl) ?_
                    refine lv_iload_n hx hb dX8_go_63 rfl (lv_at hl 2 rfl) ?_
                    refine lv_if_le (tgt := 71) hx hb dX8_go_64 (by decide) (fun c216 => absurd c216 (by decide)) (fun c216 => ?_)
                    refine lv_iconst (v := 0) hx hb dX8_go_67 (by decide) ?_
                    refine lv_goto (tgt := 75) hx hb dX8_go_68 (by decide) ?_
                    refine va_put (D := G) (ci := 8) (v := .int 0) (ty := .int) (C := RX8) (T := TX8) (N := 91) hx hb hT ku_8 tyX8 tyX8_ok nmX8 hown hK hP hD hS 2 rfl rfl 82 (by decide) (hT _ kw_12_16) (fun _ h9 => h9) rfl (by decide +kernel) rfl rfl (fh_lt hf210 (by decide)) dX8_go_75 (fun H locs hP hD hS => ?_)
                    have hP : va_P G vwCl [(m22, .inl (cA 0, 6, .inl mf22)), (m71, .inl (cA 0, 10, .inl g123)), (h0, .inr (8, (fs214.set 82 (.int 0)))), (m61, .inl (cA 0, 2, .inl g208))] H := hP
                    have hD : va_D A [(m22, .inl (cA 0, 6, .inl mf22)), (m71, .inl (cA 0, 10, .inl g123)), (h0, .inr (8, (fs214.set 82 (.int 0)))), (m61, .inl (cA 0, 2, .inl g208))] := hD
                    have hf210 := fh_set (l' := [(82, .int 0), (65, .int 0), (2, .int 0), (22, .ref m22), (61, .ref m61), (71, .ref m71), (12, .int 0), (13, .int 0), (14, .int 0), (70, .int 0), (69, .int 0), (68, .int 0), (67, .int 0), (66, .int 0), (72, .int 0)]) hf210 82 (.int 0) (by decide) rfl
                    have ho218 := fo_set ho215 82 (.int 0)
                    generalize (fs214.set 82 (.int 0)) = fs217 at hP hD hf210 ho218
                    refine lv_aload_n hx hb dX8_go_78 rfl (lv_at hl 1 rfl) ?_
                    refine va_get (D := G) (ci := 8) (v := .ref m61) (C := RX8) (T := TX8) (N := 91) hx hb hT ku_8 hown hK hP 2 rfl rfl 61 (by decide) (hT _ kw_10_22) (fun _ h9 => h9) (fh_at hf210 4 rfl) dX8_go_79 ?_
                    refine lv_iconst (v := 0) hx hb dX8_go_82 (by decide) ?_
                    refine va_iald (i := 0) hx hb hK hP 3 0 rfl rfl (tq_in (by decide)) dX8_go_83 ?_
                    refine tq_i (w := 6) hE211 ?_
                    have hP9 : va_P G vwCl [] H := fun k q h => by simp at h
                    have hD9 : va_D A [] := ⟨fun i j p q h => by simp at h, fun k q h => by simp at h⟩
                    exact W.iret (v := 6) hx hb hr (fun t ht hW => ⟨⟨6, (), rfl, (by unfold sp_go; (repeat' split) <;> first | rfl | (exfalso; omega) | decide), by rw [ht]; exact hP9, hD9⟩, hS.F ht⟩) hS.2.2 dX8_go_84
                  · have k213 := tq_len (a := x.toInt) (b := 6) rfl (by decide) c213
                    refine lv_aload_n hx hb dX8_go_46 rfl (lv_at hl 1 rfl) ?_
                    refine lv_iconst (v := 0) hx hb dX8_go_47 (by decide) ?_
                    refine tq_cv (wr := [(m22, .inl (cA 0, 6, .inl mf22)), (m71, .inl (cA 0, 10, .inl g123))]) hP hD hS hA [2, 3] [0, 1] rfl rfl (by decide) (by decide) (va_runV (As := [.int 0]) (rest := []) ⟨hx, hb, hml, hown, hT⟩ (c_X8_goOn_0_6 l G cA H.size h0 g207 m61 g208 (fh_sub hf210 [3, 5, 6, 7] rfl) hE211) (cwV 1 hT (tq_gV kw_43_18 kw_43_19 kw_43_20 kw_1_5 kw_43_21) rfl rfl rfl (by decide +kernel) ⟨Nat.le_of_ble_eq_true rfl, Nat.le_of_ble_eq_true rfl⟩) ⟨(tq_pre (isC := [2, 3]) hP hD hK hN rfl (by decide)).1, va_recv hK hP (ci := 8) (q0 := 2) rfl rfl, (tq_pre (isC := [2, 3]) hP hD hK hN rfl (by decide)).2⟩ rfl rfl hl.1 rfl (lv_room (Nat.le_of_ble_eq_true rfl)) dX8_go_48 ⟨Nat.le_of_ble_eq_true rfl, Nat.le_of_ble_eq_true rfl⟩) (fun u219 H locs hw220 hP hD hS => ?_)
                    refine W.widen (k := 0) (n := 0) (Nat.le_of_ble_eq_true rfl) (Nat.le_of_ble_eq_true rfl) ?_
                    obtain ⟨g221, g222⟩ := u219
                    obtain ⟨ho223, hf224, hE225⟩ := hw220
                    try dsimp only at hP hD ho223 hf224 hE225
                    have hf224 := fh_app (fo_fh (l' := [(65, .int 1), (2, .int 0), (22, .ref m22), (61, .ref m61), (71, .ref m71), (12, .int 0), (13, .int 0), (14, .int 0), (82, .int 0), (70, .int 0), (69, .int 0), (68, .int 0), (67, .int 0), (66, .int 0)]) hf210 ho223 rfl) hf224
                    have ho226 := fo_mono (k2 := [72, 70, 69, 68, 67, 66, 65, 64, 2]) (fo_trans ho212 ho223) (by decide +kernel)
                    have hf224 : fh g221 91 [(65, .int 1), (2, .int 0), (22, .ref m22), (61, .ref m61), (71, .ref m71), (12, .int 0), (13, .int 0), (14, .int 0), (82, .int 0), (70, .int 0), (69, .int 0), (68, .int 0), (67, .int 0), (66, .int 0), (72, .int 0)] := hf224
                    have hP : va_P G vwCl [(m22, .inl (cA 0, 6, .inl mf22)), (m71, .inl (cA 0, 10, .inl g123)), (h0, .inr (8, g221)), (m61, .inl (cA 0, 2, .inl g222))] H := hP
                    have hD : va_D A [(m22, .inl (cA 0, 6, .inl mf22)), (m71, .inl (cA 0, 10, .inl g123)), (h0, .inr (8, g221)), (m61, .inl (cA 0, 2, .inl g222))] := hD
                    refine lv_iinc (v := 7) (lv' := [(2, .int 7), (0, .ref h0), (1, .int x)]) hx hb dX8_go_51 hl (k := 0) rfl (by decide) (by decide) rfl (fun ls hl => ?_)
                    refine lv_goto (tgt := 41) hx hb dX8_go_54 (by decide) ?_
                    refine lv_iload_n hx hb dX8_go_41 rfl (lv_at hl 0 rfl) ?_
                    refine lv_iload_n hx hb dX8_go_42 rfl (lv_at hl 2 rfl) ?_
                    refine lv_icmp_ge (tgt := 57) hx hb dX8_go_43 (by decide) (fun c227 => ?_) (fun c227 => ?_)
                    · have k227 := tq_le (a := x.toInt) (b := 7) rfl (by decide) c227
                      obtain rfl : x = 7 := tq_is (by rw [show (7 : Int32).toInt = 7 from by decide]; omega)
                      refine lv_aload_n hx hb dX8_go_57 rfl (lv_at hl 1 rfl) ?_
                      refine lv_iconst (v := 0) hx hb dX8_go_58 (by decide) ?_
                      refine va_put (D := G) (ci := 8) (v := .int 0) (ty := .boolean) (C := RX8) (T := TX8) (N := 91) hx hb hT ku_8 tyX8 tyX8_ok nmX8 hown hK hP hD hS 2 rfl rfl 65 (by decide) (hT _ kw_13_3) (fun _ h9 => h9) rfl (by decide +kernel) rfl rfl (fh_lt hf224 (by decide)) dX8_go_59 (fun H locs hP hD hS => ?_)
                      have hP : va_P G vwCl [(m22, .inl (cA 0, 6, .inl mf22)), (m71, .inl (cA 0, 10, .inl g123)), (h0, .inr (8, (g221.set 65 (.int 0)))), (m61, .inl (cA 0, 2, .inl g222))] H := hP
                      have hD : va_D A [(m22, .inl (cA 0, 6, .inl mf22)), (m71, .inl (cA 0, 10, .inl g123)), (h0, .inr (8, (g221.set 65 (.int 0)))), (m61, .inl (cA 0, 2, .inl g222))] := hD
                      have hf224 := fh_set (l' := [(65, .int 0), (2, .int 0), (22, .ref m22), (61, .ref m61), (71, .ref m71), (12, .int 0), (13, .int 0), (14, .int 0), (82, .int 0), (70, .int 0), (69, .int 0), (68, .int 0), (67, .int 0), (66, .int 0), (72, .int 0)]) hf224 65 (.int 0) (by decide) rfl
                      have ho229 := fo_mono (k2 := [72, 70, 69, 68, 67, 66, 65, 64, 2]) (fo_set ho226 65 (.int 0)) (by decide)
                      generalize (g221.set 65 (.int 0)) = fs228 at hP hD hf224 ho229
                      refine lv_aload_n hx hb dX8_go_62 rfl (lv_at hl 1 rfl) ?_
                      refine lv_iload_n hx hb dX8_go_63 rfl (lv_at hl 2 rfl) ?_
                      refine lv_if_le (tgt := 71) hx hb dX8_go_64 (by decide) (fun c230 => absurd c230 (by decide)) (fun c230 => ?_)
                      refine lv_iconst (v := 0) hx hb dX8_go_67 (by decide) ?_
                      refine lv_goto (tgt := 75) hx hb dX8_go_68 (by decide) ?_
                      refine va_put (D := G) (ci := 8) (v := .int 0) (ty := .int) (C := RX8) (T := TX8) (N := 91) hx hb hT ku_8 tyX8 tyX8_ok nmX8 hown hK hP hD hS 2 rfl rfl 82 (by decide) (hT _ kw_12_16) (fun _ h9 => h9) rfl (by decide +kernel) rfl rfl (fh_lt hf224 (by decide)) dX8_go_75 (fun H locs hP hD hS => ?_)
                      have hP : va_P G vwCl [(m22, .inl (cA 0, 6, .inl mf22)), (m71, .inl (cA 0, 10, .inl g123)), (h0, .inr (8, (fs228.set 82 (.int 0)))), (m61, .inl (cA 0, 2, .inl g222))] H := hP
                      have hD : va_D A [(m22, .inl (cA 0, 6, .inl mf22)), (m71, .inl (cA 0, 10, .inl g123)), (h0, .inr (8, (fs228.set 82 (.int 0)))), (m61, .inl (cA 0, 2, .inl g222))] := hD
                      have hf224 := fh_set (l' := [(82, .int 0), (65, .int 0), (2, .int 0), (22, .ref m22), (61, .ref m61), (71, .ref m71), (12, .int 0), (13, .int 0), (14, .int 0), (70, .int 0), (69, .int 0), (68, .int 0), (67, .int 0), (66, .int 0), (72, .int 0)]) hf224 82 (.int 0) (by decide) rfl
                      have ho232 := fo_set ho229 82 (.int 0)
                      generalize (fs228.set 82 (.int 0)) = fs231 at hP hD hf224 ho232
                      refine lv_aload_n hx hb dX8_go_78 rfl (lv_at hl 1 rfl) ?_
                      refine va_get (D := G) (ci := 8) (v := .ref m61) (C := RX8) (T := TX8) (N := 91) hx hb hT ku_8 hown hK hP 2 rfl rfl 61 (by decide) (hT _ kw_10_22) (fun _ h9 => h9) (fh_at hf224 4 rfl) dX8_go_79 ?_
                      refine lv_iconst (v := 0) hx hb dX8_go_82 (by decide) ?_
                      refine va_iald (i := 0) hx hb hK hP 3 0 rfl rfl (tq_in (by decide)) dX8_go_83 ?_
                      refine tq_i (w := 7) hE225 ?_
                      have hP9 : va_P G vwCl [] H := fun k q h => by simp at h
                      have hD9 : va_D A [] := ⟨fun i j p q h => by simp at h, fun k q h => by simp at h⟩
                      exact W.iret (v := 7) hx hb hr (fun t ht hW => ⟨⟨7, (), rfl, (by unfold sp_go; (repeat' split) <;> first | rfl | (exfalso; omega) | decide), by rw [ht]; exact hP9, hD9⟩, hS.F ht⟩) hS.2.2 dX8_go_84
                    · have k227 := tq_len (a := x.toInt) (b := 7) rfl (by decide) c227
                      refine lv_aload_n hx hb dX8_go_46 rfl (lv_at hl 1 rfl) ?_
                      refine lv_iconst (v := 0) hx hb dX8_go_47 (by decide) ?_
                      refine tq_cv (wr := [(m22, .inl (cA 0, 6, .inl mf22)), (m71, .inl (cA 0, 10, .inl g123))]) hP hD hS hA [2, 3] [0, 1] rfl rfl (by decide) (by decide) (va_runV (As := [.int 0]) (rest := []) ⟨hx, hb, hml, hown, hT⟩ (c_X8_goOn_0_7 l G cA H.size h0 g221 m61 g222 (fh_sub hf224 [3, 5, 6, 7] rfl) hE225) (cwV 1 hT (tq_gV kw_43_18 kw_43_19 kw_43_20 kw_1_5 kw_43_21) rfl rfl rfl (by decide +kernel) ⟨Nat.le_of_ble_eq_true rfl, Nat.le_of_ble_eq_true rfl⟩) ⟨(tq_pre (isC := [2, 3]) hP hD hK hN rfl (by decide)).1, va_recv hK hP (ci := 8) (q0 := 2) rfl rfl, (tq_pre (isC := [2, 3]) hP hD hK hN rfl (by decide)).2⟩ rfl rfl hl.1 rfl (lv_room (Nat.le_of_ble_eq_true rfl)) dX8_go_48 ⟨Nat.le_of_ble_eq_true rfl, Nat.le_of_ble_eq_true rfl⟩) (fun u233 H locs hw234 hP hD hS => ?_)
                      refine W.widen (k := 0) (n := 0) (Nat.le_of_ble_eq_true rfl) (Nat.le_of_ble_eq_true rfl) ?_
                      obtain ⟨g235, g236⟩ := u233
                      obtain ⟨ho237, hf238, hE239⟩ := hw234
                      try dsimp only at hP hD ho237 hf238 hE239
                      have hf238 := fh_app (fo_fh (l' := [(65, .int 1), (2, .int 0), (22, .ref m22), (61, .ref m61), (71, .ref m71), (12, .int 0), (13, .int 0), (14, .int 0), (82, .int 0), (70, .int 0), (69, .int 0), (68, .int 0), (67, .int 0), (66, .int 0)]) hf224 ho237 rfl) hf238
                      have ho240 := fo_mono (k2 := [72, 70, 69, 68, 67, 66, 65, 64, 2]) (fo_trans ho226 ho237) (by decide +kernel)
                      have hf238 : fh g235 91 [(65, .int 1), (2, .int 0), (22, .ref m22), (61, .ref m61), (71, .ref m71), (12, .int 0), (13, .int 0), (14, .int 0), (82, .int 0), (70, .int 0), (69, .int 0), (68, .int 0), (67, .int 0), (66, .int 0), (72, .int 0)] := hf238
                      have hP : va_P G vwCl [(m22, .inl (cA 0, 6, .inl mf22)), (m71, .inl (cA 0, 10, .inl g123)), (h0, .inr (8, g235)), (m61, .inl (cA 0, 2, .inl g236))] H := hP
                      have hD : va_D A [(m22, .inl (cA 0, 6, .inl mf22)), (m71, .inl (cA 0, 10, .inl g123)), (h0, .inr (8, g235)), (m61, .inl (cA 0, 2, .inl g236))] := hD
                      refine lv_iinc (v := 8) (lv' := [(2, .int 8), (0, .ref h0), (1, .int x)]) hx hb dX8_go_51 hl (k := 0) rfl (by decide) (by decide) rfl (fun ls hl => ?_)
                      refine lv_goto (tgt := 41) hx hb dX8_go_54 (by decide) ?_
                      refine lv_iload_n hx hb dX8_go_41 rfl (lv_at hl 0 rfl) ?_
                      refine lv_iload_n hx hb dX8_go_42 rfl (lv_at hl 2 rfl) ?_
                      refine lv_icmp_ge (tgt := 57) hx hb dX8_go_43 (by decide) (fun c241 => ?_) (fun c241 => ?_)
                      · have k241 := tq_le (a := x.toInt) (b := 8) rfl (by decide) c241
                        obtain rfl : x = 8 := tq_is (by rw [show (8 : Int32).toInt = 8 from by decide]; omega)
                        refine lv_aload_n hx hb dX8_go_57 rfl (lv_at hl 1 rfl) ?_
                        refine lv_iconst (v := 0) hx hb dX8_go_58 (by decide) ?_
                        refine va_put (D := G) (ci := 8) (v := .int 0) (ty := .boolean) (C := RX8) (T := TX8) (N := 91) hx hb hT ku_8 tyX8 tyX8_ok nmX8 hown hK hP hD hS 2 rfl rfl 65 (by decide) (hT _ kw_13_3) (fun _ h9 => h9) rfl (by decide +kernel) rfl rfl (fh_lt hf238 (by decide)) dX8_go_59 (fun H locs hP hD hS => ?_)
                        have hP : va_P G vwCl [(m22, .inl (cA 0, 6, .inl mf22)), (m71, .inl (cA 0, 10, .inl g123)), (h0, .inr (8, (g235.set 65 (.int 0)))), (m61, .inl (cA 0, 2, .inl g236))] H := hP
                        have hD : va_D A [(m22, .inl (cA 0, 6, .inl mf22)), (m71, .inl (cA 0, 10, .inl g123)), (h0, .inr (8, (g235.set 65 (.int 0)))), (m61, .inl (cA 0, 2, .inl g236))] := hD
                        have hf238 := fh_set (l' := [(65, .int 0), (2, .int 0), (22, .ref m22), (61, .ref m61), (71, .ref m71), (12, .int 0), (13, .int 0), (14, .int 0), (82, .int 0), (70, .int 0), (69, .int 0), (68, .int 0), (67, .int 0), (66, .int 0), (72, .int 0)]) hf238 65 (.int 0) (by decide) rfl
                        have ho243 := fo_mono (k2 := [72, 70, 69, 68, 67, 66, 65, 64, 2]) (fo_set ho240 65 (.int 0)) (by decide)
                        generalize (g235.set 65 (.int 0)) = fs242 at hP hD hf238 ho243
                        refine lv_aload_n hx hb dX8_go_62 rfl (lv_at hl 1 rfl) ?_
                        refine lv_iload_n hx hb dX8_go_63 rfl (lv_at hl 2 rfl) ?_
                        refine lv_if_le (tgt := 71) hx hb dX8_go_64 (by decide) (fun c244 => absurd c244 (by decide)) (fun c244 => ?_)
                        refine lv_iconst (v := 0) hx hb dX8_go_67 (by decide) ?_
                        refine lv_goto (tgt := 75) hx hb dX8_go_68 (by decide) ?_
                        refine va_put (D := G) (ci := 8) (v := .int 0) (ty := .int) (C := RX8) (T := TX8) (N := 91) hx hb hT ku_8 tyX8 tyX8_ok nmX8 hown hK hP hD hS 2 rfl rfl 82 (by decide) (hT _ kw_12_16) (fun _ h9 => h9) rfl (by decide +kernel) rfl rfl (fh_lt hf238 (by decide)) dX8_go_75 (fun H locs hP hD hS => ?_)
                        have hP : va_P G vwCl [(m22, .inl (cA 0, 6, .inl mf22)), (m71, .inl (cA 0, 10, .inl g123)), (h0, .inr (8, (fs242.set 82 (.int 0)))), (m61, .inl (cA 0, 2, .inl g236))] H := hP
                        have hD : va_D A [(m22, .inl (cA 0, 6, .inl mf22)), (m71, .inl (cA 0, 10, .inl g123)), (h0, .inr (8, (fs242.set 82 (.int 0)))), (m61, .inl (cA 0, 2, .inl g236))] := hD
                        have hf238 := fh_set (l' := [(82, .int 0), (65, .int 0), (2, .int 0), (22, .ref m22), (61, .ref m61), (71, .ref m71), (12, .int 0), (13, .int 0), (14, .int 0), (70, .int 0), (69, .int 0), (68, .int 0), (67, .int 0), (66, .int 0), (72, .int 0)]) hf238 82 (.int 0) (by decide) rfl
                        have ho246 := fo_set ho243 82 (.int 0)
                        generalize (fs242.set 82 (.int 0)) = fs245 at hP hD hf238 ho246
                        refine lv_aload_n hx hb dX8_go_78 rfl (lv_at hl 1 rfl) ?_
                        refine va_get (D := G) (ci := 8) (v := .ref m61) (C := RX8) (T := TX8) (N := 91) hx hb hT ku_8 hown hK hP 2 rfl rfl 61 (by decide) (hT _ kw_10_22) (fun _ h9 => h9) (fh_at hf238 4 rfl) dX8_go_79 ?_
                        refine lv_iconst (v := 0) hx hb dX8_go_82 (by decide) ?_
                        refine va_iald (i := 0) hx hb hK hP 3 0 rfl rfl (tq_in (by decide)) dX8_go_83 ?_
                        refine tq_i (w := 8) hE239 ?_
                        have hP9 : va_P G vwCl [] H := fun k q h => by simp at h
                        have hD9 : va_D A [] := ⟨fun i j p q h => by simp at h, fun k q h => by simp at h⟩
                        exact W.iret (v := 8) hx hb hr (fun t ht hW => ⟨⟨8, (), rfl, (by unfold sp_go; (repeat' split) <;> first | rfl | (exfalso; omega) | decide), by rw [ht]; exact hP9, hD9⟩, hS.F ht⟩) hS.2.2 dX8_go_84
                      · have k241 := tq_len (a := x.toInt) (b := 8) rfl (by decide) c241
                        refine lv_aload_n hx hb dX8_go_46 rfl (lv_at hl 1 rfl) ?_
                        refine lv_iconst (v := 0) hx hb dX8_go_47 (by decide) ?_
                        refine tq_cv (wr := [(m22, .inl (cA 0, 6, .inl mf22)), (m71, .inl (cA 0, 10, .inl g123))]) hP hD hS hA [2, 3] [0, 1] rfl rfl (by decide) (by decide) (va_runV (As := [.int 0]) (rest := []) ⟨hx, hb, hml, hown, hT⟩ (c_X8_goOn_0_8 l G cA H.size h0 g235 m61 g236 (fh_sub hf238 [3, 5, 6, 7] rfl) hE239) (cwV 1 hT (tq_gV kw_43_18 kw_43_19 kw_43_20 kw_1_5 kw_43_21) rfl rfl rfl (by decide +kernel) ⟨Nat.le_of_ble_eq_true rfl, Nat.le_of_ble_eq_true rfl⟩) ⟨(tq_pre (isC := [2, 3]) hP hD hK hN rfl (by decide)).1, va_recv hK hP (ci := 8) (q0 := 2) rfl rfl, (tq_pre (isC := [2, 3]) hP hD hK hN rfl (by decide)).2⟩ rfl rfl hl.1 rfl (lv_room (Nat.le_of_ble_eq_true rfl)) dX8_go_48 ⟨Nat.le_of_ble_eq_true rfl, Nat.le_of_ble_eq_true rfl⟩) (fun u247 H locs hw248 hP hD hS => ?_)
                        refine W.widen (k := 0) (n := 0) (Nat.le_of_ble_eq_true rfl) (Nat.le_of_ble_eq_true rfl) ?_
                        obtain ⟨g249, g250⟩ := u247
                        obtain ⟨ho251, hf252, hE253⟩ := hw248
                        try dsimp only at hP hD ho251 hf252 hE253
                        have hf252 := fh_app (fo_fh (l' := [(65, .int 1), (2, .int 0), (22, .ref m22), (61, .ref m61), (71, .ref m71), (12, .int 0), (13, .int 0), (14, .int 0), (82, .int 0), (70, .int 0), (69, .int 0), (68, .int 0), (67, .int 0), (66, .int 0)]) hf238 ho251 rfl) hf252
                        have ho254 := fo_mono (k2 := [72, 70, 69, 68, 67, 66, 65, 64, 2]) (fo_trans ho240 ho251) (by decide +kernel)
                        have hf252 : fh g249 91 [(65, .int 1), (2, .int 0), (22, .ref m22), (61, .ref m61), (71, .ref m71), (12, .int 0), (13, .int 0), (14, .int 0), (82, .int 0), (70, .int 0), (69, .int 0), (68, .int 0), (67, .int 0), (66, .int 0), (72, .int 0)] := hf252
                        have hP : va_P G vwCl [(m22, .inl (cA 0, 6, .inl mf22)), (m71, .inl (cA 0, 10, .inl g123)), (h0, .inr (8, g249)), (m61, .inl (cA 0, 2, .inl g250))] H := hP
                        have hD : va_D A [(m22, .inl (cA 0, 6, .inl mf22)), (m71, .inl (cA 0, 10, .inl g123)), (h0, .inr (8, g249)), (m61, .inl (cA 0, 2, .inl g250))] := hD
                        refine lv_iinc (v := 9) (lv' := [(2, .int 9), (0, .ref h0), (1, .int x)]) hx hb dX8_go_51 hl (k := 0) rfl (by decide) (by decide) rfl (fun ls hl => ?_)
                        refine lv_goto (tgt := 41) hx hb dX8_go_54 (by decide) ?_
                        refine lv_iload_n hx hb dX8_go_41 rfl (lv_at hl 0 rfl) ?_
                        refine lv_iload_n hx hb dX8_go_42 rfl (lv_at hl 2 rfl) ?_
                        refine lv_icmp_ge (tgt := 57) hx hb dX8_go_43 (by decide) (fun c255 => ?_) (fun c255 => ?_)
                        · have k255 := tq_le (a := x.toInt) (b := 9) rfl (by decide) c255
                          obtain rfl : x = 9 := tq_is (by rw [show (9 : Int32).toInt = 9 from by decide]; omega)
                          refine lv_aload_n hx hb dX8_go_57 rfl (lv_at hl 1 rfl) ?_
                          refine lv_iconst (v := 0) hx hb dX8_go_58 (by decide) ?_
                          refine va_put (D := G) (ci := 8) (v := .int 0) (ty := .boolean) (C := RX8) (T := TX8) (N := 91) hx hb hT ku_8 tyX8 tyX8_ok nmX8 hown hK hP hD hS 2 rfl rfl 65 (by decide) (hT _ kw_13_3) (fun _ h9 => h9) rfl (by decide +kernel) rfl rfl (fh_lt hf252 (by decide)) dX8_go_59 (fun H locs hP hD hS => ?_)
                          have hP : va_P G vwCl [(m22, .inl (cA 0, 6, .inl mf22)), (m71, .inl (cA 0, 10, .inl g123)), (h0, .inr (8, (g249.set 65 (.int 0)))), (m61, .inl (cA 0, 2, .inl g250))] H := hP
                          have hD : va_D A [(m22, .inl (cA 0, 6, .inl mf22)), (m71, .inl (cA 0, 10, .inl g123)), (h0, .inr (8, (g249.set 65 (.int 0)))), (m61, .inl (cA 0, 2, .inl g250))] := hD
                          have hf252 := fh_set (l' := [(65, .int 0), (2, .int 0), (22, .ref m22), (61, .ref m61), (71, .ref m71), (12, .int 0), (13, .int 0), (14, .int 0), (82, .int 0), (70, .int 0), (69, .int 0), (68, .int 0), (67, .int 0), (66, .int 0), (72, .int 0)]) hf252 65 (.int 0) (by decide) rfl
                          have ho257 := fo_mono (k2 := [72, 70, 69, 68, 67, 66, 65, 64, 2]) (fo_set ho254 65 (.int 0)) (by decide)
                          generalize (g249.set 65 (.int 0)) = fs256 at hP hD hf252 ho257
                          refine lv_aload_n hx hb dX8_go_62 rfl (lv_at hl 1 rfl) ?_
                          refine lv_iload_n hx hb dX8_go_63 rfl (lv_at hl 2 rfl) ?_
                          refine lv_if_le (tgt := 71) hx hb dX8_go_64 (by decide) (fun c258 => absurd c258 (by decide)) (fun c258 => ?_)
                          refine lv_iconst (v := 0) hx hb dX8_go_67 (by decide) ?_
                          refine lv_goto (tgt := 75) hx hb dX8_go_68 (by decide) ?_
                          refine va_put (D := G) (ci := 8) (v := .int 0) (ty := .int) (C := RX8) (T := TX8) (N := 91) hx hb hT ku_8 tyX8 tyX8_ok nmX8 hown hK hP hD hS 2 rfl rfl 82 (by decide) (hT _ kw_12_16) (fun _ h9 => h9) rfl (by decide +kernel) rfl rfl (fh_lt hf252 (by decide)) dX8_go_75 (fun H locs hP hD hS => ?_)
                          have hP : va_P G vwCl [(m22, .inl (cA 0, 6, .inl mf22)), (m71, .inl (cA 0, 10, .inl g123)), (h0, .inr (8, (fs256.set 82 (.int 0)))), (m61, .inl (cA 0, 2, .inl g250))] H := hP
                          have hD : va_D A [(m22, .inl (cA 0, 6, .inl mf22)), (m71, .inl (cA 0, 10, .inl g123)), (h0, .inr (8, (fs256.set 82 (.int 0)))), (m61, .inl (cA 0, 2, .inl g250))] := hD
                          have hf252 := fh_set (l' := [(82, .int 0), (65, .int 0), (2, .int 0), (22, .ref m22), (61, .ref m61), (71, .ref m71), (12, .int 0), (13, .int 0), (14, .int 0), (70, .int 0), (69, .int 0), (68, .int 0), (67, .int 0), (66, .int 0), (72, .int 0)]) hf252 82 (.int 0) (by decide) rfl
                          have ho260 := fo_set ho257 82 (.int 0)
                          generalize (fs256.set 82 (.int 0)) = fs259 at hP hD hf252 ho260
                          refine lv_aload_n hx hb dX8_go_78 rfl (lv_at hl 1 rfl) ?_
                          refine va_get (D := G) (ci := 8) (v := .ref m61) (C := RX8) (T := TX8) (N := 91) hx hb hT ku_8 hown hK hP 2 rfl rfl 61 (by decide) (hT _ kw_10_22) (fun _ h9 => h9) (fh_at hf252 4 rfl) dX8_go_79 ?_
                          refine lv_iconst (v := 0) hx hb dX8_go_82 (by decide) ?_
                          refine va_iald (i := 0) hx hb hK hP 3 0 rfl rfl (tq_in (by decide)) dX8_go_83 ?_
                          refine tq_i (w := 9) hE253 ?_
                          have hP9 : va_P G vwCl [] H := fun k q h => by simp at h
                          have hD9 : va_D A [] := ⟨fun i j p q h => by simp at h, fun k q h => by simp at h⟩
                          exact W.iret (v := 9) hx hb hr (fun t ht hW => ⟨⟨9, (), rfl, (by unfold sp_go; (repeat' split) <;> first | rfl | (exfalso; omega) | decide), by rw [ht]; exact hP9, hD9⟩, hS.F ht⟩) hS.2.2 dX8_go_84
                        · have k255 := tq_len (a := x.toInt) (b := 9) rfl (by decide) c255
                          refine lv_aload_n hx hb dX8_go_46 rfl (lv_at hl 1 rfl) ?_
                          refine lv_iconst (v := 0) hx hb dX8_go_47 (by decide) ?_
                          refine tq_cv (wr := [(m22, .inl (cA 0, 6, .inl mf22)), (m71, .inl (cA 0, 10, .inl g123))]) hP hD hS hA [2, 3] [0, 1] rfl rfl (by decide) (by decide) (va_runV (As := [.int 0]) (rest := []) ⟨hx, hb, hml, hown, hT⟩ (c_X8_goOn_0_9 l G cA H.size h0 g249 m61 g250 (fh_sub hf252 [3, 5, 6, 7] rfl) hE253) (cwV 1 hT (tq_gV kw_43_18 kw_43_19 kw_43_20 kw_1_5 kw_43_21) rfl rfl rfl (by decide +kernel) ⟨Nat.le_of_ble_eq_true rfl, Nat.le_of_ble_eq_true rfl⟩) ⟨(tq_pre (isC := [2, 3]) hP hD hK hN rfl (by decide)).1, va_recv hK hP (ci := 8) (q0 := 2) rfl rfl, (tq_pre (isC := [2, 3]) hP hD hK hN rfl (by decide)).2⟩ rfl rfl hl.1 rfl (lv_room (Nat.le_of_ble_eq_true rfl)) dX8_go_48 ⟨Nat.le_of_ble_eq_true rfl, Nat.le_of_ble_eq_true rfl⟩) (fun u261 H locs hw262 hP hD hS => ?_)
                          refine W.widen (k := 0) (n := 0) (Nat.le_of_ble_eq_true rfl) (Nat.le_of_ble_eq_true rfl) ?_
                          obtain ⟨g263, g264⟩ := u261
                          obtain ⟨ho265, hf266, hE267⟩ := hw262
                          try dsimp only at hP hD ho265 hf266 hE267
                          have hf266 := fh_app (fo_fh (l' := [(65, .int 1), (2, .int 0), (22, .ref m22), (61, .ref m61), (71, .ref m71), (12, .int 0), (13, .int 0), (14, .int 0), (82, .int 0), (70, .int 0), (69, .int 0), (68, .int 0), (67, .int 0), (66, .int 0)]) hf252 ho265 rfl) hf266
                          have ho268 := fo_mono (k2 := [72, 70, 69, 68, 67, 66, 65, 64, 2]) (fo_trans ho254 ho265) (by decide +kernel)
                          have hf266 : fh g263 91 [(65, .int 1), (2, .int 0), (22, .ref m22), (61, .ref m61), (71, .ref m71), (12, .int 0), (13, .int 0), (14, .int 0), (82, .int 0), (70, .int 0), (69, .int 0), (68, .int 0), (67, .int 0), (66, .int 0), (72, .int 0)] := hf266
                          have hP : va_P G vwCl [(m22, .inl (cA 0, 6, .inl mf22)), (m71, .inl (cA 0, 10, .inl g123)), (h0, .inr (8, g263)), (m61, .inl (cA 0, 2, .inl g264))] H := hP
                          have hD : va_D A [(m22, .inl (cA 0, 6, .inl mf22)), (m71, .inl (cA 0, 10, .inl g123)), (h0, .inr (8, g263)), (m61, .inl (cA 0, 2, .inl g264))] := hD
                          refine lv_iinc (v := 10) (lv' := [(2, .int 10), (0, .ref h0), (1, .int x)]) hx hb dX8_go_51 hl (k := 0) rfl (by decide) (by decide) rfl (fun ls hl => ?_)
                          refine lv_goto (tgt := 41) hx hb dX8_go_54 (by decide) ?_
                          refine lv_iload_n hx hb dX8_go_41 rfl (lv_at hl 0 rfl) ?_
                          refine lv_iload_n hx hb dX8_go_42 rfl (lv_at hl 2 rfl) ?_
                          refine lv_icmp_ge (tgt := 57) hx hb dX8_go_43 (by decide) (fun c269 => ?_) (fun c269 => ?_)
                          · have k269 := tq_le (a := x.toInt) (b := 10) rfl (by decide) c269
                            obtain rfl : x = 10 := tq_is (by rw [show (10 : Int32).toInt = 10 from by decide]; omega)
                            refine lv_aload_n hx hb dX8_go_57 rfl (lv_at hl 1 rfl) ?_
                            refine lv_iconst (v := 0) hx hb dX8_go_58 (by decide) ?_
                            refine va_put (D := G) (ci := 8) (v := .int 0) (ty := .boolean) (C := RX8) (T := TX8) (N := 91) hx hb hT ku_8 tyX8 tyX8_ok nmX8 hown hK hP hD hS 2 rfl rfl 65 (by decide) (hT _ kw_13_3) (fun _ h9 => h9) rfl (by decide +kernel) rfl rfl (fh_lt hf266 (by decide)) dX8_go_59 (fun H locs hP hD hS => ?_)
                            have hP : va_P G vwCl [(m22, .inl (cA 0, 6, .inl mf22)), (m71, .inl (cA 0, 10, .inl g123)), (h0, .inr (8, (g263.set 65 (.int 0)))), (m61, .inl (cA 0, 2, .inl g264))] H := hP
                            have hD : va_D A [(m22, .inl (cA 0, 6, .inl mf22)), (m71, .inl (cA 0, 10, .inl g123)), (h0, .inr (8, (g263.set 65 (.int 0)))), (m61, .inl (cA 0, 2, .inl g264))] := hD
                            have hf266 := fh_set (l' := [(65, .int 0), (2, .int 0), (22, .ref m22), (61, .ref m61), (71, .ref m71), (12, .int 0), (13, .int 0), (14, .int 0), (82, .int 0), (70, .int 0), (69, .int 0), (68, .int 0), (67, .int 0), (66, .int 0), (72, .int 0)]) hf266 65 (.int 0) (by decide) rfl
                            have ho271 := fo_mono (k2 := [72, 70, 69, 68, 67, 66, 65, 64, 2]) (fo_set ho268 65 (.int 0)) (by decide)
                            generalize (g263.set 65 (.int 0)) = fs270 at hP hD hf266 ho271
                            refine lv_aload_n hx hb dX8_go_62 rfl (lv_at hl 1 rfl) ?_
                            refine lv_iload_n hx hb dX8_go_63 rfl (lv_at hl 2 rfl) ?_
                            refine lv_if_le (tgt := 71) hx hb dX8_go_64 (by decide) (fun c272 => absurd c272 (by decide)) (fun c272 => ?_)
                            refine lv_iconst (v := 0) hx hb dX8_go_67 (by decide) ?_
                            refine lv_goto (tgt := 75) hx hb dX8_go_68 (by decide) ?_
                            refine va_put (D := G) (ci := 8) (v := .int 0) (ty := .int) (C := RX8) (T := TX8) (N := 91) hx hb hT ku_8 tyX8 tyX8_ok nmX8 hown hK hP hD hS 2 rfl rfl 82 (by decide) (hT _ kw_12_16) (fun _ h9 => h9) rfl (by decide +kernel) rfl rfl (fh_lt hf266 (by decide)) dX8_go_75 (fun H locs hP hD hS => ?_)
                            have hP : va_P G vwCl [(m22, .inl (cA 0, 6, .inl mf22)), (m71, .inl (cA 0, 10, .inl g123)), (h0, .inr (8, (fs270.set 82 (.int 0)))), (m61, .inl (cA 0, 2, .inl g264))] H := hP
                            have hD : va_D A [(m22, .inl (cA 0, 6, .inl mf22)), (m71, .inl (cA 0, 10, .inl g123)), (h0, .inr (8, (fs270.set 82 (.int 0)))), (m61, .inl (cA 0, 2, .inl g264))] := hD
                            have hf266 := fh_set (l' := [(82, .int 0), (65, .int 0), (2, .int 0), (22, .ref m22), (61, .ref m61), (71, .ref m71), (12, .int 0), (13, .int 0), (14, .int 0), (70, .int 0), (69, .int 0), (68, .int 0), (67, .int 0), (66, .int 0), (72, .int 0)]) hf266 82 (.int 0) (by decide) rfl
                            have ho274 := fo_set ho271 82 (.int 0)
                            generalize (fs270.set 82 (.int 0)) = fs273 at hP hD hf266 ho274
                            refine lv_aload_n hx hb dX8_go_78 rfl (lv_at hl 1 rfl) ?_
                            refine va_get (D := G) (ci := 8) (v := .ref m61) (C := RX8) (T := TX8) (N := 91) hx hb hT ku_8 hown hK hP 2 rfl rfl 61 (by decide) (hT _ kw_10_22) (fun _ h9 => h9) (fh_at hf266 4 rfl) dX8_go_79 ?_
                            refine lv_iconst (v := 0) hx hb dX8_go_82 (by decide) ?_
                            refine va_iald (i := 0) hx hb hK hP 3 0 rfl rfl (tq_in (by decide)) dX8_go_83 ?_
                            refine tq_i (w := 10) hE267 ?_
                            have hP9 : va_P G vwCl [] H := fun k q h => by simp at h
                            have hD9 : va_D A [] := ⟨fun i j p q h => by simp at h, fun k q h => by simp at h⟩
                            exact W.iret (v := 10) hx hb hr (fun t ht hW => ⟨⟨10, (), rfl, (by unfold sp_go; (repeat' split) <;> first | rfl | (exfalso; omega) | decide), by rw [ht]; exact hP9, hD9⟩, hS.F ht⟩) hS.2.2 dX8_go_84
                          · have k269 := tq_len (a := x.toInt) (b := 10) rfl (by decide) c269
                            refine lv_aload_n hx hb dX8_go_46 rfl (lv_at hl 1 rfl) ?_
                            refine lv_iconst (v := 0) hx hb dX8_go_47 (by decide) ?_
                            refine tq_cv (wr := [(m22, .inl (cA 0, 6, .inl mf22)), (m71, .inl (cA 0, 10, .inl g123))]) hP hD hS hA [2, 3] [0, 1] rfl rfl (by decide) (by decide) (va_runV (As := [.int 0]) (rest := []) ⟨hx, hb, hml, hown, hT⟩ (c_X8_goOn_0_10 l G cA H.size h0 g263 m61 g264 (fh_sub hf266 [3, 5, 6, 7] rfl) hE267) (cwV 1 hT (tq_gV kw_43_18 kw_43_19 kw_43_20 kw_1_5 kw_43_21) rfl rfl rfl (by decide +kernel) ⟨Nat.le_of_ble_eq_true rfl, Nat.le_of_ble_eq_true rfl⟩) ⟨(tq_pre (isC := [2, 3]) hP hD hK hN rfl (by decide)).1, va_recv hK hP (ci := 8) (q0 := 2) rfl rfl, (tq_pre (isC := [2, 3]) hP hD hK hN rfl (by decide)).2⟩ rfl rfl hl.1 rfl (lv_room (Nat.le_of_ble_eq_true rfl)) dX8_go_48 ⟨Nat.le_of_ble_eq_true rfl, Nat.le_of_ble_eq_true rfl⟩) (fun u275 H locs hw276 hP hD hS => ?_)
                            refine W.widen (k := 0) (n := 0) (Nat.le_of_ble_eq_true rfl) (Nat.le_of_ble_eq_true rfl) ?_
                            obtain ⟨g277, g278⟩ := u275
                            obtain ⟨ho279, hf280, hE281⟩ := hw276
                            try dsimp only at hP hD ho279 hf280 hE281
                            have hf280 := fh_app (fo_fh (l' := [(65, .int 1), (2, .int 0), (22, .ref m22), (61, .ref m61), (71, .ref m71), (12, .int 0), (13, .int 0), (14, .int 0), (82, .int 0), (70, .int 0), (69, .int 0), (68, .int 0), (67, .int 0), (66, .int 0)]) hf266 ho279 rfl) hf280
                            have ho282 := fo_mono (k2 := [72, 70, 69, 68, 67, 66, 65, 64, 2]) (fo_trans ho268 ho279) (by decide +kernel)
                            have hf280 : fh g277 91 [(65, .int 1), (2, .int 0), (22, .ref m22), (61, .ref m61), (71, .ref m71), (12, .int 0), (13, .int 0), (14, .int 0), (82, .int 0), (70, .int 0), (69, .int 0), (68, .int 0), (67, .int 0), (66, .int 0), (72, .int 0)] := hf280
                            have hP : va_P G vwCl [(m22, .inl (cA 0, 6, .inl mf22)), (m71, .inl (cA 0, 10, .inl g123)), (h0, .inr (8, g277)), (m61, .inl (cA 0, 2, .inl g278))] H := hP
                            have hD : va_D A [(m22, .inl (cA 0, 6, .inl mf22)), (m71, .inl (cA 0, 10, .inl g123)), (h0, .inr (8, g277)), (m61, .inl (cA 0, 2, .inl g278))] := hD
                            refine lv_iinc (v := 11) (lv' := [(2, .int 11), (0, .ref h0), (1, .int x)]) hx hb dX8_go_51 hl (k := 0) rfl (by decide) (by decide) rfl (fun ls hl => ?_)
                            refine lv_goto (tgt := 41) hx hb dX8_go_54 (by decide) ?_
                            refine lv_iload_n hx hb dX8_go_41 rfl (lv_at hl 0 rfl) ?_
                            refine lv_iload_n hx hb dX8_go_42 rfl (lv_at hl 2 rfl) ?_
                            refine lv_icmp_ge (tgt := 57) hx hb dX8_go_43 (by decide) (fun c283 => ?_) (fun c283 => ?_)
                            · have k283 := tq_le (a := x.toInt) (b := 11) rfl (by decide) c283
                              obtain rfl : x = 11 := tq_is (by rw [show (11 : Int32).toInt = 11 from by decide]; omega)
                              refine lv_aload_n hx hb dX8_go_57 rfl (lv_at hl 1 rfl) ?_
                              refine lv_iconst (v := 0) hx hb dX8_go_58 (by decide) ?_
                              refine va_put (D := G) (ci := 8) (v := .int 0) (ty := .boolean) (C := RX8) (T := TX8) (N := 91) hx hb hT ku_8 tyX8 tyX8_ok nmX8 hown hK hP hD hS 2 rfl rfl 65 (by decide) (hT _ kw_13_3) (fun _ h9 => h9) rfl (by decide +kernel) rfl rfl (fh_lt hf280 (by decide)) dX8_go_59 (fun H locs hP hD hS => ?_)
                              have hP : va_P G vwCl [(m22, .inl (cA 0, 6, .inl mf22)), (m71, .inl (cA 0, 10, .inl g123)), (h0, .inr (8, (g277.set 65 (.int 0)))), (m61, .inl (cA 0, 2, .inl g278))] H := hP
                              have hD : va_D A [(m22, .inl (cA 0, 6, .inl mf22)), (m71, .inl (cA 0, 10, .inl g123)), (h0, .inr (8, (g277.set 65 (.int 0)))), (m61, .inl (cA 0, 2, .inl g278))] := hD
                              have hf280 := fh_set (l' := [(65, .int 0), (2, .int 0), (22, .ref m22), (61, .ref m61), (71, .ref m71), (12, .int 0), (13, .int 0), (14, .int 0), (82, .int 0), (70, .int 0), (69, .int 0), (68, .int 0), (67, .int 0), (66, .int 0), (72, .int 0)]) hf280 65 (.int 0) (by decide) rfl
                              have ho285 := fo_mono (k2 := [72, 70, 69, 68, 67, 66, 65, 64, 2]) (fo_set ho282 65 (.int 0)) (by decide)
                              generalize (g277.set 65 (.int 0)) = fs284 at hP hD hf280 ho285
                              refine lv_aload_n hx hb dX8_go_62 rfl (lv_at hl 1 rfl) ?_
                              refine lv_iload_n hx hb dX8_go_63 rfl (lv_at hl 2 rfl) ?_
                              refine lv_if_le (tgt := 71) hx hb dX8_go_64 (by decide) (fun c286 => absurd c286 (by decide)) (fun c286 => ?_)
                              refine lv_iconst (v := 0) hx hb dX8_go_67 (by decide) ?_
                              refine lv_goto (tgt := 75) hx hb dX8_go_68 (by decide) ?_
                              refine va_put (D := G) (ci := 8) (v := .int 0) (ty := .int) (C := RX8) (T := TX8) (N := 91) hx hb hT ku_8 tyX8 tyX8_ok nmX8 hown hK hP hD hS 2 rfl rfl 82 (by decide) (hT _ kw_12_16) (fun _ h9 => h9) rfl (by decide +kernel) rfl rfl (fh_lt hf280 (by decide)) dX8_go_75 (fun H locs hP hD hS => ?_)
                              have hP : va_P G vwCl [(m22, .inl (cA 0, 6, .inl mf22)), (m71, .inl (cA 0, 10, .inl g123)), (h0, .inr (8, (fs284.set 82 (.int 0)))), (m61, .inl (cA 0, 2, .inl g278))] H := hP
                              have hD : va_D A [(m22, .inl (cA 0, 6, .inl mf22)), (m71, .inl (cA 0, 10, .inl g123)), (h0, .inr (8, (fs284.set 82 (.int 0)))), (m61, .inl (cA 0, 2, .inl g278))] := hD
                              have hf280 := fh_set (l' := [(82, .int 0), (65, .int 0), (2, .int 0), (22, .ref m22), (61, .ref m61), (71, .ref m71), (12, .int 0), (13, .int 0), (14, .int 0), (70, .int 0), (69, .int 0), (68, .int 0), (67, .int 0), (66, .int 0), (72, .int 0)]) hf280 82 (.int 0) (by decide) rfl
                              have ho288 := fo_set ho285 82 (.int 0)
                              generalize (fs284.set 82 (.int 0)) = fs287 at hP hD hf280 ho288
                              refine lv_aload_n hx hb dX8_go_78 rfl (lv_at hl 1 rfl) ?_
                              refine va_get (D := G) (ci := 8) (v := .ref m61) (C := RX8) (T := TX8) (N := 91) hx hb hT ku_8 hown hK hP 2 rfl rfl 61 (by decide) (hT _ kw_10_22) (fun _ h9 => h9) (fh_at hf280 4 rfl) dX8_go_79 ?_
                              refine lv_iconst (v := 0) hx hb dX8_go_82 (by decide) ?_
                              refine va_iald (i := 0) hx hb hK hP 3 0 rfl rfl (tq_in (by decide)) dX8_go_83 ?_
                              refine tq_i (w := 11) hE281 ?_
                              have hP9 : va_P G vwCl [] H := fun k q h => by simp at h
                              have hD9 : va_D A [] := ⟨fun i j p q h => by simp at h, fun k q h => by simp at h⟩
                              exact W.iret (v := 11) hx hb hr (fun t ht hW => ⟨⟨11, (), rfl, (by unfold sp_go; (repeat' split) <;> first | rfl | (exfalso; omega) | decide), by rw [ht]; exact hP9, hD9⟩, hS.F ht⟩) hS.2.2 dX8_go_84
                            · have k283 := tq_len (a := x.toInt) (b := 11) rfl (by decide) c283
                              refine lv_aload_n hx hb dX8_go_46 rfl (lv_at hl 1 rfl) ?_
                              refine lv_iconst (v := 0) hx hb dX8_go_47 (by decide) ?_
                              refine tq_cv (wr := [(m22, .inl (cA 0, 6, .inl mf22)), (m71, .inl (cA 0, 10, .inl g123))]) hP hD hS hA [2, 3] [0, 1] rfl rfl (by decide) (by decide) (va_runV (As := [.int 0]) (rest := []) ⟨hx, hb, hml, hown, hT⟩ (c_X8_goOn_0_11 l G cA H.size h0 g277 m61 g278 (fh_sub hf280 [3, 5, 6, 7] rfl) hE281) (cwV 1 hT (tq_gV kw_43_18 kw_43_19 kw_43_20 kw_1_5 kw_43_21) rfl rfl rfl (by decide +kernel) ⟨Nat.le_of_ble_eq_true rfl, Nat.le_of_ble_eq_true rfl⟩) ⟨(tq_pre (isC := [2, 3]) hP hD hK hN rfl (by decide)).1, va_recv hK hP (ci := 8) (q0 := 2) rfl rfl, (tq_pre (isC := [2, 3]) hP hD hK hN rfl (by decide)).2⟩ rfl rfl hl.1 rfl (lv_room (Nat.le_of_ble_eq_true rfl)) dX8_go_48 ⟨Nat.le_of_ble_eq_true rfl, Nat.le_of_ble_eq_true rfl⟩) (fun u289 H locs hw290 hP hD hS => ?_)
                              refine W.widen (k := 0) (n := 0) (Nat.le_of_ble_eq_true rfl) (Nat.le_of_ble_eq_true rfl) ?_
                              obtain ⟨g291, g292⟩ := u289
                              obtain ⟨ho293, hf294, hE295⟩ := hw290
                              try dsimp only at hP hD ho293 hf294 hE295
                              have hf294 := fh_app (fo_fh (l' := [(65, .int 1), (2, .int 0), (22, .ref m22), (61, .ref m61), (71, .ref m71), (12, .int 0), (13, .int 0), (14, .int 0), (82, .int 0), (70, .int 0), (69, .int 0), (68, .int 0), (67, .int 0), (66, .int 0)]) hf280 ho293 rfl) hf294
                              have ho296 := fo_mono (k2 := [72, 70, 69, 68, 67, 66, 65, 64, 2]) (fo_trans ho282 ho293) (by decide +kernel)
                              have hf294 : fh g291 91 [(65, .int 1), (2, .int 0), (22, .ref m22), (61, .ref m61), (71, .ref m71), (12, .int 0), (13, .int 0), (14, .int 0), (82, .int 0), (70, .int 0), (69, .int 0), (68, .int 0), (67, .int 0), (66, .int 0), (72, .int 0)] := hf294
                              have hP : va_P G vwCl [(m22, .inl (cA 0, 6, .inl mf22)), (m71, .inl (cA 0, 10, .inl g123)), (h0, .inr (8, g291)), (m61, .inl (cA 0, 2, .inl g292))] H := hP
                              have hD : va_D A [(m22, .inl (cA 0, 6, .inl mf22)), (m71, .inl (cA 0, 10, .inl g123)), (h0, .inr (8, g291)), (m61, .inl (cA 0, 2, .inl g292))] := hD
                              refine lv_iinc (v := 12) (lv' := [(2, .int 12), (0, .ref h0), (1, .int x)]) hx hb dX8_go_51 hl (k := 0) rfl (by decide) (by decide) rfl (fun ls hl => ?_)
                              refine lv_goto (tgt := 41) hx hb dX8_go_54 (by decide) ?_
                              refine lv_iload_n hx hb dX8_go_41 rfl (lv_at hl 0 rfl) ?_
                              refine lv_iload_n hx hb dX8_go_42 rfl (lv_at hl 2 rfl) ?_
                              refine lv_icmp_ge (tgt := 57) hx hb dX8_go_43 (by decide) (fun c297 => ?_) (fun c297 => ?_)
                              · have k297 := tq_le (a := x.toInt) (b := 12) rfl (by decide) c297
                                obtain rfl : x = 12 := tq_is (by rw [show (12 : Int32).toInt = 12 from by decide]; omega)
                                refine lv_aload_n hx hb dX8_go_57 rfl (lv_at hl 1 rfl) ?_
                                refine lv_iconst (v := 0) hx hb dX8_go_58 (by decide) ?_
                                refine va_put (D := G) (ci := 8) (v := .int 0) (ty := .boolean) (C := RX8) (T := TX8) (N := 91) hx hb hT ku_8 tyX8 tyX8_ok nmX8 hown hK hP hD hS 2 rfl rfl 65 (by decide) (hT _ kw_13_3) (fun _ h9 => h9) rfl (by decide +kernel) rfl rfl (fh_lt hf294 (by decide)) dX8_go_59 (fun H locs hP hD hS => ?_)
                                have hP : va_P G vwCl [(m22, .inl (cA 0, 6, .inl mf22)), (m71, .inl (cA 0, 10, .inl g123)), (h0, .inr (8, (g291.set 65 (.int 0)))), (m61, .inl (cA 0, 2, .inl g292))] H := hP
                                have hD : va_D A [(m22, .inl (cA 0, 6, .inl mf22)), (m71, .inl (cA 0, 10, .inl g123)), (h0, .inr (8, (g291.set 65 (.int 0)))), (m61, .inl (cA 0, 2, .inl g292))] := hD
                                have hf294 := fh_set (l' := [(65, .int 0), (2, .int 0), (22, .ref m22), (61, .ref m61), (71, .ref m71), (12, .int 0), (13, .int 0), (14, .int 0), (82, .int 0), (70, .int 0), (69, .int 0), (68, .int 0), (67, .int 0), (66, .int 0), (72, .int 0)]) hf294 65 (.int 0) (by decide) rfl
                                have ho299 := fo_mono (k2 := [72, 70, 69, 68, 67, 66, 65, 64, 2]) (fo_set ho296 65 (.int 0)) (by decide)
                                generalize (g291.set 65 (.int 0)) = fs298 at hP hD hf294 ho299
                                refine lv_aload_n hx hb dX8_go_62 rfl (lv_at hl 1 rfl) ?_
                                refine lv_iload_n hx hb dX8_go_63 rfl (lv_at hl 2 rfl) ?_
                                refine lv_if_le (tgt := 71) hx hb dX8_go_64 (by decide) (fun c300 => absurd c300 (by decide)) (fun c300 => ?_)
                                refine lv_iconst (v := 0) hx hb dX8_go_67 (by decide) ?_
                                refine lv_goto (tgt := 75) hx hb dX8_go_68 (by decide) ?_
                                refine va_put (D := G) (ci := 8) (v := .int 0) (ty := .int) (C := RX8) (T := TX8) (N := 91) hx hb hT ku_8 tyX8 tyX8_ok nmX8 hown hK hP hD hS 2 rfl rfl 82 (by decide) (hT _ kw_12_16) (fun _ h9 => h9) rfl (by decide +kernel) rfl rfl (fh_lt hf294 (by decide)) dX8_go_75 (fun H locs hP hD hS => ?_)
                                have hP : va_P G vwCl [(m22, .inl (cA 0, 6, .inl mf22)), (m71, .inl (cA 0, 10, .inl g123)), (h0, .inr (8, (fs298.set 82 (.int 0)))), (m61, .inl (cA 0, 2, .inl g292))] H := hP
                                have hD : va_D A [(m22, .inl (cA 0, 6, .inl mf22)), (m71, .inl (cA 0, 10, .inl g123)), (h0, .inr (8, (fs298.set 82 (.int 0)))), (m61, .inl (cA 0, 2, .inl g292))] := hD
                                have hf294 := fh_set (l' := [(82, .int 0), (65, .int 0), (2, .int 0), (22, .ref m22), (61, .ref m61), (71, .ref m71), (12, .int 0), (13, .int 0), (14, .int 0), (70, .int 0), (69, .int 0), (68, .int 0), (67, .int 0), (66, .int 0), (72, .int 0)]) hf294 82 (.int 0) (by decide) rfl
                                have ho302 := fo_set ho299 82 (.int 0)
                                generalize (fs298.set 82 (.int 0)) = fs301 at hP hD hf294 ho302
                                refine lv_aload_n hx hb dX8_go_78 rfl (lv_at hl 1 rfl) ?_
                                refine va_get (D := G) (ci := 8) (v := .ref m61) (C := RX8) (T := TX8) (N := 91) hx hb hT ku_8 hown hK hP 2 rfl rfl 61 (by decide) (hT _ kw_10_22) (fun _ h9 => h9) (fh_at hf294 4 rfl) dX8_go_79 ?_
                                refine lv_iconst (v := 0) hx hb dX8_go_82 (by decide) ?_
                                refine va_iald (i := 0) hx hb hK hP 3 0 rfl rfl (tq_in (by decide)) dX8_go_83 ?_
                                refine tq_i (w := 12) hE295 ?_
                                have hP9 : va_P G vwCl [] H := fun k q h => by simp at h
                                have hD9 : va_D A [] := ⟨fun i j p q h => by simp at h, fun k q h => by simp at h⟩
                                exact W.iret (v := 12) hx hb hr (fun t ht hW => ⟨⟨12, (), rfl, (by unfold sp_go; (repeat' split) <;> first | rfl | (exfalso; omega) | decide), by rw [ht]; exact hP9, hD9⟩, hS.F ht⟩) hS.2.2 dX8_go_84
                              · have k297 := tq_len (a := x.toInt) (b := 12) rfl (by decide) c297
                                refine lv_aload_n hx hb dX8_go_46 rfl (lv_at hl 1 rfl) ?_
                                refine lv_iconst (v := 0) hx hb dX8_go_47 (by decide) ?_
                                refine tq_cv (wr := [(m22, .inl (cA 0, 6, .inl mf22)), (m71, .inl (cA 0, 10, .inl g123))]) hP hD hS hA [2, 3] [0, 1] rfl rfl (by decide) (by decide) (va_runV (As := [.int 0]) (rest := []) ⟨hx, hb, hml, hown, hT⟩ (c_X8_goOn_0_12 l G cA H.size h0 g291 m61 g292 (fh_sub hf294 [3, 5, 6, 7] rfl) hE295) (cwV 1 hT (tq_gV kw_43_18 kw_43_19 kw_43_20 kw_1_5 kw_43_21) rfl rfl rfl (by decide +kernel) ⟨Nat.le_of_ble_eq_true rfl, Nat.le_of_ble_eq_true rfl⟩) ⟨(tq_pre (isC := [2, 3]) hP hD hK hN rfl (by decide)).1, va_recv hK hP (ci := 8) (q0 := 2) rfl rfl, (tq_pre (isC := [2, 3]) hP hD hK hN rfl (by decide)).2⟩ rfl rfl hl.1 rfl (lv_room (Nat.le_of_ble_eq_true rfl)) dX8_go_48 ⟨Nat.le_of_ble_eq_true rfl, Nat.le_of_ble_eq_true rfl⟩) (fun u303 H locs hw304 hP hD hS => ?_)
                                refine W.widen (k := 0) (n := 0) (Nat.le_of_ble_eq_true rfl) (Nat.le_of_ble_eq_true rfl) ?_
                                obtain ⟨g305, g306⟩ := u303
                                obtain ⟨ho307, hf308, hE309⟩ := hw304
                                try dsimp only at hP hD ho307 hf308 hE309
                                have hf308 := fh_app (fo_fh (l' := [(65, .int 1), (2, .int 0), (22, .ref m22), (61, .ref m61), (71, .ref m71), (12, .int 0), (13, .int 0), (14, .int 0), (82, .int 0), (70, .int 0), (69, .int 0), (68, .int 0), (67, .int 0), (66, .int 0)]) hf294 ho307 rfl) hf308
                                have ho310 := fo_mono (k2 := [72, 70, 69, 68, 67, 66, 65, 64, 2]) (fo_trans ho296 ho307) (by decide +kernel)
                                have hf308 : fh g305 91 [(65, .int 1), (2, .int 0), (22, .ref m22), (61, .ref m61), (71, .ref m71), (12, .int 0), (13, .int 0), (14, .int 0), (82, .int 0), (70, .int 0), (69, .int 0), (68, .int 0), (67, .int 0), (66, .int 0), (72, .int 0)] := hf308
                                have hP : va_P G vwCl [(m22, .inl (cA 0, 6, .inl mf22)), (m71, .inl (cA 0, 10, .inl g123)), (h0, .inr (8, g305)), (m61, .inl (cA 0, 2, .inl g306))] H := hP
                                have hD : va_D A [(m22, .inl (cA 0, 6, .inl mf22)), (m71, .inl (cA 0, 10, .inl g123)), (h0, .inr (8, g305)), (m61, .inl (cA 0, 2, .inl g306))] := hD
                                refine lv_iinc (v := 13) (lv' := [(2, .int 13), (0, .ref h0), (1, .int x)]) hx hb dX8_go_51 hl (k := 0) rfl (by decide) (by decide) rfl (fun ls hl => ?_)
                                refine lv_goto (tgt := 41) hx hb dX8_go_54 (by decide) ?_
                                refine lv_iload_n hx hb dX8_go_41 rfl (lv_at hl 0 rfl) ?_
                                refine lv_iload_n hx hb dX8_go_42 rfl (lv_at hl 2 rfl) ?_
                                refine lv_icmp_ge (tgt := 57) hx hb dX8_go_43 (by decide) (fun c311 => ?_) (fun c311 => ?_)
                                · have k311 := tq_le (a := x.toInt) (b := 13) rfl (by decide) c311
                                  obtain rfl : x = 13 := tq_is (by rw [show (13 : Int32).toInt = 13 from by decide]; omega)
                                  refine lv_aload_n hx hb dX8_go_57 rfl (lv_at hl 1 rfl) ?_
                                  refine lv_iconst (v := 0) hx hb dX8_go_58 (by decide) ?_
                                  refine va_put (D := G) (ci := 8) (v := .int 0) (ty := .boolean) (C := RX8) (T := TX8) (N := 91) hx hb hT ku_8 tyX8 tyX8_ok nmX8 hown hK hP hD hS 2 rfl rfl 65 (by decide) (hT _ kw_13_3) (fun _ h9 => h9) rfl (by decide +kernel) rfl rfl (fh_lt hf308 (by decide)) dX8_go_59 (fun H locs hP hD hS => ?_)
                                  have hP : va_P G vwCl [(m22, .inl (cA 0, 6, .inl mf22)), (m71, .inl (cA 0, 10, .inl g123)), (h0, .inr (8, (g305.set 65 (.int 0)))), (m61, .inl (cA 0, 2, .inl g306))] H := hP
                                  have hD : va_D A [(m22, .inl (cA 0, 6, .inl mf22)), (m71, .inl (cA 0, 10, .inl g123)), (h0, .inr (8, (g305.set 65 (.int 0)))), (m61, .inl (cA 0, 2, .inl g306))] := hD
                                  have hf308 := fh_set (l' := [(65, .int 0), (2, .int 0), (22, .ref m22), (61, .ref m61), (71, .ref m71), (12, .int 0), (13, .int 0), (14, .int 0), (82, .int 0), (70, .int 0), (69, .int 0), (68, .int 0), (67, .int 0), (66, .int 0), (72, .int 0)]) hf308 65 (.int 0) (by decide) rfl
                                  have ho313 := fo_mono (k2 := [72, 70, 69, 68, 67, 66, 65, 64, 2]) (fo_set ho310 65 (.int 0)) (by decide)
                                  generalize (g305.set 65 (.int 0)) = fs312 at hP hD hf308 ho313
                                  refine lv_aload_n hx hb dX8_go_62 rfl (lv_at hl 1 rfl) ?_
                                  refine lv_iload_n hx hb dX8_go_63 rfl (lv_at hl 2 rfl) ?_
                                  refine lv_if_le (tgt := 71) hx hb dX8_go_64 (by decide) (fun c314 => absurd c314 (by decide)) (fun c314 => ?_)
                                  refine lv_iconst (v := 0) hx hb dX8_go_67 (by decide) ?_
                                  refine lv_goto (tgt := 75) hx hb dX8_go_68 (by decide) ?_
                                  refine va_put (D := G) (ci := 8) (v := .int 0) (ty := .int) (C := RX8) (T := TX8) (N := 91) hx hb hT ku_8 tyX8 tyX8_ok nmX8 hown hK hP hD hS 2 rfl rfl 82 (by decide) (hT _ kw_12_16) (fun _ h9 => h9) rfl (by decide +kernel) rfl rfl (fh_lt hf308 (by decide)) dX8_go_75 (fun H locs hP hD hS => ?_)
                                  have hP : va_P G vwCl [(m22, .inl (cA 0, 6, .inl mf22)), (m71, .inl (cA 0, 10, .inl g123)), (h0, .inr (8, (fs312.set 82 (.int 0)))), (m61, .inl (cA 0, 2, .inl g306))] H := hP
                                  have hD : va_D A [(m22, .inl (cA 0, 6, .inl mf22)), (m71, .inl (cA 0, 10, .inl g123)), (h0, .inr (8, (fs312.set 82 (.int 0)))), (m61, .inl (cA 0, 2, .inl g306))] := hD
                                  have hf308 := fh_set (l' := [(82, .int 0), (65, .int 0), (2, .int 0), (22, .ref m22), (61, .ref m61), (71, .ref m71), (12, .int 0), (13, .int 0), (14, .int 0), (70, .int 0), (69, .int 0), (68, .int 0), (67, .int 0), (66, .int 0), (72, .int 0)]) hf308 82 (.int 0) (by decide) rfl
                                  have ho316 := fo_set ho313 82 (.int 0)
                                  generalize (fs312.set 82 (.int 0)) = fs315 at hP hD hf308 ho316
                                  refine lv_aload_n hx hb dX8_go_78 rfl (lv_at hl 1 rfl) ?_
                                  refine va_get (D := G) (ci := 8) (v := .ref m61) (C := RX8) (T := TX8) (N := 91) hx hb hT ku_8 hown hK hP 2 rfl rfl 61 (by decide) (hT _ kw_10_22) (fun _ h9 => h9) (fh_at hf308 4 rfl) dX8_go_79 ?_
                                  refine lv_iconst (v := 0) hx hb dX8_go_82 (by decide) ?_
                                  refine va_iald (i := 0) hx hb hK hP 3 0 rfl rfl (tq_in (by decide)) dX8_go_83 ?_
                                  refine tq_i (w := 13) hE309 ?_
                                  have hP9 : va_P G vwCl [] H := fun k q h => by simp at h
                                  have hD9 : va_D A [] := ⟨fun i j p q h => by simp at h, fun k q h => by simp at h⟩
                                  exact W.iret (v := 13) hx hb hr (fun t ht hW => ⟨⟨13, (), rfl, (by unfold sp_go; (repeat' split) <;> first | rfl | (exfalso; omega) | decide), by rw [ht]; exact hP9, hD9⟩, hS.F ht⟩) hS.2.2 dX8_go_84
                                · have k311 := tq_len (a := x.toInt) (b := 13) rfl (by decide) c311
                                  refine lv_aload_n hx hb dX8_go_46 rfl (lv_at hl 1 rfl) ?_
                                  refine lv_iconst (v := 0) hx hb dX8_go_47 (by decide) ?_
                                  refine tq_cv (wr := [(m22, .inl (cA 0, 6, .inl mf22)), (m71, .inl (cA 0, 10, .inl g123))]) hP hD hS hA [2, 3] [0, 1] rfl rfl (by decide) (by decide) (va_runV (As := [.int 0]) (rest := []) ⟨hx, hb, hml, hown, hT⟩ (c_X8_goOn_0_13 l G cA H.size h0 g305 m61 g306 (fh_sub hf308 [3, 5, 6, 7] rfl) hE309) (cwV 1 hT (tq_gV kw_43_18 kw_43_19 kw_43_20 kw_1_5 kw_43_21) rfl rfl rfl (by decide +kernel) ⟨Nat.le_of_ble_eq_true rfl, Nat.le_of_ble_eq_true rfl⟩) ⟨(tq_pre (isC := [2, 3]) hP hD hK hN rfl (by decide)).1, va_recv hK hP (ci := 8) (q0 := 2) rfl rfl, (tq_pre (isC := [2, 3]) hP hD hK hN rfl (by decide)).2⟩ rfl rfl hl.1 rfl (lv_room (Nat.le_of_ble_eq_true rfl)) dX8_go_48 ⟨Nat.le_of_ble_eq_true rfl, Nat.le_of_ble_eq_true rfl⟩) (fun u317 H locs hw318 hP hD hS => ?_)
                                  refine W.widen (k := 0) (n := 0) (Nat.le_of_ble_eq_true rfl) (Nat.le_of_ble_eq_true rfl) ?_
                                  obtain ⟨g319, g320⟩ := u317
                                  obtain ⟨ho321, hf322, hE323⟩ := hw318
                                  try dsimp only at hP hD ho321 hf322 hE323
                                  have hf322 := fh_app (fo_fh (l' := [(65, .int 1), (2, .int 0), (22, .ref m22), (61, .ref m61), (71, .ref m71), (12, .int 0), (13, .int 0), (14, .int 0), (82, .int 0), (70, .int 0), (69, .int 0), (68, .int 0), (67, .int 0), (66, .int 0)]) hf308 ho321 rfl) hf322
                                  have ho324 := fo_mono (k2 := [72, 70, 69, 68, 67, 66, 65, 64, 2]) (fo_trans ho310 ho321) (by decide +kernel)
                                  have hf322 : fh g319 91 [(65, .int 1), (2, .int 0), (22, .ref m22), (61, .ref m61), (71, .ref m71), (12, .int 0), (13, .int 0), (14, .int 0), (82, .int 0), (70, .int 0), (69, .int 0), (68, .int 0), (67, .int 0), (66, .int 0), (72, .int 0)] := hf322
                                  have hP : va_P G vwCl [(m22, .inl (cA 0, 6, .inl mf22)), (m71, .inl (cA 0, 10, .inl g123)), (h0, .inr (8, g319)), (m61, .inl (cA 0, 2, .inl g320))] H := hP
                                  have hD : va_D A [(m22, .inl (cA 0, 6, .inl mf22)), (m71, .inl (cA 0, 10, .inl g123)), (h0, .inr (8, g319)), (m61, .inl (cA 0, 2, .inl g320))] := hD
                                  refine lv_iinc (v := 14) (lv' := [(2, .int 14), (0, .ref h0), (1, .int x)]) hx hb dX8_go_51 hl (k := 0) rfl (by decide) (by decide) rfl (fun ls hl => ?_)
                                  refine lv_goto (tgt := 41) hx hb dX8_go_54 (by decide) ?_
                                  refine lv_iload_n hx hb dX8_go_41 rfl (lv_at hl 0 rfl) ?_
                                  refine lv_iload_n hx hb dX8_go_42 rfl (lv_at hl 2 rfl) ?_
                                  refine lv_icmp_ge (tgt := 57) hx hb dX8_go_43 (by decide) (fun c325 => ?_) (fun c325 => ?_)
                                  · have k325 := tq_le (a := x.toInt) (b := 14) rfl (by decide) c325
                                    obtain rfl : x = 14 := tq_is (by rw [show (14 : Int32).toInt = 14 from by decide]; omega)
                                    refine lv_aload_n hx hb dX8_go_57 rfl (lv_at hl 1 rfl) ?_
                                    refine lv_iconst (v := 0) hx hb dX8_go_58 (by decide) ?_
                                    refine va_put (D := G) (ci := 8) (v := .int 0) (ty := .boolean) (C := RX8) (T := TX8) (N := 91) hx hb hT ku_8 tyX8 tyX8_ok nmX8 hown hK hP hD hS 2 rfl rfl 65 (by decide) (hT _ kw_13_3) (fun _ h9 => h9) rfl (by decide +kernel) rfl rfl (fh_lt hf322 (by decide)) dX8_go_59 (fun H locs hP hD hS => ?_)
                                    have hP : va_P G vwCl [(m22, .inl (cA 0, 6, .inl mf22)), (m71, .inl (cA 0, 10, .inl g123)), (h0, .inr (8, (g319.set 65 (.int 0)))), (m61, .inl (cA 0, 2, .inl g320))] H := hP
                                    have hD : va_D A [(m22, .inl (cA 0, 6, .inl mf22)), (m71, .inl (cA 0, 10, .inl g123)), (h0, .inr (8, (g319.set 65 (.int 0)))), (m61, .inl (cA 0, 2, .inl g320))] := hD
                                    have hf322 := fh_set (l' := [(65, .int 0), (2, .int 0), (22, .ref m22), (61, .ref m61), (71, .ref m71), (12, .int 0), (13, .int 0), (14, .int 0), (82, .int 0), (70, .int 0), (69, .int 0), (68, .int 0), (67, .int 0), (66, .int 0), (72, .int 0)]) hf322 65 (.int 0) (by decide) rfl
                                    have ho327 := fo_mono (k2 := [72, 70, 69, 68, 67, 66, 65, 64, 2]) (fo_set ho324 65 (.int 0)) (by decide)
                                    generalize (g319.set 65 (.int 0)) = fs326 at hP hD hf322 ho327
                                    refine lv_aload_n hx hb dX8_go_62 rfl (lv_at hl 1 rfl) ?_
                                    refine lv_iload_n hx hb dX8_go_63 rfl (lv_at hl 2 rfl) ?_
                                    refine lv_if_le (tgt := 71) hx hb dX8_go_64 (by decide) (fun c328 => absurd c328 (by decide)) (fun c328 => ?_)
                                    refine lv_iconst (v := 0) hx hb dX8_go_67 (by decide) ?_
                                    refine lv_goto (tgt := 75) hx hb dX8_go_68 (by decide) ?_
                                    refine va_put (D := G) (ci := 8) (v := .int 0) (ty := .int) (C := RX8) (T := TX8) (N := 91) hx hb hT ku_8 tyX8 tyX8_ok nmX8 hown hK hP hD hS 2 rfl rfl 82 (by decide) (hT _ kw_12_16) (fun _ h9 => h9) rfl (by decide +kernel) rfl rfl (fh_lt hf322 (by decide)) dX8_go_75 (fun H locs hP hD hS => ?_)
                                    have hP : va_P G vwCl [(m22, .inl (cA 0, 6, .inl mf22)), (m71, .inl (cA 0, 10, .inl g123)), (h0, .inr (8, (fs326.set 82 (.int 0)))), (m61, .inl (cA 0, 2, .inl g320))] H := hP
                                    have hD : va_D A [(m22, .inl (cA 0, 6, .inl mf22)), (m71, .inl (cA 0, 10, .inl g123)), (h0, .inr (8, (fs326.set 82 (.int 0)))), (m61, .inl (cA 0, 2, .inl g320))] := hD
                                    have hf322 := fh_set (l' := [(82, .int 0), (65, .int 0), (2, .int 0), (22, .ref m22), (61, .ref m61), (71, .ref m71), (12, .int 0), (13, .int 0), (14, .int 0), (70, .int 0), (69, .int 0), (68, .int 0), (67, .int 0), (66, .int 0), (72, .int 0)]) hf322 82 (.int 0) (by decide) rfl
                                    have ho330 := fo_set ho327 82 (.int 0)
                                    generalize (fs326.set 82 (.int 0)) = fs329 at hP hD hf322 ho330
                                    refine lv_aload_n hx hb dX8_go_78 rfl (lv_at hl 1 rfl) ?_
                                    refine va_get (D := G) (ci := 8) (v := .ref m61) (C := RX8) (T := TX8) (N := 91) hx hb hT ku_8 hown hK hP 2 rfl rfl 61 (by decide) (hT _ kw_10_22) (fun _ h9 => h9) (fh_at hf322 4 rfl) dX8_go_79 ?_
                                    refine lv_iconst (v := 0) hx hb dX8_go_82 (by decide) ?_
                                    refine va_iald (i := 0) hx hb hK hP 3 0 rfl rfl (tq_in (by decide)) dX8_go_83 ?_
                                    refine tq_i (w := 14) hE323 ?_
                                    have hP9 : va_P G vwCl [] H := fun k q h => by simp at h
                                    have hD9 : va_D A [] := ⟨fun i j p q h => by simp at h, fun k q h => by simp at h⟩
                                    exact W.iret (v := 14) hx hb hr (fun t ht hW => ⟨⟨14, (), rfl, (by unfold sp_go; (repeat' split) <;> first | rfl | (exfalso; omega) | decide), by rw [ht]; exact hP9, hD9⟩, hS.F ht⟩) hS.2.2 dX8_go_84
                                  · have k325 := tq_len (a := x.toInt) (b := 14) rfl (by decide) c325
                                    refine lv_aload_n hx hb dX8_go_46 rfl (lv_at hl 1 rfl) ?_
                                    refine lv_iconst (v := 0) hx hb dX8_go_47 (by decide) ?_
                                    refine tq_cv (wr := [(m22, .inl (cA 0, 6, .inl mf22)), (m71, .inl (cA 0, 10, .inl g123))]) hP hD hS hA [2, 3] [0, 1] rfl rfl (by decide) (by decide) (va_runV (As := [.int 0]) (rest := []) ⟨hx, hb, hml, hown, hT⟩ (c_X8_goOn_0_14 l G cA H.size h0 g319 m61 g320 (fh_sub hf322 [3, 5, 6, 7] rfl) hE323) (cwV 1 hT (tq_gV kw_43_18 kw_43_19 kw_43_20 kw_1_5 kw_43_21) rfl rfl rfl (by decide +kernel) ⟨Nat.le_of_ble_eq_true rfl, Nat.le_of_ble_eq_true rfl⟩) ⟨(tq_pre (isC := [2, 3]) hP hD hK hN rfl (by decide)).1, va_recv hK hP (ci := 8) (q0 := 2) rfl rfl, (tq_pre (isC := [2, 3]) hP hD hK hN rfl (by decide)).2⟩ rfl rfl hl.1 rfl (lv_room (Nat.le_of_ble_eq_true rfl)) dX8_go_48 ⟨Nat.le_of_ble_eq_true rfl, Nat.le_of_ble_eq_true rfl⟩) (fun u331 H locs hw332 hP hD hS => ?_)
                                    refine W.widen (k := 0) (n := 0) (Nat.le_of_ble_eq_true rfl) (Nat.le_of_ble_eq_true rfl) ?_
                                    obtain ⟨g333, g334⟩ := u331
                                    obtain ⟨ho335, hf336, hE337⟩ := hw332
                                    try dsimp only at hP hD ho335 hf336 hE337
                                    have hf336 := fh_app (fo_fh (l' := [(65, .int 1), (2, .int 0), (22, .ref m22), (61, .ref m61), (71, .ref m71), (12, .int 0), (13, .int 0), (14, .int 0), (82, .int 0), (70, .int 0), (69, .int 0), (68, .int 0), (67, .int 0), (66, .int 0)]) hf322 ho335 rfl) hf336
                                    have ho338 := fo_mono (k2 := [72, 70, 69, 68, 67, 66, 65, 64, 2]) (fo_trans ho324 ho335) (by decide +kernel)
                                    have hf336 : fh g333 91 [(65, .int 1), (2, .int 0), (22, .ref m22), (61, .ref m61), (71, .ref m71), (12, .int 0), (13, .int 0), (14, .int 0), (82, .int 0), (70, .int 0), (69, .int 0), (68, .int 0), (67, .int 0), (66, .int 0), (72, .int 0)] := hf336
                                    have hP : va_P G vwCl [(m22, .inl (cA 0, 6, .inl mf22)), (m71, .inl (cA 0, 10, .inl g123)), (h0, .inr (8, g333)), (m61, .inl (cA 0, 2, .inl g334))] H := hP
                                    have hD : va_D A [(m22, .inl (cA 0, 6, .inl mf22)), (m71, .inl (cA 0, 10, .inl g123)), (h0, .inr (8, g333)), (m61, .inl (cA 0, 2, .inl g334))] := hD
                                    refine lv_iinc (v := 15) (lv' := [(2, .int 15), (0, .ref h0), (1, .int x)]) hx hb dX8_go_51 hl (k := 0) rfl (by decide) (by decide) rfl (fun ls hl => ?_)
                                    refine lv_goto (tgt := 41) hx hb dX8_go_54 (by decide) ?_
                                    refine lv_iload_n hx hb dX8_go_41 rfl (lv_at hl 0 rfl) ?_
                                    refine lv_iload_n hx hb dX8_go_42 rfl (lv_at hl 2 rfl) ?_
                                    refine lv_icmp_ge (tgt := 57) hx hb dX8_go_43 (by decide) (fun c339 => ?_) (fun c339 => ?_)
                                    · have k339 := tq_le (a := x.toInt) (b := 15) rfl (by decide) c339
                                      obtain rfl : x = 15 := tq_is (by rw [show (15 : Int32).toInt = 15 from by decide]; omega)
                                      refine lv_aload_n hx hb dX8_go_57 rfl (lv_at hl 1 rfl) ?_
                                      refine lv_iconst (v := 0) hx hb dX8_go_58 (by decide) ?_
                                      refine va_put (D := G) (ci := 8) (v := .int 0) (ty := .boolean) (C := RX8) (T := TX8) (N := 91) hx hb hT ku_8 tyX8 tyX8_ok nmX8 hown hK hP hD hS 2 rfl rfl 65 (by decide) (hT _ kw_13_3) (fun _ h9 => h9) rfl (by decide +kernel) rfl rfl (fh_lt hf336 (by decide)) dX8_go_59 (fun H locs hP hD hS => ?_)
                                      have hP : va_P G vwCl [(m22, .inl (cA 0, 6, .inl mf22)), (m71, .inl (cA 0, 10, .inl g123)), (h0, .inr (8, (g333.set 65 (.int 0)))), (m61, .inl (cA 0, 2, .inl g334))] H := hP
                                      have hD : va_D A [(m22, .inl (cA 0, 6, .inl mf22)), (m71, .inl (cA 0, 10, .inl g123)), (h0, .inr (8, (g333.set 65 (.int 0)))), (m61, .inl (cA 0, 2, .inl g334))] := hD
                                      have hf336 := fh_set (l' := [(65, .int 0), (2, .int 0), (22, .ref m22), (61, .ref m61), (71, .ref m71), (12, .int 0), (13, .int 0), (14, .int 0), (82, .int 0), (70, .int 0), (69, .int 0), (68, .int 0), (67, .int 0), (66, .int 0), (72, .int 0)]) hf336 65 (.int 0) (by decide) rfl
                                      have ho341 := fo_mono (k2 := [72, 70, 69, 68, 67, 66, 65, 64, 2]) (fo_set ho338 65 (.int 0)) (by decide)
                                      generalize (g333.set 65 (.int 0)) = fs340 at hP hD hf336 ho341
                                      refine lv_aload_n hx hb dX8_go_62 rfl (lv_at hl 1 rfl) ?_
                                      refine lv_iload_n hx hb dX8_go_63 rfl (lv_at hl 2 rfl) ?_
                                      refine lv_if_le (tgt := 71) hx hb dX8_go_64 (by decide) (fun c342 => absurd c342 (by decide)) (fun c342 => ?_)
                                      refine lv_iconst (v := 0) hx hb dX8_go_67 (by decide) ?_
                                      refine lv_goto (tgt := 75) hx hb dX8_go_68 (by decide) ?_
                                      refine va_put (D := G) (ci := 8) (v := .int 0) (ty := .int) (C := RX8) (T := TX8) (N := 91) hx hb hT ku_8 tyX8 tyX8_ok nmX8 hown hK hP hD hS 2 rfl rfl 82 (by decide) (hT _ kw_12_16) (fun _ h9 => h9) rfl (by decide +kernel) rfl rfl (fh_lt hf336 (by decide)) dX8_go_75 (fun H locs hP hD hS => ?_)
                                      have hP : va_P G vwCl [(m22, .inl (cA 0, 6, .inl mf22)), (m71, .inl (cA 0, 10, .inl g123)), (h0, .inr (8, (fs340.set 82 (.int 0)))), (m61, .inl (cA 0, 2, .inl g334))] H := hP
                                      have hD : va_D A [(m22, .inl (cA 0, 6, .inl mf22)), (m71, .inl (cA 0, 10, .inl g123)), (h0, .inr (8, (fs340.set 82 (.int 0)))), (m61, .inl (cA 0, 2, .inl g334))] := hD
                                      have hf336 := fh_set (l' := [(82, .int 0), (65, .int 0), (2, .int 0), (22, .ref m22), (61, .ref m61), (71, .ref m71), (12, .int 0), (13, .int 0), (14, .int 0), (70, .int 0), (69, .int 0), (68, .int 0), (67, .int 0), (66, .int 0), (72, .int 0)]) hf336 82 (.int 0) (by decide) rfl
                                      have ho344 := fo_set ho341 82 (.int 0)
                                      generalize (fs340.set 82 (.int 0)) = fs343 at hP hD hf336 ho344
                                      refine lv_aload_n hx hb dX8_go_78 rfl (lv_at hl 1 rfl) ?_
                                      refine va_get (D := G) (ci := 8) (v := .ref m61) (C := RX8) (T := TX8) (N := 91) hx hb hT ku_8 hown hK hP 2 rfl rfl 61 (by decide) (hT _ kw_10_22) (fun _ h9 => h9) (fh_at hf336 4 rfl) dX8_go_79 ?_
                                      refine lv_iconst (v := 0) hx hb dX8_go_82 (by decide) ?_
                                      refine va_iald (i := 0) hx hb hK hP 3 0 rfl rfl (tq_in (by decide)) dX8_go_83 ?_
                                      refine tq_i (w := 15) hE337 ?_
                                      have hP9 : va_P G vwCl [] H := fun k q h => by simp at h
                                      have hD9 : va_D A [] := ⟨fun i j p q h => by simp at h, fun k q h => by simp at h⟩
                                      exact W.iret (v := 15) hx hb hr (fun t ht hW => ⟨⟨15, (), rfl, (by unfold sp_go; (repeat' split) <;> first | rfl | (exfalso; omega) | decide), by rw [ht]; exact hP9, hD9⟩, hS.F ht⟩) hS.2.2 dX8_go_84
                                    · have k339 := tq_len (a := x.toInt) (b := 15) rfl (by decide) c339
                                      refine lv_aload_n hx hb dX8_go_46 rfl (lv_at hl 1 rfl) ?_
                                      refine lv_iconst (v := 0) hx hb dX8_go_47 (by decide) ?_
                                      refine tq_cv (wr := [(m22, .inl (cA 0, 6, .inl mf22)), (m71, .inl (cA 0, 10, .inl g123))]) hP hD hS hA [2, 3] [0, 1] rfl rfl (by decide) (by decide) (va_runV (As := [.int 0]) (rest := []) ⟨hx, hb, hml, hown, hT⟩ (c_X8_goOn_0_15 l G cA H.size h0 g333 m61 g334 (fh_sub hf336 [3, 5, 6, 7] rfl) hE337) (cwV 1 hT (tq_gV kw_43_18 kw_43_19 kw_43_20 kw_1_5 kw_43_21) rfl rfl rfl (by decide +kernel) ⟨Nat.le_of_ble_eq_true rfl, Nat.le_of_ble_eq_true rfl⟩) ⟨(tq_pre (isC := [2, 3]) hP hD hK hN rfl (by decide)).1, va_recv hK hP (ci := 8) (q0 := 2) rfl rfl, (tq_pre (isC := [2, 3]) hP hD hK hN rfl (by decide)).2⟩ rfl rfl hl.1 rfl (lv_room (Nat.le_of_ble_eq_true rfl)) dX8_go_48 ⟨Nat.le_of_ble_eq_true rfl, Nat.le_of_ble_eq_true rfl⟩) (fun u345 H locs hw346 hP hD hS => ?_)
                                      refine W.widen (k := 0) (n := 0) (Nat.le_of_ble_eq_true rfl) (Nat.le_of_ble_eq_true rfl) ?_
                                      obtain ⟨g347, g348⟩ := u345
                                      obtain ⟨ho349, hf350, hE351⟩ := hw346
                                      try dsimp only at hP hD ho349 hf350 hE351
                                      have hf350 := fh_app (fo_fh (l' := [(65, .int 1), (2, .int 0), (22, .ref m22), (61, .ref m61), (71, .ref m71), (12, .int 0), (13, .int 0), (14, .int 0), (82, .int 0), (70, .int 0), (69, .int 0), (68, .int 0), (67, .int 0), (66, .int 0)]) hf336 ho349 rfl) hf350
                                      have ho352 := fo_mono (k2 := [72, 70, 69, 68, 67, 66, 65, 64, 2]) (fo_trans ho338 ho349) (by decide +kernel)
                                      have hf350 : fh g347 91 [(65, .int 1), (2, .int 0), (22, .ref m22), (61, .ref m61), (71, .ref m71), (12, .int 0), (13, .int 0), (14, .int 0), (82, .int 0), (70, .int 0), (69, .int 0), (68, .int 0), (67, .int 0), (66, .int 0), (72, .int 0)] := hf350
                                      have hP : va_P G vwCl [(m22, .inl (cA 0, 6, .inl mf22)), (m71, .inl (cA 0, 10, .inl g123)), (h0, .inr (8, g347)), (m61, .inl (cA 0, 2, .inl g348))] H := hP
                                      have hD : va_D A [(m22, .inl (cA 0, 6, .inl mf22)), (m71, .inl (cA 0, 10, .inl g123)), (h0, .inr (8, g347)), (m61, .inl (cA 0, 2, .inl g348))] := hD
                                      refine lv_iinc (v := 16) (lv' := [(2, .int 16), (0, .ref h0), (1, .int x)]) hx hb dX8_go_51 hl (k := 0) rfl (by decide) (by decide) rfl (fun ls hl => ?_)
                                      refine lv_goto (tgt := 41) hx hb dX8_go_54 (by decide) ?_
                                      refine lv_iload_n hx hb dX8_go_41 rfl (lv_at hl 0 rfl) ?_
                                      refine lv_iload_n hx hb dX8_go_42 rfl (lv_at hl 2 rfl) ?_
                                      refine lv_icmp_ge (tgt := 57) hx hb dX8_go_43 (by decide) (fun c353 => ?_) (fun c353 => ?_)
                                      · have k353 := tq_le (a := x.toInt) (b := 16) rfl (by decide) c353
                                        obtain rfl : x = 16 := tq_is (by rw [show (16 : Int32).toInt = 16 from by decide]; omega)
                                        refine lv_aload_n hx hb dX8_go_57 rfl (lv_at hl 1 rfl) ?_
                                        refine lv_iconst (v := 0) hx hb dX8_go_58 (by decide) ?_
                                        refine va_put (D := G) (ci := 8) (v := .int 0) (ty := .boolean) (C := RX8) (T := TX8) (N := 91) hx hb hT ku_8 tyX8 tyX8_ok nmX8 hown hK hP hD hS 2 rfl rfl 65 (by decide) (hT _ kw_13_3) (fun _ h9 => h9) rfl (by decide +kernel) rfl rfl (fh_lt hf350 (by decide)) dX8_go_59 (fun H locs hP hD hS => ?_)
                                        have hP : va_P G vwCl [(m22, .inl (cA 0, 6, .inl mf22)), (m71, .inl (cA 0, 10, .inl g123)), (h0, .inr (8, (g347.set 65 (.int 0)))), (m61, .inl (cA 0, 2, .inl g348))] H := hP
                                        have hD : va_D A [(m22, .inl (cA 0, 6, .inl mf22)), (m71, .inl (cA 0, 10, .inl g123)), (h0, .inr (8, (g347.set 65 (.int 0)))), (m61, .inl (cA 0, 2, .inl g348))] := hD
                                        have hf350 := fh_set (l' := [(65, .int 0), (2, .int 0), (22, .ref m22), (61, .ref m61), (71, .ref m71), (12, .int 0), (13, .int 0), (14, .int 0), (82, .int 0), (70, .int 0), (69, .int 0), (68, .int 0), (67, .int 0), (66, .int 0), (72, .int 0)]) hf350 65 (.int 0) (by decide) rfl
                                        have ho355 := fo_mono (k2 := [72, 70, 69, 68, 67, 66, 65, 64, 2]) (fo_set ho352 65 (.int 0)) (by decide)
                                        generalize (g347.set 65 (.int 0)) = fs354 at hP hD hf350 ho355
                                        refine lv_aload_n hx hb dX8_go_62 rfl (lv_at hl 1 rfl) ?_
                                        refine lv_iload_n hx hb dX8_go_63 rfl (lv_at hl 2 rfl) ?_
                                        refine lv_if_le (tgt := 71) hx hb dX8_go_64 (by decide) (fun c356 => absurd c356 (by decide)) (fun c356 => ?_)
                                        refine lv_iconst (v := 0) hx hb dX8_go_67 (by decide) ?_
                                        refine lv_goto (tgt := 75) hx hb dX8_go_68 (by decide) ?_
                                        refine va_put (D := G) (ci := 8) (v := .int 0) (ty := .int) (C := RX8) (T := TX8) (N := 91) hx hb hT ku_8 tyX8 tyX8_ok nmX8 hown hK hP hD hS 2 rfl rfl 82 (by decide) (hT _ kw_12_16) (fun _ h9 => h9) rfl (by decide +kernel) rfl rfl (fh_lt hf350 (by decide)) dX8_go_75 (fun H locs hP hD hS => ?_)
                                        have hP : va_P G vwCl [(m22, .inl (cA 0, 6, .inl mf22)), (m71, .inl (cA 0, 10, .inl g123)), (h0, .inr (8, (fs354.set 82 (.int 0)))), (m61, .inl (cA 0, 2, .inl g348))] H := hP
                                        have hD : va_D A [(m22, .inl (cA 0, 6, .inl mf22)), (m71, .inl (cA 0, 10, .inl g123)), (h0, .inr (8, (fs354.set 82 (.int 0)))), (m61, .inl (cA 0, 2, .inl g348))] := hD
                                        have hf350 := fh_set (l' := [(82, .int 0), (65, .int 0), (2, .int 0), (22, .ref m22), (61, .ref m61), (71, .ref m71), (12, .int 0), (13, .int 0), (14, .int 0), (70, .int 0), (69, .int 0), (68, .int 0), (67, .int 0), (66, .int 0), (72, .int 0)]) hf350 82 (.int 0) (by decide) rfl
                                        have ho358 := fo_set ho355 82 (.int 0)
                                        generalize (fs354.set 82 (.int 0)) = fs357 at hP hD hf350 ho358
                                        refine lv_aload_n hx hb dX8_go_78 rfl (lv_at hl 1 rfl) ?_
                                        refine va_get (D := G) (ci := 8) (v := .ref m61) (C := RX8) (T := TX8) (N := 91) hx hb hT ku_8 hown hK hP 2 rfl rfl 61 (by decide) (hT _ kw_10_22) (fun _ h9 => h9) (fh_at hf350 4 rfl) dX8_go_79 ?_
                                        refine lv_iconst (v := 0) hx hb dX8_go_82 (by decide) ?_
                                        refine va_iald (i := 0) hx hb hK hP 3 0 rfl rfl (tq_in (by decide)) dX8_go_83 ?_
                                        refine tq_i (w := 16) hE351 ?_
                                        have hP9 : va_P G vwCl [] H := fun k q h => by simp at h
                                        have hD9 : va_D A [] := ⟨fun i j p q h => by simp at h, fun k q h => by simp at h⟩
                                        exact W.iret (v := 16) hx hb hr (fun t ht hW => ⟨⟨16, (), rfl, (by unfold sp_go; (repeat' split) <;> first | rfl | (exfalso; omega) | decide), by rw [ht]; exact hP9, hD9⟩, hS.F ht⟩) hS.2.2 dX8_go_84
                                      · have k353 := tq_len (a := x.toInt) (b := 16) rfl (by decide) c353
                                        refine lv_aload_n hx hb dX8_go_46 rfl (lv_at hl 1 rfl) ?_
                                        refine lv_iconst (v := 0) hx hb dX8_go_47 (by decide) ?_
                                        refine tq_cv (wr := [(m22, .inl (cA 0, 6, .inl mf22)), (m71, .inl (cA 0, 10, .inl g123))]) hP hD hS hA [2, 3] [0, 1] rfl rfl (by decide) (by decide) (va_runV (As := [.int 0]) (rest := []) ⟨hx, hb, hml, hown, hT⟩ (c_X8_goOn_0_16 l G cA H.size h0 g347 m61 g348 (fh_sub hf350 [3, 5, 6, 7] rfl) hE351) (cwV 1 hT (tq_gV kw_43_18 kw_43_19 kw_43_20 kw_1_5 kw_43_21) rfl rfl rfl (by decide +kernel) ⟨Nat.le_of_ble_eq_true rfl, Nat.le_of_ble_eq_true rfl⟩) ⟨(tq_pre (isC := [2, 3]) hP hD hK hN rfl (by decide)).1, va_recv hK hP (ci := 8) (q0 := 2) rfl rfl, (tq_pre (isC := [2, 3]) hP hD hK hN rfl (by decide)).2⟩ rfl rfl hl.1 rfl (lv_room (Nat.le_of_ble_eq_true rfl)) dX8_go_48 ⟨Nat.le_of_ble_eq_true rfl, Nat.le_of_ble_eq_true rfl⟩) (fun u359 H locs hw360 hP hD hS => ?_)
                                        refine W.widen (k := 0) (n := 0) (Nat.le_of_ble_eq_true rfl) (Nat.le_of_ble_eq_true rfl) ?_
                                        obtain ⟨g361, g362⟩ := u359
                                        obtain ⟨ho363, hf364, hE365⟩ := hw360
                                        try dsimp only at hP hD ho363 hf364 hE365
                                        have hf364 := fh_app (fo_fh (l' := [(65, .int 1), (2, .int 0), (22, .ref m22), (61, .ref m61), (71, .ref m71), (12, .int 0), (13, .int 0), (14, .int 0), (82, .int 0), (70, .int 0), (69, .int 0), (68, .int 0), (67, .int 0), (66, .int 0)]) hf350 ho363 rfl) hf364
                                        have ho366 := fo_mono (k2 := [72, 70, 69, 68, 67, 66, 65, 64, 2]) (fo_trans ho352 ho363) (by decide +kernel)
                                        have hf364 : fh g361 91 [(65, .int 1), (2, .int 0), (22, .ref m22), (61, .ref m61), (71, .ref m71), (12, .int 0), (13, .int 0), (14, .int 0), (82, .int 0), (70, .int 0), (69, .int 0), (68, .int 0), (67, .int 0), (66, .int 0), (72, .int 0)] := hf364
                                        have hP : va_P G vwCl [(m22, .inl (cA 0, 6, .inl mf22)), (m71, .inl (cA 0, 10, .inl g123)), (h0, .inr (8, g361)), (m61, .inl (cA 0, 2, .inl g362))] H := hP
                                        have hD : va_D A [(m22, .inl (cA 0, 6, .inl mf22)), (m71, .inl (cA 0, 10, .inl g123)), (h0, .inr (8, g361)), (m61, .inl (cA 0, 2, .inl g362))] := hD
                                        refine lv_iinc (v := 17) (lv' := [(2, .int 17), (0, .ref h0), (1, .int x)]) hx hb dX8_go_51 hl (k := 0) rfl (by decide) (by decide) rfl (fun ls hl => ?_)
                                        refine lv_goto (tgt := 41) hx hb dX8_go_54 (by decide) ?_
                                        refine lv_iload_n hx hb dX8_go_41 rfl (lv_at hl 0 rfl) ?_
                                        refine lv_iload_n hx hb dX8_go_42 rfl (lv_at hl 2 rfl) ?_
                                        refine lv_icmp_ge (tgt := 57) hx hb dX8_go_43 (by decide) (fun c367 => ?_) (fun c367 => ?_)
                                        · have k367 := tq_le (a := x.toInt) (b := 17) rfl (by decide) c367
                                          obtain rfl : x = 17 := tq_is (by rw [show (17 : Int32).toInt = 17 from by decide]; omega)
                                          refine lv_aload_n hx hb dX8_go_57 rfl (lv_at hl 1 rfl) ?_
                                          refine lv_iconst (v := 0) hx hb dX8_go_58 (by decide) ?_
                                          refine va_put (D := G) (ci := 8) (v := .int 0) (ty := .boolean) (C := RX8) (T := TX8) (N := 91) hx hb hT ku_8 tyX8 tyX8_ok nmX8 hown hK hP hD hS 2 rfl rfl 65 (by decide) (hT _ kw_13_3) (fun _ h9 => h9) rfl (by decide +kernel) rfl rfl (fh_lt hf364 (by decide)) dX8_go_59 (fun H locs hP hD hS => ?_)
                                          have hP : va_P G vwCl [(m22, .inl (cA 0, 6, .inl mf22)), (m71, .inl (cA 0, 10, .inl g123)), (h0, .inr (8, (g361.set 65 (.int 0)))), (m61, .inl (cA 0, 2, .inl g362))] H := hP
                                          have hD : va_D A [(m22, .inl (cA 0, 6, .inl mf22)), (m71, .inl (cA 0, 10, .inl g123)), (h0, .inr (8, (g361.set 65 (.int 0)))), (m61, .inl (cA 0, 2, .inl g362))] := hD
                                          have hf364 := fh_set (l' := [(65, .int 0), (2, .int 0), (22, .ref m22), (61, .ref m61), (71, .ref m71), (12, .int 0), (13, .int 0), (14, .int 0), (82, .int 0), (70, .int 0), (69, .int 0), (68, .int 0), (67, .int 0), (66, .int 0), (72, .int 0)]) hf364 65 (.int 0) (by decide) rfl
                                          have ho369 := fo_mono (k2 := [72, 70, 69, 68, 67, 66, 65, 64, 2]) (fo_set ho366 65 (.int 0)) (by decide)
                                          generalize (g361.set 65 (.int 0)) = fs368 at hP hD hf364 ho369
                                          refine lv_aload_n hx hb dX8_go_62 rfl (lv_at hl 1 rfl) ?_
                                          refine lv_iload_n hx hb dX8_go_63 rfl (lv_at hl 2 rfl) ?_
                                          refine lv_if_le (tgt := 71) hx hb dX8_go_64 (by decide) (fun c370 => absurd c370 (by decide)) (fun c370 => ?_)
                                          refine lv_iconst (v := 0) hx hb dX8_go_67 (by decide) ?_
                                          refine lv_goto (tgt := 75) hx hb dX8_go_68 (by decide) ?_
                                          refine va_put (D := G) (ci := 8) (v := .int 0) (ty := .int) (C := RX8) (T := TX8) (N := 91) hx hb hT ku_8 tyX8 tyX8_ok nmX8 hown hK hP hD hS 2 rfl rfl 82 (by decide) (hT _ kw_12_16) (fun _ h9 => h9) rfl (by decide +kernel) rfl rfl (fh_lt hf364 (by decide)) dX8_go_75 (fun H locs hP hD hS => ?_)
                                          have hP : va_P G vwCl [(m22, .inl (cA 0, 6, .inl mf22)), (m71, .inl (cA 0, 10, .inl g123)), (h0, .inr (8, (fs368.set 82 (.int 0)))), (m61, .inl (cA 0, 2, .inl g362))] H := hP
                                          have hD : va_D A [(m22, .inl (cA 0, 6, .inl mf22)), (m71, .inl (cA 0, 10, .inl g123)), (h0, .inr (8, (fs368.set 82 (.int 0)))), (m61, .inl (cA 0, 2, .inl g362))] := hD
                                          have hf364 := fh_set (l' := [(82, .int 0), (65, .int 0), (2, .int 0), (22, .ref m22), (61, .ref m61), (71, .ref m71), (12, .int 0), (13, .int 0), (14, .int 0), (70, .int 0), (69, .int 0), (68, .int 0), (67, .int 0), (66, .int 0), (72, .int 0)]) hf364 82 (.int 0) (by decide) rfl
                                          have ho372 := fo_set ho369 82 (.int 0)
                                          generalize (fs368.set 82 (.int 0)) = fs371 at hP hD hf364 ho372
                                          refine lv_aload_n hx hb dX8_go_78 rfl (lv_at hl 1 rfl) ?_
                                          refine va_get (D := G) (ci := 8) (v := .ref m61) (C := RX8) (T := TX8) (N := 91) hx hb hT ku_8 hown hK hP 2 rfl rfl 61 (by decide) (hT _ kw_10_22) (fun _ h9 => h9) (fh_at hf364 4 rfl) dX8_go_79 ?_
                                          refine lv_iconst (v := 0) hx hb dX8_go_82 (by decide) ?_
                                          refine va_iald (i := 0) hx hb hK hP 3 0 rfl rfl (tq_in (by decide)) dX8_go_83 ?_
                                          refine tq_i (w := 17) hE365 ?_
                                          have hP9 : va_P G vwCl [] H := fun k q h => by simp at h
                                          have hD9 : va_D A [] := ⟨fun i j p q h => by simp at h, fun k q h => by simp at h⟩
                                          exact W.iret (v := 17) hx hb hr (fun t ht hW => ⟨⟨17, (), rfl, (by unfold sp_go; (repeat' split) <;> first | rfl | (exfalso; omega) | decide), by rw [ht]; exact hP9, hD9⟩, hS.F ht⟩) hS.2.2 dX8_go_84
                                        · have k367 := tq_len (a := x.toInt) (b := 17) rfl (by decide) c367
                                          refine lv_aload_n hx hb dX8_go_46 rfl (lv_at hl 1 rfl) ?_
                                          refine lv_iconst (v := 0) hx hb dX8_go_47 (by decide) ?_
                                          refine tq_cv (wr := [(m22, .inl (cA 0, 6, .inl mf22)), (m71, .inl (cA 0, 10, .inl g123))]) hP hD hS hA [2, 3] [0, 1] rfl rfl (by decide) (by decide) (va_runV (As := [.int 0]) (rest := []) ⟨hx, hb, hml, hown, hT⟩ (c_X8_goOn_0_17 l G cA H.size h0 g361 m61 g362 (fh_sub hf364 [3, 5, 6, 7] rfl) hE365) (cwV 1 hT (tq_gV kw_43_18 kw_43_19 kw_43_20 kw_1_5 kw_43_21) rfl rfl rfl (by decide +kernel) ⟨Nat.le_of_ble_eq_true rfl, Nat.le_of_ble_eq_true rfl⟩) ⟨(tq_pre (isC := [2, 3]) hP hD hK hN rfl (by decide)).1, va_recv hK hP (ci := 8) (q0 := 2) rfl rfl, (tq_pre (isC := [2, 3]) hP hD hK hN rfl (by decide)).2⟩ rfl rfl hl.1 rfl (lv_room (Nat.le_of_ble_eq_true rfl)) dX8_go_48 ⟨Nat.le_of_ble_eq_true rfl, Nat.le_of_ble_eq_true rfl⟩) (fun u373 H locs hw374 hP hD hS => ?_)
                                          refine W.widen (k := 0) (n := 0) (Nat.le_of_ble_eq_true rfl) (Nat.le_of_ble_eq_true rfl) ?_
                                          obtain ⟨g375, g376⟩ := u373
                                          obtain ⟨ho377, hf378, hE379⟩ := hw374
                                          try dsimp only at hP hD ho377 hf378 hE379
                                          have hf378 := fh_app (fo_fh (l' := [(65, .int 1), (2, .int 0), (22, .ref m22), (61, .ref m61), (71, .ref m71), (12, .int 0), (13, .int 0), (14, .int 0), (82, .int 0), (70, .int 0), (69, .int 0), (68, .int 0), (67, .int 0), (66, .int 0)]) hf364 ho377 rfl) hf378
                                          have ho380 := fo_mono (k2 := [72, 70, 69, 68, 67, 66, 65, 64, 2]) (fo_trans ho366 ho377) (by decide +kernel)
                                          have hf378 : fh g375 91 [(65, .int 1), (2, .int 0), (22, .ref m22), (61, .ref m61), (71, .ref m71), (12, .int 0), (13, .int 0), (14, .int 0), (82, .int 0), (70, .int 0), (69, .int 0), (68, .int 0), (67, .int 0), (66, .int 0), (72, .int 0)] := hf378
                                          have hP : va_P G vwCl [(m22, .inl (cA 0, 6, .inl mf22)), (m71, .inl (cA 0, 10, .inl g123)), (h0, .inr (8, g375)), (m61, .inl (cA 0, 2, .inl g376))] H := hP
                                          have hD : va_D A [(m22, .inl (cA 0, 6, .inl mf22)), (m71, .inl (cA 0, 10, .inl g123)), (h0, .inr (8, g375)), (m61, .inl (cA 0, 2, .inl g376))] := hD
                                          refine lv_iinc (v := 18) (lv' := [(2, .int 18), (0, .ref h0), (1, .int x)]) hx hb dX8_go_51 hl (k := 0) rfl (by decide) (by decide) rfl (fun ls hl => ?_)
                                          refine lv_goto (tgt := 41) hx hb dX8_go_54 (by decide) ?_
                                          refine lv_iload_n hx hb dX8_go_41 rfl (lv_at hl 0 rfl) ?_
                                          refine lv_iload_n hx hb dX8_go_42 rfl (lv_at hl 2 rfl) ?_
                                          refine lv_icmp_ge (tgt := 57) hx hb dX8_go_43 (by decide) (fun c381 => ?_) (fun c381 => ?_)
                                          · have k381 := tq_le (a := x.toInt) (b := 18) rfl (by decide) c381
                                            obtain rfl : x = 18 := tq_is (by rw [show (18 : Int32).toInt = 18 from by decide]; omega)
                                            refine lv_aload_n hx hb dX8_go_57 rfl (lv_at hl 1 rfl) ?_
                                            refine lv_iconst (v := 0) hx hb dX8_go_58 (by decide) ?_
                                            refine va_put (D := G) (ci := 8) (v := .int 0) (ty := .boolean) (C := RX8) (T := TX8) (N := 91) hx hb hT ku_8 tyX8 tyX8_ok nmX8 hown hK hP hD hS 2 rfl rfl 65 (by decide) (hT _ kw_13_3) (fun _ h9 => h9) rfl (by decide +kernel) rfl rfl (fh_lt hf378 (by decide)) dX8_go_59 (fun H locs hP hD hS => ?_)
                                            have hP : va_P G vwCl [(m22, .inl (cA 0, 6, .inl mf22)), (m71, .inl (cA 0, 10, .inl g123)), (h0, .inr (8, (g375.set 65 (.int 0)))), (m61, .inl (cA 0, 2, .inl g376))] H := hP
                                            have hD : va_D A [(m22, .inl (cA 0, 6, .inl mf22)), (m71, .inl (cA 0, 10, .inl g123)), (h0, .inr (8, (g375.set 65 (.int 0)))), (m61, .inl (cA 0, 2, .inl g376))] := hD
                                            have hf378 := fh_set (l' := [(65, .int 0), (2, .int 0), (22, .ref m22), (61, .ref m61), (71, .ref m71), (12, .int 0), (13, .int 0), (14, .int 0), (82, .int 0), (70, .int 0), (69, .int 0), (68, .int 0), (67, .int 0), (66, .int 0), (72, .int 0)]) hf378 65 (.int 0) (by decide) rfl
                                            have ho383 := fo_mono (k2 := [72, 70, 69, 68, 67, 66, 65, 64, 2]) (fo_set ho380 65 (.int 0)) (by decide)
                                            generalize (g375.set 65 (.int 0)) = fs382 at hP hD hf378 ho383
                                            refine lv_aload_n hx hb dX8_go_62 rfl (lv_at hl 1 rfl) ?_
                                            refine lv_iload_n hx hb dX8_go_63 rfl (lv_at hl 2 rfl) ?_
                                            refine lv_if_le (tgt := 71) hx hb dX8_go_64 (by decide) (fun c384 => absurd c384 (by decide)) (fun c384 => ?_)
                                            refine lv_iconst (v := 0) hx hb dX8_go_67 (by decide) ?_
                                            refine lv_goto (tgt := 75) hx hb dX8_go_68 (by decide) ?_
                                            refine va_put (D := G) (ci := 8) (v := .int 0) (ty := .int) (C := RX8) (T := TX8) (N := 91) hx hb hT ku_8 tyX8 tyX8_ok nmX8 hown hK hP hD hS 2 rfl rfl 82 (by decide) (hT _ kw_12_16) (fun _ h9 => h9) rfl (by decide +kernel) rfl rfl (fh_lt hf378 (by decide)) dX8_go_75 (fun H locs hP hD hS => ?_)
                                            have hP : va_P G vwCl [(m22, .inl (cA 0, 6, .inl mf22)), (m71, .inl (cA 0, 10, .inl g123)), (h0, .inr (8, (fs382.set 82 (.int 0)))), (m61, .inl (cA 0, 2, .inl g376))] H := hP
                                            have hD : va_D A [(m22, .inl (cA 0, 6, .inl mf22)), (m71, .inl (cA 0, 10, .inl g123)), (h0, .inr (8, (fs382.set 82 (.int 0)))), (m61, .inl (cA 0, 2, .inl g376))] := hD
                                            have hf378 := fh_set (l' := [(82, .int 0), (65, .int 0), (2, .int 0), (22, .ref m22), (61, .ref m61), (71, .ref m71), (12, .int 0), (13, .int 0), (14, .int 0), (70, .int 0), (69, .int 0), (68, .int 0), (67, .int 0), (66, .int 0), (72, .int 0)]) hf378 82 (.int 0) (by decide) rfl
                                            have ho386 := fo_set ho383 82 (.int 0)
                                            generalize (fs382.set 82 (.int 0)) = fs385 at hP hD hf378 ho386
                                            refine lv_aload_n hx hb dX8_go_78 rfl (lv_at hl 1 rfl) ?_
                                            refine va_get (D := G) (ci := 8) (v := .ref m61) (C := RX8) (T := TX8) (N := 91) hx hb hT ku_8 hown hK hP 2 rfl rfl 61 (by decide) (hT _ kw_10_22) (fun _ h9 => h9) (fh_at hf378 4 rfl) dX8_go_79 ?_
                                            refine lv_iconst (v := 0) hx hb dX8_go_82 (by decide) ?_
                                            refine va_iald (i := 0) hx hb hK hP 3 0 rfl rfl (tq_in (by decide)) dX8_go_83 ?_
                                            refine tq_i (w := 18) hE379 ?_
                                            have hP9 : va_P G vwCl [] H := fun k q h => by simp at h
                                            have hD9 : va_D A [] := ⟨fun i j p q h => by simp at h, fun k q h => by simp at h⟩
                                            exact W.iret (v := 18) hx hb hr (fun t ht hW => ⟨⟨18, (), rfl, (by unfold sp_go; (repeat' split) <;> first | rfl | (exfalso; omega) | decide), by rw [ht]; exact hP9, hD9⟩, hS.F ht⟩) hS.2.2 dX8_go_84
                                          · have k381 := tq_len (a := x.toInt) (b := 18) rfl (by decide) c381
                                            refine lv_aload_n hx hb dX8_go_46 rfl (lv_at hl 1 rfl) ?_
                                            refine lv_iconst (v := 0) hx hb dX8_go_47 (by decide) ?_
                                            refine tq_cv (wr := [(m22, .inl (cA 0, 6, .inl mf22)), (m71, .inl (cA 0, 10, .inl g123))]) hP hD hS hA [2, 3] [0, 1] rfl rfl (by decide) (by decide) (va_runV (As := [.int 0]) (rest := []) ⟨hx, hb, hml, hown, hT⟩ (c_X8_goOn_0_18 l G cA H.size h0 g375 m61 g376 (fh_sub hf378 [3, 5, 6, 7] rfl) hE379) (cwV 1 hT (tq_gV kw_43_18 kw_43_19 kw_43_20 kw_1_5 kw_43_21) rfl rfl rfl (by decide +kernel) ⟨Nat.le_of_ble_eq_true rfl, Nat.le_of_ble_eq_true rfl⟩) ⟨(tq_pre (isC := [2, 3]) hP hD hK hN rfl (by decide)).1, va_recv hK hP (ci := 8) (q0 := 2) rfl rfl, (tq_pre (isC := [2, 3]) hP hD hK hN rfl (by decide)).2⟩ rfl rfl hl.1 rfl (lv_room (Nat.le_of_ble_eq_true rfl)) dX8_go_48 ⟨Nat.le_of_ble_eq_true rfl, Nat.le_of_ble_eq_true rfl⟩) (fun u387 H locs hw388 hP hD hS => ?_)
                                            refine W.widen (k := 0) (n := 0) (Nat.le_of_ble_eq_true rfl) (Nat.le_of_ble_eq_true rfl) ?_
                                            obtain ⟨g389, g390⟩ := u387
                                            obtain ⟨ho391, hf392, hE393⟩ := hw388
                                            try dsimp only at hP hD ho391 hf392 hE393
                                            have hf392 := fh_app (fo_fh (l' := [(65, .int 1), (2, .int 0), (22, .ref m22), (61, .ref m61), (71, .ref m71), (12, .int 0), (13, .int 0), (14, .int 0), (82, .int 0), (70, .int 0), (69, .int 0), (68, .int 0), (67, .int 0), (66, .int 0)]) hf378 ho391 rfl) hf392
                                            have ho394 := fo_mono (k2 := [72, 70, 69, 68, 67, 66, 65, 64, 2]) (fo_trans ho380 ho391) (by decide +kernel)
                                            have hf392 : fh g389 91 [(65, .int 1), (2, .int 0), (22, .ref m22), (61, .ref m61), (71, .ref m71), (12, .int 0), (13, .int 0), (14, .int 0), (82, .int 0), (70, .int 0), (69, .int 0), (68, .int 0), (67, .int 0), (66, .int 0), (72, .int 0)] := hf392
                                            have hP : va_P G vwCl [(m22, .inl (cA 0, 6, .inl mf22)), (m71, .inl (cA 0, 10, .inl g123)), (h0, .inr (8, g389)), (m61, .inl (cA 0, 2, .inl g390))] H := hP
                                            have hD : va_D A [(m22, .inl (cA 0, 6, .inl mf22)), (m71, .inl (cA 0, 10, .inl g123)), (h0, .inr (8, g389)), (m61, .inl (cA 0, 2, .inl g390))] := hD
                                            refine lv_iinc (v := 19) (lv' := [(2, .int 19), (0, .ref h0), (1, .int x)]) hx hb dX8_go_51 hl (k := 0) rfl (by decide) (by decide) rfl (fun ls hl => ?_)
                                            refine lv_goto (tgt := 41) hx hb dX8_go_54 (by decide) ?_
                                            refine lv_iload_n hx hb dX8_go_41 rfl (lv_at hl 0 rfl) ?_
                                            refine lv_iload_n hx hb dX8_go_42 rfl (lv_at hl 2 rfl) ?_
                                            refine lv_icmp_ge (tgt := 57) hx hb dX8_go_43 (by decide) (fun c395 => ?_) (fun c395 => ?_)
                                            · have k395 := tq_le (a := x.toInt) (b := 19) rfl (by decide) c395
                                              obtain rfl : x = 19 := tq_is (by rw [show (19 : Int32).toInt = 19 from by decide]; omega)
                                              refine lv_aload_n hx hb dX8_go_57 rfl (lv_at hl 1 rfl) ?_
                                              refine lv_iconst (v := 0) hx hb dX8_go_58 (by decide) ?_
                                              refine va_put (D := G) (ci := 8) (v := .int 0) (ty := .boolean) (C := RX8) (T := TX8) (N := 91) hx hb hT ku_8 tyX8 tyX8_ok nmX8 hown hK hP hD hS 2 rfl rfl 65 (by decide) (hT _ kw_13_3) (fun _ h9 => h9) rfl (by decide +kernel) rfl rfl (fh_lt hf392 (by decide)) dX8_go_59 (fun H locs hP hD hS => ?_)
                                              have hP : va_P G vwCl [(m22, .inl (cA 0, 6, .inl mf22)), (m71, .inl (cA 0, 10, .inl g123)), (h0, .inr (8, (g389.set 65 (.int 0)))), (m61, .inl (cA 0, 2, .inl g390))] H := hP
                                              have hD : va_D A [(m22, .inl (cA 0, 6, .inl mf22)), (m71, .inl (cA 0, 10, .inl g123)), (h0, .inr (8, (g389.set 65 (.int 0)))), (m61, .inl (cA 0, 2, .inl g390))] := hD
                                              have hf392 := fh_set (l' := [(65, .int 0), (2, .int 0), (22, .ref m22), (61, .ref m61), (71, .ref m71), (12, .int 0), (13, .int 0), (14, .int 0), (82, .int 0), (70, .int 0), (69, .int 0), (68, .int 0), (67, .int 0), (66, .int 0), (72, .int 0)]) hf392 65 (.int 0) (by decide) rfl
                                              have ho397 := fo_mono (k2 := [72, 70, 69, 68, 67, 66, 65, 64, 2]) (fo_set ho394 65 (.int 0)) (by decide)
                                              generalize (g389.set 65 (.int 0)) = fs396 at hP hD hf392 ho397
                                              refine lv_aload_n hx hb dX8_go_62 rfl (lv_at hl 1 rfl) ?_
                                              refine lv_iload_n hx hb dX8_go_63 rfl (lv_at hl 2 rfl) ?_
                                              refine lv_if_le (tgt := 71) hx hb dX8_go_64 (by decide) (fun c398 => absurd c398 (by decide)) (fun c398 => ?_)
                                              refine lv_iconst (v := 0) hx hb dX8_go_67 (by decide) ?_
                                              refine lv_goto (tgt := 75) hx hb dX8_go_68 (by decide) ?_
                                              refine va_put (D := G) (ci := 8) (v := .int 0) (ty := .int) (C := RX8) (T := TX8) (N := 91) hx hb hT ku_8 tyX8 tyX8_ok nmX8 hown hK hP hD hS 2 rfl rfl 82 (by decide) (hT _ kw_12_16) (fun _ h9 => h9) rfl (by decide +kernel) rfl rfl (fh_lt hf392 (by decide)) dX8_go_75 (fun H locs hP hD hS => ?_)
                                              have hP : va_P G vwCl [(m22, .inl (cA 0, 6, .inl mf22)), (m71, .inl (cA 0, 10, .inl g123)), (h0, .inr (8, (fs396.set 82 (.int 0)))), (m61, .inl (cA 0, 2, .inl g390))] H := hP
                                              have hD : va_D A [(m22, .inl (cA 0, 6, .inl mf22)), (m71, .inl (cA 0, 10, .inl g123)), (h0, .inr (8, (fs396.set 82 (.int 0)))), (m61, .inl (cA 0, 2, .inl g390))] := hD
                                              have hf392 := fh_set (l' := [(82, .int 0), (65, .int 0), (2, .int 0), (22, .ref m22), (61, .ref m61), (71, .ref m71), (12, .int 0), (13, .int 0), (14, .int 0), (70, .int 0), (69, .int 0), (68, .int 0), (67, .int 0), (66, .int 0), (72, .int 0)]) hf392 82 (.int 0) (by decide) rfl
                                              have ho400 := fo_set ho397 82 (.int 0)
                                              generalize (fs396.set 82 (.int 0)) = fs399 at hP hD hf392 ho400
                                              refine lv_aload_n hx hb dX8_go_78 rfl (lv_at hl 1 rfl) ?_
                                              refine va_get (D := G) (ci := 8) (v := .ref m61) (C := RX8) (T := TX8) (N := 91) hx hb hT ku_8 hown hK hP 2 rfl rfl 61 (by decide) (hT _ kw_10_22) (fun _ h9 => h9) (fh_at hf392 4 rfl) dX8_go_79 ?_
                                              refine lv_iconst (v := 0) hx hb dX8_go_82 (by decide) ?_
                                              refine va_iald (i := 0) hx hb hK hP 3 0 rfl rfl (tq_in (by decide)) dX8_go_83 ?_
                                              refine tq_i (w := 19) hE393 ?_
                                              have hP9 : va_P G vwCl [] H := fun k q h => by simp at h
                                              have hD9 : va_D A [] := ⟨fun i j p q h => by simp at h, fun k q h => by simp at h⟩
                                              exact W.iret (v := 19) hx hb hr (fun t ht hW => ⟨⟨19, (), rfl, (by unfold sp_go; (repeat' split) <;> first | rfl | (exfalso; omega) | decide), by rw [ht]; exact hP9, hD9⟩, hS.F ht⟩) hS.2.2 dX8_go_84
                                            · have k395 := tq_len (a := x.toInt) (b := 19) rfl (by decide) c395
                                              refine lv_aload_n hx hb dX8_go_46 rfl (lv_at hl 1 rfl) ?_
                                              refine lv_iconst (v := 0) hx hb dX8_go_47 (by decide) ?_
                                              refine tq_cv (wr := [(m22, .inl (cA 0, 6, .inl mf22)), (m71, .inl (cA 0, 10, .inl g123))]) hP hD hS hA [2, 3] [0, 1] rfl rfl (by decide) (by decide) (va_runV (As := [.int 0]) (rest := []) ⟨hx, hb, hml, hown, hT⟩ (c_X8_goOn_0_19 l G cA H.size h0 g389 m61 g390 (fh_sub hf392 [3, 5, 6, 7] rfl) hE393) (cwV 1 hT (tq_gV kw_43_18 kw_43_19 kw_43_20 kw_1_5 kw_43_21) rfl rfl rfl (by decide +kernel) ⟨Nat.le_of_ble_eq_true rfl, Nat.le_of_ble_eq_true rfl⟩) ⟨(tq_pre (isC := [2, 3]) hP hD hK hN rfl (by decide)).1, va_recv hK hP (ci := 8) (q0 := 2) rfl rfl, (tq_pre (isC := [2, 3]) hP hD hK hN rfl (by decide)).2⟩ rfl rfl hl.1 rfl (lv_room (Nat.le_of_ble_eq_true rfl)) dX8_go_48 ⟨Nat.le_of_ble_eq_true rfl, Nat.le_of_ble_eq_true rfl⟩) (fun u401 H locs hw402 hP hD hS => ?_)
                                              refine W.widen (k := 0) (n := 0) (Nat.le_of_ble_eq_true rfl) (Nat.le_of_ble_eq_true rfl) ?_
                                              obtain ⟨g403, g404⟩ := u401
                                              obtain ⟨ho405, hf406, hE407⟩ := hw402
                                              try dsimp only at hP hD ho405 hf406 hE407
                                              have hf406 := fh_app (fo_fh (l' := [(65, .int 1), (2, .int 0), (22, .ref m22), (61, .ref m61), (71, .ref m71), (12, .int 0), (13, .int 0), (14, .int 0), (82, .int 0), (70, .int 0), (69, .int 0), (68, .int 0), (67, .int 0), (66, .int 0)]) hf392 ho405 rfl) hf406
                                              have ho408 := fo_mono (k2 := [72, 70, 69, 68, 67, 66, 65, 64, 2]) (fo_trans ho394 ho405) (by decide +kernel)
                                              have hf406 : fh g403 91 [(65, .int 1), (2, .int 0), (22, .ref m22), (61, .ref m61), (71, .ref m71), (12, .int 0), (13, .int 0), (14, .int 0), (82, .int 0), (70, .int 0), (69, .int 0), (68, .int 0), (67, .int 0), (66, .int 0), (72, .int 0)] := hf406
                                              have hP : va_P G vwCl [(m22, .inl (cA 0, 6, .inl mf22)), (m71, .inl (cA 0, 10, .inl g123)), (h0, .inr (8, g403)), (m61, .inl (cA 0, 2, .inl g404))] H := hP
                                              have hD : va_D A [(m22, .inl (cA 0, 6, .inl mf22)), (m71, .inl (cA 0, 10, .inl g123)), (h0, .inr (8, g403)), (m61, .inl (cA 0, 2, .inl g404))] := hD
                                              refine lv_iinc (v := 20) (lv' := [(2, .int 20), (0, .ref h0), (1, .int x)]) hx hb dX8_go_51 hl (k := 0) rfl (by decide) (by decide) rfl (fun ls hl => ?_)
                                              refine lv_goto (tgt := 41) hx hb dX8_go_54 (by decide) ?_
                                              refine lv_iload_n hx hb dX8_go_41 rfl (lv_at hl 0 rfl) ?_
                                              refine lv_iload_n hx hb dX8_go_42 rfl (lv_at hl 2 rfl) ?_
                                              refine lv_icmp_ge (tgt := 57) hx hb dX8_go_43 (by decide) (fun c409 => ?_) (fun c409 => ?_)
                                              · have k409 := tq_le (a := x.toInt) (b := 20) rfl (by decide) c409
                                                obtain rfl : x = 20 := tq_is (by rw [show (20 : Int32).toInt = 20 from by decide]; omega)
                                                refine lv_aload_n hx hb dX8_go_57 rfl (lv_at hl 1 rfl) ?_
                                                refine lv_iconst (v := 0) hx hb dX8_go_58 (by decide) ?_
                                                refine va_put (D := G) (ci := 8) (v := .int 0) (ty := .boolean) (C := RX8) (T := TX8) (N := 91) hx hb hT ku_8 tyX8 tyX8_ok nmX8 hown hK hP hD hS 2 rfl rfl 65 (by decide) (hT _ kw_13_3) (fun _ h9 => h9) rfl (by decide +kernel) rfl rfl (fh_lt hf406 (by decide)) dX8_go_59 (fun H locs hP hD hS => ?_)
                                                have hP : va_P G vwCl [(m22, .inl (cA 0, 6, .inl mf22)), (m71, .inl (cA 0, 10, .inl g123)), (h0, .inr (8, (g403.set 65 (.int 0)))), (m61, .inl (cA 0, 2, .inl g404))] H := hP
                                                have hD : va_D A [(m22, .inl (cA 0, 6, .inl mf22)), (m71, .inl (cA 0, 10, .inl g123)), (h0, .inr (8, (g403.set 65 (.int 0)))), (m61, .inl (cA 0, 2, .inl g404))] := hD
                                                have hf406 := fh_set (l' := [(65, .int 0), (2, .int 0), (22, .ref m22), (61, .ref m61), (71, .ref m71), (12, .int 0), (13, .int 0), (14, .int 0), (82, .int 0), (70, .int 0), (69, .int 0), (68, .int 0), (67, .int 0), (66, .int 0), (72, .int 0)]) hf406 65 (.int 0) (by decide) rfl
                                                have ho411 := fo_mono (k2 := [72, 70, 69, 68, 67, 66, 65, 64, 2]) (fo_set ho408 65 (.int 0)) (by decide)
                                                generalize (g403.set 65 (.int 0)) = fs410 at hP hD hf406 ho411
                                                refine lv_aload_n hx hb dX8_go_62 rfl (lv_at hl 1 rfl) ?_
                                                refine lv_iload_n hx hb dX8_go_63 rfl (lv_at hl 2 rfl) ?_
                                                refine lv_if_le (tgt := 71) hx hb dX8_go_64 (by decide) (fun c412 => absurd c412 (by decide)) (fun c412 => ?_)
                                                refine lv_iconst (v := 0) hx hb dX8_go_67 (by decide) ?_
                                                refine lv_goto (tgt := 75) hx hb dX8_go_68 (by decide) ?_
                                                refine va_put (D := G) (ci := 8) (v := .int 0) (ty := .int) (C := RX8) (T := TX8) (N := 91) hx hb hT ku_8 tyX8 tyX8_ok nmX8 hown hK hP hD hS 2 rfl rfl 82 (by decide) (hT _ kw_12_16) (fun _ h9 => h9) rfl (by decide +kernel) rfl rfl (fh_lt hf406 (by decide)) dX8_go_75 (fun H locs hP hD hS => ?_)
                                                have hP : va_P G vwCl [(m22, .inl (cA 0, 6, .inl mf22)), (m71, .inl (cA 0, 10, .inl g123)), (h0, .inr (8, (fs410.set 82 (.int 0)))), (m61, .inl (cA 0, 2, .inl g404))] H := hP
                                                have hD : va_D A [(m22, .inl (cA 0, 6, .inl mf22)), (m71, .inl (cA 0, 10, .inl g123)), (h0, .inr (8, (fs410.set 82 (.int 0)))), (m61, .inl (cA 0, 2, .inl g404))] := hD
                                                have hf406 := fh_set (l' := [(82, .int 0), (65, .int 0), (2, .int 0), (22, .ref m22), (61, .ref m61), (71, .ref m71), (12, .int 0), (13, .int 0), (14, .int 0), (70, .int 0), (69, .int 0), (68, .int 0), (67, .int 0), (66, .int 0), (72, .int 0)]) hf406 82 (.int 0) (by decide) rfl
                                                have ho414 := fo_set ho411 82 (.int 0)
                                                generalize (fs410.set 82 (.int 0)) = fs413 at hP hD hf406 ho414
                                                refine lv_aload_n hx hb dX8_go_78 rfl (lv_at hl 1 rfl) ?_
                                                refine va_get (D := G) (ci := 8) (v := .ref m61) (C := RX8) (T := TX8) (N := 91) hx hb hT ku_8 hown hK hP 2 rfl rfl 61 (by decide) (hT _ kw_10_22) (fun _ h9 => h9) (fh_at hf406 4 rfl) dX8_go_79 ?_
                                                refine lv_iconst (v := 0) hx hb dX8_go_82 (by decide) ?_
                                                refine va_iald (i := 0) hx hb hK hP 3 0 rfl rfl (tq_in (by decide)) dX8_go_83 ?_
                                                refine tq_i (w := 20) hE407 ?_
                                                have hP9 : va_P G vwCl [] H := fun k q h => by simp at h
                                                have hD9 : va_D A [] := ⟨fun i j p q h => by simp at h, fun k q h => by simp at h⟩
                                                exact W.iret (v := 20) hx hb hr (fun t ht hW => ⟨⟨20, (), rfl, (by unfold sp_go; (repeat' split) <;> first | rfl | (exfalso; omega) | decide), by rw [ht]; exact hP9, hD9⟩, hS.F ht⟩) hS.2.2 dX8_go_84
                                              · have k409 := tq_len (a := x.toInt) (b := 20) rfl (by decide) c409
                                                obtain rfl : x = 21 := tq_is (by rw [show (21 : Int32).toInt = 21 from by decide]; omega)
                                                refine lv_aload_n hx hb dX8_go_46 rfl (lv_at hl 1 rfl) ?_
                                                refine lv_iconst (v := 0) hx hb dX8_go_47 (by decide) ?_
                                                refine tq_cv (wr := [(m22, .inl (cA 0, 6, .inl mf22)), (m71, .inl (cA 0, 10, .inl g123))]) hP hD hS hA [2, 3] [0, 1] rfl rfl (by decide) (by decide) (va_runV (As := [.int 0]) (rest := []) ⟨hx, hb, hml, hown, hT⟩ (c_X8_goOn_0_20 l G cA H.size h0 g403 m61 g404 (fh_sub hf406 [3, 5, 6, 7] rfl) hE407) (cwV 1 hT (tq_gV kw_43_18 kw_43_19 kw_43_20 kw_1_5 kw_43_21) rfl rfl rfl (by decide +kernel) ⟨Nat.le_of_ble_eq_true rfl, Nat.le_of_ble_eq_true rfl⟩) ⟨(tq_pre (isC := [2, 3]) hP hD hK hN rfl (by decide)).1, va_recv hK hP (ci := 8) (q0 := 2) rfl rfl, (tq_pre (isC := [2, 3]) hP hD hK hN rfl (by decide)).2⟩ rfl rfl hl.1 rfl (lv_room (Nat.le_of_ble_eq_true rfl)) dX8_go_48 ⟨Nat.le_of_ble_eq_true rfl, Nat.le_of_ble_eq_true rfl⟩) (fun u415 H locs hw416 hP hD hS => ?_)
                                                refine W.widen (k := 0) (n := 0) (Nat.le_of_ble_eq_true rfl) (Nat.le_of_ble_eq_true rfl) ?_
                                                obtain ⟨g417, g418⟩ := u415
                                                obtain ⟨ho419, hf420, hE421⟩ := hw416
                                                try dsimp only at hP hD ho419 hf420 hE421
                                                have hf420 := fh_app (fo_fh (l' := [(65, .int 1), (2, .int 0), (22, .ref m22), (61, .ref m61), (71, .ref m71), (12, .int 0), (13, .int 0), (14, .int 0), (82, .int 0), (70, .int 0), (69, .int 0), (68, .int 0), (67, .int 0), (66, .int 0)]) hf406 ho419 rfl) hf420
                                                have ho422 := fo_mono (k2 := [72, 70, 69, 68, 67, 66, 65, 64, 2]) (fo_trans ho408 ho419) (by decide +kernel)
                                                have hf420 : fh g417 91 [(65, .int 1), (2, .int 0), (22, .ref m22), (61, .ref m61), (71, .ref m71), (12, .int 0), (13, .int 0), (14, .int 0), (82, .int 0), (70, .int 0), (69, .int 0), (68, .int 0), (67, .int 0), (66, .int 0), (72, .int 0)] := hf420
                                                have hP : va_P G vwCl [(m22, .inl (cA 0, 6, .inl mf22)), (m71, .inl (cA 0, 10, .inl g123)), (h0, .inr (8, g417)), (m61, .inl (cA 0, 2, .inl g418))] H := hP
                                                have hD : va_D A [(m22, .inl (cA 0, 6, .inl mf22)), (m71, .inl (cA 0, 10, .inl g123)), (h0, .inr (8, g417)), (m61, .inl (cA 0, 2, .inl g418))] := hD
                                                refine lv_iinc (v := 21) (lv' := [(2, .int 21), (0, .ref h0), (1, .int 21)]) hx hb dX8_go_51 hl (k := 0) rfl (by decide) (by decide) rfl (fun ls hl => ?_)
                                                refine lv_goto (tgt := 41) hx hb dX8_go_54 (by decide) ?_
                                                refine lv_iload_n hx hb dX8_go_41 rfl (lv_at hl 0 rfl) ?_
                                                refine lv_iload_n hx hb dX8_go_42 rfl (lv_at hl 2 rfl) ?_
                                                refine lv_icmp_ge (tgt := 57) hx hb dX8_go_43 (by decide) (fun c423 => ?_) (fun c423 => absurd (by decide) c423)
                                                refine lv_aload_n hx hb dX8_go_57 rfl (lv_at hl 1 rfl) ?_
                                                refine lv_iconst (v := 0) hx hb dX8_go_58 (by decide) ?_
                                                refine va_put (D := G) (ci := 8) (v := .int 0) (ty := .boolean) (C := RX8) (T := TX8) (N := 91) hx hb hT ku_8 tyX8 tyX8_ok nmX8 hown hK hP hD hS 2 rfl rfl 65 (by decide) (hT _ kw_13_3) (fun _ h9 => h9) rfl (by decide +kernel) rfl rfl (fh_lt hf420 (by decide)) dX8_go_59 (fun H locs hP hD hS => ?_)
                                                have hP : va_P G vwCl [(m22, .inl (cA 0, 6, .inl mf22)), (m71, .inl (cA 0, 10, .inl g123)), (h0, .inr (8, (g417.set 65 (.int 0)))), (m61, .inl (cA 0, 2, .inl g418))] H := hP
                                                have hD : va_D A [(m22, .inl (cA 0, 6, .inl mf22)), (m71, .inl (cA 0, 10, .inl g123)), (h0, .inr (8, (g417.set 65 (.int 0)))), (m61, .inl (cA 0, 2, .inl g418))] := hD
                                                have hf420 := fh_set (l' := [(65, .int 0), (2, .int 0), (22, .ref m22), (61, .ref m61), (71, .ref m71), (12, .int 0), (13, .int 0), (14, .int 0), (82, .int 0), (70, .int 0), (69, .int 0), (68, .int 0), (67, .int 0), (66, .int 0), (72, .int 0)]) hf420 65 (.int 0) (by decide) rfl
                                                have ho425 := fo_mono (k2 := [72, 70, 69, 68, 67, 66, 65, 64, 2]) (fo_set ho422 65 (.int 0)) (by decide)
                                                generalize (g417.set 65 (.int 0)) = fs424 at hP hD hf420 ho425
                                                refine lv_aload_n hx hb dX8_go_62 rfl (lv_at hl 1 rfl) ?_
                                                refine lv_iload_n hx hb dX8_go_63 rfl (lv_at hl 2 rfl) ?_
                                                refine lv_if_le (tgt := 71) hx hb dX8_go_64 (by decide) (fun c426 => absurd c426 (by decide)) (fun c426 => ?_)
                                                refine lv_iconst (v := 0) hx hb dX8_go_67 (by decide) ?_
                                                refine lv_goto (tgt := 75) hx hb dX8_go_68 (by decide) ?_
                                                refine va_put (D := G) (ci := 8) (v := .int 0) (ty := .int) (C := RX8) (T := TX8) (N := 91) hx hb hT ku_8 tyX8 tyX8_ok nmX8 hown hK hP hD hS 2 rfl rfl 82 (by decide) (hT _ kw_12_16) (fun _ h9 => h9) rfl (by decide +kernel) rfl rfl (fh_lt hf420 (by decide)) dX8_go_75 (fun H locs hP hD hS => ?_)
                                                have hP : va_P G vwCl [(m22, .inl (cA 0, 6, .inl mf22)), (m71, .inl (cA 0, 10, .inl g123)), (h0, .inr (8, (fs424.set 82 (.int 0)))), (m61, .inl (cA 0, 2, .inl g418))] H := hP
                                                have hD : va_D A [(m22, .inl (cA 0, 6, .inl mf22)), (m71, .inl (cA 0, 10, .inl g123)), (h0, .inr (8, (fs424.set 82 (.int 0)))), (m61, .inl (cA 0, 2, .inl g418))] := hD
                                                have hf420 := fh_set (l' := [(82, .int 0), (65, .int 0), (2, .int 0), (22, .ref m22), (61, .ref m61), (71, .ref m71), (12, .int 0), (13, .int 0), (14, .int 0), (70, .int 0), (69, .int 0), (68, .int 0), (67, .int 0), (66, .int 0), (72, .int 0)]) hf420 82 (.int 0) (by decide) rfl
                                                have ho428 := fo_set ho425 82 (.int 0)
                                                generalize (fs424.set 82 (.int 0)) = fs427 at hP hD hf420 ho428
                                                refine lv_aload_n hx hb dX8_go_78 rfl (lv_at hl 1 rfl) ?_
                                                refine va_get (D := G) (ci := 8) (v := .ref m61) (C := RX8) (T := TX8) (N := 91) hx hb hT ku_8 hown hK hP 2 rfl rfl 61 (by decide) (hT _ kw_10_22) (fun _ h9 => h9) (fh_at hf420 4 rfl) dX8_go_79 ?_
                                                refine lv_iconst (v := 0) hx hb dX8_go_82 (by decide) ?_
                                                refine va_iald (i := 0) hx hb hK hP 3 0 rfl rfl (tq_in (by decide)) dX8_go_83 ?_
                                                refine tq_i (w := 21) hE421 ?_
                                                have hP9 : va_P G vwCl [] H := fun k q h => by simp at h
                                                have hD9 : va_D A [] := ⟨fun i j p q h => by simp at h, fun k q h => by simp at h⟩
                                                exact W.iret (v := 21) hx hb hr (fun t ht hW => ⟨⟨21, (), rfl, (by unfold sp_go; (repeat' split) <;> first | rfl | (exfalso; omega) | decide), by rw [ht]; exact hP9, hD9⟩, hS.F ht⟩) hS.2.2 dX8_go_84
    · have k119 := tq_len (a := x.toInt) (b := 21) rfl (by decide) c119
      exfalso
      omega
