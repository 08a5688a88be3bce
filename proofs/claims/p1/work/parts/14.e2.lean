set_option maxHeartbeats 4000000 in
set_option maxRecDepth 100000 in
theorem c_X7_go (l : Launch) (G : va_G) (cA : Nat → ClassId) (sz : Nat) (h0 : Nat) (x : Int32) (fs : List Value) (pa : Nat) (t0 : Nat) (ch : Nat) (ps : List Value) (sa : Nat) (fsec : Nat → Int32) (ts0 : List Value) (cs : List Value) (hf : fh fs 12 [(1, .ref pa), (2, .ref t0), (7, .ref ch)]) (hp : fh ps 19 [(0, .int 0), (1, .int 0), (2, .int 0), (17, .ref sa)]) (hsec : ∀ j, j < 21 → fsec j = 60) (ht0 : fh ts0 20 [(0, .int 0), (19, .ref pa)]) (hch : fh cs 3 []) : Met l yX7_go (.code yX7_go cX7_go 3 (some .int) :: T0) ({ frames := 3, cells := 0, slots := 0, locals := 63 }) (tqP G cA [.ref h0, .int x] [(h0, .inr (7, fs)), (pa, .inr (2, ps)), (sa, .inl (cA 0, 21, .inl fsec)), (t0, .inr (6, ts0)), (ch, .inr (0, cs))] sz) (tqQi G cA (fun (r : Int32) (u : Unit) => r = ((sp_go x))) (fun (u : Unit) => []) (va_A [(h0, .inr (7, fs)), (pa, .inr (2, ps)), (sa, .inl (cA 0, 21, .inl fsec)), (t0, .inr (6, ts0)), (ch, .inr (0, cs))] sz)) 0 0 (va_A [(h0, .inr (7, fs)), (pa, .inr (2, ps)), (sa, .inl (cA 0, 21, .inl fsec)), (t0, .inr (6, ts0)), (ch, .inr (0, cs))] sz) := by
  refine Met.ofW (cc := cX7_go) (maxL := 3) (ret := (some .int)) (by decide) rfl ?_
  intro p e s m args below meth c s₁ B hml hv
  obtain ⟨rfl, hsz, hP, hK, hD0, hN⟩ := hv
  have hx := B.exec
  have hb := B.bytes
  have hr := B.returns
  have hts := atoms_spec (ws := .code yX7_go cX7_go 3 (some .int) :: T0) B.pre
  have hT : ∀ w ∈ T0, w.before _ s = true := fun w h => hts w (List.mem_cons_of_mem _ h)
  have hown : s.vm.findClass RX7 = some m.cls := findClass_of_methodNamed B.named
  have hlocks := B.notSynchronized
  subst hsz
  have hD := hD0.self (sz := s.heap.size)
  generalize hAe : va_A [(h0, .inr (7, fs)), (pa, .inr (2, ps)), (sa, .inl (cA 0, 21, .inl fsec)), (t0, .inr (6, ts0)), (ch, .inr (0, cs))] s.heap.size = A at hD ⊢
  have hA : ∀ q : Nat, s.heap.size ≤ q → A q := fun q h => by rw [← hAe]; exact Or.inr h
  have hS : va_S A s.heap s.heap [] := va_S.rf
  have hl := lv_entry ([.ref h0, .int x]) (n := 3) (Nat.le_of_ble_eq_true rfl)
  rw [lg_entry_eq]
  generalize (lg_sl ([.ref h0, .int x]) ++ List.replicate (3 - (lg_sl ([.ref h0, .int x])).length) Slot.unset).toArray = ls at hl ⊢
  have hl : lv_has ls 3 [(0, .ref h0), (1, .int x)] := hl
  obtain ⟨H, hH⟩ : ∃ z, z = s.heap := ⟨_, rfl⟩
  rw [← hH] at hP
  have hS : va_S A s.heap H [] := by rw [hH]; exact hS
  suffices hgo : W p l e _ s m _ below meth c H [] 0 0 _ _ by rw [hH] at hgo; exact hgo
  have hO := hN.2.2.2.2
  have ho_hf := fo_refl fs
  have ho_hp := fo_refl ps
  have ho_ht0 := fo_refl ts0
  have ho_hch := fo_refl cs
  refine lv_iload_n hx hb dX7_go_0 rfl (lv_at hl 1 rfl) ?_
  refine lv_if_lt (tgt := 24) hx hb dX7_go_1 (by decide) (fun c101 => ?_) (fun c101 => ?_)
  · have k101 := tq_lt (a := x.toInt) (b := 0) rfl (by decide) c101
    refine lv_iconst (v := (-1)) hx hb dX7_go_24 (by decide) ?_
    have hP9 : va_P G vwCl [] H := fun k q h => by simp at h
    have hD9 : va_D A [] := ⟨fun i j p q h => by simp at h, fun k q h => by simp at h⟩
    exact W.iret (v := (-1)) hx hb hr (fun t ht hW => ⟨⟨(-1), (), rfl, (by unfold sp_go; (repeat' split) <;> first | rfl | (exfalso; omega) | decide), by rw [ht]; exact hP9, hD9⟩, hS.F ht⟩) hS.2.2 dX7_go_25
  · have k101 := tq_ltn (a := x.toInt) (b := 0) rfl (by decide) c101
    refine lv_iload_n hx hb dX7_go_4 rfl (lv_at hl 1 rfl) ?_
    refine lv_bipush (v := 21) hx hb dX7_go_5 (by decide) ?_
    refine lv_icmp_gt (tgt := 24) hx hb dX7_go_7 (by decide) (fun c102 => ?_) (fun c102 => ?_)
    · have k102 := tq_lt (a := 21) (b := x.toInt) (by decide) rfl c102
      refine lv_iconst (v := (-1)) hx hb dX7_go_24 (by decide) ?_
      have hP9 : va_P G vwCl [] H := fun k q h => by simp at h
      have hD9 : va_D A [] := ⟨fun i j p q h => by simp at h, fun k q h => by simp at h⟩
      exact W.iret (v := (-1)) hx hb hr (fun t ht hW => ⟨⟨(-1), (), rfl, (by unfold sp_go; (repeat' split) <;> first | rfl | (exfalso; omega) | decide), by rw [ht]; exact hP9, hD9⟩, hS.F ht⟩) hS.2.2 dX7_go_25
    · have k102 := tq_ltn (a := 21) (b := x.toInt) (by decide) rfl c102
      refine lv_aload_n hx hb dX7_go_10 rfl (lv_at hl 0 rfl) ?_
      refine va_get (D := G) (ci := 7) (v := .ref t0) (C := RX7) (T := TX7) (N := 12) hx hb hT ku_7 hown hK hP 0 rfl rfl 2 (by decide) (hT _ kw_2_0) (fun _ h9 => h9) (fh_at hf 1 rfl) dX7_go_11 ?_
      refine va_get (D := G) (ci := 6) (v := .int 0) (C := RX6) (T := TX6) (N := 20) hx hb hT ku_6 hown hK hP 3 rfl rfl 0 (by decide) (hT _ kw_40_9) (fun _ h9 => h9) (fh_at ht0 0 rfl) dX7_go_14 ?_
      refine lv_iload_n hx hb dX7_go_17 rfl (lv_at hl 1 rfl) ?_
      refine lv_iadd hx hb dX7_go_18 ?_
      refine tq_i (w := x) (Int32.zero_add _) ?_
      refine lv_bipush (v := 21) hx hb dX7_go_19 (by decide) ?_
      refine lv_icmp_le (tgt := 26) hx hb dX7_go_21 (by decide) (fun c103 => ?_) (fun c103 => ?_)
      · have k103 := tq_le (a := x.toInt) (b := 21) rfl (by decide) c103
        refine lv_aload_n hx hb dX7_go_26 rfl (lv_at hl 0 rfl) ?_
        refine va_get (D := G) (ci := 7) (v := .ref t0) (C := RX7) (T := TX7) (N := 12) hx hb hT ku_7 hown hK hP 0 rfl rfl 2 (by decide) (hT _ kw_2_0) (fun _ h9 => h9) (fh_at hf 1 rfl) dX7_go_27 ?_
        refine lv_iconst (v := 1) hx hb dX7_go_30 (by decide) ?_
        refine va_put (D := G) (ci := 6) (v := .int 1) (ty := .boolean) (C := RX6) (T := TX6) (N := 20) hx hb hT ku_6 tyX6 tyX6_ok nmX6 hown hK hP hD hS 3 rfl rfl 5 (by decide) (hT _ kw_40_10) (fun _ h9 => h9) rfl (by decide +kernel) rfl rfl (fh_lt ht0 (by decide)) dX7_go_31 (fun H locs hP hD hS => ?_)
        have hP : va_P G vwCl [(h0, .inr (7, fs)), (pa, .inr (2, ps)), (sa, .inl (cA 0, 21, .inl fsec)), (t0, .inr (6, (ts0.set 5 (.int 1)))), (ch, .inr (0, cs))] H := hP
        have hD : va_D A [(h0, .inr (7, fs)), (pa, .inr (2, ps)), (sa, .inl (cA 0, 21, .inl fsec)), (t0, .inr (6, (ts0.set 5 (.int 1)))), (ch, .inr (0, cs))] := hD
        have ht0 := fh_set (l' := [(5, .int 1), (0, .int 0), (19, .ref pa)]) ht0 5 (.int 1) (by decide) rfl
        have ho105 := fo_set ho_ht0 5 (.int 1)
        generalize (ts0.set 5 (.int 1)) = fs104 at hP hD ht0 ho105
        refine lv_iconst (v := 0) hx hb dX7_go_34 (by decide) ?_
        refine lv_istore_n (lv' := [(2, .int 0), (0, .ref h0), (1, .int x)]) hx hb dX7_go_35 rfl hl (by decide) rfl (fun ls hl => ?_)
        refine lv_iload_n hx hb dX7_go_36 rfl (lv_at hl 0 rfl) ?_
        refine lv_iload_n hx hb dX7_go_37 rfl (lv_at hl 2 rfl) ?_
        refine lv_icmp_ge (tgt := 54) hx hb dX7_go_38 (by decide) (fun c106 => ?_) (fun c106 => ?_)
        · have k106 := tq_le (a := x.toInt) (b := 0) rfl (by decide) c106
          obtain rfl : x = 0 := tq_is (by rw [show (0 : Int32).toInt = 0 from by decide]; omega)
          refine lv_iload_n hx hb dX7_go_54 rfl (lv_at hl 2 rfl) ?_
          refine lv_if_le (tgt := 66) hx hb dX7_go_55 (by decide) (fun c107 => ?_) (fun c107 => absurd (by decide) c107)
          refine lv_aload_n hx hb dX7_go_66 rfl (lv_at hl 1 rfl) ?_
          refine va_get (D := G) (ci := 7) (v := .ref t0) (C := RX7) (T := TX7) (N := 12) hx hb hT ku_7 hown hK hP 0 rfl rfl 2 (by decide) (hT _ kw_2_0) (fun _ h9 => h9) (fh_at hf 1 rfl) dX7_go_67 ?_
          refine va_get (D := G) (ci := 6) (v := .int 0) (C := RX6) (T := TX6) (N := 20) hx hb hT ku_6 hown hK hP 3 rfl rfl 0 (by decide) (hT _ kw_40_9) (fun _ h9 => h9) (fh_at ht0 1 rfl) dX7_go_70 ?_
          have hP9 : va_P G vwCl [] H := fun k q h => by simp at h
          have hD9 : va_D A [] := ⟨fun i j p q h => by simp at h, fun k q h => by simp at h⟩
          exact W.iret (v := 0) hx hb hr (fun t ht hW => ⟨⟨0, (), rfl, (by unfold sp_go; (repeat' split) <;> first | rfl | (exfalso; omega) | decide), by rw [ht]; exact hP9, hD9⟩, hS.F ht⟩) hS.2.2 dX7_go_73
        · have k106 := tq_len (a := x.toInt) (b := 0) rfl (by decide) c106
          refine lv_aload_n hx hb dX7_go_41 rfl (lv_at hl 1 rfl) ?_
          refine va_get (D := G) (ci := 7) (v := .ref t0) (C := RX7) (T := TX7) (N := 12) hx hb hT ku_7 hown hK hP 0 rfl rfl 2 (by decide) (hT _ kw_2_0) (fun _ h9 => h9) (fh_at hf 1 rfl) dX7_go_42 ?_
          refine tq_cv (wr := [(h0, .inr (7, fs)), (ch, .inr (0, cs))]) hP hD hS hA [3, 1, 2] [0, 4] rfl rfl (by decide) (by decide) (va_runV (As := []) (rest := []) ⟨hx, hb, hml, hown, hT⟩ (c_X6_passStop_0 l G cA H.size t0 fs104 pa ps sa fsec (fh_sub ht0 [2, 1] rfl) (fh_sub hp [0, 1, 2, 3] rfl) hsec) (cwV 0 hT (tq_gV kw_40_11 kw_40_12 kw_40_13 kw_1_23 kw_40_14) rfl rfl rfl (by decide +kernel) ⟨Nat.le_of_ble_eq_true rfl, Nat.le_of_ble_eq_true rfl⟩) ⟨(tq_pre (isC := [3, 1, 2]) hP hD hK hN rfl (by decide)).1, va_recv hK hP (ci := 6) (q0 := 3) rfl rfl, (tq_pre (isC := [3, 1, 2]) hP hD hK hN rfl (by decide)).2⟩ rfl rfl hl.1 rfl (lv_room (Nat.le_of_ble_eq_true rfl)) dX7_go_45 ⟨Nat.le_of_ble_eq_true rfl, Nat.le_of_ble_eq_true rfl⟩) (fun u108 H locs hw109 hP hD hS => ?_)
          refine W.widen (k := 0) (n := 0) (Nat.le_of_ble_eq_true rfl) (Nat.le_of_ble_eq_true rfl) ?_
          obtain ⟨ho111, hf112⟩ := hw109
          have hf112 := fh_app (fo_fh (l' := [(5, .int 1), (19, .ref pa)]) ht0 ho111 rfl) hf112
          have ho113 := fo_mono (k2 := [0, 5]) (fo_trans ho105 ho111) (by decide)
          have hf112 : fh u108 20 [(5, .int 1), (19, .ref pa), (0, .int 1)] := hf112
          have hP : va_P G vwCl [(h0, .inr (7, fs)), (ch, .inr (0, cs)), (t0, .inr (6, u108)), (pa, .inr (2, ps)), (sa, .inl (cA 0, 21, .inl fsec))] H := hP
          have hD : va_D A [(h0, .inr (7, fs)), (ch, .inr (0, cs)), (t0, .inr (6, u108)), (pa, .inr (2, ps)), (sa, .inl (cA 0, 21, .inl fsec))] := hD
          refine lv_iinc (v := 1) (lv' := [(2, .int 1), (0, .ref h0), (1, .int x)]) hx hb dX7_go_48 hl (k := 0) rfl (by decide) (by decide) rfl (fun ls hl => ?_)
          refine lv_goto (tgt := 36) hx hb dX7_go_51 (by decide) ?_
          refine lv_iload_n hx hb dX7_go_36 rfl (lv_at hl 0 rfl) ?_
          refine lv_iload_n hx hb dX7_go_37 rfl (lv_at hl 2 rfl) ?_
          refine lv_icmp_ge (tgt := 54) hx hb dX7_go_38 (by decide) (fun c114 => ?_) (fun c114 => ?_)
          · have k114 := tq_le (a := x.toInt) (b := 1) rfl (by decide) c114
            obtain rfl : x = 1 := tq_is (by rw [show (1 : Int32).toInt = 1 from by decide]; omega)
            refine lv_iload_n hx hb dX7_go_54 rfl (lv_at hl 2 rfl) ?_
            refine lv_if_le (tgt := 66) hx hb dX7_go_55 (by decide) (fun c115 => absurd c115 (by decide)) (fun c115 => ?_)
            refine lv_aload_n hx hb dX7_go_58 rfl (lv_at hl 1 rfl) ?_
            refine va_get (D := G) (ci := 7) (v := .ref ch) (C := RX7) (T := TX7) (N := 12) hx hb hT ku_7 hown hK hP 0 rfl rfl 7 (by decide) (hT _ kw_2_8) (fun _ h9 => h9) (fh_at hf 2 rfl) dX7_go_59 ?_
            refine lv_iconst (v := 0) hx hb dX7_go_62 (by decide) ?_
            refine va_put (D := G) (ci := 0) (v := .int 0) (ty := .int) (C := RX0) (T := TX0) (N := 3) hx hb hT ku_0 tyX0 tyX0_ok nmX0 hown hK hP hD hS 1 rfl rfl 0 (by decide) (hT _ kw_14_7) (fun _ h9 => h9) rfl (by decide +kernel) rfl rfl (fh_lt hch (by decide)) dX7_go_63 (fun H locs hP hD hS => ?_)
            have hP : va_P G vwCl [(h0, .inr (7, fs)), (ch, .inr (0, (cs.set 0 (.int 0)))), (t0, .inr (6, u108)), (pa, .inr (2, ps)), (sa, .inl (cA 0, 21, .inl fsec))] H := hP
            have hD : va_D A [(h0, .inr (7, fs)), (ch, .inr (0, (cs.set 0 (.int 0)))), (t0, .inr (6, u108)), (pa, .inr (2, ps)), (sa, .inl (cA 0, 21, .inl fsec))] := hD
            have hch := fh_set (l' := [(0, .int 0)]) hch 0 (.int 0) (by decide) rfl
            have ho117 := fo_set ho_hch 0 (.int 0)
            generalize (cs.set 0 (.int 0)) = fs116 at hP hD hch ho117
            refine lv_aload_n hx hb dX7_go_66 rfl (lv_at hl 1 rfl) ?_
            refine va_get (D := G) (ci := 7) (v := .ref t0) (C := RX7) (T := TX7) (N := 12) hx hb hT ku_7 hown hK hP 0 rfl rfl 2 (by decide) (hT _ kw_2_0) (fun _ h9 => h9) (fh_at hf 1 rfl) dX7_go_67 ?_
            refine va_get (D := G) (ci := 6) (v := .int 1) (C := RX6) (T := TX6) (N := 20) hx hb hT ku_6 hown hK hP 2 rfl rfl 0 (by decide) (hT _ kw_40_9) (fun _ h9 => h9) (fh_at hf112 2 rfl) dX7_go_70 ?_
            have hP9 : va_P G vwCl [] H := fun k q h => by simp at h
            have hD9 : va_D A [] := ⟨fun i j p q h => by simp at h, fun k q h => by simp at h⟩
            exact W.iret (v := 1) hx hb hr (fun t ht hW => ⟨⟨1, (), rfl, (by unfold sp_go; (repeat' split) <;> first | rfl | (exfalso; omega) | decide), by rw [ht]; exact hP9, hD9⟩, hS.F ht⟩) hS.2.2 dX7_go_73
          · have k114 := tq_len (a := x.toInt) (b := 1) rfl (by decide) c114
            refine lv_aload_n hx hb dX7_go_41 rfl (lv_at hl 1 rfl) ?_
            refine va_get (D := G) (ci := 7) (v := .ref t0) (C := RX7) (T := TX7) (N := 12) hx hb hT ku_7 hown hK hP 0 rfl rfl 2 (by decide) (hT _ kw_2_0) (fun _ h9 => h9) (fh_at hf 1 rfl) dX7_go_42 ?_
            refine tq_cv (wr := [(h0, .inr (7, fs)), (ch, .inr (0, cs))]) hP hD hS hA [2, 3, 4] [0, 1] rfl rfl (by decide) (by decide) (va_runV (As := []) (rest := []) ⟨hx, hb, hml, hown, hT⟩ (c_X6_passStop_1 l G cA H.size t0 u108 pa ps sa fsec (fh_sub hf112 [1, 2] rfl) (fh_sub hp [0, 1, 2, 3] rfl) hsec) (cwV 0 hT (tq_gV kw_40_11 kw_40_12 kw_40_13 kw_1_23 kw_40_14) rfl rfl rfl (by decide +kernel) ⟨Nat.le_of_ble_eq_true rfl, Nat.le_of_ble_eq_true rfl⟩) ⟨(tq_pre (isC := [2, 3, 4]) hP hD hK hN rfl (by decide)).1, va_recv hK hP (ci := 6) (q0 := 2) rfl rfl, (tq_pre (isC := [2, 3, 4]) hP hD hK hN rfl (by decide)).2⟩ rfl rfl hl.1 rfl (lv_room (Nat.le_of_ble_eq_true rfl)) dX7_go_45 ⟨Nat.le_of_ble_eq_true rfl, Nat.le_of_ble_eq_true rfl⟩) (fun u118 H locs hw119 hP hD hS => ?_)
            refine W.widen (k := 0) (n := 0) (Nat.le_of_ble_eq_true rfl) (Nat.le_of_ble_eq_true rfl) ?_
            obtain ⟨ho121, hf122⟩ := hw119
            have hf122 := fh_app (fo_fh (l' := [(5, .int 1), (19, .ref pa)]) hf112 ho121 rfl) hf122
            have ho123 := fo_mono (k2 := [0, 5]) (fo_trans ho113 ho121) (by decide)
            have hf122 : fh u118 20 [(5, .int 1), (19, .ref pa), (0, .int 2)] := hf122
            have hP : va_P G vwCl [(h0, .inr (7, fs)), (ch, .inr (0, cs)), (t0, .inr (6, u118)), (pa, .inr (2, ps)), (sa, .inl (cA 0, 21, .inl fsec))] H := hP
            have hD : va_D A [(h0, .inr (7, fs)), (ch, .inr (0, cs)), (t0, .inr (6, u118)), (pa, .inr (2, ps)), (sa, .inl (cA 0, 21, .inl fsec))] := hD
            refine lv_iinc (v := 2) (lv' := [(2, .int 2), (0, .ref h0), (1, .int x)]) hx hb dX7_go_48 hl (k := 0) rfl (by decide) (by decide) rfl (fun ls hl => ?_)
            refine lv_goto (tgt := 36) hx hb dX7_go_51 (by decide) ?_
            refine lv_iload_n hx hb dX7_go_36 rfl (lv_at hl 0 rfl) ?_
            refine lv_iload_n hx hb dX7_go_37 rfl (lv_at hl 2 rfl) ?_
            refine lv_icmp_ge (tgt := 54) hx hb dX7_go_38 (by decide) (fun c124 => ?_) (fun c124 => ?_)
            · have k124 := tq_le (a := x.toInt) (b := 2) rfl (by decide) c124
              obtain rfl : x = 2 := tq_is (by rw [show (2 : Int32).toInt = 2 from by decide]; omega)
              refine lv_iload_n hx hb dX7_go_54 rfl (lv_at hl 2 rfl) ?_
              refine lv_if_le (tgt := 66) hx hb dX7_go_55 (by decide) (fun c125 => absurd c125 (by decide)) (fun c125 => ?_)
              refine lv_aload_n hx hb dX7_go_58 rfl (lv_at hl 1 rfl) ?_
              refine va_get (D := G) (ci := 7) (v := .ref ch) (C := RX7) (T := TX7) (N := 12) hx hb hT ku_7 hown hK hP 0 rfl rfl 7 (by decide) (hT _ kw_2_8) (fun _ h9 => h9) (fh_at hf 2 rfl) dX7_go_59 ?_
              refine lv_iconst (v := 0) hx hb dX7_go_62 (by decide) ?_
              refine va_put (D := G) (ci := 0) (v := .int 0) (ty := .int) (C := RX0) (T := TX0) (N := 3) hx hb hT ku_0 tyX0 tyX0_ok nmX0 hown hK hP hD hS 1 rfl rfl 0 (by decide) (hT _ kw_14_7) (fun _ h9 => h9) rfl (by decide +kernel) rfl rfl (fh_lt hch (by decide)) dX7_go_63 (fun H locs hP hD hS => ?_)
              have hP : va_P G vwCl [(h0, .inr (7, fs)), (ch, .inr (0, (cs.set 0 (.int 0)))), (t0, .inr (6, u118)), (pa, .inr (2, ps)), (sa, .inl (cA 0, 21, .inl fsec))] H := hP
              have hD : va_D A [(h0, .inr (7, fs)), (ch, .inr (0, (cs.set 0 (.int 0)))), (t0, .inr (6, u118)), (pa, .inr (2, ps)), (sa, .inl (cA 0, 21, .inl fsec))] := hD
              have hch := fh_set (l' := [(0, .int 0)]) hch 0 (.int 0) (by decide) rfl
              have ho127 := fo_set ho_hch 0 (.int 0)
              generalize (cs.set 0 (.int 0)) = fs126 at hP hD hch ho127
              refine lv_aload_n hx hb dX7_go_66 rfl (lv_at hl 1 rfl) ?_
              refine va_get (D := G) (ci := 7) (v := .ref t0) (C := RX7) (T := TX7) (N := 12) hx hb hT ku_7 hown hK hP 0 rfl rfl 2 (by decide) (hT _ kw_2_0) (fun _ h9 => h9) (fh_at hf 1 rfl) dX7_go_67 ?_
              refine va_get (D := G) (ci := 6) (v := .int 2) (C := RX6) (T := TX6) (N := 20) hx hb hT ku_6 hown hK hP 2 rfl rfl 0 (by decide) (hT _ kw_40_9) (fun _ h9 => h9) (fh_at hf122 2 rfl) dX7_go_70 ?_
              have hP9 : va_P G vwCl [] H := fun k q h => by simp at h
              have hD9 : va_D A [] := ⟨fun i j p q h => by simp at h, fun k q h => by simp at h⟩
              exact W.iret (v := 2) hx hb hr (fun t ht hW => ⟨⟨2, (), rfl, (by unfold sp_go; (repeat' split) <;> first | rfl | (exfalso; omega) | decide), by rw [ht]; exact hP9, hD9⟩, hS.F ht⟩) hS.2.2 dX7_go_73
            · have k124 := tq_len (a := x.toInt) (b := 2) rfl (by decide) c124
              refine lv_aload_n hx hb dX7_go_41 rfl (lv_at hl 1 rfl) ?_
              refine va_get (D := G) (ci := 7) (v := .ref t0) (C := RX7) (T := TX7) (N := 12) hx hb hT ku_7 hown hK hP 0 rfl rfl 2 (by decide) (hT _ kw_2_0) (fun _ h9 => h9) (fh_at hf 1 rfl) dX7_go_42 ?_
              refine tq_cv (wr := [(h0, .inr (7, fs)), (ch, .inr (0, cs))]) hP hD hS hA [2, 3, 4] [0, 1] rfl rfl (by decide) (by decide) (va_runV (As := []) (rest := []) ⟨hx, hb, hml, hown, hT⟩ (c_X6_passStop_2 l G cA H.size t0 u118 pa ps sa fsec (fh_sub hf122 [1, 2] rfl) (fh_sub hp [0, 1, 2, 3] rfl) hsec) (cwV 0 hT (tq_gV kw_40_11 kw_40_12 kw_40_13 kw_1_23 kw_40_14) rfl rfl rfl (by decide +kernel) ⟨Nat.le_of_ble_eq_true rfl, Nat.le_of_ble_eq_true rfl⟩) ⟨(tq_pre (isC := [2, 3, 4]) hP hD hK hN rfl (by decide)).1, va_recv hK hP (ci := 6) (q0 := 2) rfl rfl, (tq_pre (isC := [2, 3, 4]) hP hD hK hN rfl (by decide)).2⟩ rfl rfl hl.1 rfl (lv_room (Nat.le_of_ble_eq_true rfl)) dX7_go_45 ⟨Nat.le_of_ble_eq_true rfl, Nat.le_of_ble_eq_true rfl⟩) (fun u128 H locs hw129 hP hD hS => ?_)
              refine W.widen (k := 0) (n := 0) (Nat.le_of_ble_eq_true rfl) (Nat.le_of_ble_eq_true rfl) ?_
              obtain ⟨ho131, hf132⟩ := hw129
              have hf132 := fh_app (fo_fh (l' := [(5, .int 1), (19, .ref pa)]) hf122 ho131 rfl) hf132
              have ho133 := fo_mono (k2 := [0, 5]) (fo_trans ho123 ho131) (by decide)
              have hf132 : fh u128 20 [(5, .int 1), (19, .ref pa), (0, .int 3)] := hf132
              have hP : va_P G vwCl [(h0, .inr (7, fs)), (ch, .inr (0, cs)), (t0, .inr (6, u128)), (pa, .inr (2, ps)), (sa, .inl (cA 0, 21, .inl fsec))] H := hP
              have hD : va_D A [(h0, .inr (7, fs)), (ch, .inr (0, cs)), (t0, .inr (6, u128)), (pa, .inr (2, ps)), (sa, .inl (cA 0, 21, .inl fsec))] := hD
              refine lv_iinc (v := 3) (lv' := [(2, .int 3), (0, .ref h0), (1, .int x)]) hx hb dX7_go_48 hl (k := 0) rfl (by decide) (by decide) rfl (fun ls hl => ?_)
              refine lv_goto (tgt := 36) hx hb dX7_go_51 (by decide) ?_
              refine lv_iload_n hx hb dX7_go_36 rfl (lv_at hl 0 rfl) ?_
              refine lv_iload_n hx hb dX7_go_37 rfl (lv_at hl 2 rfl) ?_
              refine lv_icmp_ge (tgt := 54) hx hb dX7_go_38 (by decide) (fun c134 => ?_) (fun c134 => ?_)
              · have k134 := tq_le (a := x.toInt) (b := 3) rfl (by decide) c134
                obtain rfl : x = 3 := tq_is (by rw [show (3 : Int32).toInt = 3 from by decide]; omega)
                refine lv_iload_n hx hb dX7_go_54 rfl (lv_at hl 2 rfl) ?_
                refine lv_if_le (tgt := 66) hx hb dX7_go_55 (by decide) (fun c135 => absurd c135 (by decide)) (fun c135 => ?_)
                refine lv_aload_n hx hb dX7_go_58 rfl (lv_at hl 1 rfl) ?_
                refine va_get (D := G) (ci := 7) (v := .ref ch) (C := RX7) (T := TX7) (N := 12) hx hb hT ku_7 hown hK hP 0 rfl rfl 7 (by decide) (hT _ kw_2_8) (fun _ h9 => h9) (fh_at hf 2 rfl) dX7_go_59 ?_
                refine lv_iconst (v := 0) hx hb dX7_go_62 (by decide) ?_
                refine va_put (D := G) (ci := 0) (v := .int 0) (ty := .int) (C := RX0) (T := TX0) (N := 3) hx hb hT ku_0 tyX0 tyX0_ok nmX0 hown hK hP hD hS 1 rfl rfl 0 (by decide) (hT _ kw_14_7) (fun _ h9 => h9) rfl (by decide +kernel) rfl rfl (fh_lt hch (by decide)) dX7_go_63 (fun H locs hP hD hS => ?_)
                have hP : va_P G vwCl [(h0, .inr (7, fs)), (ch, .inr (0, (cs.set 0 (.int 0)))), (t0, .inr (6, u128)), (pa, .inr (2, ps)), (sa, .inl (cA 0, 21, .inl fsec))] H := hP
                have hD : va_D A [(h0, .inr (7, fs)), (ch, .inr (0, (cs.set 0 (.int 0)))), (t0, .inr (6, u128)), (pa, .inr (2, ps)), (sa, .inl (cA 0, 21, .inl fsec))] := hD
                have hch := fh_set (l' := [(0, .int 0)]) hch 0 (.int 0) (by decide) rfl
                have ho137 := fo_set ho_hch 0 (.int 0)
                generalize (cs.set 0 (.int 0)) = fs136 at hP hD hch ho137
                refine lv_aload_n hx hb dX7_go_66 rfl (lv_at hl 1 rfl) ?_
                refine va_get (D := G) (ci := 7) (v := .ref t0) (C := RX7) (T := TX7) (N := 12) hx hb hT ku_7 hown hK hP 0 rfl rfl 2 (by decide) (hT _ kw_2_0) (fun _ h9 => h9) (fh_at hf 1 rfl) dX7_go_67 ?_
                refine va_get (D := G) (ci := 6) (v := .int 3) (C := RX6) (T := TX6) (N := 20) hx hb hT ku_6 hown hK hP 2 rfl rfl 0 (by decide) (hT _ kw_40_9) (fun _ h9 => h9) (fh_at hf132 2 rfl) dX7_go_70 ?_
                have hP9 : va_P G vwCl [] H := fun k q h => by simp at h
                have hD9 : va_D A [] := ⟨fun i j p q h => by simp at h, fun k q h => by simp at h⟩
                exact W.iret (v := 3) hx hb hr (fun t ht hW => ⟨⟨3, (), rfl, (by unfold sp_go; (repeat' split) <;> first | rfl | (exfalso; omega) | decide), by rw [ht]; exact hP9, hD9⟩, hS.F ht⟩) hS.2.2 dX7_go_73
              · have k134 := tq_len (a := x.toInt) (b := 3) rfl (by decide) c134
                refine lv_aload_n hx hb dX7_go_41 rfl (lv_at hl 1 rfl) ?_
                refine va_get (D := G) (ci := 7) (v := .ref t0) (C := RX7) (T := TX7) (N := 12) hx hb hT ku_7 hown hK hP 0 rfl rfl 2 (by decide) (hT _ kw_2_0) (fun _ h9 => h9) (fh_at hf 1 rfl) dX7_go_42 ?_
                refine tq_cv (wr := [(h0, .inr (7, fs)), (ch, .inr (0, cs))]) hP hD hS hA [2, 3, 4] [0, 1] rfl rfl (by decide) (by decide) (va_runV (As := []) (rest := []) ⟨hx, hb, hml, hown, hT⟩ (c_X6_passStop_3 l G cA H.size t0 u128 pa ps sa fsec (fh_sub hf132 [1, 2] rfl) (fh_sub hp [0, 1, 2, 3] rfl) hsec) (cwV 0 hT (tq_gV kw_40_11 kw_40_12 kw_40_13 kw_1_23 kw_40_14) rfl rfl rfl (by decide +kernel) ⟨Nat.le_of_ble_eq_true rfl, Nat.le_of_ble_eq_true rfl⟩) ⟨(tq_pre (isC := [2, 3, 4]) hP hD hK hN rfl (by decide)).1, va_recv hK hP (ci := 6) (q0 := 2) rfl rfl, (tq_pre (isC := [2, 3, 4]) hP hD hK hN rfl (by decide)).2⟩ rfl rfl hl.1 rfl (lv_room (Nat.le_of_ble_eq_true rfl)) dX7_go_45 ⟨Nat.le_of_ble_eq_true rfl, Nat.le_of_ble_eq_true rfl⟩) (fun u138 H locs hw139 hP hD hS => ?_)
                refine W.widen (k := 0) (n := 0) (Nat.le_of_ble_eq_true rfl) (Nat.le_of_ble_eq_true rfl) ?_
                obtain ⟨ho141, hf142⟩ := hw139
                have hf142 := fh_app (fo_fh (l' := [(5, .int 1), (19, .ref pa)]) hf132 ho141 rfl) hf142
                have ho143 := fo_mono (k2 := [0, 5]) (fo_trans ho133 ho141) (by decide)
                have hf142 : fh u138 20 [(5, .int 1), (19, .ref pa), (0, .int 4)] := hf142
                have hP : va_P G vwCl [(h0, .inr (7, fs)), (ch, .inr (0, cs)), (t0, .inr (6, u138)), (pa, .inr (2, ps)), (sa, .inl (cA 0, 21, .inl fsec))] H := hP
                have hD : va_D A [(h0, .inr (7, fs)), (ch, .inr (0, cs)), (t0, .inr (6, u138)), (pa, .inr (2, ps)), (sa, .inl (cA 0, 21, .inl fsec))] := hD
                refine lv_iinc (v := 4) (lv' := [(2, .int 4), (0, .ref h0), (1, .int x)]) hx hb dX7_go_48 hl (k := 0) rfl (by decide) (by decide) rfl (fun ls hl => ?_)
                refine lv_goto (tgt := 36) hx hb dX7_go_51 (by decide) ?_
                refine lv_iload_n hx hb dX7_go_36 rfl (lv_at hl 0 rfl) ?_
                refine lv_iload_n hx hb dX7_go_37 rfl (lv_at hl 2 rfl) ?_
                refine lv_icmp_ge (tgt := 54) hx hb dX7_go_38 (by decide) (fun c144 => ?_) (fun c144 => ?_)
                · have k144 := tq_le (a := x.toInt) (b := 4) rfl (by decide) c144
                  obtain rfl : x = 4 := tq_is (by rw [show (4 : Int32).toInt = 4 from by decide]; omega)
                  refine lv_iload_n hx hb dX7_go_54 rfl (lv_at hl 2 rfl) ?_
                  refine lv_if_le (tgt := 66) hx hb dX7_go_55 (by decide) (fun c145 => absurd c145 (by decide)) (fun c145 => ?_)
                  refine lv_aload_n hx hb dX7_go_58 rfl (lv_at hl 1 rfl) ?_
                  refine va_get (D := G) (ci := 7) (v := .ref ch) (C := RX7) (T := TX7) (N := 12) hx hb hT ku_7 hown hK hP 0 rfl rfl 7 (by decide) (hT _ kw_2_8) (fun _ h9 => h9) (fh_at hf 2 rfl) dX7_go_59 ?_
                  refine lv_iconst (v := 0) hx hb dX7_go_62 (by decide) ?_
                  refine va_put (D := G) (ci := 0) (v := .int 0) (ty := .int) (C := RX0) (T := TX0) (N := 3) hx hb hT ku_0 tyX0 tyX0_ok nmX0 hown hK hP hD hS 1 rfl rfl 0 (by decide) (hT _ kw_14_7) (fun _ h9 => h9) rfl (by decide +kernel) rfl rfl (fh_lt hch (by decide)) dX7_go_63 (fun H locs hP hD hS => ?_)
                  have hP : va_P G vwCl [(h0, .inr (7, fs)), (ch, .inr (0, (cs.set 0 (.int 0)))), (t0, .inr (6, u138)), (pa, .inr (2, ps)), (sa, .inl (cA 0, 21, .inl fsec))] H := hP
                  have hD : va_D A [(h0, .inr (7, fs)), (ch, .inr (0, (cs.set 0 (.int 0)))), (t0, .inr (6, u138)), (pa, .inr (2, ps)), (sa, .inl (cA 0, 21, .inl fsec))] := hD
                  have hch := fh_set (l' := [(0, .int 0)]) hch 0 (.int 0) (by decide) rfl
                  have ho147 := fo_set ho_hch 0 (.int 0)
                  generalize (cs.set 0 (.int 0)) = fs146 at hP hD hch ho147
                  refine lv_aload_n hx hb dX7_go_66 rfl (lv_at hl 1 rfl) ?_
                  refine va_get (D := G) (ci := 7) (v := .ref t0) (C := RX7) (T := TX7) (N := 12) hx hb hT ku_7 hown hK hP 0 rfl rfl 2 (by decide) (hT _ kw_2_0) (fun _ h9 => h9) (fh_at hf 1 rfl) dX7_go_67 ?_
                  refine va_get (D := G) (ci := 6) (v := .int 4) (C := RX6) (T := TX6) (N := 20) hx hb hT ku_6 hown hK hP 2 rfl rfl 0 (by decide) (hT _ kw_40_9) (fun _ h9 => h9) (fh_at hf142 2 rfl) dX7_go_70 ?_
                  have hP9 : va_P G vwCl [] H := fun k q h => by simp at h
                  have hD9 : va_D A [] := ⟨fun i j p q h => by simp at h, fun k q h => by simp at h⟩
                  exact W.iret (v := 4) hx hb hr (fun t ht hW => ⟨⟨4, (), rfl, (by unfold sp_go; (repeat' split) <;> first | rfl | (exfalso; omega) | decide), by rw [ht]; exact hP9, hD9⟩, hS.F ht⟩) hS.2.2 dX7_go_73
                · have k144 := tq_len (a := x.toInt) (b := 4) rfl (by decide) c144
                  refine lv_aload_n hx hb dX7_go_41 rfl (lv_at hl 1 rfl) ?_
                  refine va_get (D := G) (ci := 7) (v := .ref t0) (C := RX7) (T := TX7) (N := 12) hx hb hT ku_7 hown hK hP 0 rfl rfl 2 (by decide) (hT _ kw_2_0) (fun _ h9 => h9) (fh_at hf 1 rfl) dX7_go_42 ?_
                  refine tq_cv (wr := [(h0, .inr (7, fs)), (ch, .inr (0, cs))]) hP hD hS hA [2, 3, 4] [0, 1] rfl rfl (by decide) (by decide) (va_runV (As := []) (rest := []) ⟨hx, hb, hml, hown, hT⟩ (c_X6_passStop_4 l G cA H.size t0 u138 pa ps sa fsec (fh_sub hf142 [1, 2] rfl) (fh_sub hp [0, 1, 2, 3] rfl) hsec) (cwV 0 hT (tq_gV kw_40_11 kw_40_12 kw_40_13 kw_1_23 kw_40_14) rfl rfl rfl (by decide +kernel) ⟨Nat.le_of_ble_eq_true rfl, Nat.le_of_ble_eq_true rfl⟩) ⟨(tq_pre (isC := [2, 3, 4]) hP hD hK hN rfl (by decide)).1, va_recv hK hP (ci := 6) (q0 := 2) rfl rfl, (tq_pre (isC := [2, 3, 4]) hP hD hK hN rfl (by decide)).2⟩ rfl rfl hl.1 rfl (lv_room (Nat.le_of_ble_eq_true rfl)) dX7_go_45 ⟨Nat.le_of_ble_eq_true rfl, Nat.le_of_ble_eq_true rfl⟩) (fun u148 H locs hw149 hP hD hS => ?_)
                  refine W.widen (k := 0) (n := 0) (Nat.le_of_ble_eq_true rfl) (Nat.le_of_ble_eq_true rfl) ?_
                  obtain ⟨ho151, hf152⟩ := hw149
                  have hf152 := fh_app (fo_fh (l' := [(5, .int 1), (19, .ref pa)]) hf142 ho151 rfl) hf152
                  have ho153 := fo_mono (k2 := [0, 5]) (fo_trans ho143 ho151) (by decide)
                  have hf152 : fh u148 20 [(5, .int 1), (19, .ref pa), (0, .int 5)] := hf152
                  have hP : va_P G vwCl [(h0, .inr (7, fs)), (ch, .inr (0, cs)), (t0, .inr (6, u148)), (pa, .inr (2, ps)), (sa, .inl (cA 0, 21, .inl fsec))] H := hP
                  have hD : va_D A [(h0, .inr (7, fs)), (ch, .inr (0, cs)), (t0, .inr (6, u148)), (pa, .inr (2, ps)), (sa, .inl (cA 0, 21, .inl fsec))] := hD
                  refine lv_iinc (v := 5) (lv' := [(2, .int 5), (0, .ref h0), (1, .int x)]) hx hb dX7_go_48 hl (k := 0) rfl (by decide) (by decide) rfl (fun ls hl => ?_)
                  refine lv_goto (tgt := 36) hx hb dX7_go_51 (by decide) ?_
                  refine lv_iload_n hx hb dX7_go_36 rfl (lv_at hl 0 rfl) ?_
                  refine lv_iload_n hx hb dX7_go_37 rfl (lv_at hl 2 rfl) ?_
                  refine lv_icmp_ge (tgt := 54) hx hb dX7_go_38 (by decide) (fun c154 => ?_) (fun c154 => ?_)
                  · have k154 := tq_le (a := x.toInt) (b := 5) rfl (by decide) c154
                    obtain rfl : x = 5 := tq_is (by rw [show (5 : Int32).toInt = 5 from by decide]; omega)
                    refine lv_iload_n hx hb dX7_go_54 rfl (lv_at hl 2 rfl) ?_
                    refine lv_if_le (tgt := 66) hx hb dX7_go_55 (by decide) (fun c155 => absurd c155 (by decide)) (fun c155 => ?_)
                    refine lv_aload_n hx hb dX7_go_58 rfl (lv_at hl 1 rfl) ?_
                    refine va_get (D := G) (ci := 7) (v := .ref ch) (C := RX7) (T := TX7) (N := 12) hx hb hT ku_7 hown hK hP 0 rfl rfl 7 (by decide) (hT _ kw_2_8) (fun _ h9 => h9) (fh_at hf 2 rfl) dX7_go_59 ?_
                    refine lv_iconst (v := 0) hx hb dX7_go_62 (by decide) ?_
                    refine va_put (D := G) (ci := 0) (v := .int 0) (ty := .int) (C := RX0) (T := TX0) (N := 3) hx hb hT ku_0 tyX0 tyX0_ok nmX0 hown hK hP hD hS 1 rfl rfl 0 (by decide) (hT _ kw_14_7) (fun _ h9 => h9) rfl (by decide +kernel) rfl rfl (fh_lt hch (by decide)) dX7_go_63 (fun H locs hP hD hS => ?_)
                    have hP : va_P G vwCl [(h0, .inr (7, fs)), (ch, .inr (0, (cs.set 0 (.int 0)))), (t0, .inr (6, u148)), (pa, .inr (2, ps)), (sa, .inl (cA 0, 21, .inl fsec))] H := hP
                    have hD : va_D A [(h0, .inr (7, fs)), (ch, .inr (0, (cs.set 0 (.int 0)))), (t0, .inr (6, u148)), (pa, .inr (2, ps)), (sa, .inl (cA 0, 21, .inl fsec))] := hD
                    have hch := fh_set (l' := [(0, .int 0)]) hch 0 (.int 0) (by decide) rfl
                    have ho157 := fo_set ho_hch 0 (.int 0)
                    generalize (cs.set 0 (.int 0)) = fs156 at hP hD hch ho157
                    refine lv_aload_n hx hb dX7_go_66 rfl (lv_at hl 1 rfl) ?_
                    refine va_get (D := G) (ci := 7) (v := .ref t0) (C := RX7) (T := TX7) (N := 12) hx hb hT ku_7 hown hK hP 0 rfl rfl 2 (by decide) (hT _ kw_2_0) (fun _ h9 => h9) (fh_at hf 1 rfl) dX7_go_67 ?_
                    refine va_get (D := G) (ci := 6) (v := .int 5) (C := RX6) (T := TX6) (N := 20) hx hb hT ku_6 hown hK hP 2 rfl rfl 0 (by decide) (hT _ kw_40_9) (fun _ h9 => h9) (fh_at hf152 2 rfl) dX7_go_70 ?_
                    have hP9 : va_P G vwCl [] H := fun k q h => by simp at h
                    have hD9 : va_D A [] := ⟨fun i j p q h => by simp at h, fun k q h => by simp at h⟩
                    exact W.iret (v := 5) hx hb hr (fun t ht hW => ⟨⟨5, (), rfl, (by unfold sp_go; (repeat' split) <;> first | rfl | (exfalso; omega) | decide), by rw [ht]; exact hP9, hD9⟩, hS.F ht⟩) hS.2.2 dX7_go_73
                  · have k154 := tq_len (a := x.toInt) (b := 5) rfl (by decide) c154
                    refine lv_aload_n hx hb dX7_go_41 rfl (lv_at hl 1 rfl) ?_
                    refine va_get (D := G) (ci := 7) (v := .ref t0) (C := RX7) (T := TX7) (N := 12) hx hb hT ku_7 hown hK hP 0 rfl rfl 2 (by decide) (hT _ kw_2_0) (fun _ h9 => h9) (fh_at hf 1 rfl) dX7_go_42 ?_
                    refine tq_cv (wr := [(h0, .inr (7, fs)), (ch, .inr (0, cs))]) hP hD hS hA [2, 3, 4] [0, 1] rfl rfl (by decide) (by decide) (va_runV (As := []) (rest := []) ⟨hx, hb, hml, hown, hT⟩ (c_X6_passStop_5 l G cA H.size t0 u148 pa ps sa fsec (fh_sub hf152 [1, 2] rfl) (fh_sub hp [0, 1, 2, 3] rfl) hsec) (cwV 0 hT (tq_gV kw_40_11 kw_40_12 kw_40_13 kw_1_23 kw_40_14) rfl rfl rfl (by decide +kernel) ⟨Nat.le_of_ble_eq_true rfl, Nat.le_of_ble_eq_true rfl⟩) ⟨(tq_pre (isC := [2, 3, 4]) hP hD hK hN rfl (by decide)).1, va_recv hK hP (ci := 6) (q0 := 2) rfl rfl, (tq_pre (isC := [2, 3, 4]) hP hD hK hN rfl (by decide)).2⟩ rfl rfl hl.1 rfl (lv_room (Nat.le_of_ble_eq_true rfl)) dX7_go_45 ⟨Nat.le_of_ble_eq_true rfl, Nat.le_of_ble_eq_true rfl⟩) (fun u158 H locs hw159 hP hD hS => ?_)
                    refine W.widen (k := 0) (n := 0) (Nat.le_of_ble_eq_true rfl) (Nat.le_of_ble_eq_true rfl) ?_
                    obtain ⟨ho161, hf162⟩ := hw159
                    have hf162 := fh_app (fo_fh (l' := [(5, .int 1), (19, .ref pa)]) hf152 ho161 rfl) hf162
                    have ho163 := fo_mono (k2 := [0, 5]) (fo_trans ho153 ho161) (by decide)
                    have hf162 : fh u158 20 [(5, .int 1), (19, .ref pa), (0, .int 6)] := hf162
                    have hP : va_P G vwCl [(h0, .inr (7, fs)), (ch, .inr (0, cs)), (t0, .inr (6, u158)), (pa, .inr (2, ps)), (sa, .inl (cA 0, 21, .inl fsec))] H := hP
                    have hD : va_D A [(h0, .inr (7, fs)), (ch, .inr (0, cs)), (t0, .inr (6, u158)), (pa, .inr (2, ps)), (sa, .inl (cA 0, 21, .inl fsec))] := hD
                    refine lv_iinc (v := 6) (lv' := [(2, .int 6), (0, .ref h0), (1, .int x)]) hx hb dX7_go_48 hl (k := 0) rfl (by decide) (by decide) rfl (fun ls hl => ?_)
                    refine lv_goto (tgt := 36) hx hb dX7_go_51 (by decide) ?_
                    refine lv_iload_n hx hb dX7_go_36 rfl (lv_at hl 0 rfl) ?_
                    refine lv_iload_n hx hb dX7_go_37 rfl (lv_at hl 2 rfl) ?_
                    refine lv_icmp_ge (tgt := 54) hx hb dX7_go_38 (by decide) (fun c164 => ?_) (fun c164 => ?_)
                    · have k164 := tq_le (a := x.toInt) (b := 6) rfl (by decide) c164
                      obtain rfl : x = 6 := tq_is (by rw [show (6 : Int32).toInt = 6 from by decide]; omega)
                      refine lv_iload_n hx hb dX7_go_54 rfl (lv_at hl 2 rfl) ?_
                      refine lv_if_le (tgt := 66) hx hb dX7_go_55 (by decide) (fun c165 => absurd c165 (by decide)) (fun c165 => ?_)
                      refine lv_aload_n hx hb dX7_go_58 rfl (lv_at hl 1 rfl) ?_
                      refine va_get (D := G) (ci := 7) (v := .ref ch) (C := RX7) (T := TX7) (N := 12) hx hb hT ku_7 hown hK hP 0 rfl rfl 7 (by decide) (hT _ kw_2_8) (fun _ h9 => h9) (fh_at hf 2 rfl) dX7_go_59 ?_
                      refine lv_iconst (v := 0) hx hb dX7_go_62 (by decide) ?_
                      refine va_put (D := G) (ci := 0) (v := .int 0) (ty := .int) (C := RX0) (T := TX0) (N := 3) hx hb hT ku_0 tyX0 tyX0_ok nmX0 hown hK hP hD hS 1 rfl rfl 0 (by decide) (hT _ kw_14_7) (fun _ h9 => h9) rfl (by decide +kernel) rfl rfl (fh_lt hch (by decide)) dX7_go_63 (fun H locs hP hD hS => ?_)
                      have hP : va_P G vwCl [(h0, .inr (7, fs)), (ch, .inr (0, (cs.set 0 (.int 0)))), (t0, .inr (6, u158)), (pa, .inr (2, ps)), (sa, .inl (cA 0, 21, .inl fsec))] H := hP
                      have hD : va_D A [(h0, .inr (7, fs)), (ch, .inr (0, (cs.set 0 (.int 0)))), (t0, .inr (6, u158)), (pa, .inr (2, ps)), (sa, .inl (cA 0, 21, .inl fsec))] := hD
                      have hch := fh_set (l' := [(0, .int 0)]) hch 0 (.int 0) (by decide) rfl
                      have ho167 := fo_set ho_hch 0 (.int 0)
                      generalize (cs.set 0 (.int 0)) = fs166 at hP hD hch ho167
                      refine lv_aload_n hx hb dX7_go_66 rfl (lv_at hl 1 rfl) ?_
                      refine va_get (D := G) (ci := 7) (v := .ref t0) (C := RX7) (T := TX7) (N := 12) hx hb hT ku_7 hown hK hP 0 rfl rfl 2 (by decide) (hT _ kw_2_0) (fun _ h9 => h9) (fh_at hf 1 rfl) dX7_go_67 ?_
                      refine va_get (D := G) (ci := 6) (v := .int 6) (C := RX6) (T := TX6) (N := 20) hx hb hT ku_6 hown hK hP 2 rfl rfl 0 (by decide) (hT _ kw_40_9) (fun _ h9 => h9) (fh_at hf162 2 rfl) dX7_go_70 ?_
                      have hP9 : va_P G vwCl [] H := fun k q h => by simp at h
                      have hD9 : va_D A [] := ⟨fun i j p q h => by simp at h, fun k q h => by simp at h⟩
                      exact W.iret (v := 6) hx hb hr (fun t ht hW => ⟨⟨6, (), rfl, (by unfold sp_go; (repeat' split) <;> first | rfl | (exfalso; omega) | decide), by rw [ht]; exact hP9, hD9⟩, hS.F ht⟩) hS.2.2 dX7_go_73
                    · have k164 := tq_len (a := x.toInt) (b := 6) rfl (by decide) c164
                      refine lv_aload_n hx hb dX7_go_41 rfl (lv_at hl 1 rfl) ?_
                      refine va_get (D := G) (ci := 7) (v := .ref t0) (C := RX7) (T := TX7) (N := 12) hx hb hT ku_7 hown hK hP 0 rfl rfl 2 (by decide) (hT _ kw_2_0) (fun _ h9 => h9) (fh_at hf 1 rfl) dX7_go_42 ?_
                      refine tq_cv (wr := [(h0, .inr (7, fs)), (ch, .inr (0, cs))]) hP hD hS hA [2, 3, 4] [0, 1] rfl rfl (by decide) (by decide) (va_runV (As := []) (rest := []) ⟨hx, hb, hml, hown, hT⟩ (c_X6_passStop_6 l G cA H.size t0 u158 pa ps sa fsec (fh_sub hf162 [1, 2] rfl) (fh_sub hp [0, 1, 2, 3] rfl) hsec) (cwV 0 hT (tq_gV kw_40_11 kw_40_12 kw_40_13 kw_1_23 kw_40_14) rfl rfl rfl (by decide +kernel) ⟨Nat.le_of_ble_eq_true rfl, Nat.le_of_ble_eq_true rfl⟩) ⟨(tq_pre (isC := [2, 3, 4]) hP hD hK hN rfl (by decide)).1, va_recv hK hP (ci := 6) (q0 := 2) rfl rfl, (tq_pre (isC := [2, 3, 4]) hP hD hK hN rfl (by decide)).2⟩ rfl rfl hl.1 rfl (lv_room (Nat.le_of_ble_eq_true rfl)) dX7_go_45 ⟨Nat.le_of_ble_eq_true rfl, Nat.le_of_ble_eq_true rfl⟩) (fun u168 H locs hw169 hP hD hS => ?_)
                      refine W.widen (k := 0) (n := 0) (Nat.le_of_ble_eq_true rfl) (Nat.le_of_ble_eq_true rfl) ?_
                      obtain ⟨ho171, hf172⟩ := hw169
                      have hf172 := fh_app (fo_fh (l' := [(5, .int 1), (19, .ref pa)]) hf162 ho171 rfl) hf172
                      have ho173 := fo_mono (k2 := [0, 5]) (fo_trans ho163 ho171) (by decide)
                      have hf172 : fh u168 20 [(5, .int 1), (19, .ref pa), (0, .int 7)] := hf172
                      have hP : va_P G vwCl [(h0, .inr (7, fs)), (ch, .inr (0, cs)), (t0, .inr (6, u168)), (pa, .inr (2, ps)), (sa, .inl (cA 0, 21, .inl fsec))] H := hP
                      have hD : va_D A [(h0, .inr (7, fs)), (ch, .inr (0, cs)), (t0, .inr (6, u168)), (pa, .inr (2, ps)), (sa, .inl (cA 0, 21, .inl fsec))] := hD
                      refine lv_iinc (v := 7) (lv' := [(2, .int 7), (0, .ref h0), (1, .int x)]) hx hb dX7_go_48 hl (k := 0) rfl (by decide) (by decide) rfl (fun ls hl => ?_)
                      refine lv_goto (tgt := 36) hx hb dX7_go_51 (by decide) ?_
                      refine lv_iload_n hx hb dX7_go_36 rfl (lv_at hl 0 rfl) ?_
                      refine lv_iload_n hx hb dX7_go_37 rfl (lv_at hl 2 rfl) ?_
                      refine lv_icmp_ge (tgt := 54) hx hb dX7_go_38 (by decide) (fun c174 => ?_) (fun c174 => ?_)
                      · have k174 := tq_le (a := x.toInt) (b := 7) rfl (by decide) c174
                        obtain rfl : x = 7 := tq_is (by rw [show (7 : Int32).toInt = 7 from by decide]; omega)
                        refine lv_iload_n hx hb dX7_go_54 rfl (lv_at hl 2 rfl) ?_
                        refine lv_if_le (tgt := 66) hx hb dX7_go_55 (by decide) (fun c175 => absurd c175 (by decide)) (fun c175 => ?_)
                        refine lv_aload_n hx hb dX7_go_58 rfl (lv_at hl 1 rfl) ?_
                        refine va_get (D := G) (ci := 7) (v := .ref ch) (C := RX7) (T := TX7) (N := 12) hx hb hT ku_7 hown hK hP 0 rfl rfl 7 (by decide) (hT _ kw_2_8) (fun _ h9 => h9) (fh_at hf 2 rfl) dX7_go_59 ?_
                        refine lv_iconst (v := 0) hx hb dX7_go_62 (by decide) ?_
                        refine va_put (D := G) (ci := 0) (v := .int 0) (ty := .int) (C := RX0) (T := TX0) (N := 3) hx hb hT ku_0 tyX0 tyX0_ok nmX0 hown hK hP hD hS 1 rfl rfl 0 (by decide) (hT _ kw_14_7) (fun _ h9 => h9) rfl (by decide +kernel) rfl rfl (fh_lt hch (by decide)) dX7_go_63 (fun H locs hP hD hS => ?_)
                        have hP : va_P G vwCl [(h0, .inr (7, fs)), (ch, .inr (0, (cs.set 0 (.int 0)))), (t0, .inr (6, u168)), (pa, .inr (2, ps)), (sa, .inl (cA 0, 21, .inl fsec))] H := hP
                        have hD : va_D A [(h0, .inr (7, fs)), (ch, .inr (0, (cs.set 0 (.int 0)))), (t0, .inr (6, u168)), (pa, .inr (2, ps)), (sa, .inl (cA 0, 21, .inl fsec))] := hD
                        have hch := fh_set (l' := [(0, .int 0)]) hch 0 (.int 0) (by decide) rfl
                        have ho177 := fo_set ho_hch 0 (.int 0)
                        generalize (cs.set 0 (.int 0)) = fs176 at hP hD hch ho177
                        refine lv_aload_n hx hb dX7_go_66 rfl (lv_at hl 1 rfl) ?_
                        refine va_get (D := G) (ci := 7) (v := .ref t0) (C := RX7) (T := TX7) (N := 12) hx hb hT ku_7 hown hK hP 0 rfl rfl 2 (by decide) (hT _ kw_2_0) (fun _ h9 => h9) (fh_at hf 1 rfl) dX7_go_67 ?_
                        refine va_get (D := G) (ci := 6) (v := .int 7) (C := RX6) (T := TX6) (N := 20) hx hb hT ku_6 hown hK hP 2 rfl rfl 0 (by decide) (hT _ kw_40_9) (fun _ h9 => h9) (fh_at hf172 2 rfl) dX7_go_70 ?_
                        have hP9 : va_P G vwCl [] H := fun k q h => by simp at h
                        have hD9 : va_D A [] := ⟨fun i j p q h => by simp at h, fun k q h => by simp at h⟩
                        exact W.iret (v := 7) hx hb hr (fun t ht hW => ⟨⟨7, (), rfl, (by unfold sp_go; (repeat' split) <;> first | rfl | (exfalso; omega) | decide), by rw [ht]; exact hP9, hD9⟩, hS.F ht⟩) hS.2.2 dX7_go_73
                      · have k174 := tq_len (a := x.toInt) (b := 7) rfl (by decide) c174
                        refine lv_aload_n hx hb dX7_go_41 rfl (lv_at hl 1 rfl) ?_
                        refine va_get (D := G) (ci := 7) (v := .ref t0) (C := RX7) (T := TX7) (N := 12) hx hb hT ku_7 hown hK hP 0 rfl rfl 2 (by decide) (hT _ kw_2_0) (fun _ h9 => h9) (fh_at hf 1 rfl) dX7_go_42 ?_
                        refine tq_cv (wr := [(h0, .inr (7, fs)), (ch, .inr (0, cs))]) hP hD hS hA [2, 3, 4] [0, 1] rfl rfl (by decide) (by decide) (va_runV (As := []) (rest := []) ⟨hx, hb, hml, hown, hT⟩ (c_X6_passStop_7 l G cA H.size t0 u168 pa ps sa fsec (fh_sub hf172 [1, 2] rfl) (fh_sub hp [0, 1, 2, 3] rfl) hsec) (cwV 0 hT (tq_gV kw_40_11 kw_40_12 kw_40_13 kw_1_23 kw_40_14) rfl rfl rfl (by decide +kernel) ⟨Nat.le_of_ble_eq_true rfl, Nat.le_of_ble_eq_true rfl⟩) ⟨(tq_pre (isC := [2, 3, 4]) hP hD hK hN rfl (by decide)).1, va_recv hK hP (ci := 6) (q0 := 2) rfl rfl, (tq_pre (isC := [2, 3, 4]) hP hD hK hN rfl (by decide)).2⟩ rfl rfl hl.1 rfl (lv_room (Nat.le_of_ble_eq_true rfl)) dX7_go_45 ⟨Nat.le_of_ble_eq_true rfl, Nat.le_of_ble_eq_true rfl⟩) (fun u178 H locs hw179 hP hD hS => ?_)
                        refine W.widen (k := 0) (n := 0) (Nat.le_of_ble_eq_true rfl) (Nat.le_of_ble_eq_true rfl) ?_
                        obtain ⟨ho181, hf182⟩ := hw179
                        have hf182 := fh_app (fo_fh (l' := [(5, .int 1), (19, .ref pa)]) hf172 ho181 rfl) hf182
                        have ho183 := fo_mono (k2 := [0, 5]) (fo_trans ho173 ho181) (by decide)
                        have hf182 : fh u178 20 [(5, .int 1), (19, .ref pa), (0, .int 8)] := hf182
                        have hP : va_P G vwCl [(h0, .inr (7, fs)), (ch, .inr (0, cs)), (t0, .inr (6, u178)), (pa, .inr (2, ps)), (sa, .inl (cA 0, 21, .inl fsec))] H := hP
                        have hD : va_D A [(h0, .inr (7, fs)), (ch, .inr (0, cs)), (t0, .inr (6, u178)), (pa, .inr (2, ps)), (sa, .inl (cA 0, 21, .inl fsec))] := hD
                        refine lv_iinc (v := 8) (lv' := [(2, .int 8), (0, .ref h0), (1, .int x)]) hx hb dX7_go_48 hl (k := 0) rfl (by decide) (by decide) rfl (fun ls hl => ?_)
                        refine lv_goto (tgt := 36) hx hb dX7_go_51 (by decide) ?_
                        refine lv_iload_n hx hb dX7_go_36 rfl (lv_at hl 0 rfl) ?_
                        refine lv_iload_n hx hb dX7_go_37 rfl (lv_at hl 2 rfl) ?_
                        refine lv_icmp_ge (tgt := 54) hx hb dX7_go_38 (by decide) (fun c184 => ?_) (fun c184 => ?_)
                        · have k184 := tq_le (a := x.toInt) (b := 8) rfl (by decide) c184
                          obtain rfl : x = 8 := tq_is (by rw [show (8 : Int32).toInt = 8 from by decide]; omega)
                          refine lv_iload_n hx hb dX7_go_54 rfl (lv_at hl 2 rfl) ?_
                          refine lv_if_le (tgt := 66) hx hb dX7_go_55 (by decide) (fun c185 => absurd c185 (by decide)) (fun c185 => ?_)
                          refine lv_aload_n hx hb dX7_go_58 rfl (lv_at hl 1 rfl) ?_
                          refine va_get (D := G) (ci := 7) (v := .ref ch) (C := RX7) (T := TX7) (N := 12) hx hb hT ku_7 hown hK hP 0 rfl rfl 7 (by decide) (hT _ kw_2_8) (fun _ h9 => h9) (fh_at hf 2 rfl) dX7_go_59 ?_
                          refine lv_iconst (v := 0) hx hb dX7_go_62 (by decide) ?_
                          refine va_put (D := G) (ci := 0) (v := .int 0) (ty := .int) (C := RX0) (T := TX0) (N := 3) hx hb hT ku_0 tyX0 tyX0_ok nmX0 hown hK hP hD hS 1 rfl rfl 0 (by decide) (hT _ kw_14_7) (fun _ h9 => h9) rfl (by decide +kernel) rfl rfl (fh_lt hch (by decide)) dX7_go_63 (fun H locs hP hD hS => ?_)
                          have hP : va_P G vwCl [(h0, .inr (7, fs)), (ch, .inr (0, (cs.set 0 (.int 0)))), (t0, .inr (6, u178)), (pa, .inr (2, ps)), (sa, .inl (cA 0, 21, .inl fsec))] H := hP
                          have hD : va_D A [(h0, .inr (7, fs)), (ch, .inr (0, (cs.set 0 (.int 0)))), (t0, .inr (6, u178)), (pa, .inr (2, ps)), (sa, .inl (cA 0, 21, .inl fsec))] := hD
                          have hch := fh_set (l' := [(0, .int 0)]) hch 0 (.int 0) (by decide) rfl
                          have ho187 := fo_set ho_hch 0 (.int 0)
                          generalize (cs.set 0 (.int 0)) = fs186 at hP hD hch ho187
                          refine lv_aload_n hx hb dX7_go_66 rfl (lv_at hl 1 rfl) ?_
                          refine va_get (D := G) (ci := 7) (v := .ref t0) (C := RX7) (T := TX7) (N := 12) hx hb hT ku_7 hown hK hP 0 rfl rfl 2 (by decide) (hT _ kw_2_0) (fun _ h9 => h9) (fh_at hf 1 rfl) dX7_go_67 ?_
                          refine va_get (D := G) (ci := 6) (v := .int 8) (C := RX6) (T := TX6) (N := 20) hx hb hT ku_6 hown hK hP 2 rfl rfl 0 (by decide) (hT _ kw_40_9) (fun _ h9 => h9) (fh_at hf182 2 rfl) dX7_go_70 ?_
                          have hP9 : va_P G vwCl [] H := fun k q h => by simp at h
                          have hD9 : va_D A [] := ⟨fun i j p q h => by simp at h, fun k q h => by simp at h⟩
                          exact W.iret (v := 8) hx hb hr (fun t ht hW => ⟨⟨8, (), rfl, (by unfold sp_go; (repeat' split) <;> first | rfl | (exfalso; omega) | decide), by rw [ht]; exact hP9, hD9⟩, hS.F ht⟩) hS.2.2 dX7_go_73
                        · have k184 := tq_len (a := x.toInt) (b := 8) rfl (by decide) c184
                          refine lv_aload_n hx hb dX7_go_41 rfl (lv_at hl 1 rfl) ?_
                          refine va_get (D := G) (ci := 7) (v := .ref t0) (C := RX7) (T := TX7) (N := 12) hx hb hT ku_7 hown hK hP 0 rfl rfl 2 (by decide) (hT _ kw_2_0) (fun _ h9 => h9) (fh_at hf 1 rfl) dX7_go_42 ?_
                          refine tq_cv (wr := [(h0, .inr (7, fs)), (ch, .inr (0, cs))]) hP hD hS hA [2, 3, 4] [0, 1] rfl rfl (by decide) (by decide) (va_runV (As := []) (rest := []) ⟨hx, hb, hml, hown, hT⟩ (c_X6_passStop_8 l G cA H.size t0 u178 pa ps sa fsec (fh_sub hf182 [1, 2] rfl) (fh_sub hp [0, 1, 2, 3] rfl) hsec) (cwV 0 hT (tq_gV kw_40_11 kw_40_12 kw_40_13 kw_1_23 kw_40_14) rfl rfl rfl (by decide +kernel) ⟨Nat.le_of_ble_eq_true rfl, Nat.le_of_ble_eq_true rfl⟩) ⟨(tq_pre (isC := [2, 3, 4]) hP hD hK hN rfl (by decide)).1, va_recv hK hP (ci := 6) (q0 := 2) rfl rfl, (tq_pre (isC := [2, 3, 4]) hP hD hK hN rfl (by decide)).2⟩ rfl rfl hl.1 rfl (lv_room (Nat.le_of_ble_eq_true rfl)) dX7_go_45 ⟨Nat.le_of_ble_eq_true rfl, Nat.le_of_ble_eq_true rfl⟩) (fun u188 H locs hw189 hP hD hS => ?_)
                          refine W.widen (k := 0) (n := 0) (Nat.le_of_ble_eq_true rfl) (Nat.le_of_ble_eq_true rfl) ?_
                          obtain ⟨ho191, hf192⟩ := hw189
                          have hf192 := fh_app (fo_fh (l' := [(5, .int 1), (19, .ref pa)]) hf182 ho191 rfl) hf192
                          have ho193 := fo_mono (k2 := [0, 5]) (fo_trans ho183 ho191) (by decide)
                          have hf192 : fh u188 20 [(5, .int 1), (19, .ref pa), (0, .int 9)] := hf192
                          have hP : va_P G vwCl [(h0, .inr (7, fs)), (ch, .inr (0, cs)), (t0, .inr (6, u188)), (pa, .inr (2, ps)), (sa, .inl (cA 0, 21, .inl fsec))] H := hP
                          have hD : va_D A [(h0, .inr (7, fs)), (ch, .inr (0, cs)), (t0, .inr (6, u188)), (pa, .inr (2, ps)), (sa, .inl (cA 0, 21, .inl fsec))] := hD
                          refine lv_iinc (v := 9) (lv' := [(2, .int 9), (0, .ref h0), (1, .int x)]) hx hb dX7_go_48 hl (k := 0) rfl (by decide) (by decide) rfl (fun ls hl => ?_)
                          refine lv_goto (tgt := 36) hx hb dX7_go_51 (by decide) ?_
                          refine lv_iload_n hx hb dX7_go_36 rfl (lv_at hl 0 rfl) ?_
                          refine lv_iload_n hx hb dX7_go_37 rfl (lv_at hl 2 rfl) ?_
                          refine lv_icmp_ge (tgt := 54) hx hb dX7_go_38 (by decide) (fun c194 => ?_) (fun c194 => ?_)
                          · have k194 := tq_le (a := x.toInt) (b := 9) rfl (by decide) c194
                            obtain rfl : x = 9 := tq_is (by rw [show (9 : Int32).toInt = 9 from by decide]; omega)
                            refine lv_iload_n hx hb dX7_go_54 rfl (lv_at hl 2 rfl) ?_
                            refine lv_if_le (tgt := 66) hx hb dX7_go_55 (by decide) (fun c195 => absurd c195 (by decide)) (fun c195 => ?_)
                            refine lv_aload_n hx hb dX7_go_58 rfl (lv_at hl 1 rfl) ?_
                            refine va_get (D := G) (ci := 7) (v := .ref ch) (C := RX7) (T := TX7) (N := 12) hx hb hT ku_7 hown hK hP 0 rfl rfl 7 (by decide) (hT _ kw_2_8) (fun _ h9 => h9) (fh_at hf 2 rfl) dX7_go_59 ?_
                            refine lv_iconst (v := 0) hx hb dX7_go_62 (by decide) ?_
                            refine va_put (D := G) (ci := 0) (v := .int 0) (ty := .int) (C := RX0) (T := TX0) (N := 3) hx hb hT ku_0 tyX0 tyX0_ok nmX0 hown hK hP hD hS 1 rfl rfl 0 (by decide) (hT _ kw_14_7) (fun _ h9 => h9) rfl (by decide +kernel) rfl rfl (fh_lt hch (by decide)) dX7_go_63 (fun H locs hP hD hS => ?_)
                            have hP : va_P G vwCl [(h0, .inr (7, fs)), (ch, .inr (0, (cs.set 0 (.int 0)))), (t0, .inr (6, u188)), (pa, .inr (2, ps)), (sa, .inl (cA 0, 21, .inl fsec))] H := hP
                            have hD : va_D A [(h0, .inr (7, fs)), (ch, .inr (0, (cs.set 0 (.int 0)))), (t0, .inr (6, u188)), (pa, .inr (2, ps)), (sa, .inl (cA 0, 21, .inl fsec))] := hD
                            have hch := fh_set (l' := [(0, .int 0)]) hch 0 (.int 0) (by decide) rfl
                            have ho197 := fo_set ho_hch 0 (.int 0)
                            generalize (cs.set 0 (.int 0)) = fs196 at hP hD hch ho197
                            refine lv_aload_n hx hb dX7_go_66 rfl (lv_at hl 1 rfl) ?_
                            refine va_get (D := G) (ci := 7) (v := .ref t0) (C := RX7) (T := TX7) (N := 12) hx hb hT ku_7 hown hK hP 0 rfl rfl 2 (by decide) (hT _ kw_2_0) (fun _ h9 => h9) (fh_at hf 1 rfl) dX7_go_67 ?_
                            refine va_get (D := G) (ci := 6) (v := .int 9) (C := RX6) (T := TX6) (N := 20) hx hb hT ku_6 hown hK hP 2 rfl rfl 0 (by decide) (hT _ kw_40_9) (fun _ h9 => h9) (fh_at hf192 2 rfl) dX7_go_70 ?_
                            have hP9 : va_P G vwCl [] H := fun k q h => by simp at h
                            have hD9 : va_D A [] := ⟨fun i j p q h => by simp at h, fun k q h => by simp at h⟩
                            exact W.iret (v := 9) hx hb hr (fun t ht hW => ⟨⟨9, (), rfl, (by unfold sp_go; (repeat' split) <;> first | rfl | (exfalso; omega) | decide), by rw [ht]; exact hP9, hD9⟩, hS.F ht⟩) hS.2.2 dX7_go_73
                          · have k194 := tq_len (a := x.toInt) (b := 9) rfl (by decide) c194
                            refine lv_aload_n hx hb dX7_go_41 rfl (lv_at hl 1 rfl) ?_
                            refine va_get (D := G) (ci := 7) (v := .ref t0) (C := RX7) (T := TX7) (N := 12) hx hb hT ku_7 hown hK hP 0 rfl rfl 2 (by decide) (hT _ kw_2_0) (fun _ h9 => h9) (fh_at hf 1 rfl) dX7_go_42 ?_
                            refine tq_cv (wr := [(h0, .inr (7, fs)), (ch, .inr (0, cs))]) hP hD hS hA [2, 3, 4] [0, 1] rfl rfl (by decide) (by decide) (va_runV (As := []) (rest := []) ⟨hx, hb, hml, hown, hT⟩ (c_X6_passStop_9 l G cA H.size t0 u188 pa ps sa fsec (fh_sub hf192 [1, 2] rfl) (fh_sub hp [0, 1, 2, 3] rfl) hsec) (cwV 0 hT (tq_gV kw_40_11 kw_40_12 kw_40_13 kw_1_23 kw_40_14) rfl rfl rfl (by decide +kernel) ⟨Nat.le_of_ble_eq_true rfl, Nat.le_of_ble_eq_true rfl⟩) ⟨(tq_pre (isC := [2, 3, 4]) hP hD hK hN rfl (by decide)).1, va_recv hK hP (ci := 6) (q0 := 2) rfl rfl, (tq_pre (isC := [2, 3, 4]) hP hD hK hN rfl (by decide)).2⟩ rfl rfl hl.1 rfl (lv_room (Nat.le_of_ble_eq_true rfl)) dX7_go_45 ⟨Nat.le_of_ble_eq_true rfl, Nat.le_of_ble_eq_true rfl⟩) (fun u198 H locs hw199 hP hD hS => ?_)
                            refine W.widen (k := 0) (n := 0) (Nat.le_of_ble_eq_true rfl) (Nat.le_of_ble_eq_true rfl) ?_
                            obtain ⟨ho201, hf202⟩ := hw199
                            have hf202 := fh_app (fo_fh (l' := [(5, .int 1), (19, .ref pa)]) hf192 ho201 rfl) hf202
                            have ho203 := fo_mono (k2 := [0, 5]) (fo_trans ho193 ho201) (by decide)
                            have hf202 : fh u198 20 [(5, .int 1), (19, .ref pa), (0, .int 10)] := hf202
                            have hP : va_P G vwCl [(h0, .inr (7, fs)), (ch, .inr (0, cs)), (t0, .inr (6, u198)), (pa, .inr (2, ps)), (sa, .inl (cA 0, 21, .inl fsec))] H := hP
                            have hD : va_D A [(h0, .inr (7, fs)), (ch, .inr (0, cs)), (t0, .inr (6, u198)), (pa, .inr (2, ps)), (sa, .inl (cA 0, 21, .inl fsec))] := hD
                            refine lv_iinc (v := 10) (lv' := [(2, .int 10), (0, .ref h0), (1, .int x)]) hx hb dX7_go_48 hl (k := 0) rfl (by decide) (by decide) rfl (fun ls hl => ?_)
                            refine lv_goto (tgt := 36) hx hb dX7_go_51 (by decide) ?_
                            refine lv_iload_n hx hb dX7_go_36 rfl (lv_at hl 0 rfl) ?_
                            refine lv_iload_n hx hb dX7_go_37 rfl (lv_at hl 2 rfl) ?_
                            refine lv_icmp_ge (tgt := 54) hx hb dX7_go_38 (by decide) (fun c204 => ?_) (fun c204 => ?_)
                            · have k204 := tq_le (a := x.toInt) (b := 10) rfl (by decide) c204
                              obtain rfl : x = 10 := tq_is (by rw [show (10 : Int32).toInt = 10 from by decide]; omega)
                              refine lv_iload_n hx hb dX7_go_54 rfl (lv_at hl 2 rfl) ?_
                              refine lv_if_le (tgt := 66) hx hb dX7_go_55 (by decide) (fun c205 => absurd c205 (by decide)) (fun c205 => ?_)
                              refine lv_aload_n hx hb dX7_go_58 rfl (lv_at hl 1 rfl) ?_
                              refine va_get (D := G) (ci := 7) (v := .ref ch) (C := RX7) (T := TX7) (N := 12) hx hb hT ku_7 hown hK hP 0 rfl rfl 7 (by decide) (hT _ kw_2_8) (fun _ h9 => h9) (fh_at hf 2 rfl) dX7_go_59 ?_
                              refine lv_iconst (v := 0) hx hb dX7_go_62 (by decide) ?_
                              refine va_put (D := G) (ci := 0) (v := .int 0) (ty := .int) (C := RX0) (T := TX0) (N := 3) hx hb hT ku_0 tyX0 tyX0_ok nmX0 hown hK hP hD hS 1 rfl rfl 0 (by decide) (hT _ kw_14_7) (fun _ h9 => h9) rfl (by decide +kernel) rfl rfl (fh_lt hch (by decide)) dX7_go_63 (fun H locs hP hD hS => ?_)
                              have hP : va_P G vwCl [(h0, .inr (7, fs)), (ch, .inr (0, (cs.set 0 (.int 0)))), (t0, .inr (6, u198)), (pa, .inr (2, ps)), (sa, .inl (cA 0, 21, .inl fsec))] H := hP
                              have hD : va_D A [(h0, .inr (7, fs)), (ch, .inr (0, (cs.set 0 (.int 0)))), (t0, .inr (6, u198)), (pa, .inr (2, ps)), (sa, .inl (cA 0, 21, .inl fsec))] := hD
                              have hch := fh_set (l' := [(0, .int 0)]) hch 0 (.int 0) (by decide) rfl
                              have ho207 := fo_set ho_hch 0 (.int 0)
                              generalize (cs.set 0 (.int 0)) = fs206 at hP hD hch ho207
                              refine lv_aload_n hx hb dX7_go_66 rfl (lv_at hl 1 rfl) ?_
                              refine va_get (D := G) (ci := 7) (v := .ref t0) (C := RX7) (T := TX7) (N := 12) hx hb hT ku_7 hown hK hP 0 rfl rfl 2 (by decide) (hT _ kw_2_0) (fun _ h9 => h9) (fh_at hf 1 rfl) dX7_go_67 ?_
                              refine va_get (D := G) (ci := 6) (v := .int 10) (C := RX6) (T := TX6) (N := 20) hx hb hT ku_6 hown hK hP 2 rfl rfl 0 (by decide) (hT _ kw_40_9) (fun _ h9 => h9) (fh_at hf202 2 rfl) dX7_go_70 ?_
                              have hP9 : va_P G vwCl [] H := fun k q h => by simp at h
                              have hD9 : va_D A [] := ⟨fun i j p q h => by simp at h, fun k q h => by simp at h⟩
                              exact W.iret (v := 10) hx hb hr (fun t ht hW => ⟨⟨10, (), rfl, (by unfold sp_go; (repeat' split) <;> first | rfl | (exfalso; omega) | decide), by rw [ht]; exact hP9, hD9⟩, hS.F ht⟩) hS.2.2 dX7_go_73
                            · have k204 := tq_len (a := x.toInt) (b := 10) rfl (by decide) c204
                              refine lv_aload_n hx hb dX7_go_41 rfl (lv_at hl 1 rfl) ?_
                              refine va_get (D := G) (ci := 7) (v := .ref t0) (C := RX7) (T := TX7) (N := 12) hx hb hT ku_7 hown hK hP 0 rfl rfl 2 (by decide) (hT _ kw_2_0) (fun _ h9 => h9) (fh_at hf 1 rfl) dX7_go_42 ?_
                              refine tq_cv (wr := [(h0, .inr (7, fs)), (ch, .inr (0, cs))]) hP hD hS hA [2, 3, 4] [0, 1] rfl rfl (by decide) (by decide) (va_runV (As := []) (rest := []) ⟨hx, hb, hml, hown, hT⟩ (c_X6_passStop_10 l G cA H.size t0 u198 pa ps sa fsec (fh_sub hf202 [1, 2] rfl) (fh_sub hp [0, 1, 2, 3] rfl) hsec) (cwV 0 hT (tq_gV kw_40_11 kw_40_12 kw_40_13 kw_1_23 kw_40_14) rfl rfl rfl (by decide +kernel) ⟨Nat.le_of_ble_eq_true rfl, Nat.le_of_ble_eq_true rfl⟩) ⟨(tq_pre (isC := [2, 3, 4]) hP hD hK hN rfl (by decide)).1, va_recv hK hP (ci := 6) (q0 := 2) rfl rfl, (tq_pre (isC := [2, 3, 4]) hP hD hK hN rfl (by decide)).2⟩ rfl rfl hl.1 rfl (lv_room (Nat.le_of_ble_eq_true rfl)) dX7_go_45 ⟨Nat.le_of_ble_eq_true rfl, Nat.le_of_ble_eq_true rfl⟩) (fun u208 H locs hw209 hP hD hS => ?_)
                              refine W.widen (k := 0) (n := 0) (Nat.le_of_ble_eq_true rfl) (Nat.le_of_ble_eq_true rfl) ?_
                              obtain ⟨ho211, hf212⟩ := hw209
                              have hf212 := fh_app (fo_fh (l' := [(5, .int 1), (19, .ref pa)]) hf202 ho211 rfl) hf212
                              have ho213 := fo_mono (k2 := [0, 5]) (fo_trans ho203 ho211) (by decide)
                              have hf212 : fh u208 20 [(5, .int 1), (19, .ref pa), (0, .int 11)] := hf212
                              have hP : va_P G vwCl [(h0, .inr (7, fs)), (ch, .inr (0, cs)), (t0, .inr (6, u208)), (pa, .inr (2, ps)), (sa, .inl (cA 0, 21, .inl fsec))] H := hP
                              have hD : va_D A [(h0, .inr (7, fs)), (ch, .inr (0, cs)), (t0, .inr (6, u208)), (pa, .inr (2, ps)), (sa, .inl (cA 0, 21, .inl fsec))] := hD
                              refine lv_iinc (v := 11) (lv' := [(2, .int 11), (0, .ref h0), (1, .int x)]) hx hb dX7_go_48 hl (k := 0) rfl (by decide) (by decide) rfl (fun ls hl => ?_)
                              refine lv_goto (tgt := 36) hx hb dX7_go_51 (by decide) ?_
                              refine lv_iload_n hx hb dX7_go_36 rfl (lv_at hl 0 rfl) ?_
                              refine lv_iload_n hx hb dX7_go_37 rfl (lv_at hl 2 rfl) ?_
                              refine lv_icmp_ge (tgt := 54) hx hb dX7_go_38 (by decide) (fun c214 => ?_) (fun c214 => ?_)
                              · have k214 := tq_le (a := x.toInt) (b := 11) rfl (by decide) c214
                                obtain rfl : x = 11 := tq_is (by rw [show (11 : Int32).toInt = 11 from by decide]; omega)
                                refine lv_iload_n hx hb dX7_go_54 rfl (lv_at hl 2 rfl) ?_
                                refine lv_if_le (tgt := 66) hx hb dX7_go_55 (by decide) (fun c215 => absurd c215 (by decide)) (fun c215 => ?_)
                                refine lv_aload_n hx hb dX7_go_58 rfl (lv_at hl 1 rfl) ?_
                                refine va_get (D := G) (ci := 7) (v := .ref ch) (C := RX7) (T := TX7) (N := 12) hx hb hT ku_7 hown hK hP 0 rfl rfl 7 (by decide) (hT _ kw_2_8) (fun _ h9 => h9) (fh_at hf 2 rfl) dX7_go_59 ?_
                                refine lv_iconst (v := 0) hx hb dX7_go_62 (by decide) ?_
                                refine va_put (D := G) (ci := 0) (v := .int 0) (ty := .int) (C := RX0) (T := TX0) (N := 3) hx hb hT ku_0 tyX0 tyX0_ok nmX0 hown hK hP hD hS 1 rfl rfl 0 (by decide) (hT _ kw_14_7) (fun _ h9 => h9) rfl (by decide +kernel) rfl rfl (fh_lt hch (by decide)) dX7_go_63 (fun H locs hP hD hS => ?_)
                                have hP : va_P G vwCl [(h0, .inr (7, fs)), (ch, .inr (0, (cs.set 0 (.int 0)))), (t0, .inr (6, u208)), (pa, .inr (2, ps)), (sa, .inl (cA 0, 21, .inl fsec))] H := hP
                                have hD : va_D A [(h0, .inr (7, fs)), (ch, .inr (0, (cs.set 0 (.int 0)))), (t0, .inr (6, u208)), (pa, .inr (2, ps)), (sa, .inl (cA 0, 21, .inl fsec))] := hD
                                have hch := fh_set (l' := [(0, .int 0)]) hch 0 (.int 0) (by decide) rfl
                                have ho217 := fo_set ho_hch 0 (.int 0)
                                generalize (cs.set 0 (.int 0)) = fs216 at hP hD hch ho217
                                refine lv_aload_n hx hb dX7_go_66 rfl (lv_at hl 1 rfl) ?_
                                refine va_get (D := G) (ci := 7) (v := .ref t0) (C := RX7) (T := TX7) (N := 12) hx hb hT ku_7 hown hK hP 0 rfl rfl 2 (by decide) (hT _ kw_2_0) (fun _ h9 => h9) (fh_at hf 1 rfl) dX7_go_67 ?_
                                refine va_get (D := G) (ci := 6) (v := .int 11) (C := RX6) (T := TX6) (N := 20) hx hb hT ku_6 hown hK hP 2 rfl rfl 0 (by decide) (hT _ kw_40_9) (fun _ h9 => h9) (fh_at hf212 2 rfl) dX7_go_70 ?_
                                have hP9 : va_P G vwCl [] H := fun k q h => by simp at h
                                have hD9 : va_D A [] := ⟨fun i j p q h => by simp at h, fun k q h => by simp at h⟩
                                exact W.iret (v := 11) hx hb hr (fun t ht hW => ⟨⟨11, (), rfl, (by unfold sp_go; (repeat' split) <;> first | rfl | (exfalso; omega) | decide), by rw [ht]; exact hP9, hD9⟩, hS.F ht⟩) hS.2.2 dX7_go_73
                              · have k214 := tq_len (a := x.toInt) (b := 11) rfl (by decide) c214
                                refine lv_aload_n hx hb dX7_go_41 rfl (lv_at hl 1 rfl) ?_
                                refine va_get (D := G) (ci := 7) (v := .ref t0) (C := RX7) (T := TX7) (N := 12) hx hb hT ku_7 hown hK hP 0 rfl rfl 2 (by decide) (hT _ kw_2_0) (fun _ h9 => h9) (fh_at hf 1 rfl) dX7_go_42 ?_
                                refine tq_cv (wr := [(h0, .inr (7, fs)), (ch, .inr (0, cs))]) hP hD hS hA [2, 3, 4] [0, 1] rfl rfl (by decide) (by decide) (va_runV (As := []) (rest := []) ⟨hx, hb, hml, hown, hT⟩ (c_X6_passStop_11 l G cA H.size t0 u208 pa ps sa fsec (fh_sub hf212 [1, 2] rfl) (fh_sub hp [0, 1, 2, 3] rfl) hsec) (cwV 0 hT (tq_gV kw_40_11 kw_40_12 kw_40_13 kw_1_23 kw_40_14) rfl rfl rfl (by decide +kernel) ⟨Nat.le_of_ble_eq_true rfl, Nat.le_of_ble_eq_true rfl⟩) ⟨(tq_pre (isC := [2, 3, 4]) hP hD hK hN rfl (by decide)).1, va_recv hK hP (ci := 6) (q0 := 2) rfl rfl, (tq_pre (isC := [2, 3, 4]) hP hD hK hN rfl (by decide)).2⟩ rfl rfl hl.1 rfl (lv_room (Nat.le_of_ble_eq_true rfl)) dX7_go_45 ⟨Nat.le_of_ble_eq_true rfl, Nat.le_of_ble_eq_true rfl⟩) (fun u218 H locs hw219 hP hD hS => ?_)
                                refine W.widen (k := 0) (n := 0) (Nat.le_of_ble_eq_true rfl) (Nat.le_of_ble_eq_true rfl) ?_
                                obtain ⟨ho221, hf222⟩ := hw219
                                have hf222 := fh_app (fo_fh (l' := [(5, .int 1), (19, .ref pa)]) hf212 ho221 rfl) hf222
                                have ho223 := fo_mono (k2 := [0, 5]) (fo_trans ho213 ho221) (by decide)
                                have hf222 : fh u218 20 [(5, .int 1), (19, .ref pa), (0, .int 12)] := hf222
                                have hP : va_P G vwCl [(h0, .inr (7, fs)), (ch, .inr (0, cs)), (t0, .inr (6, u218)), (pa, .inr (2, ps)), (sa, .inl (cA 0, 21, .inl fsec))] H := hP
                                have hD : va_D A [(h0, .inr (7, fs)), (ch, .inr (0, cs)), (t0, .inr (6, u218)), (pa, .inr (2, ps)), (sa, .inl (cA 0, 21, .inl fsec))] := hD
                                refine lv_iinc (v := 12) (lv' := [(2, .int 12), (0, .ref h0), (1, .int x)]) hx hb dX7_go_48 hl (k := 0) rfl (by decide) (by decide) rfl (fun ls hl => ?_)
                                refine lv_goto (tgt := 36) hx hb dX7_go_51 (by decide) ?_
                                refine lv_iload_n hx hb dX7_go_36 rfl (lv_at hl 0 rfl) ?_
                                refine lv_iload_n hx hb dX7_go_37 rfl (lv_at hl 2 rfl) ?_
                                refine lv_icmp_ge (tgt := 54) hx hb dX7_go_38 (by decide) (fun c224 => ?_) (fun c224 => ?_)
                                · have k224 := tq_le (a := x.toInt) (b := 12) rfl (by decide) c224
                                  obtain rfl : x = 12 := tq_is (by rw [show (12 : Int32).toInt = 12 from by decide]; omega)
                                  refine lv_iload_n hx hb dX7_go_54 rfl (lv_at hl 2 rfl) ?_
                                  refine lv_if_le (tgt := 66) hx hb dX7_go_55 (by decide) (fun c225 => absurd c225 (by decide)) (fun c225 => ?_)
                                  refine lv_aload_n hx hb dX7_go_58 rfl (lv_at hl 1 rfl) ?_
                                  refine va_get (D := G) (ci := 7) (v := .ref ch) (C := RX7) (T := TX7) (N := 12) hx hb hT ku_7 hown hK hP 0 rfl rfl 7 (by decide) (hT _ kw_2_8) (fun _ h9 => h9) (fh_at hf 2 rfl) dX7_go_59 ?_
                                  refine lv_iconst (v := 0) hx hb dX7_go_62 (by decide) ?_
                                  refine va_put (D := G) (ci := 0) (v := .int 0) (ty := .int) (C := RX0) (T := TX0) (N := 3) hx hb hT ku_0 tyX0 tyX0_ok nmX0 hown hK hP hD hS 1 rfl rfl 0 (by decide) (hT _ kw_14_7) (fun _ h9 => h9) rfl (by decide +kernel) rfl rfl (fh_lt hch (by decide)) dX7_go_63 (fun H locs hP hD hS => ?_)
                                  have hP : va_P G vwCl [(h0, .inr (7, fs)), (ch, .inr (0, (cs.set 0 (.int 0)))), (t0, .inr (6, u218)), (pa, .inr (2, ps)), (sa, .inl (cA 0, 21, .inl fsec))] H := hP
                                  have hD : va_D A [(h0, .inr (7, fs)), (ch, .inr (0, (cs.set 0 (.int 0)))), (t0, .inr (6, u218)), (pa, .inr (2, ps)), (sa, .inl (cA 0, 21, .inl fsec))] := hD
                                  have hch := fh_set (l' := [(0, .int 0)]) hch 0 (.int 0) (by decide) rfl
                                  have ho227 := fo_set ho_hch 0 (.int 0)
                                  generalize (cs.set 0 (.int 0)) = fs226 at hP hD hch ho227
                                  refine lv_aload_n hx hb dX7_go_66 rfl (lv_at hl 1 rfl) ?_
                                  refine va_get (D := G) (ci := 7) (v := .ref t0) (C := RX7) (T := TX7) (N := 12) hx hb hT ku_7 hown hK hP 0 rfl rfl 2 (by decide) (hT _ kw_2_0) (fun _ h9 => h9) (fh_at hf 1 rfl) dX7_go_67 ?_
                                  refine va_get (D := G) (ci := 6) (v := .int 12) (C := RX6) (T := TX6) (N := 20) hx hb hT ku_6 hown hK hP 2 rfl rfl 0 (by decide) (hT _ kw_40_9) (fun _ h9 => h9) (fh_at hf222 2 rfl) dX7_go_70 ?_
                                  have hP9 : va_P G vwCl [] H := fun k q h => by simp at h
                                  have hD9 : va_D A [] := ⟨fun i j p q h => by simp at h, fun k q h => by simp at h⟩
                                  exact W.iret (v := 12) hx hb hr (fun t ht hW => ⟨⟨12, (), rfl, (by unfold sp_go; (repeat' split) <;> first | rfl | (exfalso; omega) | decide), by rw [ht]; exact hP9, hD9⟩, hS.F ht⟩) hS.2.2 dX7_go_73
                                · have k224 := tq_len (a := x.toInt) (b := 12) rfl (by decide) c224
                                  refine lv_aload_n hx hb dX7_go_41 rfl (lv_at hl 1 rfl) ?_
                                  refine va_get (D := G) (ci := 7) (v := .ref t0) (C := RX7) (T := TX7) (N := 12) hx hb hT ku_7 hown hK hP 0 rfl rfl 2 (by decide) (hT _ kw_2_0) (fun _ h9 => h9) (fh_at hf 1 rfl) dX7_go_42 ?_
                                  refine tq_cv (wr := [(h0, .inr (7, fs)), (ch, .inr (0, cs))]) hP hD hS hA [2, 3, 4] [0, 1] rfl rfl (by decide) (by decide) (va_runV (As := []) (rest := []) ⟨hx, hb, hml, hown, hT⟩ (c_X6_passStop_12 l G cA H.size t0 u218 pa ps sa fsec (fh_sub hf222 [1, 2] rfl) (fh_sub hp [0, 1, 2, 3] rfl) hsec) (cwV 0 hT (tq_gV kw_40_11 kw_40_12 kw_40_13 kw_1_23 kw_40_14) rfl rfl rfl (by decide +kernel) ⟨Nat.le_of_ble_eq_true rfl, Nat.le_of_ble_eq_true rfl⟩) ⟨(tq_pre (isC := [2, 3, 4]) hP hD hK hN rfl (by decide)).1, va_recv hK hP (ci := 6) (q0 := 2) rfl rfl, (tq_pre (isC := [2, 3, 4]) hP hD hK hN rfl (by decide)).2⟩ rfl rfl hl.1 rfl (lv_room (Nat.le_of_ble_eq_true rfl)) dX7_go_45 ⟨Nat.le_of_ble_eq_true rfl, Nat.le_of_ble_eq_true rfl⟩) (fun u228 H locs hw229 hP hD hS => ?_)
                                  refine W.widen (k := 0) (n := 0) (Nat.le_of_ble_eq_true rfl) (Nat.le_of_ble_eq_true rfl) ?_
                                  obtain ⟨ho231, hf232⟩ := hw229
                                  have hf232 := fh_app (fo_fh (l' := [(5, .int 1), (19, .ref pa)]) hf222 ho231 rfl) hf232
                                  have ho233 := fo_mono (k2 := [0, 5]) (fo_trans ho223 ho231) (by decide)
                                  have hf232 : fh u228 20 [(5, .int 1), (19, .ref pa), (0, .int 13)] := hf232
                                  have hP : va_P G vwCl [(h0, .inr (7, fs)), (ch, .inr (0, cs)), (t0, .inr (6, u228)), (pa, .inr (2, ps)), (sa, .inl (cA 0, 21, .inl fsec))] H := hP
                                  have hD : va_D A [(h0, .inr (7, fs)), (ch, .inr (0, cs)), (t0, .inr (6, u228)), (pa, .inr (2, ps)), (sa, .inl (cA 0, 21, .inl fsec))] := hD
                                  refine lv_iinc (v := 13) (lv' := [(2, .int 13), (0, .ref h0), (1, .int x)]) hx hb dX7_go_48 hl (k := 0) rfl (by decide) (by decide) rfl (fun ls hl => ?_)
                                  refine lv_goto (tgt := 36) hx hb dX7_go_51 (by decide) ?_
                                  refine lv_iload_n hx hb dX7_go_36 rfl (lv_at hl 0 rfl) ?_
                                  refine lv_iload_n hx hb dX7_go_37 rfl (lv_at hl 2 rfl) ?_
                                  refine lv_icmp_ge (tgt := 54) hx hb dX7_go_38 (by decide) (fun c234 => ?_) (fun c234 => ?_)
                                  · have k234 := tq_le (a := x.toInt) (b := 13) rfl (by decide) c234
                                    obtain rfl : x = 13 := tq_is (by rw [show (13 : Int32).toInt = 13 from by decide]; omega)
                                    refine lv_iload_n hx hb dX7_go_54 rfl (lv_at hl 2 rfl) ?_
                                    refine lv_if_le (tgt := 66) hx hb dX7_go_55 (by decide) (fun c235 => absurd c235 (by decide)) (fun c235 => ?_)
                                    refine lv_aload_n hx hb dX7_go_58 rfl (lv_at hl 1 rfl) ?_
                                    refine va_get (D := G) (ci := 7) (v := .ref ch) (C := RX7) (T := TX7) (N := 12) hx hb hT ku_7 hown hK hP 0 rfl rfl 7 (by decide) (hT _ kw_2_8) (fun _ h9 => h9) (fh_at hf 2 rfl) dX7_go_59 ?_
                                    refine lv_iconst (v := 0) hx hb dX7_go_62 (by decide) ?_
                                    refine va_put (D := G) (ci := 0) (v := .int 0) (ty := .int) (C := RX0) (T := TX0) (N := 3) hx hb hT ku_0 tyX0 tyX0_ok nmX0 hown hK hP hD hS 1 rfl rfl 0 (by decide) (hT _ kw_14_7) (fun _ h9 => h9) rfl (by decide +kernel) rfl rfl (fh_lt hch (by decide)) dX7_go_63 (fun H locs hP hD hS => ?_)
                                    have hP : va_P G vwCl [(h0, .inr (7, fs)), (ch, .inr (0, (cs.set 0 (.int 0)))), (t0, .inr (6, u228)), (pa, .inr (2, ps)), (sa, .inl (cA 0, 21, .inl fsec))] H := hP
                                    have hD : va_D A [(h0, .inr (7, fs)), (ch, .inr (0, (cs.set 0 (.int 0)))), (t0, .inr (6, u228)), (pa, .inr (2, ps)), (sa, .inl (cA 0, 21, .inl fsec))] := hD
                                    have hch := fh_set (l' := [(0, .int 0)]) hch 0 (.int 0) (by decide) rfl
                                    have ho237 := fo_set ho_hch 0 (.int 0)
                                    generalize (cs.set 0 (.int 0)) = fs236 at hP hD hch ho237
                                    refine lv_aload_n hx hb dX7_go_66 rfl (lv_at hl 1 rfl) ?_
                                    refine va_get (D := G) (ci := 7) (v := .ref t0) (C := RX7) (T := TX7) (N := 12) hx hb hT ku_7 hown hK hP 0 rfl rfl 2 (by decide) (hT _ kw_2_0) (fun _ h9 => h9) (fh_at hf 1 rfl) dX7_go_67 ?_
                                    refine va_get (D := G) (ci := 6) (v := .int 13) (C := RX6) (T := TX6) (N := 20) hx hb hT ku_6 hown hK hP 2 rfl rfl 0 (by decide) (hT _ kw_40_9) (fun _ h9 => h9) (fh_at hf232 2 rfl) dX7_go_70 ?_
                                    have hP9 : va_P G vwCl [] H := fun k q h => by simp at h
                                    have hD9 : va_D A [] := ⟨fun i j p q h => by simp at h, fun k q h => by simp at h⟩
                                    exact W.iret (v := 13) hx hb hr (fun t ht hW => ⟨⟨13, (), rfl, (by unfold sp_go; (repeat' split) <;> first | rfl | (exfalso; omega) | decide), by rw [ht]; exact hP9, hD9⟩, hS.F ht⟩) hS.2.2 dX7_go_73
                                  · have k234 := tq_len (a := x.toInt) (b := 13) rfl (by decide) c234
                                    refine lv_aload_n hx hb dX7_go_41 rfl (lv_at hl 1 rfl) ?_
                                    refine va_get (D := G) (ci := 7) (v := .ref t0) (C := RX7) (T := TX7) (N := 12) hx hb hT ku_7 hown hK hP 0 rfl rfl 2 (by decide) (hT _ kw_2_0) (fun _ h9 => h9) (fh_at hf 1 rfl) dX7_go_42 ?_
                                    refine tq_cv (wr := [(h0, .inr (7, fs)), (ch, .inr (0, cs))]) hP hD hS hA [2, 3, 4] [0, 1] rfl rfl (by decide) (by decide) (va_runV (As := []) (rest := []) ⟨hx, hb, hml, hown, hT⟩ (c_X6_passStop_13 l G cA H.size t0 u228 pa ps sa fsec (fh_sub hf232 [1, 2] rfl) (fh_sub hp [0, 1, 2, 3] rfl) hsec) (cwV 0 hT (tq_gV kw_40_11 kw_40_12 kw_40_13 kw_1_23 kw_40_14) rfl rfl rfl (by decide +kernel) ⟨Nat.le_of_ble_eq_true rfl, Nat.le_of_ble_eq_true rfl⟩) ⟨(tq_pre (isC := [2, 3, 4]) hP hD hK hN rfl (by decide)).1, va_recv hK hP (ci := 6) (q0 := 2) rfl rfl, (tq_pre (isC := [2, 3, 4]) hP hD hK hN rfl (by decide)).2⟩ rfl rfl hl.1 rfl (lv_room (Nat.le_of_ble_eq_true rfl)) dX7_go_45 ⟨Nat.le_of_ble_eq_true rfl, Nat.le_of_ble_eq_true rfl⟩) (fun u238 H locs hw239 hP hD hS => ?_)
                                    refine W.widen (k := 0) (n := 0) (Nat.le_of_ble_eq_true rfl) (Nat.le_of_ble_eq_true rfl) ?_
                                    obtain ⟨ho241, hf242⟩ := hw239
                                    have hf242 := fh_app (fo_fh (l' := [(5, .int 1), (19, .ref pa)]) hf232 ho241 rfl) hf242
                                    have ho243 := fo_mono (k2 := [0, 5]) (fo_trans ho233 ho241) (by decide)
                                    have hf242 : fh u238 20 [(5, .int 1), (19, .ref pa), (0, .int 14)] := hf242
                                    have hP : va_P G vwCl [(h0, .inr (7, fs)), (ch, .inr (0, cs)), (t0, .inr (6, u238)), (pa, .inr (2, ps)), (sa, .inl (cA 0, 21, .inl fsec))] H := hP
                                    have hD : va_D A [(h0, .inr (7, fs)), (ch, .inr (0, cs)), (t0, .inr (6, u238)), (pa, .inr (2, ps)), (sa, .inl (cA 0, 21, .inl fsec))] := hD
                                    refine lv_iinc (v := 14) (lv' := [(2, .int 14), (0, .ref h0), (1, .int x)]) hx hb dX7_go_48 hl (k := 0) rfl (by decide) (by decide) rfl (fun ls hl => ?_)
                                    refine lv_goto (tgt := 36) hx hb dX7_go_51 (by decide) ?_
                                    refine lv_iload_n hx hb dX7_go_36 rfl (lv_at hl 0 rfl) ?_
                                    refine lv_iload_n hx hb dX7_go_37 rfl (lv_at hl 2 rfl) ?_
                                    refine lv_icmp_ge (tgt := 54) hx hb dX7_go_38 (by decide) (fun c244 => ?_) (fun c244 => ?_)
                                    · have k244 := tq_le (a := x.toInt) (b := 14) rfl (by decide) c244
                                      obtain rfl : x = 14 := tq_is (by rw [show (14 : Int32).toInt = 14 from by decide]; omega)
                                      refine lv_iload_n hx hb dX7_go_54 rfl (lv_at hl 2 rfl) ?_
                                      refine lv_if_le (tgt := 66) hx hb dX7_go_55 (by decide) (fun c245 => absurd c245 (by decide)) (fun c245 => ?_)
                                      refine lv_aload_n hx hb dX7_go_58 rfl (lv_at hl 1 rfl) ?_
                                      refine va_get (D := G) (ci := 7) (v := .ref ch) (C := RX7) (T := TX7) (N := 12) hx hb hT ku_7 hown hK hP 0 rfl rfl 7 (by decide) (hT _ kw_2_8) (fun _ h9 => h9) (fh_at hf 2 rfl) dX7_go_59 ?_
                                      refine lv_iconst (v := 0) hx hb dX7_go_62 (by decide) ?_
                                      refine va_put (D := G) (ci := 0) (v := .int 0) (ty := .int) (C := RX0) (T := TX0) (N := 3) hx hb hT ku_0 tyX0 tyX0_ok nmX0 hown hK hP hD hS 1 rfl rfl 0 (by decide) (hT _ kw_14_7) (fun _ h9 => h9) rfl (by decide +kernel) rfl rfl (fh_lt hch (by decide)) dX7_go_63 (fun H locs hP hD hS => ?_)
                                      have hP : va_P G vwCl [(h0, .inr (7, fs)), (ch, .inr (0, (cs.set 0 (.int 0)))), (t0, .inr (6, u238)), (pa, .inr (2, ps)), (sa, .inl (cA 0, 21, .inl fsec))] H := hP
                                      have hD : va_D A [(h0, .inr (7, fs)), (ch, .inr (0, (cs.set 0 (.int 0)))), (t0, .inr (6, u238)), (pa, .inr (2, ps)), (sa, .inl (cA 0, 21, .inl fsec))] := hD
                                      have hch := fh_set (l' := [(0, .int 0)]) hch 0 (.int 0) (by decide) rfl
                                      have ho247 := fo_set ho_hch 0 (.int 0)
                                      generalize (cs.set 0 (.int 0)) = fs246 at hP hD hch ho247
                                      refine lv_aload_n hx hb dX7_go_66 rfl (lv_at hl 1 rfl) ?_
                                      refine va_get (D := G) (ci := 7) (v := .ref t0) (C := RX7) (T := TX7) (N := 12) hx hb hT ku_7 hown hK hP 0 rfl rfl 2 (by decide) (hT _ kw_2_0) (fun _ h9 => h9) (fh_at hf 1 rfl) dX7_go_67 ?_
                                      refine va_get (D := G) (ci := 6) (v := .int 14) (C := RX6) (T := TX6) (N := 20) hx hb hT ku_6 hown hK hP 2 rfl rfl 0 (by decide) (hT _ kw_40_9) (fun _ h9 => h9) (fh_at hf242 2 rfl) dX7_go_70 ?_
                                      have hP9 : va_P G vwCl [] H := fun k q h => by simp at h
                                      have hD9 : va_D A [] := ⟨fun i j p q h => by simp at h, fun k q h => by simp at h⟩
                                      exact W.iret (v := 14) hx hb hr (fun t ht hW => ⟨⟨14, (), rfl, (by unfold sp_go; (repeat' split) <;> first | rfl | (exfalso; omega) | decide), by rw [ht]; exact hP9, hD9⟩, hS.F ht⟩) hS.2.2 dX7_go_73
                                    · have k244 := tq_len (a := x.toInt) (b := 14) rfl (by decide) c244
                                      refine lv_aload_n hx hb dX7_go_41 rfl (lv_at hl 1 rfl) ?_
                                      refine va_get (D := G) (ci := 7) (v := .ref t0) (C := RX7) (T := TX7) (N := 12) hx hb hT ku_7 hown hK hP 0 rfl rfl 2 (by decide) (hT _ kw_2_0) (fun _ h9 => h9) (fh_at hf 1 rfl) dX7_go_42 ?_
                                      refine tq_cv (wr := [(h0, .inr (7, fs)), (ch, .inr (0, cs))]) hP hD hS hA [2, 3, 4] [0, 1] rfl rfl (by decide) (by decide) (va_runV (As := []) (rest := []) ⟨hx, hb, hml, hown, hT⟩ (c_X6_passStop_14 l G cA H.size t0 u238 pa ps sa fsec (fh_sub hf242 [1, 2] rfl) (fh_sub hp [0, 1, 2, 3] rfl) hsec) (cwV 0 hT (tq_gV kw_40_11 kw_40_12 kw_40_13 kw_1_23 kw_40_14) rfl rfl rfl (by decide +kernel) ⟨Nat.le_of_ble_eq_true rfl, Nat.le_of_ble_eq_true rfl⟩) ⟨(tq_pre (isC := [2, 3, 4]) hP hD hK hN rfl (by decide)).1, va_recv hK hP (ci := 6) (q0 := 2) rfl rfl, (tq_pre (isC := [2, 3, 4]) hP hD hK hN rfl (by decide)).2⟩ rfl rfl hl.1 rfl (lv_room (Nat.le_of_ble_eq_true rfl)) dX7_go_45 ⟨Nat.le_of_ble_eq_true rfl, Nat.le_of_ble_eq_true rfl⟩) (fun u248 H locs hw249 hP hD hS => ?_)
                                      refine W.widen (k := 0) (n := 0) (Nat.le_of_ble_eq_true rfl) (Nat.le_of_ble_eq_true rfl) ?_
                                      obtain ⟨ho251, hf252⟩ := hw249
                                      have hf252 := fh_app (fo_fh (l' := [(5, .int 1), (19, .ref pa)]) hf242 ho251 rfl) hf252
                                      have ho253 := fo_mono (k2 := [0, 5]) (fo_trans ho243 ho251) (by decide)
                                      have hf252 : fh u248 20 [(5, .int 1), (19, .ref pa), (0, .int 15)] := hf252
                                      have hP : va_P G vwCl [(h0, .inr (7, fs)), (ch, .inr (0, cs)), (t0, .inr (6, u248)), (pa, .inr (2, ps)), (sa, .inl (cA 0, 21, .inl fsec))] H := hP
                                      have hD : va_D A [(h0, .inr (7, fs)), (ch, .inr (0, cs)), (t0, .inr (6, u248)), (pa, .inr (2, ps)), (sa, .inl (cA 0, 21, .inl fsec))] := hD
                                      refine lv_iinc (v := 15) (lv' := [(2, .int 15), (0, .ref h0), (1, .int x)]) hx hb dX7_go_48 hl (k := 0) rfl (by decide) (by decide) rfl (fun ls hl => ?_)
                                      refine lv_goto (tgt := 36) hx hb dX7_go_51 (by decide) ?_
                                      refine lv_iload_n hx hb dX7_go_36 rfl (lv_at hl 0 rfl) ?_
                                      refine lv_iload_n hx hb dX7_go_37 rfl (lv_at hl 2 rfl) ?_
                                      refine lv_icmp_ge (tgt := 54) hx hb dX7_go_38 (by decide) (fun c254 => ?_) (fun c254 => ?_)
                                      · have k254 := tq_le (a := x.toInt) (b := 15) rfl (by decide) c254
                                        obtain rfl : x = 15 := tq_is (by rw [show (15 : Int32).toInt = 15 from by decide]; omega)
                                        refine lv_iload_n hx hb dX7_go_54 rfl (lv_at hl 2 rfl) ?_
                                        refine lv_if_le (tgt := 66) hx hb dX7_go_55 (by decide) (fun c255 => absurd c255 (by decide)) (fun c255 => ?_)
                                        refine lv_aload_n hx hb dX7_go_58 rfl (lv_at hl 1 rfl) ?_
                                        refine va_get (D := G) (ci := 7) (v := .ref ch) (C := RX7) (T := TX7) (N := 12) hx hb hT ku_7 hown hK hP 0 rfl rfl 7 (by decide) (hT _ kw_2_8) (fun _ h9 => h9) (fh_at hf 2 rfl) dX7_go_59 ?_
                                        refine lv_iconst (v := 0) hx hb dX7_go_62 (by decide) ?_
                                        refine va_put (D := G) (ci := 0) (v := .int 0) (ty := .int) (C := RX0) (T := TX0) (N := 3) hx hb hT ku_0 tyX0 tyX0_ok nmX0 hown hK hP hD hS 1 rfl rfl 0 (by decide) (hT _ kw_14_7) (fun _ h9 => h9) rfl (by decide +kernel) rfl rfl (fh_lt hch (by decide)) dX7_go_63 (fun H locs hP hD hS => ?_)
                                        have hP : va_P G vwCl [(h0, .inr (7, fs)), (ch, .inr (0, (cs.set 0 (.int 0)))), (t0, .inr (6, u248)), (pa, .inr (2, ps)), (sa, .inl (cA 0, 21, .inl fsec))] H := hP
                                        have hD : va_D A [(h0, .inr (7, fs)), (ch, .inr (0, (cs.set 0 (.int 0)))), (t0, .inr (6, u248)), (pa, .inr (2, ps)), (sa, .inl (cA 0, 21, .inl fsec))] := hD
                                        have hch := fh_set (l' := [(0, .int 0)]) hch 0 (.int 0) (by decide) rfl
                                        have ho257 := fo_set ho_hch 0 (.int 0)
                                        generalize (cs.set 0 (.int 0)) = fs256 at hP hD hch ho257
                                        refine lv_aload_n hx hb dX7_go_66 rfl (lv_at hl 1 rfl) ?_
                                        refine va_get (D := G) (ci := 7) (v := .ref t0) (C := RX7) (T := TX7) (N := 12) hx hb hT ku_7 hown hK hP 0 rfl rfl 2 (by decide) (hT _ kw_2_0) (fun _ h9 => h9) (fh_at hf 1 rfl) dX7_go_67 ?_
                                        refine va_get (D := G) (ci := 6) (v := .int 15) (C := RX6) (T := TX6) (N := 20) hx hb hT ku_6 hown hK hP 2 rfl rfl 0 (by decide) (hT _ kw_40_9) (fun _ h9 => h9) (fh_at hf252 2 rfl) dX7_go_70 ?_
                                        have hP9 : va_P G vwCl [] H := fun k q h => by simp at h
                                        have hD9 : va_D A [] := ⟨fun i j p q h => by simp at h, fun k q h => by simp at h⟩
                                        exact W.iret (v := 15) hx hb hr (fun t ht hW => ⟨⟨15, (), rfl, (by unfold sp_go; (repeat' split) <;> first | rfl | (exfalso; omega) | decide), by rw [ht]; exact hP9, hD9⟩, hS.F ht⟩) hS.2.2 dX7_go_73
                                      · have k254 := tq_len (a := x.toInt) (b := 15) rfl (by decide) c254
                                        refine lv_aload_n hx hb dX7_go_41 rfl (lv_at hl 1 rfl) ?_
                                        refine va_get (D := G) (ci := 7) (v := .ref t0) (C := RX7) (T := TX7) (N := 12) hx hb hT ku_7 hown hK hP 0 rfl rfl 2 (by decide) (hT _ kw_2_0) (fun _ h9 => h9) (fh_at hf 1 rfl) dX7_go_42 ?_
                                        refine tq_cv (wr := [(h0, .inr (7, fs)), (ch, .inr (0, cs))]) hP hD hS hA [2, 3, 4] [0, 1] rfl rfl (by decide) (by decide) (va_runV (As := []) (rest := []) ⟨hx, hb, hml, hown, hT⟩ (c_X6_passStop_15 l G cA H.size t0 u248 pa ps sa fsec (fh_sub hf252 [1, 2] rfl) (fh_sub hp [0, 1, 2, 3] rfl) hsec) (cwV 0 hT (tq_gV kw_40_11 kw_40_12 kw_40_13 kw_1_23 kw_40_14) rfl rfl rfl (by decide +kernel) ⟨Nat.le_of_ble_eq_true rfl, Nat.le_of_ble_eq_true rfl⟩) ⟨(tq_pre (isC := [2, 3, 4]) hP hD hK hN rfl (by decide)).1, va_recv hK hP (ci := 6) (q0 := 2) rfl rfl, (tq_pre (isC := [2, 3, 4]) hP hD hK hN rfl (by decide)).2⟩ rfl rfl hl.1 rfl (lv_room (Nat.le_of_ble_eq_true rfl)) dX7_go_45 ⟨Nat.le_of_ble_eq_true rfl, Nat.le_of_ble_eq_true rfl⟩) (fun u258 H locs hw259 hP hD hS => ?_)
                                        refine W.widen (k := 0) (n := 0) (Nat.le_of_ble_eq_true rfl) (Nat.le_of_ble_eq_true rfl) ?_
                                        obtain ⟨ho261, hf262⟩ := hw259
                                        have hf262 := fh_app (fo_fh (l' := [(5, .int 1), (19, .ref pa)]) hf252 ho261 rfl) hf262
                                        have ho263 := fo_mono (k2 := [0, 5]) (fo_trans ho253 ho261) (by decide)
                                        have hf262 : fh u258 20 [(5, .int 1), (19, .ref pa), (0, .int 16)] := hf262
                                        have hP : va_P G vwCl [(h0, .inr (7, fs)), (ch, .inr (0, cs)), (t0, .inr (6, u258)), (pa, .inr (2, ps)), (sa, .inl (cA 0, 21, .inl fsec))] H := hP
                                        have hD : va_D A [(h0, .inr (7, fs)), (ch, .inr (0, cs)), (t0, .inr (6, u258)), (pa, .inr (2, ps)), (sa, .inl (cA 0, 21, .inl fsec))] := hD
                                        refine lv_iinc (v := 16) (lv' := [(2, .int 16), (0, .ref h0), (1, .int x)]) hx hb dX7_go_48 hl (k := 0) rfl (by decide) (by decide) rfl (fun ls hl => ?_)
                                        refine lv_goto (tgt := 36) hx hb dX7_go_51 (by decide) ?_
                                        refine lv_iload_n hx hb dX7_go_36 rfl (lv_at hl 0 rfl) ?_
                                        refine lv_iload_n hx hb dX7_go_37 rfl (lv_at hl 2 rfl) ?_
                                        refine lv_icmp_ge (tgt := 54) hx hb dX7_go_38 (by decide) (fun c264 => ?_) (fun c264 => ?_)
                                        · have k264 := tq_le (a := x.toInt) (b := 16) rfl (by decide) c264
                                          obtain rfl : x = 16 := tq_is (by rw [show (16 : Int32).toInt = 16 from by decide]; omega)
                                          refine lv_iload_n hx hb dX7_go_54 rfl (lv_at hl 2 rfl) ?_
                                          refine lv_if_le (tgt := 66) hx hb dX7_go_55 (by decide) (fun c265 => absurd c265 (by decide)) (fun c265 => ?_)
                                          refine lv_aload_n hx hb dX7_go_58 rfl (lv_at hl 1 rfl) ?_
                                          refine va_get (D := G) (ci := 7) (v := .ref ch) (C := RX7) (T := TX7) (N := 12) hx hb hT ku_7 hown hK hP 0 rfl rfl 7 (by decide) (hT _ kw_2_8) (fun _ h9 => h9) (fh_at hf 2 rfl) dX7_go_59 ?_
                                          refine lv_iconst (v := 0) hx hb dX7_go_62 (by decide) ?_
                                          refine va_put (D := G) (ci := 0) (v := .int 0) (ty := .int) (C := RX0) (T := TX0) (N := 3) hx hb hT ku_0 tyX0 tyX0_ok nmX0 hown hK hP hD hS 1 rfl rfl 0 (by decide) (hT _ kw_14_7) (fun _ h9 => h9) rfl (by decide +kernel) rfl rfl (fh_lt hch (by decide)) dX7_go_63 (fun H locs hP hD hS => ?_)
                                          have hP : va_P G vwCl [(h0, .inr (7, fs)), (ch, .inr (0, (cs.set 0 (.int 0)))), (t0, .inr (6, u258)), (pa, .inr (2, ps)), (sa, .inl (cA 0, 21, .inl fsec))] H := hP
                                          have hD : va_D A [(h0, .inr (7, fs)), (ch, .inr (0, (cs.set 0 (.int 0)))), (t0, .inr (6, u258)), (pa, .inr (2, ps)), (sa, .inl (cA 0, 21, .inl fsec))] := hD
                                          have hch := fh_set (l' := [(0, .int 0)]) hch 0 (.int 0) (by decide) rfl
                                          have ho267 := fo_set ho_hch 0 (.int 0)
                                          generalize (cs.set 0 (.int 0)) = fs266 at hP hD hch ho267
                                          refine lv_aload_n hx hb dX7_go_66 rfl (lv_at hl 1 rfl) ?_
                                          refine va_get (D := G) (ci := 7) (v := .ref t0) (C := RX7) (T := TX7) (N := 12) hx hb hT ku_7 hown hK hP 0 rfl rfl 2 (by decide) (hT _ kw_2_0) (fun _ h9 => h9) (fh_at hf 1 rfl) dX7_go_67 ?_
                                          refine va_get (D := G) (ci := 6) (v := .int 16) (C := RX6) (T := TX6) (N := 20) hx hb hT ku_6 hown hK hP 2 rfl rfl 0 (by decide) (hT _ kw_40_9) (fun _ h9 => h9) (fh_at hf262 2 rfl) dX7_go_70 ?_
                                          have hP9 : va_P G vwCl [] H := fun k q h => by simp at h
                                          have hD9 : va_D A [] := ⟨fun i j p q h => by simp at h, fun k q h => by simp at h⟩
                                          exact W.iret (v := 16) hx hb hr (fun t ht hW => ⟨⟨16, (), rfl, (by unfold sp_go; (repeat' split) <;> first | rfl | (exfalso; omega) | decide), by rw [ht]; exact hP9, hD9⟩, hS.F ht⟩) hS.2.2 dX7_go_73
                                        · have k264 := tq_len (a := x.toInt) (b := 16) rfl (by decide) c264
                                          refine lv_aload_n hx hb dX7_go_41 rfl (lv_at hl 1 rfl) ?_
                                          refine va_get (D := G) (ci := 7) (v := .ref t0) (C := RX7) (T := TX7) (N := 12) hx hb hT ku_7 hown hK hP 0 rfl rfl 2 (by decide) (hT _ kw_2_0) (fun _ h9 => h9) (fh_at hf 1 rfl) dX7_go_42 ?_
                                          refine tq_cv (wr := [(h0, .inr (7, fs)), (ch, .inr (0, cs))]) hP hD hS hA [2, 3, 4] [0, 1] rfl rfl (by decide) (by decide) (va_runV (As := []) (rest := []) ⟨hx, hb, hml, hown, hT⟩ (c_X6_passStop_16 l G cA H.size t0 u258 pa ps sa fsec (fh_sub hf262 [1, 2] rfl) (fh_sub hp [0, 1, 2, 3] rfl) hsec) (cwV 0 hT (tq_gV kw_40_11 kw_40_12 kw_40_13 kw_1_23 kw_40_14) rfl rfl rfl (by decide +kernel) ⟨Nat.le_of_ble_eq_true rfl, Nat.le_of_ble_eq_true rfl⟩) ⟨(tq_pre (isC := [2, 3, 4]) hP hD hK hN rfl (by decide)).1, va_recv hK hP (ci := 6) (q0 := 2) rfl rfl, (tq_pre (isC := [2, 3, 4]) hP hD hK hN rfl (by decide)).2⟩ rfl rfl hl.1 rfl (lv_room (Nat.le_of_ble_eq_true rfl)) dX7_go_45 ⟨Nat.le_of_ble_eq_true rfl, Nat.le_of_ble_eq_true rfl⟩) (fun u268 H locs hw269 hP hD hS => ?_)
                                          refine W.widen (k := 0) (n := 0) (Nat.le_of_ble_eq_true rfl) (Nat.le_of_ble_eq_true rfl) ?_
                                          obtain ⟨ho271, hf272⟩ := hw269
                                          have hf272 := fh_app (fo_fh (l' := [(5, .int 1), (19, .ref pa)]) hf262 ho271 rfl) hf272
                                          have ho273 := fo_mono (k2 := [0, 5]) (fo_trans ho263 ho271) (by decide)
                                          have hf272 : fh u268 20 [(5, .int 1), (19, .ref pa), (0, .int 17)] := hf272
                                          have hP : va_P G vwCl [(h0, .inr (7, fs)), (ch, .inr (0, cs)), (t0, .inr (6, u268)), (pa, .inr (2, ps)), (sa, .inl (cA 0, 21, .inl fsec))] H := hP
                                          have hD : va_D A [(h0, .inr (7, fs)), (ch, .inr (0, cs)), (t0, .inr (6, u268)), (pa, .inr (2, ps)), (sa, .inl (cA 0, 21, .inl fsec))] := hD
                                          refine lv_iinc (v := 17) (lv' := [(2, .int 17), (0, .ref h0), (1, .int x)]) hx hb dX7_go_48 hl (k := 0) rfl (by decide) (by decide) rfl (fun ls hl => ?_)
                                          refine lv_goto (tgt := 36) hx hb dX7_go_51 (by decide) ?_
                                          refine lv_iload_n hx hb dX7_go_36 rfl (lv_at hl 0 rfl) ?_
                                          refine lv_iload_n hx hb dX7_go_37 rfl (lv_at hl 2 rfl) ?_
                                          refine lv_icmp_ge (tgt := 54) hx hb dX7_go_38 (by decide) (fun c274 => ?_) (fun c274 => ?_)
                                          · have k274 := tq_le (a := x.toInt) (b := 17) rfl (by decide) c274
                                            obtain rfl : x = 17 := tq_is (by rw [show (17 : Int32).toInt = 17 from by decide]; omega)
                                            refine lv_iload_n hx hb dX7_go_54 rfl (lv_at hl 2 rfl) ?_
                                            refine lv_if_le (tgt := 66) hx hb dX7_go_55 (by decide) (fun c275 => absurd c275 (by decide)) (fun c275 => ?_)
                                            refine lv_aload_n hx hb dX7_go_58 rfl (lv_at hl 1 rfl) ?_
                                            refine va_get (D := G) (ci := 7) (v := .ref ch) (C := RX7) (T := TX7) (N := 12) hx hb hT ku_7 hown hK hP 0 rfl rfl 7 (by decide) (hT _ kw_2_8) (fun _ h9 => h9) (fh_at hf 2 rfl) dX7_go_59 ?_
                                            refine lv_iconst (v := 0) hx hb dX7_go_62 (by decide) ?_
                                            refine va_put (D := G) (ci := 0) (v := .int 0) (ty := .int) (C := RX0) (T := TX0) (N := 3) hx hb hT ku_0 tyX0 tyX0_ok nmX0 hown hK hP hD hS 1 rfl rfl 0 (by decide) (hT _ kw_14_7) (fun _ h9 => h9) rfl (by decide +kernel) rfl rfl (fh_lt hch (by decide)) dX7_go_63 (fun H locs hP hD hS => ?_)
                                            have hP : va_P G vwCl [(h0, .inr (7, fs)), (ch, .inr (0, (cs.set 0 (.int 0)))), (t0, .inr (6, u268)), (pa, .inr (2, ps)), (sa, .inl (cA 0, 21, .inl fsec))] H := hP
                                            have hD : va_D A [(h0, .inr (7, fs)), (ch, .inr (0, (cs.set 0 (.int 0)))), (t0, .inr (6, u268)), (pa, .inr (2, ps)), (sa, .inl (cA 0, 21, .inl fsec))] := hD
                                            have hch := fh_set (l' := [(0, .int 0)]) hch 0 (.int 0) (by decide) rfl
                                            have ho277 := fo_set ho_hch 0 (.int 0)
                                            generalize (cs.set 0 (.int 0)) = fs276 at hP hD hch ho277
                                            refine lv_aload_n hx hb dX7_go_66 rfl (lv_at hl 1 rfl) ?_
                                            refine va_get (D := G) (ci := 7) (v := .ref t0) (C := RX7) (T := TX7) (N := 12) hx hb hT ku_7 hown hK hP 0 rfl rfl 2 (by decide) (hT _ kw_2_0) (fun _ h9 => h9) (fh_at hf 1 rfl) dX7_go_67 ?_
                                            refine va_get (D := G) (ci := 6) (v := .int 17) (C := RX6) (T := TX6) (N := 20) hx hb hT ku_6 hown hK hP 2 rfl rfl 0 (by decide) (hT _ kw_40_9) (fun _ h9 => h9) (fh_at hf272 2 rfl) dX7_go_70 ?_
                                            have hP9 : va_P G vwCl [] H := fun k q h => by simp at h
                                            have hD9 : va_D A [] := ⟨fun i j p q h => by simp at h, fun k q h => by simp at h⟩
                                            exact W.iret (v := 17) hx hb hr (fun t ht hW => ⟨⟨17, (), rfl, (by unfold sp_go; (repeat' split) <;> first | rfl | (exfalso; omega) | decide), by rw [ht]; exact hP9, hD9⟩, hS.F ht⟩) hS.2.2 dX7_go_73
                                          · have k274 := tq_len (a := x.toInt) (b := 17) rfl (by decide) c274
                                            refine lv_aload_n hx hb dX7_go_41 rfl (lv_at hl 1 rfl) ?_
                                            refine va_get (D := G) (ci := 7) (v := .ref t0) (C := RX7) (T := TX7) (N := 12) hx hb hT ku_7 hown hK hP 0 rfl rfl 2 (by decide) (hT _ kw_2_0) (fun _ h9 => h9) (fh_at hf 1 rfl) dX7_go_42 ?_
                                            refine tq_cv (wr := [(h0, .inr (7, fs)), (ch, .inr (0, cs))]) hP hD hS hA [2, 3, 4] [0, 1] rfl rfl (by decide) (by decide) (va_runV (As := []) (rest := []) ⟨hx, hb, hml, hown, hT⟩ (c_X6_passStop_17 l G cA H.size t0 u268 pa ps sa fsec (fh_sub hf272 [1, 2] rfl) (fh_sub hp [0, 1, 2, 3] rfl) hsec) (cwV 0 hT (tq_gV kw_40_11 kw_40_12 kw_40_13 kw_1_23 kw_40_14) rfl rfl rfl (by decide +kernel) ⟨Nat.le_of_ble_eq_true rfl, Nat.le_of_ble_eq_true rfl⟩) ⟨(tq_pre (isC := [2, 3, 4]) hP hD hK hN rfl (by decide)).1, va_recv hK hP (ci := 6) (q0 := 2) rfl rfl, (tq_pre (isC := [2, 3, 4]) hP hD hK hN rfl (by decide)).2⟩ rfl rfl hl.1 rfl (lv_room (Nat.le_of_ble_eq_true rfl)) dX7_go_45 ⟨Nat.le_of_ble_eq_true rfl, Nat.le_of_ble_eq_true rfl⟩) (fun u278 H locs hw279 hP hD hS => ?_)
                                            refine W.widen (k := 0) (n := 0) (Nat.le_of_ble_eq_true rfl) (Nat.le_of_ble_eq_true rfl) ?_
                                            obtain ⟨ho281, hf282⟩ := hw279
                                            have hf282 := fh_app (fo_fh (l' := [(5, .int 1), (19, .ref pa)]) hf272 ho281 rfl) hf282
                                            have ho283 := fo_mono (k2 := [0, 5]) (fo_trans ho273 ho281) (by decide)
                                            have hf282 : fh u278 20 [(5, .int 1), (19, .ref pa), (0, .int 18)] := hf282
                                            have hP : va_P G vwCl [(h0, .inr (7, fs)), (ch, .inr (0, cs)), (t0, .inr (6, u278)), (pa, .inr (2, ps)), (sa, .inl (cA 0, 21, .inl fsec))] H := hP
                                            have hD : va_D A [(h0, .inr (7, fs)), (ch, .inr (0, cs)), (t0, .inr (6, u278)), (pa, .inr (2, ps)), (sa, .inl (cA 0, 21, .inl fsec))] := hD
                                            refine lv_iinc (v := 18) (lv' := [(2, .int 18), (0, .ref h0), (1, .int x)]) hx hb dX7_go_48 hl (k := 0) rfl (by decide) (by decide) rfl (fun ls hl => ?_)
                                            refine lv_goto (tgt := 36) hx hb dX7_go_51 (by decide) ?_
                                            refine lv_iload_n hx hb dX7_go_36 rfl (lv_at hl 0 rfl) ?_
                                            refine lv_iload_n hx hb dX7_go_37 rfl (lv_at hl 2 rfl) ?_
                                            refine lv_icmp_ge (tgt := 54) hx hb dX7_go_38 (by decide) (fun c284 => ?_) (fun c284 => ?_)
                                            · have k284 := tq_le (a := x.toInt) (b := 18) rfl (by decide) c284
                                              obtain rfl : x = 18 := tq_is (by rw [show (18 : Int32).toInt = 18 from by decide]; omega)
                                              refine lv_iload_n hx hb dX7_go_54 rfl (lv_at hl 2 rfl) ?_
                                              refine lv_if_le (tgt := 66) hx hb dX7_go_55 (by decide) (fun c285 => absurd c285 (by decide)) (fun c285 => ?_)
                                              refine lv_aload_n hx hb dX7_go_58 rfl (lv_at hl 1 rfl) ?_
                                              refine va_get (D := G) (ci := 7) (v := .ref ch) (C := RX7) (T := TX7) (N := 12) hx hb hT ku_7 hown hK hP 0 rfl rfl 7 (by decide) (hT _ kw_2_8) (fun _ h9 => h9) (fh_at hf 2 rfl) dX7_go_59 ?_
                                              refine lv_iconst (v := 0) hx hb dX7_go_62 (by decide) ?_
                                              refine va_put (D := G) (ci := 0) (v := .int 0) (ty := .int) (C := RX0) (T := TX0) (N := 3) hx hb hT ku_0 tyX0 tyX0_ok nmX0 hown hK hP hD hS 1 rfl rfl 0 (by decide) (hT _ kw_14_7) (fun _ h9 => h9) rfl (by decide +kernel) rfl rfl (fh_lt hch (by decide)) dX7_go_63 (fun H locs hP hD hS => ?_)
                                              have hP : va_P G vwCl [(h0, .inr (7, fs)), (ch, .inr (0, (cs.set 0 (.int 0)))), (t0, .inr (6, u278)), (pa, .inr (2, ps)), (sa, .inl (cA 0, 21, .inl fsec))] H := hP
                                              have hD : va_D A [(h0, .inr (7, fs)), (ch, .inr (0, (cs.set 0 (.int 0)))), (t0, .inr (6, u278)), (pa, .inr (2, ps)), (sa, .inl (cA 0, 21, .inl fsec))] := hD
                                              have hch := fh_set (l' := [(0, .int 0)]) hch 0 (.int 0) (by decide) rfl
                                              have ho287 := fo_set ho_hch 0 (.int 0)
                                              generalize (cs.set 0 (.int 0)) = fs286 at hP hD hch ho287
                                              refine lv_aload_n hx hb dX7_go_66 rfl (lv_at hl 1 rfl) ?_
                                              refine va_get (D := G) (ci := 7) (v := .ref t0) (C := RX7) (T := TX7) (N := 12) hx hb hT ku_7 hown hK hP 0 rfl rfl 2 (by decide) (hT _ kw_2_0) (fun _ h9 => h9) (fh_at hf 1 rfl) dX7_go_67 ?_
                                              refine va_get (D := G) (ci := 6) (v := .int 18) (C := RX6) (T := TX6) (N := 20) hx hb hT ku_6 hown hK hP 2 rfl rfl 0 (by decide) (hT _ kw_40_9) (fun _ h9 => h9) (fh_at hf282 2 rfl) dX7_go_70 ?_
                                              have hP9 : va_P G vwCl [] H := fun k q h => by simp at h
                                              have hD9 : va_D A [] := ⟨fun i j p q h => by simp at h, fun k q h => by simp at h⟩
                                              exact W.iret (v := 18) hx hb hr (fun t ht hW => ⟨⟨18, (), rfl, (by unfold sp_go; (repeat' split) <;> first | rfl | (exfalso; omega) | decide), by rw [ht]; exact hP9, hD9⟩, hS.F ht⟩) hS.2.2 dX7_go_73
                                            · have k284 := tq_len (a := x.toInt) (b := 18) rfl (by decide) c284
                                              refine lv_aload_n hx hb dX7_go_41 rfl (lv_at hl 1 rfl) ?_
                                              refine va_get (D := G) (ci := 7) (v := .ref t0) (C := RX7) (T := TX7) (N := 12) hx hb hT ku_7 hown hK hP 0 rfl rfl 2 (by decide) (hT _ kw_2_0) (fun _ h9 => h9) (fh_at hf 1 rfl) dX7_go_42 ?_
                                              refine tq_cv (wr := [(h0, .inr (7, fs)), (ch, .inr (0, cs))]) hP hD hS hA [2, 3, 4] [0, 1] rfl rfl (by decide) (by decide) (va_runV (As := []) (rest := []) ⟨hx, hb, hml, hown, hT⟩ (c_X6_passStop_18 l G cA H.size t0 u278 pa ps sa fsec (fh_sub hf282 [1, 2] rfl) (fh_sub hp [0, 1, 2, 3] rfl) hsec) (cwV 0 hT (tq_gV kw_40_11 kw_40_12 kw_40_13 kw_1_23 kw_40_14) rfl rfl rfl (by decide +kernel) ⟨Nat.le_of_ble_eq_true rfl, Nat.le_of_ble_eq_true rfl⟩) ⟨(tq_pre (isC := [2, 3, 4]) hP hD hK hN rfl (by decide)).1, va_recv hK hP (ci := 6) (q0 := 2) rfl rfl, (tq_pre (isC := [2, 3, 4]) hP hD hK hN rfl (by decide)).2⟩ rfl rfl hl.1 rfl (lv_room (Nat.le_of_ble_eq_true rfl)) dX7_go_45 ⟨Nat.le_of_ble_eq_true rfl, Nat.le_of_ble_eq_true rfl⟩) (fun u288 H locs hw289 hP hD hS => ?_)
                                              refine W.widen (k := 0) (n := 0) (Nat.le_of_ble_eq_true rfl) (Nat.le_of_ble_eq_true rfl) ?_
                                              obtain ⟨ho291, hf292⟩ := hw289
                                              have hf292 := fh_app (fo_fh (l' := [(5, .int 1), (19, .ref pa)]) hf282 ho291 rfl) hf292
                                              have ho293 := fo_mono (k2 := [0, 5]) (fo_trans ho283 ho291) (by decide)
                                              have hf292 : fh u288 20 [(5, .int 1), (19, .ref pa), (0, .int 19)] := hf292
                                              have hP : va_P G vwCl [(h0, .inr (7, fs)), (ch, .inr (0, cs)), (t0, .inr (6, u288)), (pa, .inr (2, ps)), (sa, .inl (cA 0, 21, .inl fsec))] H := hP
                                              have hD : va_D A [(h0, .inr (7, fs)), (ch, .inr (0, cs)), (t0, .inr (6, u288)), (pa, .inr (2, ps)), (sa, .inl (cA 0, 21, .inl fsec))] := hD
                                              refine lv_iinc (v := 19) (lv' := [(2, .int 19), (0, .ref h0), (1, .int x)]) hx hb dX7_go_48 hl (k := 0) rfl (by decide) (by decide) rfl (fun ls hl => ?_)
                                              refine lv_goto (tgt := 36) hx hb dX7_go_51 (by decide) ?_
                                              refine lv_iload_n hx hb dX7_go_36 rfl (lv_at hl 0 rfl) ?_
                                              refine lv_iload_n hx hb dX7_go_37 rfl (lv_at hl 2 rfl) ?_
                                              refine lv_icmp_ge (tgt := 54) hx hb dX7_go_38 (by decide) (fun c294 => ?_) (fun c294 => ?_)
                                              · have k294 := tq_le (a := x.toInt) (b := 19) rfl (by decide) c294
                                                obtain rfl : x = 19 := tq_is (by rw [show (19 : Int32).toInt = 19 from by decide]; omega)
                                                refine lv_iload_n hx hb dX7_go_54 rfl (lv_at hl 2 rfl) ?_
                                                refine lv_if_le (tgt := 66) hx hb dX7_go_55 (by decide) (fun c295 => absurd c295 (by decide)) (fun c295 => ?_)
                                                refine lv_aload_n hx hb dX7_go_58 rfl (lv_at hl 1 rfl) ?_
                                                refine va_get (D := G) (ci := 7) (v := .ref ch) (C := RX7) (T := TX7) (N := 12) hx hb hT ku_7 hown hK hP 0 rfl rfl 7 (by decide) (hT _ kw_2_8) (fun _ h9 => h9) (fh_at hf 2 rfl) dX7_go_59 ?_
                                                refine lv_iconst (v := 0) hx hb dX7_go_62 (by decide) ?_
                                                refine va_put (D := G) (ci := 0) (v := .int 0) (ty := .int) (C := RX0) (T := TX0) (N := 3) hx hb hT ku_0 tyX0 tyX0_ok nmX0 hown hK hP hD hS 1 rfl rfl 0 (by decide) (hT _ kw_14_7) (fun _ h9 => h9) rfl (by decide +kernel) rfl rfl (fh_lt hch (by decide)) dX7_go_63 (fun H locs hP hD hS => ?_)
                                                have hP : va_P G vwCl [(h0, .inr (7, fs)), (ch, .inr (0, (cs.set 0 (.int 0)))), (t0, .inr (6, u288)), (pa, .inr (2, ps)), (sa, .inl (cA 0, 21, .inl fsec))] H := hP
                                                have hD : va_D A [(h0, .inr (7, fs)), (ch, .inr (0, (cs.set 0 (.int 0)))), (t0, .inr (6, u288)), (pa, .inr (2, ps)), (sa, .inl (cA 0, 21, .inl fsec))] := hD
                                                have hch := fh_set (l' := [(0, .int 0)]) hch 0 (.int 0) (by decide) rfl
                                                have ho297 := fo_set ho_hch 0 (.int 0)
                                                generalize (cs.set 0 (.int 0)) = fs296 at hP hD hch ho297
                                                refine lv_aload_n hx hb dX7_go_66 rfl (lv_at hl 1 rfl) ?_
                                                refine va_get (D := G) (ci := 7) (v := .ref t0) (C := RX7) (T := TX7) (N := 12) hx hb hT ku_7 hown hK hP 0 rfl rfl 2 (by decide) (hT _ kw_2_0) (fun _ h9 => h9) (fh_at hf 1 rfl) dX7_go_67 ?_
                                                refine va_get (D := G) (ci := 6) (v := .int 19) (C := RX6) (T := TX6) (N := 20) hx hb hT ku_6 hown hK hP 2 rfl rfl 0 (by decide) (hT _ kw_40_9) (fun _ h9 => h9) (fh_at hf292 2 rfl) dX7_go_70 ?_
                                                have hP9 : va_P G vwCl [] H := fun k q h => by simp at h
                                                have hD9 : va_D A [] := ⟨fun i j p q h => by simp at h, fun k q h => by simp at h⟩
                                                exact W.iret (v := 19) hx hb hr (fun t ht hW => ⟨⟨19, (), rfl, (by unfold sp_go; (repeat' split) <;> first | rfl | (exfalso; omega) | decide), by rw [ht]; exact hP9, hD9⟩, hS.F ht⟩) hS.2.2 dX7_go_73
                                              · have k294 := tq_len (a := x.toInt) (b := 19) rfl (by decide) c294
                                                refine lv_aload_n hx hb dX7_go_41 rfl (lv_at hl 1 rfl) ?_
                                                refine va_get (D := G) (ci := 7) (v := .ref t0) (C := RX7) (T := TX7) (N := 12) hx hb hT ku_7 hown hK hP 0 rfl rfl 2 (by decide) (hT _ kw_2_0) (fun _ h9 => h9) (fh_at hf 1 rfl) dX7_go_42 ?_
                                                refine tq_cv (wr := [(h0, .inr (7, fs)), (ch, .inr (0, cs))]) hP hD hS hA [2, 3, 4] [0, 1] rfl rfl (by decide) (by decide) (va_runV (As := []) (rest := []) ⟨hx, hb, hml, hown, hT⟩ (c_X6_passStop_19 l G cA H.size t0 u288 pa ps sa fsec (fh_sub hf292 [1, 2] rfl) (fh_sub hp [0, 1, 2, 3] rfl) hsec) (cwV 0 hT (tq_gV kw_40_11 kw_40_12 kw_40_13 kw_1_23 kw_40_14) rfl rfl rfl (by decide +kernel) ⟨Nat.le_of_ble_eq_true rfl, Nat.le_of_ble_eq_true rfl⟩) ⟨(tq_pre (isC := [2, 3, 4]) hP hD hK hN rfl (by decide)).1, va_recv hK hP (ci := 6) (q0 := 2) rfl rfl, (tq_pre (isC := [2, 3, 4]) hP hD hK hN rfl (by decide)).2⟩ rfl rfl hl.1 rfl (lv_room (Nat.le_of_ble_eq_true rfl)) dX7_go_45 ⟨Nat.le_of_ble_eq_true rfl, Nat.le_of_ble_eq_true rfl⟩) (fun u298 H locs hw299 hP hD hS => ?_)
                                                refine W.widen (k := 0) (n := 0) (Nat.le_of_ble_eq_true rfl) (Nat.le_of_ble_eq_true rfl) ?_
                                                obtain ⟨ho301, hf302⟩ := hw299
                                                have hf302 := fh_app (fo_fh (l' := [(5, .int 1), (19, .ref pa)]) hf292 ho301 rfl) hf302
                                                have ho303 := fo_mono (k2 := [0, 5]) (fo_trans ho293 ho301) (by decide)
                                                have hf302 : fh u298 20 [(5, .int 1), (19, .ref pa), (0, .int 20)] := hf302
                                                have hP : va_P G vwCl [(h0, .inr (7, fs)), (ch, .inr (0, cs)), (t0, .inr (6, u298)), (pa, .inr (2, ps)), (sa, .inl (cA 0, 21, .inl fsec))] H := hP
                                                have hD : va_D A [(h0, .inr (7, fs)), (ch, .inr (0, cs)), (t0, .inr (6, u298)), (pa, .inr (2, ps)), (sa, .inl (cA 0, 21, .inl fsec))] := hD
                                                refine lv_iinc (v := 20) (lv' := [(2, .int 20), (0, .ref h0), (1, .int x)]) hx hb dX7_go_48 hl (k := 0) rfl (by decide) (by decide) rfl (fun ls hl => ?_)
                                                refine lv_goto (tgt := 36) hx hb dX7_go_51 (by decide) ?_
                                                refine lv_iload_n hx hb dX7_go_36 rfl (lv_at hl 0 rfl) ?_
                                                refine lv_iload_n hx hb dX7_go_37 rfl (lv_at hl 2 rfl) ?_
                                                refine lv_icmp_ge (tgt := 54) hx hb dX7_go_38 (by decide) (fun c304 => ?_) (fun c304 => ?_)
                                                · have k304 := tq_le (a := x.toInt) (b := 20) rfl (by decide) c304
                                                  obtain rfl : x = 20 := tq_is (by rw [show (20 : Int32).toInt = 20 from by decide]; omega)
                                                  refine lv_iload_n hx hb dX7_go_54 rfl (lv_at hl 2 rfl) ?_
                                                  refine lv_if_le (tgt := 66) hx hb dX7_go_55 (by decide) (fun c305 => absurd c305 (by decide)) (fun c305 => ?_)
                                                  refine lv_aload_n hx hb dX7_go_58 rfl (lv_at hl 1 rfl) ?_
                                                  refine va_get (D := G) (ci := 7) (v := .ref ch) (C := RX7) (T := TX7) (N := 12) hx hb hT ku_7 hown hK hP 0 rfl rfl 7 (by decide) (hT _ kw_2_8) (fun _ h9 => h9) (fh_at hf 2 rfl) dX7_go_59 ?_
                                                  refine lv_iconst (v := 0) hx hb dX7_go_62 (by decide) ?_
                                                  refine va_put (D := G) (ci := 0) (v := .int 0) (ty := .int) (C := RX0) (T := TX0) (N := 3) hx hb hT ku_0 tyX0 tyX0_ok nmX0 hown hK hP hD hS 1 rfl rfl 0 (by decide) (hT _ kw_14_7) (fun _ h9 => h9) rfl (by decide +kernel) rfl rfl (fh_lt hch (by decide)) dX7_go_63 (fun H locs hP hD hS => ?_)
                                                  have hP : va_P G vwCl [(h0, .inr (7, fs)), (ch, .inr (0, (cs.set 0 (.int 0)))), (t0, .inr (6, u298)), (pa, .inr (2, ps)), (sa, .inl (cA 0, 21, .inl fsec))] H := hP
                                                  have hD : va_D A [(h0, .inr (7, fs)), (ch, .inr (0, (cs.set 0 (.int 0)))), (t0, .inr (6, u298)), (pa, .inr (2, ps)), (sa, .inl (cA 0, 21, .inl fsec))] := hD
                                                  have hch := fh_set (l' := [(0, .int 0)]) hch 0 (.int 0) (by decide) rfl
                                                  have ho307 := fo_set ho_hch 0 (.int 0)
                                                  generalize (cs.set 0 (.int 0)) = fs306 at hP hD hch ho307
                                                  refine lv_aload_n hx hb dX7_go_66 rfl (lv_at hl 1 rfl) ?_
                                                  refine va_get (D := G) (ci := 7) (v := .ref t0) (C := RX7) (T := TX7) (N := 12) hx hb hT ku_7 hown hK hP 0 rfl rfl 2 (by decide) (hT _ kw_2_0) (fun _ h9 => h9) (fh_at hf 1 rfl) dX7_go_67 ?_
                                                  refine va_get (D := G) (ci := 6) (v := .int 20) (C := RX6) (T := TX6) (N := 20) hx hb hT ku_6 hown hK hP 2 rfl rfl 0 (by decide) (hT _ kw_40_9) (fun _ h9 => h9) (fh_at hf302 2 rfl) dX7_go_70 ?_
                                                  have hP9 : va_P G vwCl [] H := fun k q h => by simp at h
                                                  have hD9 : va_D A [] := ⟨fun i j p q h => by simp at h, fun k q h => by simp at h⟩
                                                  exact W.iret (v := 20) hx hb hr (fun t ht hW => ⟨⟨20, (), rfl, (by unfold sp_go; (repeat' split) <;> first | rfl | (exfalso; omega) | decide), by rw [ht]; exact hP9, hD9⟩, hS.F ht⟩) hS.2.2 dX7_go_73
                                                · have k304 := tq_len (a := x.toInt) (b := 20) rfl (by decide) c304
                                                  obtain rfl : x = 21 := tq_is (by rw [show (21 : Int32).toInt = 21 from by decide]; omega)
                                                  refine lv_aload_n hx hb dX7_go_41 rfl (lv_at hl 1 rfl) ?_
                                                  refine va_get (D := G) (ci := 7) (v := .ref t0) (C := RX7) (T := TX7) (N := 12) hx hb hT ku_7 hown hK hP 0 rfl rfl 2 (by decide) (hT _ kw_2_0) (fun _ h9 => h9) (fh_at hf 1 rfl) dX7_go_42 ?_
                                                  refine tq_cv (wr := [(h0, .inr (7, fs)), (ch, .inr (0, cs))]) hP hD hS hA [2, 3, 4] [0, 1] rfl rfl (by decide) (by decide) (va_runV (As := []) (rest := []) ⟨hx, hb, hml, hown, hT⟩ (c_X6_passStop_20 l G cA H.size t0 u298 pa ps sa fsec (fh_sub hf302 [1, 2] rfl) (fh_sub hp [0, 1, 2, 3] rfl) hsec) (cwV 0 hT (tq_gV kw_40_11 kw_40_12 kw_40_13 kw_1_23 kw_40_14) rfl rfl rfl (by decide +kernel) ⟨Nat.le_of_ble_eq_true rfl, Nat.le_of_ble_eq_true rfl⟩) ⟨(tq_pre (isC := [2, 3, 4]) hP hD hK hN rfl (by decide)).1, va_recv hK hP (ci := 6) (q0 := 2) rfl rfl, (tq_pre (isC := [2, 3, 4]) hP hD hK hN rfl (by decide)).2⟩ rfl rfl hl.1 rfl (lv_room (Nat.le_of_ble_eq_true rfl)) dX7_go_45 ⟨Nat.le_of_ble_eq_true rfl, Nat.le_of_ble_eq_true rfl⟩) (fun u308 H locs hw309 hP hD hS => ?_)
                                                  refine W.widen (k := 0) (n := 0) (Nat.le_of_ble_eq_true rfl) (Nat.le_of_ble_eq_true rfl) ?_
                                                  obtain ⟨ho311, hf312⟩ := hw309
                                                  have hf312 := fh_app (fo_fh (l' := [(5, .int 1), (19, .ref pa)]) hf302 ho311 rfl) hf312
                                                  have ho313 := fo_mono (k2 := [0, 5]) (fo_trans ho303 ho311) (by decide)
                                                  have hf312 : fh u308 20 [(5, .int 1), (19, .ref pa), (0, .int 21)] := hf312
                                                  have hP : va_P G vwCl [(h0, .inr (7, fs)), (ch, .inr (0, cs)), (t0, .inr (6, u308)), (pa, .inr (2, ps)), (sa, .inl (cA 0, 21, .inl fsec))] H := hP
                                                  have hD : va_D A [(h0, .inr (7, fs)), (ch, .inr (0, cs)), (t0, .inr (6, u308)), (pa, .inr (2, ps)), (sa, .inl (cA 0, 21, .inl fsec))] := hD
                                                  refine lv_iinc (v := 21) (lv' := [(2, .int 21), (0, .ref h0), (1, .int 21)]) hx hb dX7_go_48 hl (k := 0) rfl (by decide) (by decide) rfl (fun ls hl => ?_)
                                                  refine lv_goto (tgt := 36) hx hb dX7_go_51 (by decide) ?_
                                                  refine lv_iload_n hx hb dX7_go_36 rfl (lv_at hl 0 rfl) ?_
                                                  refine lv_iload_n hx hb dX7_go_37 rfl (lv_at hl 2 rfl) ?_
                                                  refine lv_icmp_ge (tgt := 54) hx hb dX7_go_38 (by decide) (fun c314 => ?_) (fun c314 => absurd (by decide) c314)
                                                  refine lv_iload_n hx hb dX7_go_54 rfl (lv_at hl 2 rfl) ?_
                                                  refine lv_if_le (tgt := 66) hx hb dX7_go_55 (by decide) (fun c315 => absurd c315 (by decide)) (fun c315 => ?_)
                                                  refine lv_aload_n hx hb dX7_go_58 rfl (lv_at hl 1 rfl) ?_
                                                  refine va_get (D := G) (ci := 7) (v := .ref ch) (C := RX7) (T := TX7) (N := 12) hx hb hT ku_7 hown hK hP 0 rfl rfl 7 (by decide) (hT _ kw_2_8) (fun _ h9 => h9) (fh_at hf 2 rfl) dX7_go_59 ?_
                                                  refine lv_iconst (v := 0) hx hb dX7_go_62 (by decide) ?_
                                                  refine va_put (D := G) (ci := 0) (v := .int 0) (ty := .int) (C := RX0) (T := TX0) (N := 3) hx hb hT ku_0 tyX0 tyX0_ok nmX0 hown hK hP hD hS 1 rfl rfl 0 (by decide) (hT _ kw_14_7) (fun _ h9 => h9) rfl (by decide +kernel) rfl rfl (fh_lt hch (by decide)) dX7_go_63 (fun H locs hP hD hS => ?_)
                                                  have hP : va_P G vwCl [(h0, .inr (7, fs)), (ch, .inr (0, (cs.set 0 (.int 0)))), (t0, .inr (6, u308)), (pa, .inr (2, ps)), (sa, .inl (cA 0, 21, .inl fsec))] H := hP
                                                  have hD : va_D A [(h0, .inr (7, fs)), (ch, .inr (0, (cs.set 0 (.int 0)))), (t0, .inr (6, u308)), (pa, .inr (2, ps)), (sa, .inl (cA 0, 21, .inl fsec))] := hD
                                                  have hch := fh_set (l' := [(0, .int 0)]) hch 0 (.int 0) (by decide) rfl
                                                  have ho317 := fo_set ho_hch 0 (.int 0)
                                                  generalize (cs.set 0 (.int 0)) = fs316 at hP hD hch ho317
                                                  refine lv_aload_n hx hb dX7_go_66 rfl (lv_at hl 1 rfl) ?_
                                                  refine va_get (D := G) (ci := 7) (v := .ref t0) (C := RX7) (T := TX7) (N := 12) hx hb hT ku_7 hown hK hP 0 rfl rfl 2 (by decide) (hT _ kw_2_0) (fun _ h9 => h9) (fh_at hf 1 rfl) dX7_go_67 ?_
                                                  refine va_get (D := G) (ci := 6) (v := .int 21) (C := RX6) (T := TX6) (N := 20) hx hb hT ku_6 hown hK hP 2 rfl rfl 0 (by decide) (hT _ kw_40_9) (fun _ h9 => h9) (fh_at hf312 2 rfl) dX7_go_70 ?_
                                                  have hP9 : va_P G vwCl [] H := fun k q h => by simp at h
                                                  have hD9 : va_D A [] := ⟨fun i j p q h => by simp at h, fun k q h => by simp at h⟩
                                                  exact W.iret (v := 21) hx hb hr (fun t ht hW => ⟨⟨21, (), rfl, (by unfold sp_go; (repeat' split) <;> first | rfl | (exfalso; omega) | decide), by rw [ht]; exact hP9, hD9⟩, hS.F ht⟩) hS.2.2 dX7_go_73
      · have k103 := tq_len (a := x.toInt) (b := 21) rfl (by decide) c103
        exfalso
        omega
