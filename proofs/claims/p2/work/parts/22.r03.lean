abbrev G_X3_readLine (p : Program) (l : Launch) (e : Env) (s : State) (m : MethodId) (below : List Frame) (meth : Method) (c : Code) (G : va_G) (cA : Nat → ClassId) (A : Nat → Prop) (bA : Nat) (ka : Nat → Nat) (ra : Nat → Nat) (pa : Nat → Nat) (L : Lo) (r0 : Int32) (K' : Tr) (R' : Tr) (P' : Tr) (H : Heap) (locs : List Loc) (g : JFrame) : Prop := W p l e (headSpec (.code yX3_readLine cX3_readLine 1 (some .boolean) :: T0) ({ frames := 5, cells := 0, slots := 0, locals := 113 } : Room)).room s m ([.ref (ra 0)] : List Value).toArray below meth c H locs 0 0 (MQ below (tqQi G cA (fun (r : Int32) (_ : Unit) => r = r0) (fun (_ : Unit) => wRP cA ka ra pa (K') (R') (P') L) A) ([.ref (ra 0)] : List Value).toArray s 0 0 A) g
set_option maxHeartbeats 4000000 in
set_option maxRecDepth 100000 in
theorem c_X3_readLine (l : Launch) (G : va_G) (cA : Nat → ClassId) (sz : Nat) (bA : Nat) (ka : Nat → Nat) (ra : Nat → Nat) (pa : Nat → Nat) (K : Tr) (R : Tr) (P : Tr) (L : Lo)  (r0 : Int32) (K' : Tr) (R' : Tr) (P' : Tr) (h : f_X3_readLine K R P = some (r0, K', R', P')) : Met l yX3_readLine (.code yX3_readLine cX3_readLine 1 (some .boolean) :: T0) ({ frames := 5, cells := 0, slots := 0, locals := 113 } : Room) (tqPB bA G cA [.ref (ra 0)] (wRP cA ka ra pa K R P L) sz) (tqQi G cA (fun (r : Int32) (_ : Unit) => r = r0) (fun (_ : Unit) => wRP cA ka ra pa (K') (R') (P') L) (va_A (wRP cA ka ra pa K R P L) sz)) 0 0 (va_A (wRP cA ka ra pa K R P L) sz) := by
  refine Met.ofW (cc := cX3_readLine) (maxL := 1) (ret := (some .boolean)) (by decide) rfl ?_
  intro p e s m args below meth c s₁ B hml hv
  obtain ⟨rfl, hsz, hP, hK, hD0, hN, hB⟩ := hv
  have hx := B.exec
  have hb := B.bytes
  have hr := B.returns
  have hts := atoms_spec (ws := .code yX3_readLine cX3_readLine 1 (some .boolean) :: T0) B.pre
  have hT : ∀ w ∈ T0, w.before _ s = true := fun w h => hts w (List.mem_cons_of_mem _ h)
  have hown : s.vm.findClass RX3 = some m.cls := findClass_of_methodNamed B.named
  have hlocks := B.notSynchronized
  subst hsz
  have hD := hD0.self (sz := s.heap.size)
  generalize hAe : va_A (wRP cA ka ra pa K R P L) s.heap.size = A at hD hB ⊢
  have hA : ∀ q : Nat, s.heap.size ≤ q → A q := fun q h => by rw [← hAe]; exact Or.inr h
  have hS : va_S A s.heap s.heap [] := va_S.rf
  have hl := lv_entry ([.ref (ra 0)]) (n := 1) (Nat.le_of_ble_eq_true rfl)
  rw [lg_entry_eq]
  generalize (lg_sl ([.ref (ra 0)]) ++ List.replicate (1 - (lg_sl ([.ref (ra 0)])).length) Slot.unset).toArray = ls at hl ⊢
  have hl : lv_has ls 1 [(0, .ref (ra 0))] := hl
  have F : tF p s m ([.ref (ra 0)] : List Value).toArray meth c G cA A RX3 cX3_readLine 1 (some .boolean) := ⟨hx, hb, hr, hml, hT, hown, hlocks, hK, hN, hA⟩
  obtain ⟨H, hH⟩ : ∃ z, z = s.heap := ⟨_, rfl⟩
  rw [← hH] at hP
  have hS : va_S A s.heap H [] := by rw [hH]; exact hS
  suffices hgo : G_X3_readLine p l e s m below meth c G cA A bA ka ra pa L r0 K' R' P' H [] (F0 m 0 ls []) by rw [hH] at hgo; exact hgo
  generalize ([] : List Loc) = locs at hS ⊢
  unfold f_X3_readLine at h
  refine lv_aload_n hx hb dX3_readLine_0 rfl (lv_at hl 0 rfl) ?_
  refine va_get (D := G) (ci := 3) (v := .ref (ka 0)) (C := RX3) (T := TX3) (N := 10) hx hb hT ku_3 hown hK hP 3 rfl rfl 0 (by decide) (hT _ kw_2_23) (fun _ h9 => h9) rfl dX3_readLine_1 ?_
  refine va_get (D := G) (ci := 5) (v := .int (K 0 1)) (C := RX5) (T := TX5) (N := 8) hx hb hT ku_5 hown hK hP 0 rfl rfl 1 (by decide) (hT _ kw_14_15) (fun _ h9 => h9) rfl dX3_readLine_4 ?_
  refine lv_topi (fun y1 ey1 => ?_)
  have h := tx_let ey1 h
  by_cases c2 : y1 = 0
  · have h := tx_pos c2 h
    refine lv_tableIn (off := 45) (tgt := 57) hx hb dX3_readLine_7 (by rw [c2]; decide) (by rw [c2]; decide) (by rw [c2]; decide) (by decide) ?_
    refine lv_aload_n hx hb dX3_readLine_52 rfl (lv_at hl 0 rfl) ?_
    obtain ⟨⟨r3, K_4, R_5, P_6⟩, hc7, h⟩ := tx_bd h
    replace h := tx_let (y := r3) rfl h
    replace h := tx_let (y := K_4) rfl h
    replace h := tx_let (y := R_5) rfl h
    replace h := tx_let (y := P_6) rfl h
    refine tw_ci tw_all hP hD hS hA (va_runV (As := []) (rest := []) ⟨hx, hb, hml, hown, hT⟩ (c_X3_readPlace l G cA H.size bA ka ra pa K R P L  r3 K_4 R_5 P_6 hc7) (cwV 0 hT (tq_gV kw_16_11 kw_16_12 kw_16_13 kw_1_15 kw_16_14) rfl rfl rfl (by decide +kernel) ⟨Nat.le_of_ble_eq_true rfl, Nat.le_of_ble_eq_true rfl⟩) ⟨(tw_preB tw_all hP hD hK hN hS hA hB).1, va_recv hK hP (ci := 3) (q0 := 3) rfl rfl, (tw_preB tw_all hP hD hK hN hS hA hB).2⟩ rfl rfl hl.1 rfl (lv_room (Nat.le_of_ble_eq_true rfl)) dX3_readLine_53 ⟨Nat.le_of_ble_eq_true rfl, Nat.le_of_ble_eq_true rfl⟩) (fun _ _ H locs z8 hP hD hS => ?_)
    subst z8
    rw [List.append_nil] at hP hD
    have hP : va_P G vwCl (wRP cA ka ra pa K_4 R_5 P_6 L) H := hP
    have hD : va_D A (wRP cA ka ra pa K_4 R_5 P_6 L) := hD
    obtain ⟨g9, h⟩ := tx_ck h
    obtain ⟨rfl, rfl, rfl, rfl⟩ := tx_4 h
    exact W.zret (ty := .boolean) hx hb hr (tx_z g9) (fun t ht hW => ⟨⟨_, (), rfl, rfl, by rw [ht]; exact hP, hD⟩, hS.F ht⟩) hS.2.2 dX3_readLine_56
  · have h := tx_neg c2 h
    by_cases c10 : y1 = 1
    · have h := tx_pos c10 h
      refine lv_tableIn (off := 50) (tgt := 62) hx hb dX3_readLine_7 (by rw [c10]; decide) (by rw [c10]; decide) (by rw [c10]; decide) (by decide) ?_
      refine lv_aload_n hx hb dX3_readLine_57 rfl (lv_at hl 0 rfl) ?_
      obtain ⟨⟨r11, K_12, R_13, P_14⟩, hc15, h⟩ := tx_bd h
      replace h := tx_let (y := r11) rfl h
      replace h := tx_let (y := K_12) rfl h
      replace h := tx_let (y := R_13) rfl h
      replace h := tx_let (y := P_14) rfl h
      refine tw_ci tw_all hP hD hS hA (va_runV (As := []) (rest := []) ⟨hx, hb, hml, hown, hT⟩ (c_X3_readPerson l G cA H.size bA ka ra pa K R P L  r11 K_12 R_13 P_14 hc15) (cwV 0 hT (tq_gV kw_17_9 kw_17_10 kw_17_11 kw_1_15 kw_17_12) rfl rfl rfl (by decide +kernel) ⟨Nat.le_of_ble_eq_true rfl, Nat.le_of_ble_eq_true rfl⟩) ⟨(tw_preB tw_all hP hD hK hN hS hA hB).1, va_recv hK hP (ci := 3) (q0 := 3) rfl rfl, (tw_preB tw_all hP hD hK hN hS hA hB).2⟩ rfl rfl hl.1 rfl (lv_room (Nat.le_of_ble_eq_true rfl)) dX3_readLine_58 ⟨Nat.le_of_ble_eq_true rfl, Nat.le_of_ble_eq_true rfl⟩) (fun _ _ H locs z16 hP hD hS => ?_)
      subst z16
      rw [List.append_nil] at hP hD
      have hP : va_P G vwCl (wRP cA ka ra pa K_12 R_13 P_14 L) H := hP
      have hD : va_D A (wRP cA ka ra pa K_12 R_13 P_14 L) := hD
      obtain ⟨g17, h⟩ := tx_ck h
      obtain ⟨rfl, rfl, rfl, rfl⟩ := tx_4 h
      exact W.zret (ty := .boolean) hx hb hr (tx_z g17) (fun t ht hW => ⟨⟨_, (), rfl, rfl, by rw [ht]; exact hP, hD⟩, hS.F ht⟩) hS.2.2 dX3_readLine_61
    · have h := tx_neg c10 h
      by_cases c18 : y1 = 2
      · have h := tx_pos c18 h
        refine lv_tableIn (off := 55) (tgt := 67) hx hb dX3_readLine_7 (by rw [c18]; decide) (by rw [c18]; decide) (by rw [c18]; decide) (by decide) ?_
        refine lv_aload_n hx hb dX3_readLine_62 rfl (lv_at hl 0 rfl) ?_
        obtain ⟨⟨r19, K_20, R_21, P_22⟩, hc23, h⟩ := tx_bd h
        replace h := tx_let (y := r19) rfl h
        replace h := tx_let (y := K_20) rfl h
        replace h := tx_let (y := R_21) rfl h
        replace h := tx_let (y := P_22) rfl h
        refine tw_ci tw_all hP hD hS hA (va_runV (As := []) (rest := []) ⟨hx, hb, hml, hown, hT⟩ (c_X3_readPiece l G cA H.size bA ka ra pa K R P L  r19 K_20 R_21 P_22 hc23) (cwV 0 hT (tq_gV kw_17_22 kw_17_23 kw_18_0 kw_1_15 kw_18_1) rfl rfl rfl (by decide +kernel) ⟨Nat.le_of_ble_eq_true rfl, Nat.le_of_ble_eq_true rfl⟩) ⟨(tw_preB tw_all hP hD hK hN hS hA hB).1, va_recv hK hP (ci := 3) (q0 := 3) rfl rfl, (tw_preB tw_all hP hD hK hN hS hA hB).2⟩ rfl rfl hl.1 rfl (lv_room (Nat.le_of_ble_eq_true rfl)) dX3_readLine_63 ⟨Nat.le_of_ble_eq_true rfl, Nat.le_of_ble_eq_true rfl⟩) (fun _ _ H locs z24 hP hD hS => ?_)
        subst z24
        rw [List.append_nil] at hP hD
        have hP : va_P G vwCl (wRP cA ka ra pa K_20 R_21 P_22 L) H := hP
        have hD : va_D A (wRP cA ka ra pa K_20 R_21 P_22 L) := hD
        obtain ⟨g25, h⟩ := tx_ck h
        obtain ⟨rfl, rfl, rfl, rfl⟩ := tx_4 h
        exact W.zret (ty := .boolean) hx hb hr (tx_z g25) (fun t ht hW => ⟨⟨_, (), rfl, rfl, by rw [ht]; exact hP, hD⟩, hS.F ht⟩) hS.2.2 dX3_readLine_66
      · have h := tx_neg c18 h
        by_cases c26 : y1 = 3
        · have h := tx_pos c26 h
          refine lv_tableIn (off := 60) (tgt := 72) hx hb dX3_readLine_7 (by rw [c26]; decide) (by rw [c26]; decide) (by rw [c26]; decide) (by decide) ?_
          refine lv_aload_n hx hb dX3_readLine_67 rfl (lv_at hl 0 rfl) ?_
          obtain ⟨⟨r27, K_28, R_29, P_30⟩, hc31, h⟩ := tx_bd h
          replace h := tx_let (y := r27) rfl h
          replace h := tx_let (y := K_28) rfl h
          replace h := tx_let (y := R_29) rfl h
          replace h := tx_let (y := P_30) rfl h
          refine tw_ci tw_all hP hD hS hA (va_runV (As := []) (rest := []) ⟨hx, hb, hml, hown, hT⟩ (c_X3_readWait l G cA H.size bA ka ra pa K R P L  r27 K_28 R_29 P_30 hc31) (cwV 0 hT (tq_gV kw_18_7 kw_18_8 kw_18_9 kw_1_15 kw_18_10) rfl rfl rfl (by decide +kernel) ⟨Nat.le_of_ble_eq_true rfl, Nat.le_of_ble_eq_true rfl⟩) ⟨(tw_preB tw_all hP hD hK hN hS hA hB).1, va_recv hK hP (ci := 3) (q0 := 3) rfl rfl, (tw_preB tw_all hP hD hK hN hS hA hB).2⟩ rfl rfl hl.1 rfl (lv_room (Nat.le_of_ble_eq_true rfl)) dX3_readLine_68 ⟨Nat.le_of_ble_eq_true rfl, Nat.le_of_ble_eq_true rfl⟩) (fun _ _ H locs z32 hP hD hS => ?_)
          subst z32
          rw [List.append_nil] at hP hD
          have hP : va_P G vwCl (wRP cA ka ra pa K_28 R_29 P_30 L) H := hP
          have hD : va_D A (wRP cA ka ra pa K_28 R_29 P_30 L) := hD
          obtain ⟨g33, h⟩ := tx_ck h
          obtain ⟨rfl, rfl, rfl, rfl⟩ := tx_4 h
          exact W.zret (ty := .boolean) hx hb hr (tx_z g33) (fun t ht hW => ⟨⟨_, (), rfl, rfl, by rw [ht]; exact hP, hD⟩, hS.F ht⟩) hS.2.2 dX3_readLine_71
        · have h := tx_neg c26 h
          by_cases c34 : y1 = 4
          · have h := tx_pos c34 h
            refine lv_tableIn (off := 65) (tgt := 77) hx hb dX3_readLine_7 (by rw [c34]; decide) (by rw [c34]; decide) (by rw [c34]; decide) (by decide) ?_
            refine lv_aload_n hx hb dX3_readLine_72 rfl (lv_at hl 0 rfl) ?_
            obtain ⟨⟨r35, K_36, R_37, P_38⟩, hc39, h⟩ := tx_bd h
            replace h := tx_let (y := r35) rfl h
            replace h := tx_let (y := K_36) rfl h
            replace h := tx_let (y := R_37) rfl h
            replace h := tx_let (y := P_38) rfl h
            refine tw_ci tw_all hP hD hS hA (va_runV (As := []) (rest := []) ⟨hx, hb, hml, hown, hT⟩ (c_X3_readRule l G cA H.size bA ka ra pa K R P L  r35 K_36 R_37 P_38 hc39) (cwV 0 hT (tq_gV kw_18_19 kw_18_20 kw_18_21 kw_1_15 kw_18_22) rfl rfl rfl (by decide +kernel) ⟨Nat.le_of_ble_eq_true rfl, Nat.le_of_ble_eq_true rfl⟩) ⟨(tw_preB tw_all hP hD hK hN hS hA hB).1, va_recv hK hP (ci := 3) (q0 := 3) rfl rfl, (tw_preB tw_all hP hD hK hN hS hA hB).2⟩ rfl rfl hl.1 rfl (lv_room (Nat.le_of_ble_eq_true rfl)) dX3_readLine_73 ⟨Nat.le_of_ble_eq_true rfl, Nat.le_of_ble_eq_true rfl⟩) (fun _ _ H locs z40 hP hD hS => ?_)
            subst z40
            rw [List.append_nil] at hP hD
            have hP : va_P G vwCl (wRP cA ka ra pa K_36 R_37 P_38 L) H := hP
            have hD : va_D A (wRP cA ka ra pa K_36 R_37 P_38 L) := hD
            obtain ⟨g41, h⟩ := tx_ck h
            obtain ⟨rfl, rfl, rfl, rfl⟩ := tx_4 h
            exact W.zret (ty := .boolean) hx hb hr (tx_z g41) (fun t ht hW => ⟨⟨_, (), rfl, rfl, by rw [ht]; exact hP, hD⟩, hS.F ht⟩) hS.2.2 dX3_readLine_76
          · have h := tx_neg c34 h
            by_cases c42 : y1 = 5
            · have h := tx_pos c42 h
              refine lv_tableIn (off := 70) (tgt := 82) hx hb dX3_readLine_7 (by rw [c42]; decide) (by rw [c42]; decide) (by rw [c42]; decide) (by decide) ?_
              refine lv_aload_n hx hb dX3_readLine_77 rfl (lv_at hl 0 rfl) ?_
              obtain ⟨⟨r43, K_44, R_45, P_46⟩, hc47, h⟩ := tx_bd h
              replace h := tx_let (y := r43) rfl h
              replace h := tx_let (y := K_44) rfl h
              replace h := tx_let (y := R_45) rfl h
              replace h := tx_let (y := P_46) rfl h
              refine tw_ci tw_all hP hD hS hA (va_runV (As := []) (rest := []) ⟨hx, hb, hml, hown, hT⟩ (c_X3_readCurve l G cA H.size bA ka ra pa K R P L  r43 K_44 R_45 P_46 hc47) (cwV 0 hT (tq_gV kw_19_4 kw_19_5 kw_19_6 kw_1_15 kw_19_7) rfl rfl rfl (by decide +kernel) ⟨Nat.le_of_ble_eq_true rfl, Nat.le_of_ble_eq_true rfl⟩) ⟨(tw_preB tw_all hP hD hK hN hS hA hB).1, va_recv hK hP (ci := 3) (q0 := 3) rfl rfl, (tw_preB tw_all hP hD hK hN hS hA hB).2⟩ rfl rfl hl.1 rfl (lv_room (Nat.le_of_ble_eq_true rfl)) dX3_readLine_78 ⟨Nat.le_of_ble_eq_true rfl, Nat.le_of_ble_eq_true rfl⟩) (fun _ _ H locs z48 hP hD hS => ?_)
              subst z48
              rw [List.append_nil] at hP hD
              have hP : va_P G vwCl (wRP cA ka ra pa K_44 R_45 P_46 L) H := hP
              have hD : va_D A (wRP cA ka ra pa K_44 R_45 P_46 L) := hD
              obtain ⟨g49, h⟩ := tx_ck h
              obtain ⟨rfl, rfl, rfl, rfl⟩ := tx_4 h
              exact W.zret (ty := .boolean) hx hb hr (tx_z g49) (fun t ht hW => ⟨⟨_, (), rfl, rfl, by rw [ht]; exact hP, hD⟩, hS.F ht⟩) hS.2.2 dX3_readLine_81
            · have h := tx_neg c42 h
              by_cases c50 : y1 = 6
              · have h := tx_pos c50 h
                refine lv_tableIn (off := 75) (tgt := 87) hx hb dX3_readLine_7 (by rw [c50]; decide) (by rw [c50]; decide) (by rw [c50]; decide) (by decide) ?_
                refine lv_aload_n hx hb dX3_readLine_82 rfl (lv_at hl 0 rfl) ?_
                obtain ⟨⟨r51, K_52, R_53, P_54⟩, hc55, h⟩ := tx_bd h
                replace h := tx_let (y := r51) rfl h
                replace h := tx_let (y := K_52) rfl h
                replace h := tx_let (y := R_53) rfl h
                replace h := tx_let (y := P_54) rfl h
                refine tw_ci tw_all hP hD hS hA (va_runV (As := []) (rest := []) ⟨hx, hb, hml, hown, hT⟩ (c_X3_readSeed l G cA H.size bA ka ra pa K R P L  r51 K_52 R_53 P_54 hc55) (cwV 0 hT (tq_gV kw_19_9 kw_19_10 kw_19_11 kw_1_15 kw_19_12) rfl rfl rfl (by decide +kernel) ⟨Nat.le_of_ble_eq_true rfl, Nat.le_of_ble_eq_true rfl⟩) ⟨(tw_preB tw_all hP hD hK hN hS hA hB).1, va_recv hK hP (ci := 3) (q0 := 3) rfl rfl, (tw_preB tw_all hP hD hK hN hS hA hB).2⟩ rfl rfl hl.1 rfl (lv_room (Nat.le_of_ble_eq_true rfl)) dX3_readLine_83 ⟨Nat.le_of_ble_eq_true rfl, Nat.le_of_ble_eq_true rfl⟩) (fun _ _ H locs z56 hP hD hS => ?_)
                subst z56
                rw [List.append_nil] at hP hD
                have hP : va_P G vwCl (wRP cA ka ra pa K_52 R_53 P_54 L) H := hP
                have hD : va_D A (wRP cA ka ra pa K_52 R_53 P_54 L) := hD
                obtain ⟨g57, h⟩ := tx_ck h
                obtain ⟨rfl, rfl, rfl, rfl⟩ := tx_4 h
                exact W.zret (ty := .boolean) hx hb hr (tx_z g57) (fun t ht hW => ⟨⟨_, (), rfl, rfl, by rw [ht]; exact hP, hD⟩, hS.F ht⟩) hS.2.2 dX3_readLine_86
              · have h := tx_neg c50 h
                by_cases c58 : y1 = 7
                · have h := tx_pos c58 h
                  refine lv_tableIn (off := 80) (tgt := 92) hx hb dX3_readLine_7 (by rw [c58]; decide) (by rw [c58]; decide) (by rw [c58]; decide) (by decide) ?_
                  refine lv_aload_n hx hb dX3_readLine_87 rfl (lv_at hl 0 rfl) ?_
                  obtain ⟨⟨r59, K_60, R_61, P_62⟩, hc63, h⟩ := tx_bd h
                  replace h := tx_let (y := r59) rfl h
                  replace h := tx_let (y := K_60) rfl h
                  replace h := tx_let (y := R_61) rfl h
                  replace h := tx_let (y := P_62) rfl h
                  refine tw_ci tw_all hP hD hS hA (va_runV (As := []) (rest := []) ⟨hx, hb, hml, hown, hT⟩ (c_X3_readLaw l G cA H.size bA ka ra pa K R P L  r59 K_60 R_61 P_62 hc63) (cwV 0 hT (tq_gV kw_19_15 kw_19_16 kw_19_17 kw_1_15 kw_19_18) rfl rfl rfl (by decide +kernel) ⟨Nat.le_of_ble_eq_true rfl, Nat.le_of_ble_eq_true rfl⟩) ⟨(tw_preB tw_all hP hD hK hN hS hA hB).1, va_recv hK hP (ci := 3) (q0 := 3) rfl rfl, (tw_preB tw_all hP hD hK hN hS hA hB).2⟩ rfl rfl hl.1 rfl (lv_room (Nat.le_of_ble_eq_true rfl)) dX3_readLine_88 ⟨Nat.le_of_ble_eq_true rfl, Nat.le_of_ble_eq_true rfl⟩) (fun _ _ H locs z64 hP hD hS => ?_)
                  subst z64
                  rw [List.append_nil] at hP hD
                  have hP : va_P G vwCl (wRP cA ka ra pa K_60 R_61 P_62 L) H := hP
                  have hD : va_D A (wRP cA ka ra pa K_60 R_61 P_62 L) := hD
                  obtain ⟨g65, h⟩ := tx_ck h
                  obtain ⟨rfl, rfl, rfl, rfl⟩ := tx_4 h
                  exact W.zret (ty := .boolean) hx hb hr (tx_z g65) (fun t ht hW => ⟨⟨_, (), rfl, rfl, by rw [ht]; exact hP, hD⟩, hS.F ht⟩) hS.2.2 dX3_readLine_91
                · have h := tx_neg c58 h
                  have kc2 := tq_eqn (a := y1.toInt) (b := 0) rfl (by decide) c2
                  have kc10 := tq_eqn (a := y1.toInt) (b := 1) rfl (by decide) c10
                  have kc18 := tq_eqn (a := y1.toInt) (b := 2) rfl (by decide) c18
                  have kc26 := tq_eqn (a := y1.toInt) (b := 3) rfl (by decide) c26
                  have kc34 := tq_eqn (a := y1.toInt) (b := 4) rfl (by decide) c34
                  have kc42 := tq_eqn (a := y1.toInt) (b := 5) rfl (by decide) c42
                  have kc50 := tq_eqn (a := y1.toInt) (b := 6) rfl (by decide) c50
                  have kc58 := tq_eqn (a := y1.toInt) (b := 7) rfl (by decide) c58
                  refine lv_tableOut (tgt := 92) hx hb dX3_readLine_7 (by omega) (by decide) ?_
                  refine lv_aload_n hx hb dX3_readLine_92 rfl (lv_at hl 0 rfl) ?_
                  refine lv_iconst (v := 0) hx hb dX3_readLine_93 (by decide) ?_
                  refine lv_iconst (v := 1) hx hb dX3_readLine_94 (by decide) ?_
                  obtain ⟨⟨r66, R_67⟩, hc68, h⟩ := tx_bd h
                  replace h := tx_let (y := r66) rfl h
                  replace h := tx_let (y := R_67) rfl h
                  refine tw_ci tw_all hP hD hS hA (va_runV (As := [.int 0, .int 1]) (rest := []) ⟨hx, hb, hml, hown, hT⟩ (c_X3_expect l G cA H.size bA ka ra pa K R P L (0 : Int32) (1 : Int32)  r66 R_67 hc68) (cwV 2 hT (tq_gV kw_16_18 kw_16_19 kw_16_20 kw_1_15 kw_16_21) rfl rfl rfl (by decide +kernel) ⟨Nat.le_of_ble_eq_true rfl, Nat.le_of_ble_eq_true rfl⟩) ⟨(tw_preB tw_all hP hD hK hN hS hA hB).1, va_recv hK hP (ci := 3) (q0 := 3) rfl rfl, (tw_preB tw_all hP hD hK hN hS hA hB).2⟩ rfl rfl hl.1 rfl (lv_room (Nat.le_of_ble_eq_true rfl)) dX3_readLine_95 ⟨Nat.le_of_ble_eq_true rfl, Nat.le_of_ble_eq_true rfl⟩) (fun _ _ H locs z69 hP hD hS => ?_)
                  subst z69
                  rw [List.append_nil] at hP hD
                  have hP : va_P G vwCl (wRP cA ka ra pa K R_67 P L) H := hP
                  have hD : va_D A (wRP cA ka ra pa K R_67 P L) := hD
                  obtain ⟨g70, h⟩ := tx_ck h
                  obtain ⟨rfl, rfl, rfl, rfl⟩ := tx_4 h
                  exact W.zret (ty := .boolean) hx hb hr (tx_z g70) (fun t ht hW => ⟨⟨_, (), rfl, rfl, by rw [ht]; exact hP, hD⟩, hS.F ht⟩) hS.2.2 dX3_readLine_98
abbrev G_X3_readText (p : Program) (l : Launch) (e : Env) (s : State) (m : MethodId) (below : List Frame) (meth : Method) (c : Code) (G : va_G) (cA : Nat → ClassId) (A : Nat → Prop) (bA : Nat) (ka : Nat → Nat) (ra : Nat → Nat) (pa : Nat → Nat) (L : Lo) (x1 : Int32) (r0 : Int32) (K' : Tr) (R' : Tr) (P' : Tr) (H : Heap) (locs : List Loc) (g : JFrame) : Prop := W p l e (headSpec (.code yX3_readText cX3_readText 3 (some .boolean) :: T0) ({ frames := 6, cells := 0, slots := 0, locals := 133 } : Room)).room s m ([.ref (ra 0), .int x1] : List Value).toArray below meth c H locs 0 0 (MQ below (tqQi G cA (fun (r : Int32) (_ : Unit) => r = r0) (fun (_ : Unit) => wRP cA ka ra pa (K') (R') (P') L) A) ([.ref (ra 0), .int x1] : List Value).toArray s 0 0 A) g
set_option maxHeartbeats 4000000 in
set_option maxRecDepth 100000 in
theorem w_X3_readText_J123 {p : Program} {l : Launch} {e : Env} {s : State} {m : MethodId} {below : List Frame} {meth : Method} {c : Code} {G : va_G} {cA : Nat → ClassId} {A : Nat → Prop} {bA : Nat} {ka : Nat → Nat} {ra : Nat → Nat} {pa : Nat → Nat} {L : Lo} {x1₀ : Int32} {r0 : Int32} {K' : Tr} {R' : Tr} {P' : Tr} (F : tF p s m ([.ref (ra 0), .int x1₀] : List Value).toArray meth c G cA A RX3 cX3_readText 3 (some .boolean)) (hB : tqB bA A s s.heap)    (K : Tr) (R : Tr) (P : Tr) (H : Heap) (locs : List Loc) (ls : Array Slot) (h : fJ_X3_readText_J123 K R P = some (r0, K', R', P')) (hP : va_P G vwCl (wRP cA ka ra pa K R P L) H) (hD : va_D A (wRP cA ka ra pa K R P L)) (hS : va_S A s.heap H locs) (hl : lv_has ls 3 [(0, .ref (ra 0))]) : G_X3_readText p l e s m below meth c G cA A bA ka ra pa L x1₀ r0 K' R' P' H locs (F0 m 123 ls []) := by
  obtain ⟨hx, hb, hr, hml, hT, hown, hlocks, hK, hN, hA⟩ := id F
  unfold fJ_X3_readText_J123 at h
  refine lv_aload_n hx hb dX3_readText_123 rfl (lv_at hl 0 rfl) ?_
  refine va_get (D := G) (ci := 3) (v := .int (R 0 1)) (C := RX3) (T := TX3) (N := 10) hx hb hT ku_3 hown hK hP 3 rfl rfl 1 (by decide) (hT _ kw_3_0) (fun _ h9 => h9) rfl dX3_readText_124 ?_
  refine lv_if_ne (tgt := 134) hx hb dX3_readText_127 (by decide) (fun c13 => ?_) (fun c13 => ?_)
  · have h := tx_neg c13 h
    refine lv_iconst (v := 0) hx hb dX3_readText_134 (by decide) ?_
    obtain ⟨rfl, rfl, rfl, rfl⟩ := tx_4 h
    exact W.zret (ty := .boolean) hx hb hr rfl (fun t ht hW => ⟨⟨_, (), rfl, rfl, by rw [ht]; exact hP, hD⟩, hS.F ht⟩) hS.2.2 dX3_readText_135
  · have h := tx_pos c13 h
    refine lv_iconst (v := 1) hx hb dX3_readText_130 (by decide) ?_
    refine lv_goto (tgt := 135) hx hb dX3_readText_131 (by decide) ?_
    obtain ⟨rfl, rfl, rfl, rfl⟩ := tx_4 h
    exact W.zret (ty := .boolean) hx hb hr rfl (fun t ht hW => ⟨⟨_, (), rfl, rfl, by rw [ht]; exact hP, hD⟩, hS.F ht⟩) hS.2.2 dX3_readText_135
set_option maxHeartbeats 4000000 in
set_option maxRecDepth 100000 in
theorem w_X3_readText_J93 {p : Program} {l : Launch} {e : Env} {s : State} {m : MethodId} {below : List Frame} {meth : Method} {c : Code} {G : va_G} {cA : Nat → ClassId} {A : Nat → Prop} {bA : Nat} {ka : Nat → Nat} {ra : Nat → Nat} {pa : Nat → Nat} {L : Lo} {x1₀ : Int32} {r0 : Int32} {K' : Tr} {R' : Tr} {P' : Tr} (F : tF p s m ([.ref (ra 0), .int x1₀] : List Value).toArray meth c G cA A RX3 cX3_readText 3 (some .boolean)) (hB : tqB bA A s s.heap)  (k42 : Int32 → Tr → Tr → Tr → Option (Int32 × Tr × Tr × Tr)) (hk42 : ∀ (x2 : Int32) (K : Tr) (R : Tr) (P : Tr) (H : Heap) (locs : List Loc) (ls : Array Slot), k42 x2 K R P = some (r0, K', R', P') → va_P G vwCl (wRP cA ka ra pa K R P L) H → va_D A (wRP cA ka ra pa K R P L) → va_S A s.heap H locs → lv_has ls 3 [(0, .ref (ra 0)), (2, .int x2)] → G_X3_readText p l e s m below meth c G cA A bA ka ra pa L x1₀ r0 K' R' P' H locs (F0 m 42 ls [])) (x2 : Int32) (s0 : Int32) (K : Tr) (R : Tr) (P : Tr) (H : Heap) (locs : List Loc) (ls : Array Slot) (h : fJ_X3_readText_J93 k42 x2 s0 K R P = some (r0, K', R', P')) (hP : va_P G vwCl (wRP cA ka ra pa K R_26 P L) H) (hD : va_D A (wRP cA ka ra pa K R_26 P L)) (hS : va_S A s.heap H locs) (hl : lv_has ls 3 [(0, .ref (ra 0)), (2, .int x2)]) : G_X3_readText p l e s m below meth c G cA A bA ka ra pa L x1₀ r0 K' R' P' H locs (F0 m 93 ls []) := by
  obtain ⟨hx, hb, hr, hml, hT, hown, hlocks, hK, hN, hA⟩ := id F
  unfold fJ_X3_readText_J93 at h
  refine lv_iconst (v := 1) hx hb dX3_readText_93 (by decide) ?_
  obtain ⟨⟨r25, R_26⟩, hc27, h⟩ := tx_bd h
  replace h := tx_let (y := r25) rfl h
  replace h := tx_let (y := R_26) rfl h
  refine tw_ci tw_all hP hD hS hA (va_runV (As := [.int s0, .int 1]) (rest := []) ⟨hx, hb, hml, hown, hT⟩ (c_X3_expect l G cA H.size bA ka ra pa K R P L s0 (1 : Int32)  r25 R_26 hc27) (cwV 2 hT (tq_gV kw_16_18 kw_16_19 kw_16_20 kw_1_15 kw_16_21) rfl rfl rfl (by decide +kernel) ⟨Nat.le_of_ble_eq_true rfl, Nat.le_of_ble_eq_true rfl⟩) ⟨(tw_preB tw_all hP hD hK hN hS hA hB).1, va_recv hK hP (ci := 3) (q0 := 3) rfl rfl, (tw_preB tw_all hP hD hK hN hS hA hB).2⟩ rfl rfl hl.1 rfl (lv_room (Nat.le_of_ble_eq_true rfl)) dX3_readText_94 ⟨Nat.le_of_ble_eq_true rfl, Nat.le_of_ble_eq_true rfl⟩) (fun _ _ H locs z28 hP hD hS => ?_)
  subst z28
  rw [List.append_nil] at hP hD
  have hP : va_P G vwCl (wRP cA ka ra pa K R_26 P L) H := hP
  have hD : va_D A (wRP cA ka ra pa K R_26 P L) := hD
  refine lv_if_eq (tgt := 117) hx hb dX3_readText_97 (by decide) (fun c29 => ?_) (fun c29 => ?_)
  · have h := tx_pos c29 h
    obtain ⟨y30, ey30, h⟩ := tx_lt h
    refine lv_iinc (v := y30) (lv' := [(2, .int y30), (0, .ref (ra 0))]) hx hb dX3_readText_117 hl (k := 1) rfl ey30 (by decide) rfl (fun ls hl => ?_)
    refine lv_goto (tgt := 42) hx hb dX3_readText_120 (by decide) ?_
    exact hk42 y30 K R_26 P H locs ls h hP hD hS (lv_sub hl [1, 0] rfl)
  · have h := tx_neg c29 h
    refine lv_aload_n hx hb dX3_readText_100 rfl (lv_at hl 0 rfl) ?_
    refine va_get (D := G) (ci := 3) (v := .ref (ka 0)) (C := RX3) (T := TX3) (N := 10) hx hb hT ku_3 hown hK hP 3 rfl rfl 0 (by decide) (hT _ kw_2_23) (fun _ h9 => h9) rfl dX3_readText_101 ?_
    obtain ⟨K_31, hc32, h⟩ := tx_bd h
    refine tw_cv tw_all hP hD hS hA (va_runV (As := []) (rest := []) ⟨hx, hb, hml, hown, hT⟩ (c_X5_advance l G cA H.size bA ka ra pa K R_26 P L  K_31 hc32) (cwV 0 hT (tq_gV kw_16_23 kw_15_0 kw_15_1 kw_2_22 kw_15_2) rfl rfl rfl (by decide +kernel) ⟨Nat.le_of_ble_eq_true rfl, Nat.le_of_ble_eq_true rfl⟩) ⟨(tw_preB tw_all hP hD hK hN hS hA hB).1, va_recv hK hP (ci := 5) (q0 := 0) rfl rfl, (tw_preB tw_all hP hD hK hN hS hA hB).2⟩ rfl rfl hl.1 rfl (lv_room (Nat.le_of_ble_eq_true rfl)) dX3_readText_104 ⟨Nat.le_of_ble_eq_true rfl, Nat.le_of_ble_eq_true rfl⟩) (fun _ H locs z33 hP hD hS => ?_)
    rw [List.append_nil] at hP hD
    have hP : va_P G vwCl (wRP cA ka ra pa K_31 R_26 P L) H := hP
    have hD : va_D A (wRP cA ka ra pa K_31 R_26 P L) := hD
    refine lv_aload_n hx hb dX3_readText_107 rfl (lv_at hl 0 rfl) ?_
    refine lv_dup hx hb dX3_readText_108 rfl ?_
    refine va_get (D := G) (ci := 3) (v := .int (R_26 0 3)) (C := RX3) (T := TX3) (N := 10) hx hb hT ku_3 hown hK hP 3 rfl rfl 3 (by decide) (hT _ kw_3_2) (fun _ h9 => h9) rfl dX3_readText_109 ?_
    refine lv_iconst (v := 1) hx hb dX3_readText_112 (by decide) ?_
    refine lv_iadd hx hb dX3_readText_113 ?_
    refine va_put (D := G) (ci := 3) (v := .int ((R_26 0 3) + 1)) (ty := .int) (C := RX3) (T := TX3) (N := 10) hx hb hT ku_3 tyX3 tyX3_ok nmX3 hown hK hP hD hS 3 rfl rfl 3 (by decide) (hT _ kw_3_2) (fun _ h9 => h9) rfl (by decide +kernel) rfl rfl (Nat.le_of_ble_eq_true rfl) dX3_readText_114 (fun H locs hP hD hS => ?_)
    obtain ⟨R_34, eR_34, h⟩ := tx_lt h
    rw [sRP_ra_f3, eR_34] at hP hD
    obtain ⟨y35, ey35, h⟩ := tx_lt h
    refine lv_iinc (v := y35) (lv' := [(2, .int y35), (0, .ref (ra 0))]) hx hb dX3_readText_117 hl (k := 1) rfl ey35 (by decide) rfl (fun ls hl => ?_)
    refine lv_goto (tgt := 42) hx hb dX3_readText_120 (by decide) ?_
    exact hk42 y35 K_31 R_34 P H locs ls h hP hD hS (lv_sub hl [1, 0] rfl)
set_option maxHeartbeats 4000000 in
set_option maxRecDepth 100000 in
theorem w_X3_readText_L42 {p : Program} {l : Launch} {e : Env} {s : State} {m : MethodId} {below : List Frame} {meth : Method} {c : Code} {G : va_G} {cA : Nat → ClassId} {A : Nat → Prop} {bA : Nat} {ka : Nat → Nat} {ra : Nat → Nat} {pa : Nat → Nat} {L : Lo} {x1₀ : Int32} {r0 : Int32} {K' : Tr} {R' : Tr} {P' : Tr} (F : tF p s m ([.ref (ra 0), .int x1₀] : List Value).toArray meth c G cA A RX3 cX3_readText 3 (some .boolean)) (hB : tqB bA A s s.heap)    (N : Nat) : ∀ (x2 : Int32) (K : Tr) (R : Tr) (P : Tr) (H : Heap) (locs : List Loc) (ls : Array Slot), lpF (fun _ _ _ _ => none) (fB_X3_readText_L42 ) N x2 K R P = some (r0, K', R', P') → va_P G vwCl (wRP cA ka ra pa K R P L) H → va_D A (wRP cA ka ra pa K R P L) → va_S A s.heap H locs → lv_has ls 3 [(0, .ref (ra 0)), (2, .int x2)] → G_X3_readText p l e s m below meth c G cA A bA ka ra pa L x1₀ r0 K' R' P' H locs (F0 m 42 ls []) := by
  obtain ⟨hx, hb, hr, hml, hT, hown, hlocks, hK, hN, hA⟩ := id F
  induction N with
  | zero =>
    intro x2 K R P H locs ls h
    have h : (none : Option (Int32 × Tr × Tr × Tr)) = some (r0, K', R', P') := h
    cases h
  | succ N hk42 =>
    intro x2 K R P H locs ls h hP hD hS hl
    have h : fB_X3_readText_L42  (lpF (fun _ _ _ _ => none) (fB_X3_readText_L42 ) N) x2 K R P = some (r0, K', R', P') := h
    generalize hk42e : lpF (fun _ _ _ _ => none) (fB_X3_readText_L42 ) N = k42 at h hk42
    unfold fB_X3_readText_L42 at h
    refine lv_iload_n hx hb dX3_readText_42 rfl (lv_at hl 1 rfl) ?_
    refine lv_sipush (v := 700) hx hb dX3_readText_43 (by decide) ?_
    refine lv_icmp_gt (tgt := 123) hx hb dX3_readText_46 (by decide) (fun c12 => ?_) (fun c12 => ?_)
    · have h := tx_pos c12 h
      exact w_X3_readText_J123 F hB K R P H locs ls h hP hD hS (lv_sub hl [0] rfl)
    · have h := tx_neg c12 h
      refine lv_aload_n hx hb dX3_readText_49 rfl (lv_at hl 0 rfl) ?_
      refine va_get (D := G) (ci := 3) (v := .int (R 0 1)) (C := RX3) (T := TX3) (N := 10) hx hb hT ku_3 hown hK hP 3 rfl rfl 1 (by decide) (hT _ kw_3_0) (fun _ h9 => h9) rfl dX3_readText_50 ?_
      refine lv_if_ne (tgt := 123) hx hb dX3_readText_53 (by decide) (fun c14 => ?_) (fun c14 => ?_)
      · have h := tx_neg c14 h
        exact w_X3_readText_J123 F hB K R P H locs ls h hP hD hS (lv_sub hl [0] rfl)
      · have h := tx_pos c14 h
        refine lv_aload_n hx hb dX3_readText_56 rfl (lv_at hl 0 rfl) ?_
        refine va_get (D := G) (ci := 3) (v := .ref (ka 0)) (C := RX3) (T := TX3) (N := 10) hx hb hT ku_3 hown hK hP 3 rfl rfl 0 (by decide) (hT _ kw_2_23) (fun _ h9 => h9) rfl dX3_readText_57 ?_
        refine va_get (D := G) (ci := 5) (v := .int (K 0 1)) (C := RX5) (T := TX5) (N := 8) hx hb hT ku_5 hown hK hP 0 rfl rfl 1 (by decide) (hT _ kw_14_15) (fun _ h9 => h9) rfl dX3_readText_60 ?_
        refine lv_bipush (v := 45) hx hb dX3_readText_63 (by decide) ?_
        refine lv_icmp_eq (tgt := 123) hx hb dX3_readText_65 (by decide) (fun c15 => ?_) (fun c15 => ?_)
        · have h := tx_pos c15 h
          exact w_X3_readText_J123 F hB K R P H locs ls h hP hD hS (lv_sub hl [0] rfl)
        · have h := tx_neg c15 h
          refine lv_aload_n hx hb dX3_readText_68 rfl (lv_at hl 0 rfl) ?_
          obtain ⟨⟨r16, K_17, R_18, P_19⟩, hc20, h⟩ := tx_bd h
          replace h := tx_let (y := r16) rfl h
          replace h := tx_let (y := K_17) rfl h
          replace h := tx_let (y := R_18) rfl h
          replace h := tx_let (y := P_19) rfl h
          refine tw_ci tw_all hP hD hS hA (va_runV (As := []) (rest := []) ⟨hx, hb, hml, hown, hT⟩ (c_X3_readLine l G cA H.size bA ka ra pa K R P L  r16 K_17 R_18 P_19 hc20) (cwV 0 hT (tq_gV kw_16_7 kw_16_8 kw_16_9 kw_1_15 kw_16_10) rfl rfl rfl (by decide +kernel) ⟨Nat.le_of_ble_eq_true rfl, Nat.le_of_ble_eq_true rfl⟩) ⟨(tw_preB tw_all hP hD hK hN hS hA hB).1, va_recv hK hP (ci := 3) (q0 := 3) rfl rfl, (tw_preB tw_all hP hD hK hN hS hA hB).2⟩ rfl rfl hl.1 rfl (lv_room (Nat.le_of_ble_eq_true rfl)) dX3_readText_69 ⟨Nat.le_of_ble_eq_true rfl, Nat.le_of_ble_eq_true rfl⟩) (fun _ _ H locs z21 hP hD hS => ?_)
          subst z21
          rw [List.append_nil] at hP hD
          have hP : va_P G vwCl (wRP cA ka ra pa K_17 R_18 P_19 L) H := hP
          have hD : va_D A (wRP cA ka ra pa K_17 R_18 P_19 L) := hD
          refine lv_if_eq (tgt := 117) hx hb dX3_readText_72 (by decide) (fun c22 => ?_) (fun c22 => ?_)
          · have h := tx_pos c22 h
            obtain ⟨y23, ey23, h⟩ := tx_lt h
            refine lv_iinc (v := y23) (lv' := [(2, .int y23), (0, .ref (ra 0))]) hx hb dX3_readText_117 hl (k := 1) rfl ey23 (by decide) rfl (fun ls hl => ?_)
            refine lv_goto (tgt := 42) hx hb dX3_readText_120 (by decide) ?_
            exact hk42 y23 K_17 R_18 P_19 H locs ls h hP hD hS (lv_sub hl [1, 0] rfl)
          · have h := tx_neg c22 h
            refine lv_aload_n hx hb dX3_readText_75 rfl (lv_at hl 0 rfl) ?_
            refine lv_aload_n hx hb dX3_readText_76 rfl (lv_at hl 0 rfl) ?_
            refine va_get (D := G) (ci := 3) (v := .ref (ka 0)) (C := RX3) (T := TX3) (N := 10) hx hb hT ku_3 hown hK hP 3 rfl rfl 0 (by decide) (hT _ kw_2_23) (fun _ h9 => h9) rfl dX3_readText_77 ?_
            refine va_get (D := G) (ci := 5) (v := .int (K_17 0 1)) (C := RX5) (T := TX5) (N := 8) hx hb hT ku_5 hown hK hP 0 rfl rfl 1 (by decide) (hT _ kw_14_15) (fun _ h9 => h9) rfl dX3_readText_80 ?_
            refine lv_bipush (v := 41) hx hb dX3_readText_83 (by decide) ?_
            refine lv_icmp_ne (tgt := 92) hx hb dX3_readText_85 (by decide) (fun c24 => ?_) (fun c24 => ?_)
            · have h := tx_neg c24 h
              refine lv_iconst (v := 0) hx hb dX3_readText_92 (by decide) ?_
              exact w_X3_readText_J93 F hB k42 hk42 x2 0 K_17 R_18 P_19 H locs ls h hP hD hS (lv_sub hl [0, 1] rfl)
            · have h := tx_pos c24 h
              refine lv_iconst (v := 1) hx hb dX3_readText_88 (by decide) ?_
              refine lv_goto (tgt := 93) hx hb dX3_readText_89 (by decide) ?_
              exact w_X3_readText_J93 F hB k42 hk42 x2 1 K_17 R_18 P_19 H locs ls h hP hD hS (lv_sub hl [0, 1] rfl)
set_option maxHeartbeats 4000000 in
set_option maxRecDepth 100000 in
theorem c_X3_readText (l : Launch) (G : va_G) (cA : Nat → ClassId) (sz : Nat) (bA : Nat) (ka : Nat → Nat) (ra : Nat → Nat) (pa : Nat → Nat) (K : Tr) (R : Tr) (P : Tr) (L : Lo) (x1 : Int32)  (r0 : Int32) (K' : Tr) (R' : Tr) (P' : Tr) (h : f_X3_readText K R P x1 = some (r0, K', R', P')) : Met l yX3_readText (.code yX3_readText cX3_readText 3 (some .boolean) :: T0) ({ frames := 6, cells := 0, slots := 0, locals := 133 } : Room) (tqPB bA G cA [.ref (ra 0), .int x1] (wRP cA ka ra pa K R P L) sz) (tqQi G cA (fun (r : Int32) (_ : Unit) => r = r0) (fun (_ : Unit) => wRP cA ka ra pa (K') (R') (P') L) (va_A (wRP cA ka ra pa K R P L) sz)) 0 0 (va_A (wRP cA ka ra pa K R P L) sz) := by
  refine Met.ofW (cc := cX3_readText) (maxL := 3) (ret := (some .boolean)) (by decide) rfl ?_
  intro p e s m args below meth c s₁ B hml hv
  obtain ⟨rfl, hsz, hP, hK, hD0, hN, hB⟩ := hv
  have hx := B.exec
  have hb := B.bytes
  have hr := B.returns
  have hts := atoms_spec (ws := .code yX3_readText cX3_readText 3 (some .boolean) :: T0) B.pre
  have hT : ∀ w ∈ T0, w.before _ s = true := fun w h => hts w (List.mem_cons_of_mem _ h)
  have hown : s.vm.findClass RX3 = some m.cls := findClass_of_methodNamed B.named
  have hlocks := B.notSynchronized
  subst hsz
  have hD := hD0.self (sz := s.heap.size)
  generalize hAe : va_A (wRP cA ka ra pa K R P L) s.heap.size = A at hD hB ⊢
  have hA : ∀ q : Nat, s.heap.size ≤ q → A q := fun q h => by rw [← hAe]; exact Or.inr h
  have hS : va_S A s.heap s.heap [] := va_S.rf
  have hl := lv_entry ([.ref (ra 0), .int x1]) (n := 3) (Nat.le_of_ble_eq_true rfl)
  rw [lg_entry_eq]
  generalize (lg_sl ([.ref (ra 0), .int x1]) ++ List.replicate (3 - (lg_sl ([.ref (ra 0), .int x1])).length) Slot.unset).toArray = ls at hl ⊢
  have hl : lv_has ls 3 [(0, .ref (ra 0)), (1, .int x1)] := hl
  have F : tF p s m ([.ref (ra 0), .int x1] : List Value).toArray meth c G cA A RX3 cX3_readText 3 (some .boolean) := ⟨hx, hb, hr, hml, hT, hown, hlocks, hK, hN, hA⟩
  obtain ⟨H, hH⟩ : ∃ z, z = s.heap := ⟨_, rfl⟩
  rw [← hH] at hP
  have hS : va_S A s.heap H [] := by rw [hH]; exact hS
  suffices hgo : G_X3_readText p l e s m below meth c G cA A bA ka ra pa L x1 r0 K' R' P' H [] (F0 m 0 ls []) by rw [hH] at hgo; exact hgo
  generalize ([] : List Loc) = locs at hS ⊢
  unfold f_X3_readText at h
  refine lv_aload_n hx hb dX3_readText_0 rfl (lv_at hl 0 rfl) ?_
  refine va_get (D := G) (ci := 3) (v := .ref (pa 0)) (C := RX3) (T := TX3) (N := 10) hx hb hT ku_3 hown hK hP 3 rfl rfl 4 (by decide) (hT _ kw_3_4) (fun _ h9 => h9) rfl dX3_readText_1 ?_
  obtain ⟨P_1, hc2, h⟩ := tx_bd h
  refine tw_cv tw_all hP hD hS hA (va_runV (As := []) (rest := []) ⟨hx, hb, hml, hown, hT⟩ (c_X2_clear l G cA H.size bA ka ra pa K R P L  P_1 hc2) (cwV 0 hT (tq_gV kw_14_16 kw_6_15 kw_6_16 kw_1_19 kw_6_17) rfl rfl rfl (by decide +kernel) ⟨Nat.le_of_ble_eq_true rfl, Nat.le_of_ble_eq_true rfl⟩) ⟨(tw_preB tw_all hP hD hK hN hS hA hB).1, va_recv hK hP (ci := 2) (q0 := 5) rfl rfl, (tw_preB tw_all hP hD hK hN hS hA hB).2⟩ rfl rfl hl.1 rfl (lv_room (Nat.le_of_ble_eq_true rfl)) dX3_readText_4 ⟨Nat.le_of_ble_eq_true rfl, Nat.le_of_ble_eq_true rfl⟩) (fun _ H locs z3 hP hD hS => ?_)
  rw [List.append_nil] at hP hD
  have hP : va_P G vwCl (wRP cA ka ra pa K R P_1 L) H := hP
  have hD : va_D A (wRP cA ka ra pa K R P_1 L) := hD
  refine lv_aload_n hx hb dX3_readText_7 rfl (lv_at hl 0 rfl) ?_
  refine lv_iconst (v := 0) hx hb dX3_readText_8 (by decide) ?_
  refine va_put (D := G) (ci := 3) (v := .int 0) (ty := .int) (C := RX3) (T := TX3) (N := 10) hx hb hT ku_3 tyX3 tyX3_ok nmX3 hown hK hP hD hS 3 rfl rfl 1 (by decide) (hT _ kw_3_0) (fun _ h9 => h9) rfl (by decide +kernel) rfl rfl (Nat.le_of_ble_eq_true rfl) dX3_readText_9 (fun H locs hP hD hS => ?_)
  obtain ⟨R_4, eR_4, h⟩ := tx_lt h
  rw [sRP_ra_f1, eR_4] at hP hD
  refine lv_aload_n hx hb dX3_readText_12 rfl (lv_at hl 0 rfl) ?_
  refine lv_iconst (v := (-1)) hx hb dX3_readText_13 (by decide) ?_
  refine va_put (D := G) (ci := 3) (v := .int (-1)) (ty := .int) (C := RX3) (T := TX3) (N := 10) hx hb hT ku_3 tyX3 tyX3_ok nmX3 hown hK hP hD hS 3 rfl rfl 2 (by decide) (hT _ kw_3_1) (fun _ h9 => h9) rfl (by decide +kernel) rfl rfl (Nat.le_of_ble_eq_true rfl) dX3_readText_14 (fun H locs hP hD hS => ?_)
  obtain ⟨R_5, eR_5, h⟩ := tx_lt h
  rw [sRP_ra_f2, eR_5] at hP hD
  refine lv_aload_n hx hb dX3_readText_17 rfl (lv_at hl 0 rfl) ?_
  refine lv_iconst (v := 0) hx hb dX3_readText_18 (by decide) ?_
  refine va_put (D := G) (ci := 3) (v := .int 0) (ty := .int) (C := RX3) (T := TX3) (N := 10) hx hb hT ku_3 tyX3 tyX3_ok nmX3 hown hK hP hD hS 3 rfl rfl 3 (by decide) (hT _ kw_3_2) (fun _ h9 => h9) rfl (by decide +kernel) rfl rfl (Nat.le_of_ble_eq_true rfl) dX3_readText_19 (fun H locs hP hD hS => ?_)
  obtain ⟨R_6, eR_6, h⟩ := tx_lt h
  rw [sRP_ra_f3, eR_6] at hP hD
  refine lv_aload_n hx hb dX3_readText_22 rfl (lv_at hl 0 rfl) ?_
  refine lv_iconst (v := 0) hx hb dX3_readText_23 (by decide) ?_
  refine va_put (D := G) (ci := 3) (v := .int 0) (ty := .int) (C := RX3) (T := TX3) (N := 10) hx hb hT ku_3 tyX3 tyX3_ok nmX3 hown hK hP hD hS 3 rfl rfl 5 (by decide) (hT _ kw_14_13) (fun _ h9 => h9) rfl (by decide +kernel) rfl rfl (Nat.le_of_ble_eq_true rfl) dX3_readText_24 (fun H locs hP hD hS => ?_)
  obtain ⟨R_7, eR_7, h⟩ := tx_lt h
  rw [sRP_ra_f5, eR_7] at hP hD
  refine lv_aload_n hx hb dX3_readText_27 rfl (lv_at hl 0 rfl) ?_
  refine lv_iconst (v := 0) hx hb dX3_readText_28 (by decide) ?_
  refine va_put (D := G) (ci := 3) (v := .int 0) (ty := .int) (C := RX3) (T := TX3) (N := 10) hx hb hT ku_3 tyX3 tyX3_ok nmX3 hown hK hP hD hS 3 rfl rfl 6 (by decide) (hT _ kw_14_14) (fun _ h9 => h9) rfl (by decide +kernel) rfl rfl (Nat.le_of_ble_eq_true rfl) dX3_readText_29 (fun H locs hP hD hS => ?_)
  obtain ⟨R_8, eR_8, h⟩ := tx_lt h
  rw [sRP_ra_f6, eR_8] at hP hD
  refine lv_aload_n hx hb dX3_readText_32 rfl (lv_at hl 0 rfl) ?_
  refine va_get (D := G) (ci := 3) (v := .ref (ka 0)) (C := RX3) (T := TX3) (N := 10) hx hb hT ku_3 hown hK hP 3 rfl rfl 0 (by decide) (hT _ kw_2_23) (fun _ h9 => h9) rfl dX3_readText_33 ?_
  refine lv_iload_n hx hb dX3_readText_36 rfl (lv_at hl 1 rfl) ?_
  obtain ⟨K_9, hc10, h⟩ := tx_bd h
  refine tw_cv tw_all hP hD hS hA (va_runV (As := [.int x1]) (rest := []) ⟨hx, hb, hml, hown, hT⟩ (c_X5_begin l G cA H.size bA ka ra pa K R_8 P_1 L x1  K_9 hc10) (cwV 1 hT (tq_gV kw_14_17 kw_14_18 kw_14_19 kw_2_22 kw_14_20) rfl rfl rfl (by decide +kernel) ⟨Nat.le_of_ble_eq_true rfl, Nat.le_of_ble_eq_true rfl⟩) ⟨(tw_preB tw_all hP hD hK hN hS hA hB).1, va_recv hK hP (ci := 5) (q0 := 0) rfl rfl, (tw_preB tw_all hP hD hK hN hS hA hB).2⟩ rfl rfl hl.1 rfl (lv_room (Nat.le_of_ble_eq_true rfl)) dX3_readText_37 ⟨Nat.le_of_ble_eq_true rfl, Nat.le_of_ble_eq_true rfl⟩) (fun _ H locs z11 hP hD hS => ?_)
  rw [List.append_nil] at hP hD
  have hP : va_P G vwCl (wRP cA ka ra pa K_9 R_8 P_1 L) H := hP
  have hD : va_D A (wRP cA ka ra pa K_9 R_8 P_1 L) := hD
  refine lv_iconst (v := 0) hx hb dX3_readText_40 (by decide) ?_
  refine lv_istore_n (lv' := [(2, .int 0), (0, .ref (ra 0)), (1, .int x1)]) hx hb dX3_readText_41 rfl hl (by decide) rfl (fun ls hl => ?_)
  exact w_X3_readText_L42 F hB 2000 0 K_9 R_8 P_1 H locs ls h hP hD hS (lv_sub hl [1, 0] rfl)
