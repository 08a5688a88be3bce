set_option maxHeartbeats 4000000 in
set_option maxRecDepth 100000 in
theorem c_X7_person (l : Launch) (hst : l.stackTraces = false) (G : va_G) (cA : Nat → ClassId) (sz : Nat) (xa : Nat → Nat) (ka : Nat → Nat) (ra : Nat → Nat) (na : Nat → Nat) (ia : Nat → Nat) (ua : Nat → Nat) (va : Nat → Nat) (ca : Nat → Nat) (za : Nat → Nat) (pa : Nat → Nat) (qa : Nat → Nat) (X : Tr) (K : Tr) (R : Tr) (P : Tr) (L : Lo) (P2 : Tr) (L2 : Lo) (Tn : Tr) (Ti : Tr) (Tu : Tr) (Tv : Tr) (C : Tr) (Z : Tr) (q0 : Nat) (q1 : Nat) (q2 : Nat) (q3 : Nat) (q4 : Nat) (q5 : Nat) (x1 x2 : Int32) (sP sQ : Nat) (r0 : Int32) (h : f_X7_person pa qa P Tn q4 x1 x2 = some r0) : vx_Met l yX7_person (.code yX7_person cX7_person 3 (some .int) :: T1) ({ frames := 6, cells := 1, slots := 6, locals := 90 }) (tqP3 G cA sP sQ [.ref (xa 0), .int x1, .int x2] (wX cA xa ka ra na ia ua va ca za pa qa X K R P L P2 L2 Tn Ti Tu Tv C Z q0 q1 q2 q3 q4 q5) sz) (va_Qi (fun (_ : Int32) (_ : Unit) => True) (fun _ t => va_P G vwCl (wX cA xa ka ra na ia ua va ca za pa qa X K R P L P2 L2 Tn Ti Tu Tv C Z q0 q1 q2 q3 q4 q5) t.heap ∧ va_D (va_A (wX cA xa ka ra na ia ua va ca za pa qa X K R P L P2 L2 Tn Ti Tu Tv C Z q0 q1 q2 q3 q4 q5) sz) (wX cA xa ka ra na ia ua va ca za pa qa X K R P L P2 L2 Tn Ti Tu Tv C Z q0 q1 q2 q3 q4 q5)) (va_A (wX cA xa ka ra na ia ua va ca za pa qa X K R P L P2 L2 Tn Ti Tu Tv C Z q0 q1 q2 q3 q4 q5) sz)) (vx_X (fun (_ : Unit) => True) (fun E _ t => (E = tqIO ∨ E = tqNE) ∧ va_P G vwCl (wX cA xa ka ra na ia ua va ca za pa qa X K R P L P2 L2 Tn Ti Tu Tv C Z q0 q1 q2 q3 q4 q5) t.heap) (va_A (wX cA xa ka ra na ia ua va ca za pa qa X K R P L P2 L2 Tn Ti Tu Tv C Z q0 q1 q2 q3 q4 q5) sz)) 1 6 (va_A (wX cA xa ka ra na ia ua va ca za pa qa X K R P L P2 L2 Tn Ti Tu Tv C Z q0 q1 q2 q3 q4 q5) sz) := by
  refine vx_ofW (cc := cX7_person) (maxL := 3) (ret := (some .int)) (by decide) rfl ?_
  intro p e s m args below meth c s₁ B hml htab hv
  obtain ⟨rfl, hsz, hP, hK, hD0, hN, hXx⟩ := hv
  have hx := B.exec
  have hb := B.bytes
  have hr := B.returns
  have hts := atoms_spec (ws := .code yX7_person cX7_person 3 (some .int) :: T1) B.pre
  have hT1 : ∀ w ∈ T1, w.before _ s = true := fun w h => hts w (List.mem_cons_of_mem _ h)
  have hT : ∀ w ∈ T0, w.before _ s = true := fun w h => hT1 w (tq_T1 h)
  have hown : s.vm.findClass RX7 = some m.cls := findClass_of_methodNamed B.named
  have hlocks := B.notSynchronized
  subst hsz
  have hD := hD0.self (sz := s.heap.size)
  generalize hAe : va_A (wX cA xa ka ra na ia ua va ca za pa qa X K R P L P2 L2 Tn Ti Tu Tv C Z q0 q1 q2 q3 q4 q5) s.heap.size = A at hD hXx ⊢
  have hA : ∀ q : Nat, s.heap.size ≤ q → A q := fun q h => by rw [← hAe]; exact Or.inr h
  have hS : va_S A s.heap s.heap [] := va_S.rf
  have hl := lv_entry ([.ref (xa 0), .int x1, .int x2]) (n := 3) (Nat.le_of_ble_eq_true rfl)
  rw [lg_entry_eq]
  generalize (lg_sl ([.ref (xa 0), .int x1, .int x2]) ++ List.replicate (3 - (lg_sl ([.ref (xa 0), .int x1, .int x2])).length) Slot.unset).toArray = ls at hl ⊢
  have hl : lv_has ls 3 [(0, .ref (xa 0)), (1, .int x1), (2, .int x2)] := hl
  obtain ⟨H, hH⟩ : ∃ z, z = s.heap := ⟨_, rfl⟩
  rw [← hH] at hP
  have hS : va_S A s.heap H [] := by rw [hH]; exact hS
  suffices hgo : W p l e _ s m _ below meth c H [] 0 0 _ _ by rw [hH] at hgo; exact hgo
  unfold f_X7_person at h
  refine lv_aload_n hx hb dX7_person_0 rfl (lv_at hl 0 rfl) ?_
  refine lv_iload_n hx hb dX7_person_1 rfl (lv_at hl 1 rfl) ?_
  replace h := tx_bd h
  obtain ⟨r1, hc2, h⟩ := h
  refine tw_ci tw_all hP hD hS hA (va_runV (As := [.int x1]) (rest := []) ⟨hx, hb, hml, hown, hT⟩ (c_X7_isPerson l G cA H.size xa ka ra na ia ua va ca za pa qa X K R P L P2 L2 Tn Ti Tu Tv C Z q0 q1 q2 q3 q4 q5 x1  r1 hc2) (cwV 1 hT (tq_gV kw_29_3 kw_29_4 kw_29_5 kw_1_2 kw_29_6) rfl rfl rfl dkdV_yX7_isPerson_1 ⟨Nat.le_of_ble_eq_true rfl, Nat.le_of_ble_eq_true rfl⟩) ⟨(tw_pre tw_all hP hD hK hN).1, va_recv hK hP (ci := 7) (q0 := 0) rfl rfl, (tw_pre tw_all hP hD hK hN).2⟩ rfl rfl hl.1 rfl (lv_room (Nat.le_of_ble_eq_true rfl)) dX7_person_2 ⟨Nat.le_of_ble_eq_true rfl, Nat.le_of_ble_eq_true rfl⟩) (fun _ _ H locs z3 hP hD hS => ?_)
  have z3 := z3.symm
  subst z3
  rw [List.append_nil] at hP hD
  have hP : va_P G vwCl (wX cA xa ka ra na ia ua va ca za pa qa X K R P L P2 L2 Tn Ti Tu Tv C Z q0 q1 q2 q3 q4 q5) H := hP
  have hD : va_D A (wX cA xa ka ra na ia ua va ca za pa qa X K R P L P2 L2 Tn Ti Tu Tv C Z q0 q1 q2 q3 q4 q5) := hD
  refine lv_if_ne (tgt := 18) hx hb dX7_person_5 (by decide) (fun c4 => ?_) (fun c4 => ?_)
  · replace h := tx_neg c4 h
    refine lv_iload_n hx hb dX7_person_18 rfl (lv_at hl 2 rfl) ?_
    by_cases c5 : x2 = 0
    · replace h := tx_pos c5 h
      refine lv_tableIn (off := 33) (tgt := 52) hx hb dX7_person_19 (by rw [c5]; decide) (by rw [c5]; decide) (by rw [c5]; decide) (by decide) ?_
      refine lv_aload_n hx hb dX7_person_52 rfl (lv_at hl 0 rfl) ?_
      refine va_get (D := G) (ci := 7) (v := .ref q4) (C := RX7) (T := TX7) (N := 12) hx hb hT ku_7 hown hK hP 0 rfl rfl 1 (by decide) (hT _ kw_1_20) (fun _ h9 => h9) rfl dX7_person_53 ?_
      replace h := tx_ck h
      obtain ⟨g6, h⟩ := h
      have eg6 := of_decide_eq_true g6
      subst eg6
      refine va_get (D := G) (ci := 2) (v := .ref (pa 11)) (C := RX2) (T := TX2) (N := 19) hx hb hT ku_2 hown hK hP 9 rfl rfl 10 (by decide) (hT _ kw_28_22) (fun _ h9 => h9) rfl dX7_person_56 ?_
      refine lv_iload_n hx hb dX7_person_59 rfl (lv_at hl 1 rfl) ?_
      replace h := tx_ck h
      obtain ⟨g7, h⟩ := h
      refine va_iald (i := x1) hx hb hK hP 13 0 rfl rfl (tx_in g7) dX7_person_60 ?_
      obtain rfl := tx_1 h
      refine vx_ret (W.widen (k := 1) (n := 6) (Nat.le_of_ble_eq_true rfl) (Nat.le_of_ble_eq_true rfl) ?_)
      exact W.iret hx hb hr (fun t ht hW => ⟨⟨_, (), rfl, trivial, by rw [ht]; exact hP, hD⟩, hS.F ht⟩) hS.2.2 dX7_person_61
    · replace h := tx_neg c5 h
      by_cases c8 : x2 = 1
      · replace h := tx_pos c8 h
        refine lv_tableIn (off := 43) (tgt := 62) hx hb dX7_person_19 (by rw [c8]; decide) (by rw [c8]; decide) (by rw [c8]; decide) (by decide) ?_
        refine lv_aload_n hx hb dX7_person_62 rfl (lv_at hl 0 rfl) ?_
        refine va_get (D := G) (ci := 7) (v := .ref q4) (C := RX7) (T := TX7) (N := 12) hx hb hT ku_7 hown hK hP 0 rfl rfl 1 (by decide) (hT _ kw_1_20) (fun _ h9 => h9) rfl dX7_person_63 ?_
        replace h := tx_ck h
        obtain ⟨g9, h⟩ := h
        have eg9 := of_decide_eq_true g9
        subst eg9
        refine va_get (D := G) (ci := 2) (v := .ref (pa 12)) (C := RX2) (T := TX2) (N := 19) hx hb hT ku_2 hown hK hP 9 rfl rfl 11 (by decide) (hT _ kw_28_23) (fun _ h9 => h9) rfl dX7_person_66 ?_
        refine lv_iload_n hx hb dX7_person_69 rfl (lv_at hl 1 rfl) ?_
        replace h := tx_ck h
        obtain ⟨g10, h⟩ := h
        refine va_iald (i := x1) hx hb hK hP 14 0 rfl rfl (tx_in g10) dX7_person_70 ?_
        obtain rfl := tx_1 h
        refine vx_ret (W.widen (k := 1) (n := 6) (Nat.le_of_ble_eq_true rfl) (Nat.le_of_ble_eq_true rfl) ?_)
        exact W.iret hx hb hr (fun t ht hW => ⟨⟨_, (), rfl, trivial, by rw [ht]; exact hP, hD⟩, hS.F ht⟩) hS.2.2 dX7_person_71
      · replace h := tx_neg c8 h
        by_cases c11 : x2 = 2
        · replace h := tx_pos c11 h
          refine lv_tableIn (off := 53) (tgt := 72) hx hb dX7_person_19 (by rw [c11]; decide) (by rw [c11]; decide) (by rw [c11]; decide) (by decide) ?_
          refine lv_aload_n hx hb dX7_person_72 rfl (lv_at hl 0 rfl) ?_
          refine va_get (D := G) (ci := 7) (v := .ref (na 0)) (C := RX7) (T := TX7) (N := 12) hx hb hT ku_7 hown hK hP 0 rfl rfl 2 (by decide) (hT _ kw_2_0) (fun _ h9 => h9) rfl dX7_person_73 ?_
          refine va_get (D := G) (ci := 6) (v := .ref (na 10)) (C := RX6) (T := TX6) (N := 20) hx hb hT ku_6 hown hK hP 53 rfl rfl 9 (by decide) (hT _ kw_29_0) (fun _ h9 => h9) rfl dX7_person_76 ?_
          refine lv_iload_n hx hb dX7_person_79 rfl (lv_at hl 1 rfl) ?_
          replace h := tx_ck h
          obtain ⟨g12, h⟩ := h
          refine va_iald (i := x1) hx hb hK hP 55 0 rfl rfl (tx_in g12) dX7_person_80 ?_
          obtain rfl := tx_1 h
          refine vx_ret (W.widen (k := 1) (n := 6) (Nat.le_of_ble_eq_true rfl) (Nat.le_of_ble_eq_true rfl) ?_)
          exact W.iret hx hb hr (fun t ht hW => ⟨⟨_, (), rfl, trivial, by rw [ht]; exact hP, hD⟩, hS.F ht⟩) hS.2.2 dX7_person_81
        · replace h := tx_neg c11 h
          by_cases c13 : x2 = 3
          · replace h := tx_pos c13 h
            refine lv_tableIn (off := 63) (tgt := 82) hx hb dX7_person_19 (by rw [c13]; decide) (by rw [c13]; decide) (by rw [c13]; decide) (by decide) ?_
            refine lv_aload_n hx hb dX7_person_82 rfl (lv_at hl 0 rfl) ?_
            refine va_get (D := G) (ci := 7) (v := .ref (na 0)) (C := RX7) (T := TX7) (N := 12) hx hb hT ku_7 hown hK hP 0 rfl rfl 2 (by decide) (hT _ kw_2_0) (fun _ h9 => h9) rfl dX7_person_83 ?_
            refine va_get (D := G) (ci := 6) (v := .ref (na 11)) (C := RX6) (T := TX6) (N := 20) hx hb hT ku_6 hown hK hP 53 rfl rfl 10 (by decide) (hT _ kw_29_1) (fun _ h9 => h9) rfl dX7_person_86 ?_
            refine lv_iload_n hx hb dX7_person_89 rfl (lv_at hl 1 rfl) ?_
            replace h := tx_ck h
            obtain ⟨g14, h⟩ := h
            refine va_iald (i := x1) hx hb hK hP 56 0 rfl rfl (tx_in g14) dX7_person_90 ?_
            obtain rfl := tx_1 h
            refine vx_ret (W.widen (k := 1) (n := 6) (Nat.le_of_ble_eq_true rfl) (Nat.le_of_ble_eq_true rfl) ?_)
            exact W.iret hx hb hr (fun t ht hW => ⟨⟨_, (), rfl, trivial, by rw [ht]; exact hP, hD⟩, hS.F ht⟩) hS.2.2 dX7_person_91
          · replace h := tx_neg c13 h
            by_cases c15 : x2 = 4
            · replace h := tx_pos c15 h
              refine lv_tableIn (off := 73) (tgt := 92) hx hb dX7_person_19 (by rw [c15]; decide) (by rw [c15]; decide) (by rw [c15]; decide) (by decide) ?_
              refine lv_aload_n hx hb dX7_person_92 rfl (lv_at hl 0 rfl) ?_
              refine va_get (D := G) (ci := 7) (v := .ref (na 0)) (C := RX7) (T := TX7) (N := 12) hx hb hT ku_7 hown hK hP 0 rfl rfl 2 (by decide) (hT _ kw_2_0) (fun _ h9 => h9) rfl dX7_person_93 ?_
              refine va_get (D := G) (ci := 6) (v := .ref (na 12)) (C := RX6) (T := TX6) (N := 20) hx hb hT ku_6 hown hK hP 53 rfl rfl 11 (by decide) (hT _ kw_29_2) (fun _ h9 => h9) rfl dX7_person_96 ?_
              refine lv_iload_n hx hb dX7_person_99 rfl (lv_at hl 1 rfl) ?_
              replace h := tx_ck h
              obtain ⟨g16, h⟩ := h
              refine va_iald (i := x1) hx hb hK hP 57 0 rfl rfl (tx_in g16) dX7_person_100 ?_
              obtain rfl := tx_1 h
              refine vx_ret (W.widen (k := 1) (n := 6) (Nat.le_of_ble_eq_true rfl) (Nat.le_of_ble_eq_true rfl) ?_)
              exact W.iret hx hb hr (fun t ht hW => ⟨⟨_, (), rfl, trivial, by rw [ht]; exact hP, hD⟩, hS.F ht⟩) hS.2.2 dX7_person_101
            · replace h := tx_neg c15 h
              have kc5 := tq_eqn (a := x2.toInt) (b := 0) rfl (by decide) c5
              have kc8 := tq_eqn (a := x2.toInt) (b := 1) rfl (by decide) c8
              have kc11 := tq_eqn (a := x2.toInt) (b := 2) rfl (by decide) c11
              have kc13 := tq_eqn (a := x2.toInt) (b := 3) rfl (by decide) c13
              have kc15 := tq_eqn (a := x2.toInt) (b := 4) rfl (by decide) c15
              refine lv_tableOut (tgt := 102) hx hb dX7_person_19 (by omega) (by decide) ?_
              refine tq_throwX (text := "no such what") (Yn := "java/lang/RuntimeException") (r := ["java/lang/Exception"]) (ix := 13) (rx := neC) (cls := tqNE) (own := RX7) (sa := sQ) (is := 139) (ic := 141) (ik := 137) hx hb hst hown (by decide +kernel) (by decide +kernel) (by decide +kernel) (by decide +kernel) (by decide +kernel) (by decide +kernel) (by decide +kernel) (hT _ kw_28_20) (hT _ kw_28_21) hXx.1.2 (vx_hat (B := [.castable tqNE tqNE, .declares (Bundle.initS "java/lang/RuntimeException"), .declares (Bundle.initS "java/lang/Exception"), .declares (Bundle.initS Bundle.tN)]) (fun w h => hT1 w (tq_XV h)) (by decide +kernel) (vx_c (va_Nw.use rfl hXx.2.1.2.1) (vx_c (va_Nw.use rfl hXx.2.2.1.1) (vx_c (va_Nw.use rfl hXx.2.2.1.2.1) (vx_c (va_Nw.use rfl hXx.2.2.1.2.2) vx_n))))) (by decide +kernel) hXx.2.2.2.1 hXx.2.2.2.2 hS (hl.1.trans hml.symm) dX7_person_102 dX7_person_105 dX7_person_106 dX7_person_108 dX7_person_111 (fun z hz => (htab z hz).elim) (by decide) (by decide) (by decide) (by decide) hlocks ?_ (fun z hz => hS.2.2 z hz) (by decide) (by decide)
              intro t hvm h1 h2
              exact ⟨(), trivial, ⟨Or.inr rfl, tw_same hP h2⟩, Nat.le_trans hS.1 h1, fun q hq hn => by rw [h2 q (Nat.lt_of_lt_of_le hq hS.1)]; exact hS.2.1 q hq hn⟩
  · replace h := tx_pos c4 h
    refine vx_throwS (text := "no such person") (names := ["java/lang/RuntimeException", "java/lang/Exception"]) (cls := tqIO) (own := RX7) (sa := sP) (is := 117) (ic := 119) (ik := 115) hx hb hst hown (by decide +kernel) (by decide +kernel) (hT _ kw_28_18) (hT _ kw_28_19) hXx.1.1 (vx_hat (B := [.castable tqIO tqIO, .declares (Bundle.initS "java/lang/RuntimeException"), .declares (Bundle.initS "java/lang/Exception"), .declares (Bundle.initS Bundle.tN)]) (fun w h => hT1 w (tq_XW h)) (by decide +kernel) (vx_c (va_Nw.use rfl hXx.2.1.1) (vx_c (va_Nw.use rfl hXx.2.2.1.1) (vx_c (va_Nw.use rfl hXx.2.2.1.2.1) (vx_c (va_Nw.use rfl hXx.2.2.1.2.2) vx_n))))) (by decide +kernel) hXx.2.2.2.1 hXx.2.2.2.2 hS (hl.1.trans hml.symm) dX7_person_8 dX7_person_11 dX7_person_12 dX7_person_14 dX7_person_17 (fun z hz => (htab z hz).elim) (by decide) (by decide) (by decide) (by decide) hlocks ?_ (fun z hz => hS.2.2 z hz) (by decide) (by decide)
    intro t hvm h1 h2
    exact ⟨(), trivial, ⟨Or.inl rfl, tw_same hP h2⟩, Nat.le_trans hS.1 h1, fun q hq hn => by rw [h2 q (Nat.lt_of_lt_of_le hq hS.1)]; exact hS.2.1 q hq hn⟩

