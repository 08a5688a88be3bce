abbrev G_X7_missed (p : Program) (l : Launch) (e : Env) (s : State) (m : MethodId) (below : List Frame) (meth : Method) (c : Code) (G : va_G) (cA : Nat → ClassId) (A : Nat → Prop) (xa : Nat → Nat) (ka : Nat → Nat) (ra : Nat → Nat) (na : Nat → Nat) (ia : Nat → Nat) (ua : Nat → Nat) (va : Nat → Nat) (ca : Nat → Nat) (za : Nat → Nat) (pa : Nat → Nat) (qa : Nat → Nat) (X : Tr) (K : Tr) (R : Tr) (P : Tr) (P2 : Tr) (L2 : Lo) (Tn : Tr) (Ti : Tr) (C : Tr) (Z : Tr) (q0 : Nat) (q1 : Nat) (q4 : Nat) (q5 : Nat) (x1 : Int32) (r0 : Int32) (L' : Lo) (Tu' : Tr) (Tv' : Tr) (q2' : Nat) (q3' : Nat) (H : Heap) (locs : List Loc) (g : JFrame) : Prop := W p l e (headSpec (.code yX7_missed cX7_missed 4 (some .int) :: T0) ({ frames := 6, cells := 0, slots := 0, locals := 144 } : Room)).room s m ([.ref (xa 0), .int x1] : List Value).toArray below meth c H locs 0 0 (MQ below (tqQi G cA (fun (r : Int32) (_ : Unit) => r = r0) (fun (_ : Unit) => wX cA xa ka ra na ia ua va ca za pa qa X K R P (L') P2 L2 Tn Ti (Tu') (Tv') C Z q0 q1 (q2') (q3') q4 q5) A) ([.ref (xa 0), .int x1] : List Value).toArray s 0 0 A) g
set_option maxHeartbeats 4000000 in
set_option maxRecDepth 100000 in
theorem w_X7_missed_J69 {p : Program} {l : Launch} {e : Env} {s : State} {m : MethodId} {below : List Frame} {meth : Method} {c : Code} {G : va_G} {cA : Nat → ClassId} {A : Nat → Prop} {xa : Nat → Nat} {ka : Nat → Nat} {ra : Nat → Nat} {na : Nat → Nat} {ia : Nat → Nat} {ua : Nat → Nat} {va : Nat → Nat} {ca : Nat → Nat} {za : Nat → Nat} {pa : Nat → Nat} {qa : Nat → Nat} {X : Tr} {K : Tr} {R : Tr} {P : Tr} {P2 : Tr} {L2 : Lo} {Tn : Tr} {Ti : Tr} {C : Tr} {Z : Tr} {q0 : Nat} {q1 : Nat} {q4 : Nat} {q5 : Nat} {x1₀ : Int32} {r0 : Int32} {L' : Lo} {Tu' : Tr} {Tv' : Tr} {q2' : Nat} {q3' : Nat} (F : tF p s m ([.ref (xa 0), .int x1₀] : List Value).toArray meth c G cA A RX7 cX7_missed 4 (some .int))    (x1 : Int32) (x2 : Int32) (x3 : Int32) (L : Lo) (Tu : Tr) (Tv : Tr) (q2 : Nat) (q3 : Nat) (H : Heap) (locs : List Loc) (ls : Array Slot) (h : fJ_X7_missed_J69 pa qa P Tn q0 q4 x1 x2 x3 L Tu Tv q2 q3 = some (r0, L', Tu', Tv', q2', q3')) (hP : va_P G vwCl (wX cA xa ka ra na ia ua va ca za pa qa X K R P L P2 L2 Tn Ti Tu Tv C Z q0 q1 q2 q3 q4 q5) H) (hD : va_D A (wX cA xa ka ra na ia ua va ca za pa qa X K R P L P2 L2 Tn Ti Tu Tv C Z q0 q1 q2 q3 q4 q5)) (hS : va_S A s.heap H locs) (hl : lv_has ls 4 [(0, .ref (xa 0)), (1, .int x1), (2, .int x2), (3, .int x3)]) : G_X7_missed p l e s m below meth c G cA A xa ka ra na ia ua va ca za pa qa X K R P P2 L2 Tn Ti C Z q0 q1 q4 q5 x1₀ r0 L' Tu' Tv' q2' q3' H locs (F0 m 69 ls []) := by
  obtain ⟨hx, hb, hr, hml, hT, hown, hlocks, hK, hN, hA⟩ := id F
  unfold fJ_X7_missed_J69 at h
  refine lv_iload_n hx hb dX7_missed_69 rfl (lv_at hl 1 rfl) ?_
  refine lv_if_ne (tgt := 77) hx hb dX7_missed_70 (by decide) (fun c33 => ?_) (fun c33 => ?_)
  · have h := tx_neg c33 h
    refine lv_aload_n hx hb dX7_missed_77 rfl (lv_at hl 0 rfl) ?_
    refine va_get (D := G) (ci := 7) (v := .ref (va 0)) (C := RX7) (T := TX7) (N := 12) hx hb hT ku_7 hown hK hP 0 rfl rfl 6 (by decide) (hT _ kw_2_4) (fun _ h9 => h9) rfl dX7_missed_78 ?_
    refine lv_ldcw (v := 1000000) hx hb hown (hT _ kw_52_2) dX7_missed_81 ?_
    obtain ⟨g34, h⟩ := tx_ck h
    have eg34 := of_decide_eq_true g34
    subst eg34
    obtain ⟨⟨r35, Tv_36, L_37⟩, hc38, h⟩ := tx_bd h
    replace h := tx_let (y := r35) rfl h
    replace h := tx_let (y := Tv_36) rfl h
    replace h := tx_let (y := L_37) rfl h
    refine tw_ci pX_va hP hD hS hA (va_runV (As := [.int 1000000]) (rest := []) ⟨hx, hb, hml, hown, hT⟩ (c_X6_takeDown l G cA H.size va pa Tv P L (1000000 : Int32)  r35 Tv_36 L_37 hc38) (cwV 1 hT (tq_gV kw_46_23 kw_40_13 kw_40_14 kw_1_23 kw_40_15) rfl rfl rfl (by decide +kernel) ⟨Nat.le_of_ble_eq_true rfl, Nat.le_of_ble_eq_true rfl⟩) ⟨(tw_pre pX_va hP hD hK hN).1, va_recv hK hP (ci := 6) (q0 := 89) rfl rfl, (tw_pre pX_va hP hD hK hN).2⟩ rfl rfl hl.1 rfl (lv_room (Nat.le_of_ble_eq_true rfl)) dX7_missed_84 ⟨Nat.le_of_ble_eq_true rfl, Nat.le_of_ble_eq_true rfl⟩) (fun _ _ H locs z39 hP hD hS => ?_)
    subst z39
    replace hP := tw_P pX_va.symm hP
    replace hD := tw_D pX_va.symm hD
    have hP : va_P G vwCl (wX cA xa ka ra na ia ua va ca za pa qa X K R P L_37 P2 L2 Tn Ti Tu Tv_36 C Z q0 q1 q2 (pa 0) q4 q5) H := hP
    have hD : va_D A (wX cA xa ka ra na ia ua va ca za pa qa X K R P L_37 P2 L2 Tn Ti Tu Tv_36 C Z q0 q1 q2 (pa 0) q4 q5) := hD
    refine lv_aload_n hx hb dX7_missed_87 rfl (lv_at hl 0 rfl) ?_
    refine va_get (D := G) (ci := 7) (v := .ref q4) (C := RX7) (T := TX7) (N := 12) hx hb hT ku_7 hown hK hP 0 rfl rfl 1 (by decide) (hT _ kw_1_20) (fun _ h9 => h9) rfl dX7_missed_88 ?_
    obtain ⟨g40, h⟩ := tx_ck h
    have eg40 := of_decide_eq_true g40
    subst eg40
    refine va_get (D := G) (ci := 2) (v := .ref (pa 18)) (C := RX2) (T := TX2) (N := 19) hx hb hT ku_2 hown hK hP 9 rfl rfl 17 (by decide) (hT _ kw_32_23) (fun _ h9 => h9) rfl dX7_missed_91 ?_
    refine lv_iload_n hx hb dX7_missed_94 rfl (lv_at hl 2 rfl) ?_
    obtain ⟨g41, h⟩ := tx_ck h
    refine va_iald (i := x2) hx hb hK hP 20 0 rfl rfl (tx_in g41) dX7_missed_95 ?_
    refine lv_isub hx hb dX7_missed_96 ?_
    obtain ⟨rfl, rfl, rfl, rfl, rfl, rfl⟩ := tx_6 h
    exact W.iret hx hb hr (fun t ht hW => ⟨⟨_, (), rfl, rfl, by rw [ht]; exact hP, hD⟩, hS.F ht⟩) hS.2.2 dX7_missed_97
  · have h := tx_pos c33 h
    refine lv_iload_n hx hb dX7_missed_73 rfl (lv_at hl 3 rfl) ?_
    refine lv_goto (tgt := 97) hx hb dX7_missed_74 (by decide) ?_
    obtain ⟨rfl, rfl, rfl, rfl, rfl, rfl⟩ := tx_6 h
    exact W.iret hx hb hr (fun t ht hW => ⟨⟨_, (), rfl, rfl, by rw [ht]; exact hP, hD⟩, hS.F ht⟩) hS.2.2 dX7_missed_97
set_option maxHeartbeats 4000000 in
set_option maxRecDepth 100000 in
theorem w_X7_missed_L23 {p : Program} {l : Launch} {e : Env} {s : State} {m : MethodId} {below : List Frame} {meth : Method} {c : Code} {G : va_G} {cA : Nat → ClassId} {A : Nat → Prop} {xa : Nat → Nat} {ka : Nat → Nat} {ra : Nat → Nat} {na : Nat → Nat} {ia : Nat → Nat} {ua : Nat → Nat} {va : Nat → Nat} {ca : Nat → Nat} {za : Nat → Nat} {pa : Nat → Nat} {qa : Nat → Nat} {X : Tr} {K : Tr} {R : Tr} {P : Tr} {P2 : Tr} {L2 : Lo} {Tn : Tr} {Ti : Tr} {C : Tr} {Z : Tr} {q0 : Nat} {q1 : Nat} {q4 : Nat} {q5 : Nat} {x1₀ : Int32} {r0 : Int32} {L' : Lo} {Tu' : Tr} {Tv' : Tr} {q2' : Nat} {q3' : Nat} {q2 : Nat} {x1 : Int32} (F : tF p s m ([.ref (xa 0), .int x1₀] : List Value).toArray meth c G cA A RX7 cX7_missed 4 (some .int))    (N : Nat) : ∀ (x2 : Int32) (L : Lo) (Tu : Tr) (Tv : Tr) (q3 : Nat) (H : Heap) (locs : List Loc) (ls : Array Slot), lpF (fun _ _ _ _ _ => none) (fB_X7_missed_L23 pa qa P Tn q0 q2 q4 x1) N x2 L Tu Tv q3 = some (r0, L', Tu', Tv', q2', q3') → va_P G vwCl (wX cA xa ka ra na ia ua va ca za pa qa X K R P L P2 L2 Tn Ti Tu Tv C Z q0 q1 q2 q3 q4 q5) H → va_D A (wX cA xa ka ra na ia ua va ca za pa qa X K R P L P2 L2 Tn Ti Tu Tv C Z q0 q1 q2 q3 q4 q5) → va_S A s.heap H locs → lv_has ls 4 [(0, .ref (xa 0)), (1, .int x1), (2, .int x2)] → G_X7_missed p l e s m below meth c G cA A xa ka ra na ia ua va ca za pa qa X K R P P2 L2 Tn Ti C Z q0 q1 q4 q5 x1₀ r0 L' Tu' Tv' q2' q3' H locs (F0 m 23 ls []) := by
  obtain ⟨hx, hb, hr, hml, hT, hown, hlocks, hK, hN, hA⟩ := id F
  induction N with
  | zero =>
    intro x2 L Tu Tv q3 H locs ls h
    have h : (none : Option (Int32 × Lo × Tr × Tr × Nat × Nat)) = some (r0, L', Tu', Tv', q2', q3') := h
    cases h
  | succ N hk23 =>
    intro x2 L Tu Tv q3 H locs ls h hP hD hS hl
    have h : fB_X7_missed_L23 pa qa P Tn q0 q2 q4 x1 (lpF (fun _ _ _ _ _ => none) (fB_X7_missed_L23 pa qa P Tn q0 q2 q4 x1) N) x2 L Tu Tv q3 = some (r0, L', Tu', Tv', q2', q3') := h
    generalize hk23e : lpF (fun _ _ _ _ _ => none) (fB_X7_missed_L23 pa qa P Tn q0 q2 q4 x1) N = k23 at h hk23
    unfold fB_X7_missed_L23 at h
    refine lv_iload_n hx hb dX7_missed_23 rfl (lv_at hl 2 rfl) ?_
    refine lv_bipush (v := 20) hx hb dX7_missed_24 (by decide) ?_
    refine lv_icmp_gt (tgt := 118) hx hb dX7_missed_26 (by decide) (fun c8 => ?_) (fun c8 => ?_)
    · have h := tx_pos c8 h
      refine lv_bipush (v := (-2)) hx hb dX7_missed_118 (by decide) ?_
      obtain ⟨rfl, rfl, rfl, rfl, rfl, rfl⟩ := tx_6 h
      exact W.iret hx hb hr (fun t ht hW => ⟨⟨_, (), rfl, rfl, by rw [ht]; exact hP, hD⟩, hS.F ht⟩) hS.2.2 dX7_missed_120
    · have h := tx_neg c8 h
      refine lv_aload_n hx hb dX7_missed_29 rfl (lv_at hl 0 rfl) ?_
      refine va_get (D := G) (ci := 7) (v := .ref (va 0)) (C := RX7) (T := TX7) (N := 12) hx hb hT ku_7 hown hK hP 0 rfl rfl 6 (by decide) (hT _ kw_2_4) (fun _ h9 => h9) rfl dX7_missed_30 ?_
      refine lv_aload_n hx hb dX7_missed_33 rfl (lv_at hl 0 rfl) ?_
      refine va_get (D := G) (ci := 7) (v := .ref (ua 0)) (C := RX7) (T := TX7) (N := 12) hx hb hT ku_7 hown hK hP 0 rfl rfl 5 (by decide) (hT _ kw_2_3) (fun _ h9 => h9) rfl dX7_missed_34 ?_
      obtain ⟨⟨Tv_9, q3_10⟩, hc11, h⟩ := tx_bd h
      replace h := tx_let (y := Tv_9) rfl h
      replace h := tx_let (y := q3_10) rfl h
      refine tw_cv pX_va_ua hP hD hS hA (va_runV (As := [.ref (ua 0)]) (rest := []) ⟨hx, hb, hml, hown, hT⟩ (c_X6_copy l G cA H.size va ua Tv Tu q3 q2  Tv_9 q3_10 hc11) (cwV 1 hT (tq_gV kw_38_6 kw_38_7 kw_38_8 kw_1_23 kw_38_9) rfl rfl rfl (by decide +kernel) ⟨Nat.le_of_ble_eq_true rfl, Nat.le_of_ble_eq_true rfl⟩) ⟨(tw_pre pX_va_ua hP hD hK hN).1, va_recv hK hP (ci := 6) (q0 := 89) rfl rfl, (tw_pre pX_va_ua hP hD hK hN).2⟩ rfl rfl hl.1 rfl (lv_room (Nat.le_of_ble_eq_true rfl)) dX7_missed_37 ⟨Nat.le_of_ble_eq_true rfl, Nat.le_of_ble_eq_true rfl⟩) (fun _ H locs z12 hP hD hS => ?_)
      replace hP := tw_P pX_va_ua.symm hP
      replace hD := tw_D pX_va_ua.symm hD
      have hP : va_P G vwCl (wX cA xa ka ra na ia ua va ca za pa qa X K R P L P2 L2 Tn Ti Tu Tv_9 C Z q0 q1 q2 q3_10 q4 q5) H := hP
      have hD : va_D A (wX cA xa ka ra na ia ua va ca za pa qa X K R P L P2 L2 Tn Ti Tu Tv_9 C Z q0 q1 q2 q3_10 q4 q5) := hD
      refine lv_aload_n hx hb dX7_missed_40 rfl (lv_at hl 0 rfl) ?_
      refine va_get (D := G) (ci := 7) (v := .ref (ua 0)) (C := RX7) (T := TX7) (N := 12) hx hb hT ku_7 hown hK hP 0 rfl rfl 5 (by decide) (hT _ kw_2_3) (fun _ h9 => h9) rfl dX7_missed_41 ?_
      refine lv_aload_n hx hb dX7_missed_44 rfl (lv_at hl 0 rfl) ?_
      refine va_get (D := G) (ci := 7) (v := .ref q4) (C := RX7) (T := TX7) (N := 12) hx hb hT ku_7 hown hK hP 0 rfl rfl 1 (by decide) (hT _ kw_1_20) (fun _ h9 => h9) rfl dX7_missed_45 ?_
      obtain ⟨g13, h⟩ := tx_ck h
      have eg13 := of_decide_eq_true g13
      subst eg13
      refine va_get (D := G) (ci := 2) (v := .ref (pa 18)) (C := RX2) (T := TX2) (N := 19) hx hb hT ku_2 hown hK hP 9 rfl rfl 17 (by decide) (hT _ kw_32_23) (fun _ h9 => h9) rfl dX7_missed_48 ?_
      refine lv_iload_n hx hb dX7_missed_51 rfl (lv_at hl 2 rfl) ?_
      obtain ⟨g14, h⟩ := tx_ck h
      refine va_iald (i := x2) hx hb hK hP 20 0 rfl rfl (tx_in g14) dX7_missed_52 ?_
      obtain ⟨g15, h⟩ := tx_ck h
      have eg15 := of_decide_eq_true g15
      subst eg15
      obtain ⟨⟨r16, Tu_17, L_18⟩, hc19, h⟩ := tx_bd h
      replace h := tx_let (y := r16) rfl h
      replace h := tx_let (y := Tu_17) rfl h
      replace h := tx_let (y := L_18) rfl h
      refine tw_ci pX_ua hP hD hS hA (va_runV (As := [.int (P 18 x2.toNatClampNeg)]) (rest := []) ⟨hx, hb, hml, hown, hT⟩ (c_X6_takeDown l G cA H.size ua pa Tu P L (P 18 x2.toNatClampNeg)  r16 Tu_17 L_18 hc19) (cwV 1 hT (tq_gV kw_46_23 kw_40_13 kw_40_14 kw_1_23 kw_40_15) rfl rfl rfl (by decide +kernel) ⟨Nat.le_of_ble_eq_true rfl, Nat.le_of_ble_eq_true rfl⟩) ⟨(tw_pre pX_ua hP hD hK hN).1, va_recv hK hP (ci := 6) (q0 := 77) rfl rfl, (tw_pre pX_ua hP hD hK hN).2⟩ rfl rfl hl.1 rfl (lv_room (Nat.le_of_ble_eq_true rfl)) dX7_missed_53 ⟨Nat.le_of_ble_eq_true rfl, Nat.le_of_ble_eq_true rfl⟩) (fun _ _ H locs z20 hP hD hS => ?_)
      subst z20
      replace hP := tw_P pX_ua.symm hP
      replace hD := tw_D pX_ua.symm hD
      have hP : va_P G vwCl (wX cA xa ka ra na ia ua va ca za pa qa X K R P L_18 P2 L2 Tn Ti Tu_17 Tv_9 C Z q0 q1 (pa 0) q3_10 (pa 0) q5) H := hP
      have hD : va_D A (wX cA xa ka ra na ia ua va ca za pa qa X K R P L_18 P2 L2 Tn Ti Tu_17 Tv_9 C Z q0 q1 (pa 0) q3_10 (pa 0) q5) := hD
      refine lv_pop hx hb dX7_missed_56 rfl ?_
      refine lv_aload_n hx hb dX7_missed_57 rfl (lv_at hl 0 rfl) ?_
      refine va_get (D := G) (ci := 7) (v := .ref (ua 0)) (C := RX7) (T := TX7) (N := 12) hx hb hT ku_7 hown hK hP 0 rfl rfl 5 (by decide) (hT _ kw_2_3) (fun _ h9 => h9) rfl dX7_missed_58 ?_
      obtain ⟨r21, hc22, h⟩ := tx_bd h
      refine tw_ci pX_ua hP hD hS hA (va_runV (As := []) (rest := []) ⟨hx, hb, hml, hown, hT⟩ (c_X6_firstLate l G cA H.size ua pa Tu_17 P L_18  r21 hc22) (cwV 0 hT (tq_gV kw_52_11 kw_52_12 kw_52_13 kw_1_23 kw_52_14) rfl rfl rfl (by decide +kernel) ⟨Nat.le_of_ble_eq_true rfl, Nat.le_of_ble_eq_true rfl⟩) ⟨(tw_pre pX_ua hP hD hK hN).1, va_recv hK hP (ci := 6) (q0 := 77) rfl rfl, (tw_pre pX_ua hP hD hK hN).2⟩ rfl rfl hl.1 rfl (lv_room (Nat.le_of_ble_eq_true rfl)) dX7_missed_61 ⟨Nat.le_of_ble_eq_true rfl, Nat.le_of_ble_eq_true rfl⟩) (fun _ _ H locs z23 hP hD hS => ?_)
      subst z23
      replace hP := tw_P pX_ua.symm hP
      replace hD := tw_D pX_ua.symm hD
      have hP : va_P G vwCl (wX cA xa ka ra na ia ua va ca za pa qa X K R P L_18 P2 L2 Tn Ti Tu_17 Tv_9 C Z q0 q1 (pa 0) q3_10 (pa 0) q5) H := hP
      have hD : va_D A (wX cA xa ka ra na ia ua va ca za pa qa X K R P L_18 P2 L2 Tn Ti Tu_17 Tv_9 C Z q0 q1 (pa 0) q3_10 (pa 0) q5) := hD
      refine lv_istore_n (lv' := [(3, .int r21), (0, .ref (xa 0)), (1, .int x1), (2, .int x2)]) hx hb dX7_missed_64 rfl hl (by decide) rfl (fun ls hl => ?_)
      refine lv_iload_n hx hb dX7_missed_65 rfl (lv_at hl 0 rfl) ?_
      refine lv_if_lt (tgt := 98) hx hb dX7_missed_66 (by decide) (fun c24 => ?_) (fun c24 => ?_)
      · have h := tx_pos c24 h
        refine lv_aload_n hx hb dX7_missed_98 rfl (lv_at hl 1 rfl) ?_
        refine va_get (D := G) (ci := 7) (v := .ref (ua 0)) (C := RX7) (T := TX7) (N := 12) hx hb hT ku_7 hown hK hP 0 rfl rfl 5 (by decide) (hT _ kw_2_3) (fun _ h9 => h9) rfl dX7_missed_99 ?_
        obtain ⟨Tu_25, hc26, h⟩ := tx_bd h
        refine tw_cv pX_ua hP hD hS hA (va_runV (As := []) (rest := []) ⟨hx, hb, hml, hown, hT⟩ (c_X6_getIn l G cA H.size ua pa Tu_17 P L_18  Tu_25 hc26) (cwV 0 hT (tq_gV kw_47_4 kw_41_13 kw_41_14 kw_1_23 kw_41_15) rfl rfl rfl (by decide +kernel) ⟨Nat.le_of_ble_eq_true rfl, Nat.le_of_ble_eq_true rfl⟩) ⟨(tw_pre pX_ua hP hD hK hN).1, va_recv hK hP (ci := 6) (q0 := 77) rfl rfl, (tw_pre pX_ua hP hD hK hN).2⟩ rfl rfl hl.1 rfl (lv_room (Nat.le_of_ble_eq_true rfl)) dX7_missed_102 ⟨Nat.le_of_ble_eq_true rfl, Nat.le_of_ble_eq_true rfl⟩) (fun _ H locs z27 hP hD hS => ?_)
        replace hP := tw_P pX_ua.symm hP
        replace hD := tw_D pX_ua.symm hD
        have hP : va_P G vwCl (wX cA xa ka ra na ia ua va ca za pa qa X K R P L_18 P2 L2 Tn Ti Tu_25 Tv_9 C Z q0 q1 (pa 0) q3_10 (pa 0) q5) H := hP
        have hD : va_D A (wX cA xa ka ra na ia ua va ca za pa qa X K R P L_18 P2 L2 Tn Ti Tu_25 Tv_9 C Z q0 q1 (pa 0) q3_10 (pa 0) q5) := hD
        refine lv_aload_n hx hb dX7_missed_105 rfl (lv_at hl 1 rfl) ?_
        refine va_get (D := G) (ci := 7) (v := .ref (ua 0)) (C := RX7) (T := TX7) (N := 12) hx hb hT ku_7 hown hK hP 0 rfl rfl 5 (by decide) (hT _ kw_2_3) (fun _ h9 => h9) rfl dX7_missed_106 ?_
        obtain ⟨⟨Tu_28, L_29⟩, hc30, h⟩ := tx_bd h
        replace h := tx_let (y := Tu_28) rfl h
        replace h := tx_let (y := L_29) rfl h
        refine tw_cv pX_ua hP hD hS hA (va_runV (As := []) (rest := []) ⟨hx, hb, hml, hown, hT⟩ (c_X6_wayOn l G cA H.size ua pa Tu_25 P L_18  Tu_28 L_29 hc30) (cwV 0 hT (tq_gV kw_47_9 kw_42_4 kw_42_5 kw_1_23 kw_42_6) rfl rfl rfl (by decide +kernel) ⟨Nat.le_of_ble_eq_true rfl, Nat.le_of_ble_eq_true rfl⟩) ⟨(tw_pre pX_ua hP hD hK hN).1, va_recv hK hP (ci := 6) (q0 := 77) rfl rfl, (tw_pre pX_ua hP hD hK hN).2⟩ rfl rfl hl.1 rfl (lv_room (Nat.le_of_ble_eq_true rfl)) dX7_missed_109 ⟨Nat.le_of_ble_eq_true rfl, Nat.le_of_ble_eq_true rfl⟩) (fun _ H locs z31 hP hD hS => ?_)
        replace hP := tw_P pX_ua.symm hP
        replace hD := tw_D pX_ua.symm hD
        have hP : va_P G vwCl (wX cA xa ka ra na ia ua va ca za pa qa X K R P L_29 P2 L2 Tn Ti Tu_28 Tv_9 C Z q0 q1 (pa 0) q3_10 (pa 0) q5) H := hP
        have hD : va_D A (wX cA xa ka ra na ia ua va ca za pa qa X K R P L_29 P2 L2 Tn Ti Tu_28 Tv_9 C Z q0 q1 (pa 0) q3_10 (pa 0) q5) := hD
        obtain ⟨y32, ey32, h⟩ := tx_lt h
        refine lv_iinc (v := y32) (lv' := [(2, .int y32), (3, .int r21), (0, .ref (xa 0)), (1, .int x1)]) hx hb dX7_missed_112 hl (k := 3) rfl ey32 (by decide) rfl (fun ls hl => ?_)
        refine lv_goto (tgt := 23) hx hb dX7_missed_115 (by decide) ?_
        exact hk23 y32 L_29 Tu_28 Tv_9 q3_10 H locs ls h hP hD hS (lv_sub hl [2, 3, 0] rfl)
      · have h := tx_neg c24 h
        exact w_X7_missed_J69 F x1 x2 r21 L_18 Tu_17 Tv_9 (pa 0) q3_10 H locs ls h hP hD hS (lv_sub hl [1, 2, 3, 0] rfl)
set_option maxHeartbeats 4000000 in
set_option maxRecDepth 100000 in
theorem c_X7_missed (l : Launch) (G : va_G) (cA : Nat → ClassId) (sz : Nat) (xa : Nat → Nat) (ka : Nat → Nat) (ra : Nat → Nat) (na : Nat → Nat) (ia : Nat → Nat) (ua : Nat → Nat) (va : Nat → Nat) (ca : Nat → Nat) (za : Nat → Nat) (pa : Nat → Nat) (qa : Nat → Nat) (X : Tr) (K : Tr) (R : Tr) (P : Tr) (L : Lo) (P2 : Tr) (L2 : Lo) (Tn : Tr) (Ti : Tr) (Tu : Tr) (Tv : Tr) (C : Tr) (Z : Tr) (q0 : Nat) (q1 : Nat) (q2 : Nat) (q3 : Nat) (q4 : Nat) (q5 : Nat) (x1 : Int32)  (r0 : Int32) (L' : Lo) (Tu' : Tr) (Tv' : Tr) (q2' : Nat) (q3' : Nat) (h : f_X7_missed pa qa P L Tn Tu Tv q0 q2 q3 q4 x1 = some (r0, L', Tu', Tv', q2', q3')) : Met l yX7_missed (.code yX7_missed cX7_missed 4 (some .int) :: T0) ({ frames := 6, cells := 0, slots := 0, locals := 144 } : Room) (tqP G cA [.ref (xa 0), .int x1] (wX cA xa ka ra na ia ua va ca za pa qa X K R P L P2 L2 Tn Ti Tu Tv C Z q0 q1 q2 q3 q4 q5) sz) (tqQi G cA (fun (r : Int32) (_ : Unit) => r = r0) (fun (_ : Unit) => wX cA xa ka ra na ia ua va ca za pa qa X K R P (L') P2 L2 Tn Ti (Tu') (Tv') C Z q0 q1 (q2') (q3') q4 q5) (va_A (wX cA xa ka ra na ia ua va ca za pa qa X K R P L P2 L2 Tn Ti Tu Tv C Z q0 q1 q2 q3 q4 q5) sz)) 0 0 (va_A (wX cA xa ka ra na ia ua va ca za pa qa X K R P L P2 L2 Tn Ti Tu Tv C Z q0 q1 q2 q3 q4 q5) sz) := by
  refine Met.ofW (cc := cX7_missed) (maxL := 4) (ret := (some .int)) (by decide) rfl ?_
  intro p e s m args below meth c s₁ B hml hv
  obtain ⟨rfl, hsz, hP, hK, hD0, hN⟩ := hv
  have hx := B.exec
  have hb := B.bytes
  have hr := B.returns
  have hts := atoms_spec (ws := .code yX7_missed cX7_missed 4 (some .int) :: T0) B.pre
  have hT : ∀ w ∈ T0, w.before _ s = true := fun w h => hts w (List.mem_cons_of_mem _ h)
  have hown : s.vm.findClass RX7 = some m.cls := findClass_of_methodNamed B.named
  have hlocks := B.notSynchronized
  subst hsz
  have hD := hD0.self (sz := s.heap.size)
  generalize hAe : va_A (wX cA xa ka ra na ia ua va ca za pa qa X K R P L P2 L2 Tn Ti Tu Tv C Z q0 q1 q2 q3 q4 q5) s.heap.size = A at hD ⊢
  have hA : ∀ q : Nat, s.heap.size ≤ q → A q := fun q h => by rw [← hAe]; exact Or.inr h
  have hS : va_S A s.heap s.heap [] := va_S.rf
  have hl := lv_entry ([.ref (xa 0), .int x1]) (n := 4) (Nat.le_of_ble_eq_true rfl)
  rw [lg_entry_eq]
  generalize (lg_sl ([.ref (xa 0), .int x1]) ++ List.replicate (4 - (lg_sl ([.ref (xa 0), .int x1])).length) Slot.unset).toArray = ls at hl ⊢
  have hl : lv_has ls 4 [(0, .ref (xa 0)), (1, .int x1)] := hl
  have F : tF p s m ([.ref (xa 0), .int x1] : List Value).toArray meth c G cA A RX7 cX7_missed 4 (some .int) := ⟨hx, hb, hr, hml, hT, hown, hlocks, hK, hN, hA⟩
  obtain ⟨H, hH⟩ : ∃ z, z = s.heap := ⟨_, rfl⟩
  rw [← hH] at hP
  have hS : va_S A s.heap H [] := by rw [hH]; exact hS
  suffices hgo : G_X7_missed p l e s m below meth c G cA A xa ka ra na ia ua va ca za pa qa X K R P P2 L2 Tn Ti C Z q0 q1 q4 q5 x1 r0 L' Tu' Tv' q2' q3' H [] (F0 m 0 ls []) by rw [hH] at hgo; exact hgo
  generalize ([] : List Loc) = locs at hS ⊢
  unfold f_X7_missed at h
  refine lv_iload_n hx hb dX7_missed_0 rfl (lv_at hl 1 rfl) ?_
  refine lv_if_lt (tgt := 9) hx hb dX7_missed_1 (by decide) (fun c1 => ?_) (fun c1 => ?_)
  · have h := tx_pos c1 h
    refine lv_iconst (v := (-1)) hx hb dX7_missed_9 (by decide) ?_
    obtain ⟨rfl, rfl, rfl, rfl, rfl, rfl⟩ := tx_6 h
    exact W.iret hx hb hr (fun t ht hW => ⟨⟨_, (), rfl, rfl, by rw [ht]; exact hP, hD⟩, hS.F ht⟩) hS.2.2 dX7_missed_10
  · have h := tx_neg c1 h
    refine lv_iload_n hx hb dX7_missed_4 rfl (lv_at hl 1 rfl) ?_
    refine lv_iconst (v := 1) hx hb dX7_missed_5 (by decide) ?_
    refine lv_icmp_le (tgt := 11) hx hb dX7_missed_6 (by decide) (fun c2 => ?_) (fun c2 => ?_)
    · have h := tx_pos c2 h
      refine lv_aload_n hx hb dX7_missed_11 rfl (lv_at hl 0 rfl) ?_
      obtain ⟨⟨Tu_3, q2_4⟩, hc5, h⟩ := tx_bd h
      replace h := tx_let (y := Tu_3) rfl h
      replace h := tx_let (y := q2_4) rfl h
      refine tw_cv tw_all hP hD hS hA (va_runV (As := []) (rest := []) ⟨hx, hb, hml, hown, hT⟩ (c_X7_startTrial l G cA H.size xa ka ra na ia ua va ca za pa qa X K R P L P2 L2 Tn Ti Tu Tv C Z q0 q1 q2 q3 q4 q5  Tu_3 q2_4 hc5) (cwV 0 hT (tq_gV kw_46_17 kw_46_18 kw_46_19 kw_1_2 kw_46_20) rfl rfl rfl (by decide +kernel) ⟨Nat.le_of_ble_eq_true rfl, Nat.le_of_ble_eq_true rfl⟩) ⟨(tw_pre tw_all hP hD hK hN).1, va_recv hK hP (ci := 7) (q0 := 0) rfl rfl, (tw_pre tw_all hP hD hK hN).2⟩ rfl rfl hl.1 rfl (lv_room (Nat.le_of_ble_eq_true rfl)) dX7_missed_12 ⟨Nat.le_of_ble_eq_true rfl, Nat.le_of_ble_eq_true rfl⟩) (fun _ H locs z6 hP hD hS => ?_)
      rw [List.append_nil] at hP hD
      have hP : va_P G vwCl (wX cA xa ka ra na ia ua va ca za pa qa X K R P L P2 L2 Tn Ti Tu_3 Tv C Z q0 q1 q2_4 q3 q4 q5) H := hP
      have hD : va_D A (wX cA xa ka ra na ia ua va ca za pa qa X K R P L P2 L2 Tn Ti Tu_3 Tv C Z q0 q1 q2_4 q3 q4 q5) := hD
      refine lv_aload_n hx hb dX7_missed_15 rfl (lv_at hl 0 rfl) ?_
      refine va_get (D := G) (ci := 7) (v := .ref (na 0)) (C := RX7) (T := TX7) (N := 12) hx hb hT ku_7 hown hK hP 0 rfl rfl 2 (by decide) (hT _ kw_2_0) (fun _ h9 => h9) rfl dX7_missed_16 ?_
      refine va_get (D := G) (ci := 6) (v := .int (Tn 0 0)) (C := RX6) (T := TX6) (N := 20) hx hb hT ku_6 hown hK hP 53 rfl rfl 0 (by decide) (hT _ kw_40_5) (fun _ h9 => h9) rfl dX7_missed_19 ?_
      refine lv_topi (fun y7 ey7 => ?_)
      have h := tx_let ey7 h
      refine lv_istore_n (lv' := [(2, .int y7), (0, .ref (xa 0)), (1, .int x1)]) hx hb dX7_missed_22 rfl hl (by decide) rfl (fun ls hl => ?_)
      exact w_X7_missed_L23 F 2000 y7 L Tu_3 Tv q3 H locs ls h hP hD hS (lv_sub hl [1, 2, 0] rfl)
    · have h := tx_neg c2 h
      refine lv_iconst (v := (-1)) hx hb dX7_missed_9 (by decide) ?_
      obtain ⟨rfl, rfl, rfl, rfl, rfl, rfl⟩ := tx_6 h
      exact W.iret hx hb hr (fun t ht hW => ⟨⟨_, (), rfl, rfl, by rw [ht]; exact hP, hD⟩, hS.F ht⟩) hS.2.2 dX7_missed_10
abbrev G_X7_move (p : Program) (l : Launch) (e : Env) (s : State) (m : MethodId) (below : List Frame) (meth : Method) (c : Code) (G : va_G) (cA : Nat → ClassId) (A : Nat → Prop) (xa : Nat → Nat) (ka : Nat → Nat) (ra : Nat → Nat) (na : Nat → Nat) (ia : Nat → Nat) (ua : Nat → Nat) (va : Nat → Nat) (ca : Nat → Nat) (za : Nat → Nat) (pa : Nat → Nat) (qa : Nat → Nat) (X : Tr) (K : Tr) (R : Tr) (P : Tr) (L : Lo) (P2 : Tr) (L2 : Lo) (Ti : Tr) (Tu : Tr) (Tv : Tr) (Z : Tr) (q0 : Nat) (q1 : Nat) (q2 : Nat) (q3 : Nat) (q4 : Nat) (q5 : Nat) (x1 : Int32) (x2 : Int32) (r0 : Int32) (Tn' : Tr) (C' : Tr) (H : Heap) (locs : List Loc) (g : JFrame) : Prop := W p l e (headSpec (.code yX7_move cX7_move 3 (some .boolean) :: T0) ({ frames := 3, cells := 0, slots := 0, locals := 84 } : Room)).room s m ([.ref (xa 0), .int x1, .int x2] : List Value).toArray below meth c H locs 0 0 (MQ below (tqQi G cA (fun (r : Int32) (_ : Unit) => r = r0) (fun (_ : Unit) => wX cA xa ka ra na ia ua va ca za pa qa X K R P L P2 L2 (Tn') Ti Tu Tv (C') Z q0 q1 q2 q3 q4 q5) A) ([.ref (xa 0), .int x1, .int x2] : List Value).toArray s 0 0 A) g
set_option maxHeartbeats 4000000 in
set_option maxRecDepth 100000 in
theorem w_X7_move_J69 {p : Program} {l : Launch} {e : Env} {s : State} {m : MethodId} {below : List Frame} {meth : Method} {c : Code} {G : va_G} {cA : Nat → ClassId} {A : Nat → Prop} {xa : Nat → Nat} {ka : Nat → Nat} {ra : Nat → Nat} {na : Nat → Nat} {ia : Nat → Nat} {ua : Nat → Nat} {va : Nat → Nat} {ca : Nat → Nat} {za : Nat → Nat} {pa : Nat → Nat} {qa : Nat → Nat} {X : Tr} {K : Tr} {R : Tr} {P : Tr} {L : Lo} {P2 : Tr} {L2 : Lo} {Ti : Tr} {Tu : Tr} {Tv : Tr} {Z : Tr} {q0 : Nat} {q1 : Nat} {q2 : Nat} {q3 : Nat} {q4 : Nat} {q5 : Nat} {x1₀ : Int32} {x2₀ : Int32} {r0 : Int32} {Tn' : Tr} {C' : Tr} (F : tF p s m ([.ref (xa 0), .int x1₀, .int x2₀] : List Value).toArray meth c G cA A RX7 cX7_move 3 (some .boolean))    (x1 : Int32) (x2 : Int32) (Tn : Tr) (C : Tr) (H : Heap) (locs : List Loc) (ls : Array Slot) (h : fJ_X7_move_J69 pa qa P q0 q4 x1 x2 Tn C = some (r0, Tn', C')) (hP : va_P G vwCl (wX cA xa ka ra na ia ua va ca za pa qa X K R P L P2 L2 Tn_24 Ti Tu Tv C_17 Z (pa 0) q1 q2 q3 q4 q5) H) (hD : va_D A (wX cA xa ka ra na ia ua va ca za pa qa X K R P L P2 L2 Tn_24 Ti Tu Tv C_17 Z (pa 0) q1 q2 q3 q4 q5)) (hS : va_S A s.heap H locs) (hl : lv_has ls 3 [(0, .ref (xa 0)), (1, .int x1), (2, .int x2)]) : G_X7_move p l e s m below meth c G cA A xa ka ra na ia ua va ca za pa qa X K R P L P2 L2 Ti Tu Tv Z q0 q1 q2 q3 q4 q5 x1₀ x2₀ r0 Tn' C' H locs (F0 m 69 ls []) := by
  obtain ⟨hx, hb, hr, hml, hT, hown, hlocks, hK, hN, hA⟩ := id F
  unfold fJ_X7_move_J69 at h
  refine lv_aload_n hx hb dX7_move_69 rfl (lv_at hl 0 rfl) ?_
  refine va_get (D := G) (ci := 7) (v := .ref (ca 0)) (C := RX7) (T := TX7) (N := 12) hx hb hT ku_7 hown hK hP 0 rfl rfl 7 (by decide) (hT _ kw_2_8) (fun _ h9 => h9) rfl dX7_move_70 ?_
  refine lv_aload_n hx hb dX7_move_73 rfl (lv_at hl 0 rfl) ?_
  refine va_get (D := G) (ci := 7) (v := .ref (na 0)) (C := RX7) (T := TX7) (N := 12) hx hb hT ku_7 hown hK hP 0 rfl rfl 2 (by decide) (hT _ kw_2_0) (fun _ h9 => h9) rfl dX7_move_74 ?_
  obtain ⟨C_17, hc18, h⟩ := tx_bd h
  refine tw_cv tw_all hP hD hS hA (va_runV (As := [.ref (na 0)]) (rest := []) ⟨hx, hb, hml, hown, hT⟩ (c_X0_save_x_na0 l G cA H.size xa ka ra na ia ua va ca za pa qa X K R P L P2 L2 Tn Ti Tu Tv C Z q0 q1 q2 q3 q4 q5  C_17 hc18) (cwV 1 hT (tq_gV kw_36_1 kw_36_2 kw_36_3 kw_2_7 kw_36_4) rfl rfl rfl (by decide +kernel) ⟨Nat.le_of_ble_eq_true rfl, Nat.le_of_ble_eq_true rfl⟩) ⟨(tw_pre tw_all hP hD hK hN).1, va_recv hK hP (ci := 0) (q0 := 101) rfl rfl, (tw_pre tw_all hP hD hK hN).2⟩ rfl rfl hl.1 rfl (lv_room (Nat.le_of_ble_eq_true rfl)) dX7_move_77 ⟨Nat.le_of_ble_eq_true rfl, Nat.le_of_ble_eq_true rfl⟩) (fun _ H locs z19 hP hD hS => ?_)
  rw [List.append_nil] at hP hD
  have hP : va_P G vwCl (wX cA xa ka ra na ia ua va ca za pa qa X K R P L P2 L2 Tn Ti Tu Tv C_17 Z q0 q1 q2 q3 q4 q5) H := hP
  have hD : va_D A (wX cA xa ka ra na ia ua va ca za pa qa X K R P L P2 L2 Tn Ti Tu Tv C_17 Z q0 q1 q2 q3 q4 q5) := hD
  refine lv_aload_n hx hb dX7_move_80 rfl (lv_at hl 0 rfl) ?_
  refine va_get (D := G) (ci := 7) (v := .ref (na 0)) (C := RX7) (T := TX7) (N := 12) hx hb hT ku_7 hown hK hP 0 rfl rfl 2 (by decide) (hT _ kw_2_0) (fun _ h9 => h9) rfl dX7_move_81 ?_
  refine lv_iload_n hx hb dX7_move_84 rfl (lv_at hl 1 rfl) ?_
  refine lv_iconst (v := 1) hx hb dX7_move_85 (by decide) ?_
  obtain ⟨g20, h⟩ := tx_ck h
  have eg20 := of_decide_eq_true g20
  subst eg20
  obtain ⟨Tn_21, hc22, h⟩ := tx_bd h
  refine tw_cv pX_na hP hD hS hA (va_runV (As := [.int x1, .int 1]) (rest := []) ⟨hx, hb, hml, hown, hT⟩ (c_X6_takeAway l G cA H.size na pa Tn P L x1 (1 : Int32)  Tn_21 hc22) (cwV 2 hT (tq_gV kw_36_18 kw_36_19 kw_36_20 kw_1_23 kw_36_21) rfl rfl rfl (by decide +kernel) ⟨Nat.le_of_ble_eq_true rfl, Nat.le_of_ble_eq_true rfl⟩) ⟨(tw_pre pX_na hP hD hK hN).1, va_recv hK hP (ci := 6) (q0 := 53) rfl rfl, (tw_pre pX_na hP hD hK hN).2⟩ rfl rfl hl.1 rfl (lv_room (Nat.le_of_ble_eq_true rfl)) dX7_move_86 ⟨Nat.le_of_ble_eq_true rfl, Nat.le_of_ble_eq_true rfl⟩) (fun _ H locs z23 hP hD hS => ?_)
  replace hP := tw_P pX_na.symm hP
  replace hD := tw_D pX_na.symm hD
  have hP : va_P G vwCl (wX cA xa ka ra na ia ua va ca za pa qa X K R P L P2 L2 Tn_21 Ti Tu Tv C_17 Z (pa 0) q1 q2 q3 q4 q5) H := hP
  have hD : va_D A (wX cA xa ka ra na ia ua va ca za pa qa X K R P L P2 L2 Tn_21 Ti Tu Tv C_17 Z (pa 0) q1 q2 q3 q4 q5) := hD
  refine lv_aload_n hx hb dX7_move_89 rfl (lv_at hl 0 rfl) ?_
  refine va_get (D := G) (ci := 7) (v := .ref (na 0)) (C := RX7) (T := TX7) (N := 12) hx hb hT ku_7 hown hK hP 0 rfl rfl 2 (by decide) (hT _ kw_2_0) (fun _ h9 => h9) rfl dX7_move_90 ?_
  refine lv_iload_n hx hb dX7_move_93 rfl (lv_at hl 2 rfl) ?_
  refine lv_iload_n hx hb dX7_move_94 rfl (lv_at hl 1 rfl) ?_
  obtain ⟨Tn_24, hc25, h⟩ := tx_bd h
  refine tw_cv pX_na hP hD hS hA (va_runV (As := [.int x2, .int x1]) (rest := []) ⟨hx, hb, hml, hown, hT⟩ (c_X6_putOn l G cA H.size na pa Tn_21 P L x2 x1  Tn_24 hc25) (cwV 2 hT (tq_gV kw_36_22 kw_36_23 kw_37_0 kw_1_23 kw_37_1) rfl rfl rfl (by decide +kernel) ⟨Nat.le_of_ble_eq_true rfl, Nat.le_of_ble_eq_true rfl⟩) ⟨(tw_pre pX_na hP hD hK hN).1, va_recv hK hP (ci := 6) (q0 := 53) rfl rfl, (tw_pre pX_na hP hD hK hN).2⟩ rfl rfl hl.1 rfl (lv_room (Nat.le_of_ble_eq_true rfl)) dX7_move_95 ⟨Nat.le_of_ble_eq_true rfl, Nat.le_of_ble_eq_true rfl⟩) (fun _ H locs z26 hP hD hS => ?_)
  replace hP := tw_P pX_na.symm hP
  replace hD := tw_D pX_na.symm hD
  have hP : va_P G vwCl (wX cA xa ka ra na ia ua va ca za pa qa X K R P L P2 L2 Tn_24 Ti Tu Tv C_17 Z (pa 0) q1 q2 q3 q4 q5) H := hP
  have hD : va_D A (wX cA xa ka ra na ia ua va ca za pa qa X K R P L P2 L2 Tn_24 Ti Tu Tv C_17 Z (pa 0) q1 q2 q3 q4 q5) := hD
  refine lv_iconst (v := 1) hx hb dX7_move_98 (by decide) ?_
  obtain ⟨rfl, rfl, rfl⟩ := tx_3 h
  exact W.zret (ty := .boolean) hx hb hr rfl (fun t ht hW => ⟨⟨_, (), rfl, rfl, by rw [ht]; exact hP, hD⟩, hS.F ht⟩) hS.2.2 dX7_move_99
set_option maxHeartbeats 4000000 in
set_option maxRecDepth 100000 in
theorem c_X7_move (l : Launch) (G : va_G) (cA : Nat → ClassId) (sz : Nat) (xa : Nat → Nat) (ka : Nat → Nat) (ra : Nat → Nat) (na : Nat → Nat) (ia : Nat → Nat) (ua : Nat → Nat) (va : Nat → Nat) (ca : Nat → Nat) (za : Nat → Nat) (pa : Nat → Nat) (qa : Nat → Nat) (X : Tr) (K : Tr) (R : Tr) (P : Tr) (L : Lo) (P2 : Tr) (L2 : Lo) (Tn : Tr) (Ti : Tr) (Tu : Tr) (Tv : Tr) (C : Tr) (Z : Tr) (q0 : Nat) (q1 : Nat) (q2 : Nat) (q3 : Nat) (q4 : Nat) (q5 : Nat) (x1 : Int32) (x2 : Int32)  (r0 : Int32) (Tn' : Tr) (C' : Tr) (h : f_X7_move pa qa P Tn C q0 q4 x1 x2 = some (r0, Tn', C')) : Met l yX7_move (.code yX7_move cX7_move 3 (some .boolean) :: T0) ({ frames := 3, cells := 0, slots := 0, locals := 84 } : Room) (tqP G cA [.ref (xa 0), .int x1, .int x2] (wX cA xa ka ra na ia ua va ca za pa qa X K R P L P2 L2 Tn Ti Tu Tv C Z q0 q1 q2 q3 q4 q5) sz) (tqQi G cA (fun (r : Int32) (_ : Unit) => r = r0) (fun (_ : Unit) => wX cA xa ka ra na ia ua va ca za pa qa X K R P L P2 L2 (Tn') Ti Tu Tv (C') Z q0 q1 q2 q3 q4 q5) (va_A (wX cA xa ka ra na ia ua va ca za pa qa X K R P L P2 L2 Tn Ti Tu Tv C Z q0 q1 q2 q3 q4 q5) sz)) 0 0 (va_A (wX cA xa ka ra na ia ua va ca za pa qa X K R P L P2 L2 Tn Ti Tu Tv C Z q0 q1 q2 q3 q4 q5) sz) := by
  refine Met.ofW (cc := cX7_move) (maxL := 3) (ret := (some .boolean)) (by decide) rfl ?_
  intro p e s m args below meth c s₁ B hml hv
  obtain ⟨rfl, hsz, hP, hK, hD0, hN⟩ := hv
  have hx := B.exec
  have hb := B.bytes
  have hr := B.returns
  have hts := atoms_spec (ws := .code yX7_move cX7_move 3 (some .boolean) :: T0) B.pre
  have hT : ∀ w ∈ T0, w.before _ s = true := fun w h => hts w (List.mem_cons_of_mem _ h)
  have hown : s.vm.findClass RX7 = some m.cls := findClass_of_methodNamed B.named
  have hlocks := B.notSynchronized
  subst hsz
  have hD := hD0.self (sz := s.heap.size)
  generalize hAe : va_A (wX cA xa ka ra na ia ua va ca za pa qa X K R P L P2 L2 Tn Ti Tu Tv C Z q0 q1 q2 q3 q4 q5) s.heap.size = A at hD ⊢
  have hA : ∀ q : Nat, s.heap.size ≤ q → A q := fun q h => by rw [← hAe]; exact Or.inr h
  have hS : va_S A s.heap s.heap [] := va_S.rf
  have hl := lv_entry ([.ref (xa 0), .int x1, .int x2]) (n := 3) (Nat.le_of_ble_eq_true rfl)
  rw [lg_entry_eq]
  generalize (lg_sl ([.ref (xa 0), .int x1, .int x2]) ++ List.replicate (3 - (lg_sl ([.ref (xa 0), .int x1, .int x2])).length) Slot.unset).toArray = ls at hl ⊢
  have hl : lv_has ls 3 [(0, .ref (xa 0)), (1, .int x1), (2, .int x2)] := hl
  have F : tF p s m ([.ref (xa 0), .int x1, .int x2] : List Value).toArray meth c G cA A RX7 cX7_move 3 (some .boolean) := ⟨hx, hb, hr, hml, hT, hown, hlocks, hK, hN, hA⟩
  obtain ⟨H, hH⟩ : ∃ z, z = s.heap := ⟨_, rfl⟩
  rw [← hH] at hP
  have hS : va_S A s.heap H [] := by rw [hH]; exact hS
  suffices hgo : G_X7_move p l e s m below meth c G cA A xa ka ra na ia ua va ca za pa qa X K R P L P2 L2 Ti Tu Tv Z q0 q1 q2 q3 q4 q5 x1 x2 r0 Tn' C' H [] (F0 m 0 ls []) by rw [hH] at hgo; exact hgo
  generalize ([] : List Loc) = locs at hS ⊢
  unfold f_X7_move at h
  refine lv_aload_n hx hb dX7_move_0 rfl (lv_at hl 0 rfl) ?_
  refine lv_iload_n hx hb dX7_move_1 rfl (lv_at hl 1 rfl) ?_
  obtain ⟨r1, hc2, h⟩ := tx_bd h
  refine tw_ci tw_all hP hD hS hA (va_runV (As := [.int x1]) (rest := []) ⟨hx, hb, hml, hown, hT⟩ (c_X7_isPiece l G cA H.size xa ka ra na ia ua va ca za pa qa X K R P L P2 L2 Tn Ti Tu Tv C Z q0 q1 q2 q3 q4 q5 x1  r1 hc2) (cwV 1 hT (tq_gV kw_30_5 kw_30_6 kw_30_7 kw_1_2 kw_30_8) rfl rfl rfl (by decide +kernel) ⟨Nat.le_of_ble_eq_true rfl, Nat.le_of_ble_eq_true rfl⟩) ⟨(tw_pre tw_all hP hD hK hN).1, va_recv hK hP (ci := 7) (q0 := 0) rfl rfl, (tw_pre tw_all hP hD hK hN).2⟩ rfl rfl hl.1 rfl (lv_room (Nat.le_of_ble_eq_true rfl)) dX7_move_2 ⟨Nat.le_of_ble_eq_true rfl, Nat.le_of_ble_eq_true rfl⟩) (fun _ _ H locs z3 hP hD hS => ?_)
  subst z3
  rw [List.append_nil] at hP hD
  have hP : va_P G vwCl (wX cA xa ka ra na ia ua va ca za pa qa X K R P L P2 L2 Tn Ti Tu Tv C Z q0 q1 q2 q3 q4 q5) H := hP
  have hD : va_D A (wX cA xa ka ra na ia ua va ca za pa qa X K R P L P2 L2 Tn Ti Tu Tv C Z q0 q1 q2 q3 q4 q5) := hD
  refine lv_if_eq (tgt := 40) hx hb dX7_move_5 (by decide) (fun c4 => ?_) (fun c4 => ?_)
  · have h := tx_pos c4 h
    refine lv_iconst (v := 0) hx hb dX7_move_40 (by decide) ?_
    obtain ⟨rfl, rfl, rfl⟩ := tx_3 h
    exact W.zret (ty := .boolean) hx hb hr rfl (fun t ht hW => ⟨⟨_, (), rfl, rfl, by rw [ht]; exact hP, hD⟩, hS.F ht⟩) hS.2.2 dX7_move_41
  · have h := tx_neg c4 h
    refine lv_aload_n hx hb dX7_move_8 rfl (lv_at hl 0 rfl) ?_
    refine lv_iload_n hx hb dX7_move_9 rfl (lv_at hl 2 rfl) ?_
    obtain ⟨r5, hc6, h⟩ := tx_bd h
    refine tw_ci tw_all hP hD hS hA (va_runV (As := [.int x2]) (rest := []) ⟨hx, hb, hml, hown, hT⟩ (c_X7_isPlace l G cA H.size xa ka ra na ia ua va ca za pa qa X K R P L P2 L2 Tn Ti Tu Tv C Z q0 q1 q2 q3 q4 q5 x2  r5 hc6) (cwV 1 hT (tq_gV kw_31_22 kw_31_23 kw_32_0 kw_1_2 kw_32_1) rfl rfl rfl (by decide +kernel) ⟨Nat.le_of_ble_eq_true rfl, Nat.le_of_ble_eq_true rfl⟩) ⟨(tw_pre tw_all hP hD hK hN).1, va_recv hK hP (ci := 7) (q0 := 0) rfl rfl, (tw_pre tw_all hP hD hK hN).2⟩ rfl rfl hl.1 rfl (lv_room (Nat.le_of_ble_eq_true rfl)) dX7_move_10 ⟨Nat.le_of_ble_eq_true rfl, Nat.le_of_ble_eq_true rfl⟩) (fun _ _ H locs z7 hP hD hS => ?_)
    subst z7
    rw [List.append_nil] at hP hD
    have hP : va_P G vwCl (wX cA xa ka ra na ia ua va ca za pa qa X K R P L P2 L2 Tn Ti Tu Tv C Z q0 q1 q2 q3 q4 q5) H := hP
    have hD : va_D A (wX cA xa ka ra na ia ua va ca za pa qa X K R P L P2 L2 Tn Ti Tu Tv C Z q0 q1 q2 q3 q4 q5) := hD
    refine lv_if_eq (tgt := 40) hx hb dX7_move_13 (by decide) (fun c8 => ?_) (fun c8 => ?_)
    · have h := tx_pos c8 h
      refine lv_iconst (v := 0) hx hb dX7_move_40 (by decide) ?_
      obtain ⟨rfl, rfl, rfl⟩ := tx_3 h
      exact W.zret (ty := .boolean) hx hb hr rfl (fun t ht hW => ⟨⟨_, (), rfl, rfl, by rw [ht]; exact hP, hD⟩, hS.F ht⟩) hS.2.2 dX7_move_41
    · have h := tx_neg c8 h
      refine lv_aload_n hx hb dX7_move_16 rfl (lv_at hl 0 rfl) ?_
      refine va_get (D := G) (ci := 7) (v := .ref (na 0)) (C := RX7) (T := TX7) (N := 12) hx hb hT ku_7 hown hK hP 0 rfl rfl 2 (by decide) (hT _ kw_2_0) (fun _ h9 => h9) rfl dX7_move_17 ?_
      refine va_get (D := G) (ci := 6) (v := .ref (na 15)) (C := RX6) (T := TX6) (N := 20) hx hb hT ku_6 hown hK hP 53 rfl rfl 14 (by decide) (hT _ kw_30_4) (fun _ h9 => h9) rfl dX7_move_20 ?_
      refine lv_iload_n hx hb dX7_move_23 rfl (lv_at hl 1 rfl) ?_
      obtain ⟨g9, h⟩ := tx_ck h
      refine va_iald (i := x1) hx hb hK hP 60 0 rfl rfl (tx_in g9) dX7_move_24 ?_
      refine lv_if_lt (tgt := 40) hx hb dX7_move_25 (by decide) (fun c10 => ?_) (fun c10 => ?_)
      · have h := tx_pos c10 h
        refine lv_iconst (v := 0) hx hb dX7_move_40 (by decide) ?_
        obtain ⟨rfl, rfl, rfl⟩ := tx_3 h
        exact W.zret (ty := .boolean) hx hb hr rfl (fun t ht hW => ⟨⟨_, (), rfl, rfl, by rw [ht]; exact hP, hD⟩, hS.F ht⟩) hS.2.2 dX7_move_41
      · have h := tx_neg c10 h
        refine lv_aload_n hx hb dX7_move_28 rfl (lv_at hl 0 rfl) ?_
        refine va_get (D := G) (ci := 7) (v := .ref (na 0)) (C := RX7) (T := TX7) (N := 12) hx hb hT ku_7 hown hK hP 0 rfl rfl 2 (by decide) (hT _ kw_2_0) (fun _ h9 => h9) rfl dX7_move_29 ?_
        refine lv_iload_n hx hb dX7_move_32 rfl (lv_at hl 2 rfl) ?_
        obtain ⟨g11, h⟩ := tx_ck h
        have eg11 := of_decide_eq_true g11
        subst eg11
        obtain ⟨r12, hc13, h⟩ := tx_bd h
        refine tw_ci pX_na hP hD hS hA (va_runV (As := [.int x2]) (rest := []) ⟨hx, hb, hml, hown, hT⟩ (c_X6_top l G cA H.size na pa Tn P L x2  r12 hc13) (cwV 1 hT (tq_gV kw_32_3 kw_32_4 kw_32_5 kw_1_23 kw_32_6) rfl rfl rfl (by decide +kernel) ⟨Nat.le_of_ble_eq_true rfl, Nat.le_of_ble_eq_true rfl⟩) ⟨(tw_pre pX_na hP hD hK hN).1, va_recv hK hP (ci := 6) (q0 := 53) rfl rfl, (tw_pre pX_na hP hD hK hN).2⟩ rfl rfl hl.1 rfl (lv_room (Nat.le_of_ble_eq_true rfl)) dX7_move_33 ⟨Nat.le_of_ble_eq_true rfl, Nat.le_of_ble_eq_true rfl⟩) (fun _ _ H locs z14 hP hD hS => ?_)
        subst z14
        replace hP := tw_P pX_na.symm hP
        replace hD := tw_D pX_na.symm hD
        have hP : va_P G vwCl (wX cA xa ka ra na ia ua va ca za pa qa X K R P L P2 L2 Tn Ti Tu Tv C Z (pa 0) q1 q2 q3 q4 q5) H := hP
        have hD : va_D A (wX cA xa ka ra na ia ua va ca za pa qa X K R P L P2 L2 Tn Ti Tu Tv C Z (pa 0) q1 q2 q3 q4 q5) := hD
        refine lv_iload_n hx hb dX7_move_36 rfl (lv_at hl 1 rfl) ?_
        refine lv_icmp_ne (tgt := 42) hx hb dX7_move_37 (by decide) (fun c15 => ?_) (fun c15 => ?_)
        · have h := tx_neg c15 h
          refine lv_aload_n hx hb dX7_move_42 rfl (lv_at hl 0 rfl) ?_
          refine va_get (D := G) (ci := 7) (v := .ref (na 0)) (C := RX7) (T := TX7) (N := 12) hx hb hT ku_7 hown hK hP 0 rfl rfl 2 (by decide) (hT _ kw_2_0) (fun _ h9 => h9) rfl dX7_move_43 ?_
          refine va_get (D := G) (ci := 6) (v := .ref (na 15)) (C := RX6) (T := TX6) (N := 20) hx hb hT ku_6 hown hK hP 53 rfl rfl 14 (by decide) (hT _ kw_30_4) (fun _ h9 => h9) rfl dX7_move_46 ?_
          refine lv_iload_n hx hb dX7_move_49 rfl (lv_at hl 1 rfl) ?_
          refine va_iald (i := x1) hx hb hK hP 60 0 rfl rfl (tx_in g9) dX7_move_50 ?_
          refine lv_iload_n hx hb dX7_move_51 rfl (lv_at hl 2 rfl) ?_
          refine lv_icmp_eq (tgt := 69) hx hb dX7_move_52 (by decide) (fun c16 => ?_) (fun c16 => ?_)
          · have h := tx_pos c16 h
            exact w_X7_move_J69 F x1 x2 Tn C H locs ls h hP hD hS (lv_sub hl [0, 1, 2] rfl)
          · have h := tx_neg c16 h
            refine lv_aload_n hx hb dX7_move_55 rfl (lv_at hl 0 rfl) ?_
            refine va_get (D := G) (ci := 7) (v := .ref (na 0)) (C := RX7) (T := TX7) (N := 12) hx hb hT ku_7 hown hK hP 0 rfl rfl 2 (by decide) (hT _ kw_2_0) (fun _ h9 => h9) rfl dX7_move_56 ?_
            refine lv_iload_n hx hb dX7_move_59 rfl (lv_at hl 2 rfl) ?_
            refine lv_iload_n hx hb dX7_move_60 rfl (lv_at hl 1 rfl) ?_
            obtain ⟨r27, hc28, h⟩ := tx_bd h
            refine tw_ci pX_na hP hD hS hA (va_runV (As := [.int x2, .int x1]) (rest := []) ⟨hx, hb, hml, hown, hT⟩ (c_X6_hasRoom l G cA H.size na pa Tn P L x2 x1  r27 hc28) (cwV 2 hT (tq_gV kw_35_20 kw_35_21 kw_35_22 kw_1_23 kw_35_23) rfl rfl rfl (by decide +kernel) ⟨Nat.le_of_ble_eq_true rfl, Nat.le_of_ble_eq_true rfl⟩) ⟨(tw_pre pX_na hP hD hK hN).1, va_recv hK hP (ci := 6) (q0 := 53) rfl rfl, (tw_pre pX_na hP hD hK hN).2⟩ rfl rfl hl.1 rfl (lv_room (Nat.le_of_ble_eq_true rfl)) dX7_move_61 ⟨Nat.le_of_ble_eq_true rfl, Nat.le_of_ble_eq_true rfl⟩) (fun _ _ H locs z29 hP hD hS => ?_)
            subst z29
            replace hP := tw_P pX_na.symm hP
            replace hD := tw_D pX_na.symm hD
            have hP : va_P G vwCl (wX cA xa ka ra na ia ua va ca za pa qa X K R P L P2 L2 Tn Ti Tu Tv C Z (pa 0) q1 q2 q3 q4 q5) H := hP
            have hD : va_D A (wX cA xa ka ra na ia ua va ca za pa qa X K R P L P2 L2 Tn Ti Tu Tv C Z (pa 0) q1 q2 q3 q4 q5) := hD
            refine lv_if_ne (tgt := 69) hx hb dX7_move_64 (by decide) (fun c30 => ?_) (fun c30 => ?_)
            · have h := tx_neg c30 h
              exact w_X7_move_J69 F x1 x2 Tn C H locs ls h hP hD hS (lv_sub hl [0, 1, 2] rfl)
            · have h := tx_pos c30 h
              refine lv_iconst (v := 0) hx hb dX7_move_67 (by decide) ?_
              obtain ⟨rfl, rfl, rfl⟩ := tx_3 h
              exact W.zret (ty := .boolean) hx hb hr rfl (fun t ht hW => ⟨⟨_, (), rfl, rfl, by rw [ht]; exact hP, hD⟩, hS.F ht⟩) hS.2.2 dX7_move_68
        · have h := tx_pos c15 h
          refine lv_iconst (v := 0) hx hb dX7_move_40 (by decide) ?_
          obtain ⟨rfl, rfl, rfl⟩ := tx_3 h
          exact W.zret (ty := .boolean) hx hb hr rfl (fun t ht hW => ⟨⟨_, (), rfl, rfl, by rw [ht]; exact hP, hD⟩, hS.F ht⟩) hS.2.2 dX7_move_41
abbrev G_X2_personNamed_x (p : Program) (l : Launch) (e : Env) (s : State) (m : MethodId) (below : List Frame) (meth : Method) (c : Code) (G : va_G) (cA : Nat → ClassId) (A : Nat → Prop) (xa : Nat → Nat) (ka : Nat → Nat) (ra : Nat → Nat) (na : Nat → Nat) (ia : Nat → Nat) (ua : Nat → Nat) (va : Nat → Nat) (ca : Nat → Nat) (za : Nat → Nat) (pa : Nat → Nat) (qa : Nat → Nat) (X : Tr) (K : Tr) (R : Tr) (P : Tr) (L : Lo) (P2 : Tr) (L2 : Lo) (Tn : Tr) (Ti : Tr) (Tu : Tr) (Tv : Tr) (C : Tr) (Z : Tr) (q0 : Nat) (q1 : Nat) (q2 : Nat) (q3 : Nat) (q4 : Nat) (q5 : Nat) (x1 : Int32) (r0 : Int32) (H : Heap) (locs : List Loc) (g : JFrame) : Prop := W p l e (headSpec (.code yX2_personNamed cX2_personNamed 3 (some .int) :: T0) ({ frames := 0, cells := 0, slots := 0, locals := 0 } : Room)).room s m ([.ref (pa 0), .int x1] : List Value).toArray below meth c H locs 0 0 (MQ below (tqQi G cA (fun (r : Int32) (_ : Unit) => r = r0) (fun (_ : Unit) => wX cA xa ka ra na ia ua va ca za pa qa X K R P L P2 L2 Tn Ti Tu Tv C Z q0 q1 q2 q3 q4 q5) A) ([.ref (pa 0), .int x1] : List Value).toArray s 0 0 A) g
set_option maxHeartbeats 4000000 in
set_option maxRecDepth 100000 in
theorem w_X2_personNamed_x_L2 {p : Program} {l : Launch} {e : Env} {s : State} {m : MethodId} {below : List Frame} {meth : Method} {c : Code} {G : va_G} {cA : Nat → ClassId} {A : Nat → Prop} {xa : Nat → Nat} {ka : Nat → Nat} {ra : Nat → Nat} {na : Nat → Nat} {ia : Nat → Nat} {ua : Nat → Nat} {va : Nat → Nat} {ca : Nat → Nat} {za : Nat → Nat} {pa : Nat → Nat} {qa : Nat → Nat} {X : Tr} {K : Tr} {R : Tr} {P : Tr} {L : Lo} {P2 : Tr} {L2 : Lo} {Tn : Tr} {Ti : Tr} {Tu : Tr} {Tv : Tr} {C : Tr} {Z : Tr} {q0 : Nat} {q1 : Nat} {q2 : Nat} {q3 : Nat} {q4 : Nat} {q5 : Nat} {x1₀ : Int32} {r0 : Int32} {x1 : Int32} (F : tF p s m ([.ref (pa 0), .int x1₀] : List Value).toArray meth c G cA A RX2 cX2_personNamed 3 (some .int))    (N : Nat) : ∀ (x2 : Int32) (H : Heap) (locs : List Loc) (ls : Array Slot), lpF (fun _ => none) (fB_X2_personNamed_x_L2 pa qa P x1) N x2 = some r0 → va_P G vwCl (wX cA xa ka ra na ia ua va ca za pa qa X K R P L P2 L2 Tn Ti Tu Tv C Z q0 q1 q2 q3 q4 q5) H → va_D A (wX cA xa ka ra na ia ua va ca za pa qa X K R P L P2 L2 Tn Ti Tu Tv C Z q0 q1 q2 q3 q4 q5) → va_S A s.heap H locs → lv_has ls 3 [(0, .ref (pa 0)), (1, .int x1), (2, .int x2)] → G_X2_personNamed_x p l e s m below meth c G cA A xa ka ra na ia ua va ca za pa qa X K R P L P2 L2 Tn Ti Tu Tv C Z q0 q1 q2 q3 q4 q5 x1₀ r0 H locs (F0 m 2 ls []) := by
  obtain ⟨hx, hb, hr, hml, hT, hown, hlocks, hK, hN, hA⟩ := id F
  induction N with
  | zero =>
    intro x2 H locs ls h
    have h : (none : Option (Int32)) = some r0 := h
    cases h
  | succ N hk2 =>
    intro x2 H locs ls h hP hD hS hl
    have h : fB_X2_personNamed_x_L2 pa qa P x1 (lpF (fun _ => none) (fB_X2_personNamed_x_L2 pa qa P x1) N) x2 = some r0 := h
    generalize hk2e : lpF (fun _ => none) (fB_X2_personNamed_x_L2 pa qa P x1) N = k2 at h hk2
    unfold fB_X2_personNamed_x_L2 at h
    refine lv_iload_n hx hb dX2_personNamed_2 rfl (lv_at hl 2 rfl) ?_
    refine lv_aload_n hx hb dX2_personNamed_3 rfl (lv_at hl 0 rfl) ?_
    refine va_get (D := G) (ci := 2) (v := .int (P 0 1)) (C := RX2) (T := TX2) (N := 19) hx hb hT ku_2 hown hK hP 9 rfl rfl 1 (by decide) (hT _ kw_6_19) (fun _ h9 => h9) rfl dX2_personNamed_4 ?_
    refine lv_icmp_ge (tgt := 28) hx hb dX2_personNamed_7 (by decide) (fun c1 => ?_) (fun c1 => ?_)
    · have h := tx_pos c1 h
      refine lv_iconst (v := (-1)) hx hb dX2_personNamed_28 (by decide) ?_
      obtain rfl := tx_1 h
      exact W.iret hx hb hr (fun t ht hW => ⟨⟨_, (), rfl, rfl, by rw [ht]; exact hP, hD⟩, hS.F ht⟩) hS.2.2 dX2_personNamed_29
    · have h := tx_neg c1 h
      refine lv_aload_n hx hb dX2_personNamed_10 rfl (lv_at hl 0 rfl) ?_
      refine va_get (D := G) (ci := 2) (v := .ref (pa 10)) (C := RX2) (T := TX2) (N := 19) hx hb hT ku_2 hown hK hP 9 rfl rfl 9 (by decide) (hT _ kw_5_20) (fun _ h9 => h9) rfl dX2_personNamed_11 ?_
      refine lv_iload_n hx hb dX2_personNamed_14 rfl (lv_at hl 2 rfl) ?_
      obtain ⟨g2, h⟩ := tx_ck h
      refine va_iald (i := x2) hx hb hK hP 12 0 rfl rfl (tx_in g2) dX2_personNamed_15 ?_
      refine lv_iload_n hx hb dX2_personNamed_16 rfl (lv_at hl 1 rfl) ?_
      refine lv_icmp_ne (tgt := 22) hx hb dX2_personNamed_17 (by decide) (fun c3 => ?_) (fun c3 => ?_)
      · have h := tx_neg c3 h
        obtain ⟨y4, ey4, h⟩ := tx_lt h
        refine lv_iinc (v := y4) (lv' := [(2, .int y4), (0, .ref (pa 0)), (1, .int x1)]) hx hb dX2_personNamed_22 hl (k := 2) rfl ey4 (by decide) rfl (fun ls hl => ?_)
        refine lv_goto (tgt := 2) hx hb dX2_personNamed_25 (by decide) ?_
        exact hk2 y4 H locs ls h hP hD hS (lv_sub hl [1, 2, 0] rfl)
      · have h := tx_pos c3 h
        refine lv_iload_n hx hb dX2_personNamed_20 rfl (lv_at hl 2 rfl) ?_
        obtain rfl := tx_1 h
        exact W.iret hx hb hr (fun t ht hW => ⟨⟨_, (), rfl, rfl, by rw [ht]; exact hP, hD⟩, hS.F ht⟩) hS.2.2 dX2_personNamed_21
set_option maxHeartbeats 4000000 in
set_option maxRecDepth 100000 in
theorem c_X2_personNamed_x (l : Launch) (G : va_G) (cA : Nat → ClassId) (sz : Nat) (xa : Nat → Nat) (ka : Nat → Nat) (ra : Nat → Nat) (na : Nat → Nat) (ia : Nat → Nat) (ua : Nat → Nat) (va : Nat → Nat) (ca : Nat → Nat) (za : Nat → Nat) (pa : Nat → Nat) (qa : Nat → Nat) (X : Tr) (K : Tr) (R : Tr) (P : Tr) (L : Lo) (P2 : Tr) (L2 : Lo) (Tn : Tr) (Ti : Tr) (Tu : Tr) (Tv : Tr) (C : Tr) (Z : Tr) (q0 : Nat) (q1 : Nat) (q2 : Nat) (q3 : Nat) (q4 : Nat) (q5 : Nat) (x1 : Int32)  (r0 : Int32) (h : f_X2_personNamed_x pa qa P x1 = some r0) : Met l yX2_personNamed (.code yX2_personNamed cX2_personNamed 3 (some .int) :: T0) ({ frames := 0, cells := 0, slots := 0, locals := 0 } : Room) (tqP G cA [.ref (pa 0), .int x1] (wX cA xa ka ra na ia ua va ca za pa qa X K R P L P2 L2 Tn Ti Tu Tv C Z q0 q1 q2 q3 q4 q5) sz) (tqQi G cA (fun (r : Int32) (_ : Unit) => r = r0) (fun (_ : Unit) => wX cA xa ka ra na ia ua va ca za pa qa X K R P L P2 L2 Tn Ti Tu Tv C Z q0 q1 q2 q3 q4 q5) (va_A (wX cA xa ka ra na ia ua va ca za pa qa X K R P L P2 L2 Tn Ti Tu Tv C Z q0 q1 q2 q3 q4 q5) sz)) 0 0 (va_A (wX cA xa ka ra na ia ua va ca za pa qa X K R P L P2 L2 Tn Ti Tu Tv C Z q0 q1 q2 q3 q4 q5) sz) := by
  refine Met.ofW (cc := cX2_personNamed) (maxL := 3) (ret := (some .int)) (by decide) rfl ?_
  intro p e s m args below meth c s₁ B hml hv
  obtain ⟨rfl, hsz, hP, hK, hD0, hN⟩ := hv
  have hx := B.exec
  have hb := B.bytes
  have hr := B.returns
  have hts := atoms_spec (ws := .code yX2_personNamed cX2_personNamed 3 (some .int) :: T0) B.pre
  have hT : ∀ w ∈ T0, w.before _ s = true := fun w h => hts w (List.mem_cons_of_mem _ h)
  have hown : s.vm.findClass RX2 = some m.cls := findClass_of_methodNamed B.named
  have hlocks := B.notSynchronized
  subst hsz
  have hD := hD0.self (sz := s.heap.size)
  generalize hAe : va_A (wX cA xa ka ra na ia ua va ca za pa qa X K R P L P2 L2 Tn Ti Tu Tv C Z q0 q1 q2 q3 q4 q5) s.heap.size = A at hD ⊢
  have hA : ∀ q : Nat, s.heap.size ≤ q → A q := fun q h => by rw [← hAe]; exact Or.inr h
  have hS : va_S A s.heap s.heap [] := va_S.rf
  have hl := lv_entry ([.ref (pa 0), .int x1]) (n := 3) (Nat.le_of_ble_eq_true rfl)
  rw [lg_entry_eq]
  generalize (lg_sl ([.ref (pa 0), .int x1]) ++ List.replicate (3 - (lg_sl ([.ref (pa 0), .int x1])).length) Slot.unset).toArray = ls at hl ⊢
  have hl : lv_has ls 3 [(0, .ref (pa 0)), (1, .int x1)] := hl
  have F : tF p s m ([.ref (pa 0), .int x1] : List Value).toArray meth c G cA A RX2 cX2_personNamed 3 (some .int) := ⟨hx, hb, hr, hml, hT, hown, hlocks, hK, hN, hA⟩
  obtain ⟨H, hH⟩ : ∃ z, z = s.heap := ⟨_, rfl⟩
  rw [← hH] at hP
  have hS : va_S A s.heap H [] := by rw [hH]; exact hS
  suffices hgo : G_X2_personNamed_x p l e s m below meth c G cA A xa ka ra na ia ua va ca za pa qa X K R P L P2 L2 Tn Ti Tu Tv C Z q0 q1 q2 q3 q4 q5 x1 r0 H [] (F0 m 0 ls []) by rw [hH] at hgo; exact hgo
  generalize ([] : List Loc) = locs at hS ⊢
  unfold f_X2_personNamed_x at h
  refine lv_iconst (v := 0) hx hb dX2_personNamed_0 (by decide) ?_
  refine lv_istore_n (lv' := [(2, .int 0), (0, .ref (pa 0)), (1, .int x1)]) hx hb dX2_personNamed_1 rfl hl (by decide) rfl (fun ls hl => ?_)
  exact w_X2_personNamed_x_L2 F 2000 0 H locs ls h hP hD hS (lv_sub hl [1, 2, 0] rfl)
abbrev G_X7_named (p : Program) (l : Launch) (e : Env) (s : State) (m : MethodId) (below : List Frame) (meth : Method) (c : Code) (G : va_G) (cA : Nat → ClassId) (A : Nat → Prop) (xa : Nat → Nat) (ka : Nat → Nat) (ra : Nat → Nat) (na : Nat → Nat) (ia : Nat → Nat) (ua : Nat → Nat) (va : Nat → Nat) (ca : Nat → Nat) (za : Nat → Nat) (pa : Nat → Nat) (qa : Nat → Nat) (X : Tr) (K : Tr) (R : Tr) (P : Tr) (L : Lo) (P2 : Tr) (L2 : Lo) (Tn : Tr) (Ti : Tr) (Tu : Tr) (Tv : Tr) (C : Tr) (Z : Tr) (q0 : Nat) (q1 : Nat) (q2 : Nat) (q3 : Nat) (q4 : Nat) (q5 : Nat) (x1 : Int32) (r0 : Int32) (H : Heap) (locs : List Loc) (g : JFrame) : Prop := W p l e (headSpec (.code yX7_named cX7_named 2 (some .int) :: T0) ({ frames := 1, cells := 0, slots := 0, locals := 22 } : Room)).room s m ([.ref (xa 0), .int x1] : List Value).toArray below meth c H locs 0 0 (MQ below (tqQi G cA (fun (r : Int32) (_ : Unit) => r = r0) (fun (_ : Unit) => wX cA xa ka ra na ia ua va ca za pa qa X K R P L P2 L2 Tn Ti Tu Tv C Z q0 q1 q2 q3 q4 q5) A) ([.ref (xa 0), .int x1] : List Value).toArray s 0 0 A) g
set_option maxHeartbeats 4000000 in
set_option maxRecDepth 100000 in
theorem c_X7_named (l : Launch) (G : va_G) (cA : Nat → ClassId) (sz : Nat) (xa : Nat → Nat) (ka : Nat → Nat) (ra : Nat → Nat) (na : Nat → Nat) (ia : Nat → Nat) (ua : Nat → Nat) (va : Nat → Nat) (ca : Nat → Nat) (za : Nat → Nat) (pa : Nat → Nat) (qa : Nat → Nat) (X : Tr) (K : Tr) (R : Tr) (P : Tr) (L : Lo) (P2 : Tr) (L2 : Lo) (Tn : Tr) (Ti : Tr) (Tu : Tr) (Tv : Tr) (C : Tr) (Z : Tr) (q0 : Nat) (q1 : Nat) (q2 : Nat) (q3 : Nat) (q4 : Nat) (q5 : Nat) (x1 : Int32)  (r0 : Int32) (h : f_X7_named pa qa P q4 x1 = some r0) : Met l yX7_named (.code yX7_named cX7_named 2 (some .int) :: T0) ({ frames := 1, cells := 0, slots := 0, locals := 22 } : Room) (tqP G cA [.ref (xa 0), .int x1] (wX cA xa ka ra na ia ua va ca za pa qa X K R P L P2 L2 Tn Ti Tu Tv C Z q0 q1 q2 q3 q4 q5) sz) (tqQi G cA (fun (r : Int32) (_ : Unit) => r = r0) (fun (_ : Unit) => wX cA xa ka ra na ia ua va ca za pa qa X K R P L P2 L2 Tn Ti Tu Tv C Z q0 q1 q2 q3 q4 q5) (va_A (wX cA xa ka ra na ia ua va ca za pa qa X K R P L P2 L2 Tn Ti Tu Tv C Z q0 q1 q2 q3 q4 q5) sz)) 0 0 (va_A (wX cA xa ka ra na ia ua va ca za pa qa X K R P L P2 L2 Tn Ti Tu Tv C Z q0 q1 q2 q3 q4 q5) sz) := by
  refine Met.ofW (cc := cX7_named) (maxL := 2) (ret := (some .int)) (by decide) rfl ?_
  intro p e s m args below meth c s₁ B hml hv
  obtain ⟨rfl, hsz, hP, hK, hD0, hN⟩ := hv
  have hx := B.exec
  have hb := B.bytes
  have hr := B.returns
  have hts := atoms_spec (ws := .code yX7_named cX7_named 2 (some .int) :: T0) B.pre
  have hT : ∀ w ∈ T0, w.before _ s = true := fun w h => hts w (List.mem_cons_of_mem _ h)
  have hown : s.vm.findClass RX7 = some m.cls := findClass_of_methodNamed B.named
  have hlocks := B.notSynchronized
  subst hsz
  have hD := hD0.self (sz := s.heap.size)
  generalize hAe : va_A (wX cA xa ka ra na ia ua va ca za pa qa X K R P L P2 L2 Tn Ti Tu Tv C Z q0 q1 q2 q3 q4 q5) s.heap.size = A at hD ⊢
  have hA : ∀ q : Nat, s.heap.size ≤ q → A q := fun q h => by rw [← hAe]; exact Or.inr h
  have hS : va_S A s.heap s.heap [] := va_S.rf
  have hl := lv_entry ([.ref (xa 0), .int x1]) (n := 2) (Nat.le_of_ble_eq_true rfl)
  rw [lg_entry_eq]
  generalize (lg_sl ([.ref (xa 0), .int x1]) ++ List.replicate (2 - (lg_sl ([.ref (xa 0), .int x1])).length) Slot.unset).toArray = ls at hl ⊢
  have hl : lv_has ls 2 [(0, .ref (xa 0)), (1, .int x1)] := hl
  have F : tF p s m ([.ref (xa 0), .int x1] : List Value).toArray meth c G cA A RX7 cX7_named 2 (some .int) := ⟨hx, hb, hr, hml, hT, hown, hlocks, hK, hN, hA⟩
  obtain ⟨H, hH⟩ : ∃ z, z = s.heap := ⟨_, rfl⟩
  rw [← hH] at hP
  have hS : va_S A s.heap H [] := by rw [hH]; exact hS
  suffices hgo : G_X7_named p l e s m below meth c G cA A xa ka ra na ia ua va ca za pa qa X K R P L P2 L2 Tn Ti Tu Tv C Z q0 q1 q2 q3 q4 q5 x1 r0 H [] (F0 m 0 ls []) by rw [hH] at hgo; exact hgo
  generalize ([] : List Loc) = locs at hS ⊢
  unfold f_X7_named at h
  refine lv_aload_n hx hb dX7_named_0 rfl (lv_at hl 0 rfl) ?_
  refine va_get (D := G) (ci := 7) (v := .ref q4) (C := RX7) (T := TX7) (N := 12) hx hb hT ku_7 hown hK hP 0 rfl rfl 1 (by decide) (hT _ kw_1_20) (fun _ h9 => h9) rfl dX7_named_1 ?_
  refine lv_iload_n hx hb dX7_named_4 rfl (lv_at hl 1 rfl) ?_
  obtain ⟨g1, h⟩ := tx_ck h
  have eg1 := of_decide_eq_true g1
  subst eg1
  obtain ⟨r2, hc3, h⟩ := tx_bd h
  refine tw_ci tw_all hP hD hS hA (va_runV (As := [.int x1]) (rest := []) ⟨hx, hb, hml, hown, hT⟩ (c_X2_personNamed_x l G cA H.size xa ka ra na ia ua va ca za pa qa X K R P L P2 L2 Tn Ti Tu Tv C Z q0 q1 q2 q3 (pa 0) q5 x1  r2 hc3) (cwV 1 hT (tq_gV kw_28_3 kw_17_19 kw_17_20 kw_1_19 kw_17_21) rfl rfl rfl (by decide +kernel) ⟨Nat.le_of_ble_eq_true rfl, Nat.le_of_ble_eq_true rfl⟩) ⟨(tw_pre tw_all hP hD hK hN).1, va_recv hK hP (ci := 2) (q0 := 9) rfl rfl, (tw_pre tw_all hP hD hK hN).2⟩ rfl rfl hl.1 rfl (lv_room (Nat.le_of_ble_eq_true rfl)) dX7_named_5 ⟨Nat.le_of_ble_eq_true rfl, Nat.le_of_ble_eq_true rfl⟩) (fun _ _ H locs z4 hP hD hS => ?_)
  subst z4
  rw [List.append_nil] at hP hD
  have hP : va_P G vwCl (wX cA xa ka ra na ia ua va ca za pa qa X K R P L P2 L2 Tn Ti Tu Tv C Z q0 q1 q2 q3 (pa 0) q5) H := hP
  have hD : va_D A (wX cA xa ka ra na ia ua va ca za pa qa X K R P L P2 L2 Tn Ti Tu Tv C Z q0 q1 q2 q3 (pa 0) q5) := hD
  obtain rfl := tx_1 h
  exact W.iret hx hb hr (fun t ht hW => ⟨⟨_, (), rfl, rfl, by rw [ht]; exact hP, hD⟩, hS.F ht⟩) hS.2.2 dX7_named_8
abbrev G_X7_piece (p : Program) (l : Launch) (e : Env) (s : State) (m : MethodId) (below : List Frame) (meth : Method) (c : Code) (G : va_G) (cA : Nat → ClassId) (A : Nat → Prop) (xa : Nat → Nat) (ka : Nat → Nat) (ra : Nat → Nat) (na : Nat → Nat) (ia : Nat → Nat) (ua : Nat → Nat) (va : Nat → Nat) (ca : Nat → Nat) (za : Nat → Nat) (pa : Nat → Nat) (qa : Nat → Nat) (X : Tr) (K : Tr) (R : Tr) (P : Tr) (L : Lo) (P2 : Tr) (L2 : Lo) (Tn : Tr) (Ti : Tr) (Tu : Tr) (Tv : Tr) (C : Tr) (Z : Tr) (q0 : Nat) (q1 : Nat) (q2 : Nat) (q3 : Nat) (q4 : Nat) (q5 : Nat) (x1 : Int32) (x2 : Int32) (r0 : Int32) (H : Heap) (locs : List Loc) (g : JFrame) : Prop := W p l e (headSpec (.code yX7_piece cX7_piece 3 (some .int) :: T0) ({ frames := 2, cells := 0, slots := 0, locals := 45 } : Room)).room s m ([.ref (xa 0), .int x1, .int x2] : List Value).toArray below meth c H locs 0 0 (MQ below (tqQi G cA (fun (r : Int32) (_ : Unit) => r = r0) (fun (_ : Unit) => wX cA xa ka ra na ia ua va ca za pa qa X K R P L P2 L2 Tn Ti Tu Tv C Z q0 q1 q2 q3 q4 q5) A) ([.ref (xa 0), .int x1, .int x2] : List Value).toArray s 0 0 A) g
set_option maxHeartbeats 4000000 in
set_option maxRecDepth 100000 in
theorem c_X7_piece (l : Launch) (G : va_G) (cA : Nat → ClassId) (sz : Nat) (xa : Nat → Nat) (ka : Nat → Nat) (ra : Nat → Nat) (na : Nat → Nat) (ia : Nat → Nat) (ua : Nat → Nat) (va : Nat → Nat) (ca : Nat → Nat) (za : Nat → Nat) (pa : Nat → Nat) (qa : Nat → Nat) (X : Tr) (K : Tr) (R : Tr) (P : Tr) (L : Lo) (P2 : Tr) (L2 : Lo) (Tn : Tr) (Ti : Tr) (Tu : Tr) (Tv : Tr) (C : Tr) (Z : Tr) (q0 : Nat) (q1 : Nat) (q2 : Nat) (q3 : Nat) (q4 : Nat) (q5 : Nat) (x1 : Int32) (x2 : Int32)  (r0 : Int32) (h : f_X7_piece pa qa P Tn q0 q4 x1 x2 = some r0) : Met l yX7_piece (.code yX7_piece cX7_piece 3 (some .int) :: T0) ({ frames := 2, cells := 0, slots := 0, locals := 45 } : Room) (tqP G cA [.ref (xa 0), .int x1, .int x2] (wX cA xa ka ra na ia ua va ca za pa qa X K R P L P2 L2 Tn Ti Tu Tv C Z q0 q1 q2 q3 q4 q5) sz) (tqQi G cA (fun (r : Int32) (_ : Unit) => r = r0) (fun (_ : Unit) => wX cA xa ka ra na ia ua va ca za pa qa X K R P L P2 L2 Tn Ti Tu Tv C Z q0 q1 q2 q3 q4 q5) (va_A (wX cA xa ka ra na ia ua va ca za pa qa X K R P L P2 L2 Tn Ti Tu Tv C Z q0 q1 q2 q3 q4 q5) sz)) 0 0 (va_A (wX cA xa ka ra na ia ua va ca za pa qa X K R P L P2 L2 Tn Ti Tu Tv C Z q0 q1 q2 q3 q4 q5) sz) := by
  refine Met.ofW (cc := cX7_piece) (maxL := 3) (ret := (some .int)) (by decide) rfl ?_
  intro p e s m args below meth c s₁ B hml hv
  obtain ⟨rfl, hsz, hP, hK, hD0, hN⟩ := hv
  have hx := B.exec
  have hb := B.bytes
  have hr := B.returns
  have hts := atoms_spec (ws := .code yX7_piece cX7_piece 3 (some .int) :: T0) B.pre
  have hT : ∀ w ∈ T0, w.before _ s = true := fun w h => hts w (List.mem_cons_of_mem _ h)
  have hown : s.vm.findClass RX7 = some m.cls := findClass_of_methodNamed B.named
  have hlocks := B.notSynchronized
  subst hsz
  have hD := hD0.self (sz := s.heap.size)
  generalize hAe : va_A (wX cA xa ka ra na ia ua va ca za pa qa X K R P L P2 L2 Tn Ti Tu Tv C Z q0 q1 q2 q3 q4 q5) s.heap.size = A at hD ⊢
  have hA : ∀ q : Nat, s.heap.size ≤ q → A q := fun q h => by rw [← hAe]; exact Or.inr h
  have hS : va_S A s.heap s.heap [] := va_S.rf
  have hl := lv_entry ([.ref (xa 0), .int x1, .int x2]) (n := 3) (Nat.le_of_ble_eq_true rfl)
  rw [lg_entry_eq]
  generalize (lg_sl ([.ref (xa 0), .int x1, .int x2]) ++ List.replicate (3 - (lg_sl ([.ref (xa 0), .int x1, .int x2])).length) Slot.unset).toArray = ls at hl ⊢
  have hl : lv_has ls 3 [(0, .ref (xa 0)), (1, .int x1), (2, .int x2)] := hl
  have F : tF p s m ([.ref (xa 0), .int x1, .int x2] : List Value).toArray meth c G cA A RX7 cX7_piece 3 (some .int) := ⟨hx, hb, hr, hml, hT, hown, hlocks, hK, hN, hA⟩
  obtain ⟨H, hH⟩ : ∃ z, z = s.heap := ⟨_, rfl⟩
  rw [← hH] at hP
  have hS : va_S A s.heap H [] := by rw [hH]; exact hS
  suffices hgo : G_X7_piece p l e s m below meth c G cA A xa ka ra na ia ua va ca za pa qa X K R P L P2 L2 Tn Ti Tu Tv C Z q0 q1 q2 q3 q4 q5 x1 x2 r0 H [] (F0 m 0 ls []) by rw [hH] at hgo; exact hgo
  generalize ([] : List Loc) = locs at hS ⊢
  unfold f_X7_piece at h
  refine lv_aload_n hx hb dX7_piece_0 rfl (lv_at hl 0 rfl) ?_
  refine lv_iload_n hx hb dX7_piece_1 rfl (lv_at hl 1 rfl) ?_
  obtain ⟨r1, hc2, h⟩ := tx_bd h
  refine tw_ci tw_all hP hD hS hA (va_runV (As := [.int x1]) (rest := []) ⟨hx, hb, hml, hown, hT⟩ (c_X7_isPiece l G cA H.size xa ka ra na ia ua va ca za pa qa X K R P L P2 L2 Tn Ti Tu Tv C Z q0 q1 q2 q3 q4 q5 x1  r1 hc2) (cwV 1 hT (tq_gV kw_30_5 kw_30_6 kw_30_7 kw_1_2 kw_30_8) rfl rfl rfl (by decide +kernel) ⟨Nat.le_of_ble_eq_true rfl, Nat.le_of_ble_eq_true rfl⟩) ⟨(tw_pre tw_all hP hD hK hN).1, va_recv hK hP (ci := 7) (q0 := 0) rfl rfl, (tw_pre tw_all hP hD hK hN).2⟩ rfl rfl hl.1 rfl (lv_room (Nat.le_of_ble_eq_true rfl)) dX7_piece_2 ⟨Nat.le_of_ble_eq_true rfl, Nat.le_of_ble_eq_true rfl⟩) (fun _ _ H locs z3 hP hD hS => ?_)
  subst z3
  rw [List.append_nil] at hP hD
  have hP : va_P G vwCl (wX cA xa ka ra na ia ua va ca za pa qa X K R P L P2 L2 Tn Ti Tu Tv C Z q0 q1 q2 q3 q4 q5) H := hP
  have hD : va_D A (wX cA xa ka ra na ia ua va ca za pa qa X K R P L P2 L2 Tn Ti Tu Tv C Z q0 q1 q2 q3 q4 q5) := hD
  refine lv_if_ne (tgt := 10) hx hb dX7_piece_5 (by decide) (fun c4 => ?_) (fun c4 => ?_)
  · have h := tx_neg c4 h
    refine lv_iload_n hx hb dX7_piece_10 rfl (lv_at hl 2 rfl) ?_
    by_cases c5 : x2 = 0
    · have h := tx_pos c5 h
      refine lv_tableIn (off := 37) (tgt := 58) hx hb dX7_piece_11 (by rw [c5]; decide) (by rw [c5]; decide) (by rw [c5]; decide) (by decide) ?_
      refine lv_aload_n hx hb dX7_piece_48 rfl (lv_at hl 0 rfl) ?_
      refine va_get (D := G) (ci := 7) (v := .ref q4) (C := RX7) (T := TX7) (N := 12) hx hb hT ku_7 hown hK hP 0 rfl rfl 1 (by decide) (hT _ kw_1_20) (fun _ h9 => h9) rfl dX7_piece_49 ?_
      obtain ⟨g6, h⟩ := tx_ck h
      have eg6 := of_decide_eq_true g6
      subst eg6
      refine va_get (D := G) (ci := 2) (v := .ref (pa 14)) (C := RX2) (T := TX2) (N := 19) hx hb hT ku_2 hown hK hP 9 rfl rfl 13 (by decide) (hT _ kw_30_0) (fun _ h9 => h9) rfl dX7_piece_52 ?_
      refine lv_iload_n hx hb dX7_piece_55 rfl (lv_at hl 1 rfl) ?_
      obtain ⟨g7, h⟩ := tx_ck h
      refine va_iald (i := x1) hx hb hK hP 16 0 rfl rfl (tx_in g7) dX7_piece_56 ?_
      obtain rfl := tx_1 h
      exact W.iret hx hb hr (fun t ht hW => ⟨⟨_, (), rfl, rfl, by rw [ht]; exact hP, hD⟩, hS.F ht⟩) hS.2.2 dX7_piece_57
    · have h := tx_neg c5 h
      by_cases c8 : x2 = 1
      · have h := tx_pos c8 h
        refine lv_tableIn (off := 47) (tgt := 68) hx hb dX7_piece_11 (by rw [c8]; decide) (by rw [c8]; decide) (by rw [c8]; decide) (by decide) ?_
        refine lv_aload_n hx hb dX7_piece_58 rfl (lv_at hl 0 rfl) ?_
        refine va_get (D := G) (ci := 7) (v := .ref q4) (C := RX7) (T := TX7) (N := 12) hx hb hT ku_7 hown hK hP 0 rfl rfl 1 (by decide) (hT _ kw_1_20) (fun _ h9 => h9) rfl dX7_piece_59 ?_
        obtain ⟨g9, h⟩ := tx_ck h
        have eg9 := of_decide_eq_true g9
        subst eg9
        refine va_get (D := G) (ci := 2) (v := .ref (pa 15)) (C := RX2) (T := TX2) (N := 19) hx hb hT ku_2 hown hK hP 9 rfl rfl 14 (by decide) (hT _ kw_30_1) (fun _ h9 => h9) rfl dX7_piece_62 ?_
        refine lv_iload_n hx hb dX7_piece_65 rfl (lv_at hl 1 rfl) ?_
        obtain ⟨g10, h⟩ := tx_ck h
        refine va_iald (i := x1) hx hb hK hP 17 0 rfl rfl (tx_in g10) dX7_piece_66 ?_
        obtain rfl := tx_1 h
        exact W.iret hx hb hr (fun t ht hW => ⟨⟨_, (), rfl, rfl, by rw [ht]; exact hP, hD⟩, hS.F ht⟩) hS.2.2 dX7_piece_67
      · have h := tx_neg c8 h
        by_cases c11 : x2 = 2
        · have h := tx_pos c11 h
          refine lv_tableIn (off := 57) (tgt := 78) hx hb dX7_piece_11 (by rw [c11]; decide) (by rw [c11]; decide) (by rw [c11]; decide) (by decide) ?_
          refine lv_aload_n hx hb dX7_piece_68 rfl (lv_at hl 0 rfl) ?_
          refine va_get (D := G) (ci := 7) (v := .ref q4) (C := RX7) (T := TX7) (N := 12) hx hb hT ku_7 hown hK hP 0 rfl rfl 1 (by decide) (hT _ kw_1_20) (fun _ h9 => h9) rfl dX7_piece_69 ?_
          obtain ⟨g12, h⟩ := tx_ck h
          have eg12 := of_decide_eq_true g12
          subst eg12
          refine va_get (D := G) (ci := 2) (v := .ref (pa 16)) (C := RX2) (T := TX2) (N := 19) hx hb hT ku_2 hown hK hP 9 rfl rfl 15 (by decide) (hT _ kw_30_2) (fun _ h9 => h9) rfl dX7_piece_72 ?_
          refine lv_iload_n hx hb dX7_piece_75 rfl (lv_at hl 1 rfl) ?_
          obtain ⟨g13, h⟩ := tx_ck h
          refine va_iald (i := x1) hx hb hK hP 18 0 rfl rfl (tx_in g13) dX7_piece_76 ?_
          obtain rfl := tx_1 h
          exact W.iret hx hb hr (fun t ht hW => ⟨⟨_, (), rfl, rfl, by rw [ht]; exact hP, hD⟩, hS.F ht⟩) hS.2.2 dX7_piece_77
        · have h := tx_neg c11 h
          by_cases c14 : x2 = 3
          · have h := tx_pos c14 h
            refine lv_tableIn (off := 67) (tgt := 88) hx hb dX7_piece_11 (by rw [c14]; decide) (by rw [c14]; decide) (by rw [c14]; decide) (by decide) ?_
            refine lv_aload_n hx hb dX7_piece_78 rfl (lv_at hl 0 rfl) ?_
            refine va_get (D := G) (ci := 7) (v := .ref (na 0)) (C := RX7) (T := TX7) (N := 12) hx hb hT ku_7 hown hK hP 0 rfl rfl 2 (by decide) (hT _ kw_2_0) (fun _ h9 => h9) rfl dX7_piece_79 ?_
            refine va_get (D := G) (ci := 6) (v := .ref (na 14)) (C := RX6) (T := TX6) (N := 20) hx hb hT ku_6 hown hK hP 53 rfl rfl 13 (by decide) (hT _ kw_30_3) (fun _ h9 => h9) rfl dX7_piece_82 ?_
            refine lv_iload_n hx hb dX7_piece_85 rfl (lv_at hl 1 rfl) ?_
            obtain ⟨g15, h⟩ := tx_ck h
            refine va_iald (i := x1) hx hb hK hP 59 0 rfl rfl (tx_in g15) dX7_piece_86 ?_
            obtain rfl := tx_1 h
            exact W.iret hx hb hr (fun t ht hW => ⟨⟨_, (), rfl, rfl, by rw [ht]; exact hP, hD⟩, hS.F ht⟩) hS.2.2 dX7_piece_87
          · have h := tx_neg c14 h
            by_cases c16 : x2 = 4
            · have h := tx_pos c16 h
              refine lv_tableIn (off := 77) (tgt := 98) hx hb dX7_piece_11 (by rw [c16]; decide) (by rw [c16]; decide) (by rw [c16]; decide) (by decide) ?_
              refine lv_aload_n hx hb dX7_piece_88 rfl (lv_at hl 0 rfl) ?_
              refine va_get (D := G) (ci := 7) (v := .ref (na 0)) (C := RX7) (T := TX7) (N := 12) hx hb hT ku_7 hown hK hP 0 rfl rfl 2 (by decide) (hT _ kw_2_0) (fun _ h9 => h9) rfl dX7_piece_89 ?_
              refine va_get (D := G) (ci := 6) (v := .ref (na 15)) (C := RX6) (T := TX6) (N := 20) hx hb hT ku_6 hown hK hP 53 rfl rfl 14 (by decide) (hT _ kw_30_4) (fun _ h9 => h9) rfl dX7_piece_92 ?_
              refine lv_iload_n hx hb dX7_piece_95 rfl (lv_at hl 1 rfl) ?_
              obtain ⟨g17, h⟩ := tx_ck h
              refine va_iald (i := x1) hx hb hK hP 60 0 rfl rfl (tx_in g17) dX7_piece_96 ?_
              obtain rfl := tx_1 h
              exact W.iret hx hb hr (fun t ht hW => ⟨⟨_, (), rfl, rfl, by rw [ht]; exact hP, hD⟩, hS.F ht⟩) hS.2.2 dX7_piece_97
            · have h := tx_neg c16 h
              by_cases c18 : x2 = 5
              · have h := tx_pos c18 h
                refine lv_tableIn (off := 87) (tgt := 107) hx hb dX7_piece_11 (by rw [c18]; decide) (by rw [c18]; decide) (by rw [c18]; decide) (by decide) ?_
                refine lv_aload_n hx hb dX7_piece_98 rfl (lv_at hl 0 rfl) ?_
                refine va_get (D := G) (ci := 7) (v := .ref (na 0)) (C := RX7) (T := TX7) (N := 12) hx hb hT ku_7 hown hK hP 0 rfl rfl 2 (by decide) (hT _ kw_2_0) (fun _ h9 => h9) rfl dX7_piece_99 ?_
                refine lv_iload_n hx hb dX7_piece_102 rfl (lv_at hl 1 rfl) ?_
                obtain ⟨g19, h⟩ := tx_ck h
                have eg19 := of_decide_eq_true g19
                subst eg19
                obtain ⟨r20, hc21, h⟩ := tx_bd h
                refine tw_ci pX_na hP hD hS hA (va_runV (As := [.int x1]) (rest := []) ⟨hx, hb, hml, hown, hT⟩ (c_X6_above l G cA H.size na pa Tn P L x1  r20 hc21) (cwV 1 hT (tq_gV kw_30_10 kw_30_11 kw_30_12 kw_1_23 kw_30_13) rfl rfl rfl (by decide +kernel) ⟨Nat.le_of_ble_eq_true rfl, Nat.le_of_ble_eq_true rfl⟩) ⟨(tw_pre pX_na hP hD hK hN).1, va_recv hK hP (ci := 6) (q0 := 53) rfl rfl, (tw_pre pX_na hP hD hK hN).2⟩ rfl rfl hl.1 rfl (lv_room (Nat.le_of_ble_eq_true rfl)) dX7_piece_103 ⟨Nat.le_of_ble_eq_true rfl, Nat.le_of_ble_eq_true rfl⟩) (fun _ _ H locs z22 hP hD hS => ?_)
                subst z22
                replace hP := tw_P pX_na.symm hP
                replace hD := tw_D pX_na.symm hD
                have hP : va_P G vwCl (wX cA xa ka ra na ia ua va ca za pa qa X K R P L P2 L2 Tn Ti Tu Tv C Z (pa 0) q1 q2 q3 q4 q5) H := hP
                have hD : va_D A (wX cA xa ka ra na ia ua va ca za pa qa X K R P L P2 L2 Tn Ti Tu Tv C Z (pa 0) q1 q2 q3 q4 q5) := hD
                obtain rfl := tx_1 h
                exact W.iret hx hb hr (fun t ht hW => ⟨⟨_, (), rfl, rfl, by rw [ht]; exact hP, hD⟩, hS.F ht⟩) hS.2.2 dX7_piece_106
              · have h := tx_neg c18 h
                have kc5 := tq_eqn (a := x2.toInt) (b := 0) rfl (by decide) c5
                have kc8 := tq_eqn (a := x2.toInt) (b := 1) rfl (by decide) c8
                have kc11 := tq_eqn (a := x2.toInt) (b := 2) rfl (by decide) c11
                have kc14 := tq_eqn (a := x2.toInt) (b := 3) rfl (by decide) c14
                have kc16 := tq_eqn (a := x2.toInt) (b := 4) rfl (by decide) c16
                have kc18 := tq_eqn (a := x2.toInt) (b := 5) rfl (by decide) c18
                refine lv_tableOut (tgt := 107) hx hb dX7_piece_11 (by omega) (by decide) ?_
                refine lv_iconst (v := (-1)) hx hb dX7_piece_107 (by decide) ?_
                obtain rfl := tx_1 h
                exact W.iret hx hb hr (fun t ht hW => ⟨⟨_, (), rfl, rfl, by rw [ht]; exact hP, hD⟩, hS.F ht⟩) hS.2.2 dX7_piece_108
  · have h := tx_pos c4 h
    refine lv_iconst (v := (-1)) hx hb dX7_piece_8 (by decide) ?_
    obtain rfl := tx_1 h
    exact W.iret hx hb hr (fun t ht hW => ⟨⟨_, (), rfl, rfl, by rw [ht]; exact hP, hD⟩, hS.F ht⟩) hS.2.2 dX7_piece_9
abbrev G_X7_place (p : Program) (l : Launch) (e : Env) (s : State) (m : MethodId) (below : List Frame) (meth : Method) (c : Code) (G : va_G) (cA : Nat → ClassId) (A : Nat → Prop) (xa : Nat → Nat) (ka : Nat → Nat) (ra : Nat → Nat) (na : Nat → Nat) (ia : Nat → Nat) (ua : Nat → Nat) (va : Nat → Nat) (ca : Nat → Nat) (za : Nat → Nat) (pa : Nat → Nat) (qa : Nat → Nat) (X : Tr) (K : Tr) (R : Tr) (P : Tr) (L : Lo) (P2 : Tr) (L2 : Lo) (Tn : Tr) (Ti : Tr) (Tu : Tr) (Tv : Tr) (C : Tr) (Z : Tr) (q0 : Nat) (q1 : Nat) (q2 : Nat) (q3 : Nat) (q4 : Nat) (q5 : Nat) (x1 : Int32) (x2 : Int32) (r0 : Int32) (H : Heap) (locs : List Loc) (g : JFrame) : Prop := W p l e (headSpec (.code yX7_place cX7_place 3 (some .int) :: T0) ({ frames := 1, cells := 0, slots := 0, locals := 21 } : Room)).room s m ([.ref (xa 0), .int x1, .int x2] : List Value).toArray below meth c H locs 0 0 (MQ below (tqQi G cA (fun (r : Int32) (_ : Unit) => r = r0) (fun (_ : Unit) => wX cA xa ka ra na ia ua va ca za pa qa X K R P L P2 L2 Tn Ti Tu Tv C Z q0 q1 q2 q3 q4 q5) A) ([.ref (xa 0), .int x1, .int x2] : List Value).toArray s 0 0 A) g
set_option maxHeartbeats 4000000 in
set_option maxRecDepth 100000 in
theorem c_X7_place (l : Launch) (G : va_G) (cA : Nat → ClassId) (sz : Nat) (xa : Nat → Nat) (ka : Nat → Nat) (ra : Nat → Nat) (na : Nat → Nat) (ia : Nat → Nat) (ua : Nat → Nat) (va : Nat → Nat) (ca : Nat → Nat) (za : Nat → Nat) (pa : Nat → Nat) (qa : Nat → Nat) (X : Tr) (K : Tr) (R : Tr) (P : Tr) (L : Lo) (P2 : Tr) (L2 : Lo) (Tn : Tr) (Ti : Tr) (Tu : Tr) (Tv : Tr) (C : Tr) (Z : Tr) (q0 : Nat) (q1 : Nat) (q2 : Nat) (q3 : Nat) (q4 : Nat) (q5 : Nat) (x1 : Int32) (x2 : Int32)  (r0 : Int32) (h : f_X7_place pa qa P Tn q0 q4 x1 x2 = some r0) : Met l yX7_place (.code yX7_place cX7_place 3 (some .int) :: T0) ({ frames := 1, cells := 0, slots := 0, locals := 21 } : Room) (tqP G cA [.ref (xa 0), .int x1, .int x2] (wX cA xa ka ra na ia ua va ca za pa qa X K R P L P2 L2 Tn Ti Tu Tv C Z q0 q1 q2 q3 q4 q5) sz) (tqQi G cA (fun (r : Int32) (_ : Unit) => r = r0) (fun (_ : Unit) => wX cA xa ka ra na ia ua va ca za pa qa X K R P L P2 L2 Tn Ti Tu Tv C Z q0 q1 q2 q3 q4 q5) (va_A (wX cA xa ka ra na ia ua va ca za pa qa X K R P L P2 L2 Tn Ti Tu Tv C Z q0 q1 q2 q3 q4 q5) sz)) 0 0 (va_A (wX cA xa ka ra na ia ua va ca za pa qa X K R P L P2 L2 Tn Ti Tu Tv C Z q0 q1 q2 q3 q4 q5) sz) := by
  refine Met.ofW (cc := cX7_place) (maxL := 3) (ret := (some .int)) (by decide) rfl ?_
  intro p e s m args below meth c s₁ B hml hv
  obtain ⟨rfl, hsz, hP, hK, hD0, hN⟩ := hv
  have hx := B.exec
  have hb := B.bytes
  have hr := B.returns
  have hts := atoms_spec (ws := .code yX7_place cX7_place 3 (some .int) :: T0) B.pre
  have hT : ∀ w ∈ T0, w.before _ s = true := fun w h => hts w (List.mem_cons_of_mem _ h)
  have hown : s.vm.findClass RX7 = some m.cls := findClass_of_methodNamed B.named
  have hlocks := B.notSynchronized
  subst hsz
  have hD := hD0.self (sz := s.heap.size)
  generalize hAe : va_A (wX cA xa ka ra na ia ua va ca za pa qa X K R P L P2 L2 Tn Ti Tu Tv C Z q0 q1 q2 q3 q4 q5) s.heap.size = A at hD ⊢
  have hA : ∀ q : Nat, s.heap.size ≤ q → A q := fun q h => by rw [← hAe]; exact Or.inr h
  have hS : va_S A s.heap s.heap [] := va_S.rf
  have hl := lv_entry ([.ref (xa 0), .int x1, .int x2]) (n := 3) (Nat.le_of_ble_eq_true rfl)
  rw [lg_entry_eq]
  generalize (lg_sl ([.ref (xa 0), .int x1, .int x2]) ++ List.replicate (3 - (lg_sl ([.ref (xa 0), .int x1, .int x2])).length) Slot.unset).toArray = ls at hl ⊢
  have hl : lv_has ls 3 [(0, .ref (xa 0)), (1, .int x1), (2, .int x2)] := hl
  have F : tF p s m ([.ref (xa 0), .int x1, .int x2] : List Value).toArray meth c G cA A RX7 cX7_place 3 (some .int) := ⟨hx, hb, hr, hml, hT, hown, hlocks, hK, hN, hA⟩
  obtain ⟨H, hH⟩ : ∃ z, z = s.heap := ⟨_, rfl⟩
  rw [← hH] at hP
  have hS : va_S A s.heap H [] := by rw [hH]; exact hS
  suffices hgo : G_X7_place p l e s m below meth c G cA A xa ka ra na ia ua va ca za pa qa X K R P L P2 L2 Tn Ti Tu Tv C Z q0 q1 q2 q3 q4 q5 x1 x2 r0 H [] (F0 m 0 ls []) by rw [hH] at hgo; exact hgo
  generalize ([] : List Loc) = locs at hS ⊢
  unfold f_X7_place at h
  refine lv_aload_n hx hb dX7_place_0 rfl (lv_at hl 0 rfl) ?_
  refine lv_iload_n hx hb dX7_place_1 rfl (lv_at hl 1 rfl) ?_
  obtain ⟨r1, hc2, h⟩ := tx_bd h
  refine tw_ci tw_all hP hD hS hA (va_runV (As := [.int x1]) (rest := []) ⟨hx, hb, hml, hown, hT⟩ (c_X7_isPlace l G cA H.size xa ka ra na ia ua va ca za pa qa X K R P L P2 L2 Tn Ti Tu Tv C Z q0 q1 q2 q3 q4 q5 x1  r1 hc2) (cwV 1 hT (tq_gV kw_31_22 kw_31_23 kw_32_0 kw_1_2 kw_32_1) rfl rfl rfl (by decide +kernel) ⟨Nat.le_of_ble_eq_true rfl, Nat.le_of_ble_eq_true rfl⟩) ⟨(tw_pre tw_all hP hD hK hN).1, va_recv hK hP (ci := 7) (q0 := 0) rfl rfl, (tw_pre tw_all hP hD hK hN).2⟩ rfl rfl hl.1 rfl (lv_room (Nat.le_of_ble_eq_true rfl)) dX7_place_2 ⟨Nat.le_of_ble_eq_true rfl, Nat.le_of_ble_eq_true rfl⟩) (fun _ _ H locs z3 hP hD hS => ?_)
  subst z3
  rw [List.append_nil] at hP hD
  have hP : va_P G vwCl (wX cA xa ka ra na ia ua va ca za pa qa X K R P L P2 L2 Tn Ti Tu Tv C Z q0 q1 q2 q3 q4 q5) H := hP
  have hD : va_D A (wX cA xa ka ra na ia ua va ca za pa qa X K R P L P2 L2 Tn Ti Tu Tv C Z q0 q1 q2 q3 q4 q5) := hD
  refine lv_if_ne (tgt := 10) hx hb dX7_place_5 (by decide) (fun c4 => ?_) (fun c4 => ?_)
  · have h := tx_neg c4 h
    refine lv_iload_n hx hb dX7_place_10 rfl (lv_at hl 2 rfl) ?_
    by_cases c5 : x2 = 0
    · have h := tx_pos c5 h
      refine lv_tableIn (off := 33) (tgt := 54) hx hb dX7_place_11 (by rw [c5]; decide) (by rw [c5]; decide) (by rw [c5]; decide) (by decide) ?_
      refine lv_aload_n hx hb dX7_place_44 rfl (lv_at hl 0 rfl) ?_
      refine va_get (D := G) (ci := 7) (v := .ref q4) (C := RX7) (T := TX7) (N := 12) hx hb hT ku_7 hown hK hP 0 rfl rfl 1 (by decide) (hT _ kw_1_20) (fun _ h9 => h9) rfl dX7_place_45 ?_
      obtain ⟨g6, h⟩ := tx_ck h
      have eg6 := of_decide_eq_true g6
      subst eg6
      refine va_get (D := G) (ci := 2) (v := .ref (pa 8)) (C := RX2) (T := TX2) (N := 19) hx hb hT ku_2 hown hK hP 9 rfl rfl 7 (by decide) (hT _ kw_31_18) (fun _ h9 => h9) rfl dX7_place_48 ?_
      refine lv_iload_n hx hb dX7_place_51 rfl (lv_at hl 1 rfl) ?_
      obtain ⟨g7, h⟩ := tx_ck h
      refine va_iald (i := x1) hx hb hK hP 10 0 rfl rfl (tx_in g7) dX7_place_52 ?_
      obtain rfl := tx_1 h
      exact W.iret hx hb hr (fun t ht hW => ⟨⟨_, (), rfl, rfl, by rw [ht]; exact hP, hD⟩, hS.F ht⟩) hS.2.2 dX7_place_53
    · have h := tx_neg c5 h
      by_cases c8 : x2 = 1
      · have h := tx_pos c8 h
        refine lv_tableIn (off := 43) (tgt := 64) hx hb dX7_place_11 (by rw [c8]; decide) (by rw [c8]; decide) (by rw [c8]; decide) (by decide) ?_
        refine lv_aload_n hx hb dX7_place_54 rfl (lv_at hl 0 rfl) ?_
        refine va_get (D := G) (ci := 7) (v := .ref q4) (C := RX7) (T := TX7) (N := 12) hx hb hT ku_7 hown hK hP 0 rfl rfl 1 (by decide) (hT _ kw_1_20) (fun _ h9 => h9) rfl dX7_place_55 ?_
        obtain ⟨g9, h⟩ := tx_ck h
        have eg9 := of_decide_eq_true g9
        subst eg9
        refine va_get (D := G) (ci := 2) (v := .ref (pa 9)) (C := RX2) (T := TX2) (N := 19) hx hb hT ku_2 hown hK hP 9 rfl rfl 8 (by decide) (hT _ kw_31_19) (fun _ h9 => h9) rfl dX7_place_58 ?_
        refine lv_iload_n hx hb dX7_place_61 rfl (lv_at hl 1 rfl) ?_
        obtain ⟨g10, h⟩ := tx_ck h
        refine va_iald (i := x1) hx hb hK hP 11 0 rfl rfl (tx_in g10) dX7_place_62 ?_
        obtain rfl := tx_1 h
        exact W.iret hx hb hr (fun t ht hW => ⟨⟨_, (), rfl, rfl, by rw [ht]; exact hP, hD⟩, hS.F ht⟩) hS.2.2 dX7_place_63
      · have h := tx_neg c8 h
        by_cases c11 : x2 = 2
        · have h := tx_pos c11 h
          refine lv_tableIn (off := 53) (tgt := 74) hx hb dX7_place_11 (by rw [c11]; decide) (by rw [c11]; decide) (by rw [c11]; decide) (by decide) ?_
          refine lv_aload_n hx hb dX7_place_64 rfl (lv_at hl 0 rfl) ?_
          refine va_get (D := G) (ci := 7) (v := .ref (na 0)) (C := RX7) (T := TX7) (N := 12) hx hb hT ku_7 hown hK hP 0 rfl rfl 2 (by decide) (hT _ kw_2_0) (fun _ h9 => h9) rfl dX7_place_65 ?_
          refine va_get (D := G) (ci := 6) (v := .ref (na 18)) (C := RX6) (T := TX6) (N := 20) hx hb hT ku_6 hown hK hP 53 rfl rfl 17 (by decide) (hT _ kw_31_20) (fun _ h9 => h9) rfl dX7_place_68 ?_
          refine lv_iload_n hx hb dX7_place_71 rfl (lv_at hl 1 rfl) ?_
          obtain ⟨g12, h⟩ := tx_ck h
          refine va_iald (i := x1) hx hb hK hP 63 0 rfl rfl (tx_in g12) dX7_place_72 ?_
          obtain rfl := tx_1 h
          exact W.iret hx hb hr (fun t ht hW => ⟨⟨_, (), rfl, rfl, by rw [ht]; exact hP, hD⟩, hS.F ht⟩) hS.2.2 dX7_place_73
        · have h := tx_neg c11 h
          by_cases c13 : x2 = 3
          · have h := tx_pos c13 h
            refine lv_tableIn (off := 63) (tgt := 84) hx hb dX7_place_11 (by rw [c13]; decide) (by rw [c13]; decide) (by rw [c13]; decide) (by decide) ?_
            refine lv_aload_n hx hb dX7_place_74 rfl (lv_at hl 0 rfl) ?_
            refine va_get (D := G) (ci := 7) (v := .ref (na 0)) (C := RX7) (T := TX7) (N := 12) hx hb hT ku_7 hown hK hP 0 rfl rfl 2 (by decide) (hT _ kw_2_0) (fun _ h9 => h9) rfl dX7_place_75 ?_
            refine va_get (D := G) (ci := 6) (v := .ref (na 17)) (C := RX6) (T := TX6) (N := 20) hx hb hT ku_6 hown hK hP 53 rfl rfl 16 (by decide) (hT _ kw_31_21) (fun _ h9 => h9) rfl dX7_place_78 ?_
            refine lv_iload_n hx hb dX7_place_81 rfl (lv_at hl 1 rfl) ?_
            obtain ⟨g14, h⟩ := tx_ck h
            refine va_iald (i := x1) hx hb hK hP 62 0 rfl rfl (tx_in g14) dX7_place_82 ?_
            obtain rfl := tx_1 h
            exact W.iret hx hb hr (fun t ht hW => ⟨⟨_, (), rfl, rfl, by rw [ht]; exact hP, hD⟩, hS.F ht⟩) hS.2.2 dX7_place_83
          · have h := tx_neg c13 h
            by_cases c15 : x2 = 4
            · have h := tx_pos c15 h
              refine lv_tableIn (off := 73) (tgt := 93) hx hb dX7_place_11 (by rw [c15]; decide) (by rw [c15]; decide) (by rw [c15]; decide) (by decide) ?_
              refine lv_aload_n hx hb dX7_place_84 rfl (lv_at hl 0 rfl) ?_
              refine va_get (D := G) (ci := 7) (v := .ref (na 0)) (C := RX7) (T := TX7) (N := 12) hx hb hT ku_7 hown hK hP 0 rfl rfl 2 (by decide) (hT _ kw_2_0) (fun _ h9 => h9) rfl dX7_place_85 ?_
              refine lv_iload_n hx hb dX7_place_88 rfl (lv_at hl 1 rfl) ?_
              obtain ⟨g16, h⟩ := tx_ck h
              have eg16 := of_decide_eq_true g16
              subst eg16
              obtain ⟨r17, hc18, h⟩ := tx_bd h
              refine tw_ci pX_na hP hD hS hA (va_runV (As := [.int x1]) (rest := []) ⟨hx, hb, hml, hown, hT⟩ (c_X6_top l G cA H.size na pa Tn P L x1  r17 hc18) (cwV 1 hT (tq_gV kw_32_3 kw_32_4 kw_32_5 kw_1_23 kw_32_6) rfl rfl rfl (by decide +kernel) ⟨Nat.le_of_ble_eq_true rfl, Nat.le_of_ble_eq_true rfl⟩) ⟨(tw_pre pX_na hP hD hK hN).1, va_recv hK hP (ci := 6) (q0 := 53) rfl rfl, (tw_pre pX_na hP hD hK hN).2⟩ rfl rfl hl.1 rfl (lv_room (Nat.le_of_ble_eq_true rfl)) dX7_place_89 ⟨Nat.le_of_ble_eq_true rfl, Nat.le_of_ble_eq_true rfl⟩) (fun _ _ H locs z19 hP hD hS => ?_)
              subst z19
              replace hP := tw_P pX_na.symm hP
              replace hD := tw_D pX_na.symm hD
              have hP : va_P G vwCl (wX cA xa ka ra na ia ua va ca za pa qa X K R P L P2 L2 Tn Ti Tu Tv C Z (pa 0) q1 q2 q3 q4 q5) H := hP
              have hD : va_D A (wX cA xa ka ra na ia ua va ca za pa qa X K R P L P2 L2 Tn Ti Tu Tv C Z (pa 0) q1 q2 q3 q4 q5) := hD
              obtain rfl := tx_1 h
              exact W.iret hx hb hr (fun t ht hW => ⟨⟨_, (), rfl, rfl, by rw [ht]; exact hP, hD⟩, hS.F ht⟩) hS.2.2 dX7_place_92
            · have h := tx_neg c15 h
              have kc5 := tq_eqn (a := x2.toInt) (b := 0) rfl (by decide) c5
              have kc8 := tq_eqn (a := x2.toInt) (b := 1) rfl (by decide) c8
              have kc11 := tq_eqn (a := x2.toInt) (b := 2) rfl (by decide) c11
              have kc13 := tq_eqn (a := x2.toInt) (b := 3) rfl (by decide) c13
              have kc15 := tq_eqn (a := x2.toInt) (b := 4) rfl (by decide) c15
              refine lv_tableOut (tgt := 93) hx hb dX7_place_11 (by omega) (by decide) ?_
              refine lv_iconst (v := (-1)) hx hb dX7_place_93 (by decide) ?_
              obtain rfl := tx_1 h
              exact W.iret hx hb hr (fun t ht hW => ⟨⟨_, (), rfl, rfl, by rw [ht]; exact hP, hD⟩, hS.F ht⟩) hS.2.2 dX7_place_94
  · have h := tx_pos c4 h
    refine lv_iconst (v := (-1)) hx hb dX7_place_8 (by decide) ?_
    obtain rfl := tx_1 h
    exact W.iret hx hb hr (fun t ht hW => ⟨⟨_, (), rfl, rfl, by rw [ht]; exact hP, hD⟩, hS.F ht⟩) hS.2.2 dX7_place_9
abbrev G_X7_workOutCosts (p : Program) (l : Launch) (e : Env) (s : State) (m : MethodId) (below : List Frame) (meth : Method) (c : Code) (G : va_G) (cA : Nat → ClassId) (A : Nat → Prop) (xa : Nat → Nat) (ka : Nat → Nat) (ra : Nat → Nat) (na : Nat → Nat) (ia : Nat → Nat) (ua : Nat → Nat) (va : Nat → Nat) (ca : Nat → Nat) (za : Nat → Nat) (pa : Nat → Nat) (qa : Nat → Nat) (K : Tr) (R : Tr) (P : Tr) (P2 : Tr) (L2 : Lo) (Tn : Tr) (Ti : Tr) (Tv : Tr) (C : Tr) (Z : Tr) (q0 : Nat) (q1 : Nat) (q3 : Nat) (q4 : Nat) (q5 : Nat) (x1 : Int32) (x2 : Int32) (X' : Tr) (L' : Lo) (Tu' : Tr) (q2' : Nat) (H : Heap) (locs : List Loc) (g : JFrame) : Prop := W p l e (headSpec (.code yX7_workOutCosts cX7_workOutCosts 5 none :: T0) ({ frames := 6, cells := 0, slots := 0, locals := 153 } : Room)).room s m ([.ref (xa 0), .int x1, .int x2] : List Value).toArray below meth c H locs 0 0 (MQ below (tqQv G cA (fun (_ : Unit) => True) (fun (_ : Unit) => wX cA xa ka ra na ia ua va ca za pa qa (X') K R P (L') P2 L2 Tn Ti (Tu') Tv C Z q0 q1 (q2') q3 q4 q5) A) ([.ref (xa 0), .int x1, .int x2] : List Value).toArray s 0 0 A) g
set_option maxHeartbeats 4000000 in
set_option maxRecDepth 100000 in
theorem w_X7_workOutCosts_L16 {p : Program} {l : Launch} {e : Env} {s : State} {m : MethodId} {below : List Frame} {meth : Method} {c : Code} {G : va_G} {cA : Nat → ClassId} {A : Nat → Prop} {xa : Nat → Nat} {ka : Nat → Nat} {ra : Nat → Nat} {na : Nat → Nat} {ia : Nat → Nat} {ua : Nat → Nat} {va : Nat → Nat} {ca : Nat → Nat} {za : Nat → Nat} {pa : Nat → Nat} {qa : Nat → Nat} {K : Tr} {R : Tr} {P : Tr} {P2 : Tr} {L2 : Lo} {Tn : Tr} {Ti : Tr} {Tv : Tr} {C : Tr} {Z : Tr} {q0 : Nat} {q1 : Nat} {q3 : Nat} {q4 : Nat} {q5 : Nat} {x1₀ : Int32} {x2₀ : Int32} {X' : Tr} {L' : Lo} {Tu' : Tr} {q2' : Nat} {x1 : Int32} {x2 : Int32} {x3 : Int32} (F : tF p s m ([.ref (xa 0), .int x1₀, .int x2₀] : List Value).toArray meth c G cA A RX7 cX7_workOutCosts 5 none)  (k2 : Int32 → Tr → Lo → Tr → Nat → Option (Tr × Lo × Tr × Nat)) (hk2 : ∀ (x3 : Int32) (X : Tr) (L : Lo) (Tu : Tr) (q2 : Nat) (H : Heap) (locs : List Loc) (ls : Array Slot), k2 x3 X L Tu q2 = some (X', L', Tu', q2') → va_P G vwCl (wX cA xa ka ra na ia ua va ca za pa qa X K R P L P2 L2 Tn Ti Tu Tv C Z q0 q1 q2 q3 q4 q5) H → va_D A (wX cA xa ka ra na ia ua va ca za pa qa X K R P L P2 L2 Tn Ti Tu Tv C Z q0 q1 q2 q3 q4 q5) → va_S A s.heap H locs → lv_has ls 5 [(0, .ref (xa 0)), (1, .int x1), (2, .int x2), (3, .int x3)] → G_X7_workOutCosts p l e s m below meth c G cA A xa ka ra na ia ua va ca za pa qa K R P P2 L2 Tn Ti Tv C Z q0 q1 q3 q4 q5 x1₀ x2₀ X' L' Tu' q2' H locs (F0 m 2 ls [])) (N : Nat) : ∀ (x4 : Int32) (X : Tr) (L : Lo) (Tu : Tr) (q2 : Nat) (H : Heap) (locs : List Loc) (ls : Array Slot), lpF (fun _ _ _ _ _ => none) (fB_X7_workOutCosts_L16 k2 pa qa P Tn q0 q4 x1 x2 x3) N x4 X L Tu q2 = some (X', L', Tu', q2') → va_P G vwCl (wX cA xa ka ra na ia ua va ca za pa qa X K R P L P2 L2 Tn Ti Tu Tv C Z q0 q1 q2 q3 (pa 0) q5) H → va_D A (wX cA xa ka ra na ia ua va ca za pa qa X K R P L P2 L2 Tn Ti Tu Tv C Z q0 q1 q2 q3 (pa 0) q5) → va_S A s.heap H locs → lv_has ls 5 [(0, .ref (xa 0)), (1, .int x1), (2, .int x2), (3, .int x3), (4, .int x4)] → G_X7_workOutCosts p l e s m below meth c G cA A xa ka ra na ia ua va ca za pa qa K R P P2 L2 Tn Ti Tv C Z q0 q1 q3 q4 q5 x1₀ x2₀ X' L' Tu' q2' H locs (F0 m 16 ls []) := by
  obtain ⟨hx, hb, hr, hml, hT, hown, hlocks, hK, hN, hA⟩ := id F
  induction N with
  | zero =>
    intro x4 X L Tu q2 H locs ls h
    have h : (none : Option (Tr × Lo × Tr × Nat)) = some (X', L', Tu', q2') := h
    cases h
  | succ N hk16 =>
    intro x4 X L Tu q2 H locs ls h hP hD hS hl
    have h : fB_X7_workOutCosts_L16 k2 pa qa P Tn q0 q4 x1 x2 x3 (lpF (fun _ _ _ _ _ => none) (fB_X7_workOutCosts_L16 k2 pa qa P Tn q0 q4 x1 x2 x3) N) x4 X L Tu q2 = some (X', L', Tu', q2') := h
    generalize hk16e : lpF (fun _ _ _ _ _ => none) (fB_X7_workOutCosts_L16 k2 pa qa P Tn q0 q4 x1 x2 x3) N = k16 at h hk16
    unfold fB_X7_workOutCosts_L16 at h
    refine lv_iload hx hb dX7_workOutCosts_16 (lv_at hl 4 rfl) ?_
    refine lv_aload_n hx hb dX7_workOutCosts_18 rfl (lv_at hl 0 rfl) ?_
    refine va_get (D := G) (ci := 7) (v := .ref q4) (C := RX7) (T := TX7) (N := 12) hx hb hT ku_7 hown hK hP 0 rfl rfl 1 (by decide) (hT _ kw_1_20) (fun _ h9 => h9) rfl dX7_workOutCosts_19 ?_
    obtain ⟨g3, h⟩ := tx_ck h
    have eg3 := of_decide_eq_true g3
    subst eg3
    refine va_get (D := G) (ci := 2) (v := .int (P 0 0)) (C := RX2) (T := TX2) (N := 19) hx hb hT ku_2 hown hK hP 9 rfl rfl 0 (by decide) (hT _ kw_32_2) (fun _ h9 => h9) rfl dX7_workOutCosts_22 ?_
    refine lv_icmp_ge (tgt := 98) hx hb dX7_workOutCosts_25 (by decide) (fun c4 => ?_) (fun c4 => ?_)
    · have h := tx_pos c4 h
      obtain ⟨y5, ey5, h⟩ := tx_lt h
      refine lv_iinc (v := y5) (lv' := [(3, .int y5), (0, .ref (xa 0)), (1, .int x1), (2, .int x2), (4, .int x4)]) hx hb dX7_workOutCosts_98 hl (k := 3) rfl ey5 (by decide) rfl (fun ls hl => ?_)
      refine lv_goto (tgt := 2) hx hb dX7_workOutCosts_101 (by decide) ?_
      exact hk2 y5 X L Tu q2 H locs ls h hP hD hS (lv_sub hl [1, 2, 3, 0] rfl)
    · have h := tx_neg c4 h
      refine lv_aload_n hx hb dX7_workOutCosts_28 rfl (lv_at hl 0 rfl) ?_
      obtain ⟨⟨Tu_6, q2_7⟩, hc8, h⟩ := tx_bd h
      replace h := tx_let (y := Tu_6) rfl h
      replace h := tx_let (y := q2_7) rfl h
      refine tw_cv tw_all hP hD hS hA (va_runV (As := []) (rest := []) ⟨hx, hb, hml, hown, hT⟩ (c_X7_startTrial l G cA H.size xa ka ra na ia ua va ca za pa qa X K R P L P2 L2 Tn Ti Tu Tv C Z q0 q1 q2 q3 (pa 0) q5  Tu_6 q2_7 hc8) (cwV 0 hT (tq_gV kw_46_17 kw_46_18 kw_46_19 kw_1_2 kw_46_20) rfl rfl rfl (by decide +kernel) ⟨Nat.le_of_ble_eq_true rfl, Nat.le_of_ble_eq_true rfl⟩) ⟨(tw_pre tw_all hP hD hK hN).1, va_recv hK hP (ci := 7) (q0 := 0) rfl rfl, (tw_pre tw_all hP hD hK hN).2⟩ rfl rfl hl.1 rfl (lv_room (Nat.le_of_ble_eq_true rfl)) dX7_workOutCosts_29 ⟨Nat.le_of_ble_eq_true rfl, Nat.le_of_ble_eq_true rfl⟩) (fun _ H locs z9 hP hD hS => ?_)
      rw [List.append_nil] at hP hD
      have hP : va_P G vwCl (wX cA xa ka ra na ia ua va ca za pa qa X K R P L P2 L2 Tn Ti Tu_6 Tv C Z q0 q1 q2_7 q3 (pa 0) q5) H := hP
      have hD : va_D A (wX cA xa ka ra na ia ua va ca za pa qa X K R P L P2 L2 Tn Ti Tu_6 Tv C Z q0 q1 q2_7 q3 (pa 0) q5) := hD
      refine lv_aload_n hx hb dX7_workOutCosts_32 rfl (lv_at hl 0 rfl) ?_
      refine va_get (D := G) (ci := 7) (v := .ref (ua 0)) (C := RX7) (T := TX7) (N := 12) hx hb hT ku_7 hown hK hP 0 rfl rfl 5 (by decide) (hT _ kw_2_3) (fun _ h9 => h9) rfl dX7_workOutCosts_33 ?_
      refine va_get (D := G) (ci := 6) (v := .ref (ua 13)) (C := RX6) (T := TX6) (N := 20) hx hb hT ku_6 hown hK hP 77 rfl rfl 12 (by decide) (hT _ kw_46_15) (fun _ h9 => h9) rfl dX7_workOutCosts_36 ?_
      refine lv_iload_n hx hb dX7_workOutCosts_39 rfl (lv_at hl 1 rfl) ?_
      refine lv_iload_n hx hb dX7_workOutCosts_40 rfl (lv_at hl 3 rfl) ?_
      obtain ⟨g10, h⟩ := tx_ck h
      refine va_iast (i := x1) hx hb hK hP hD hS 82 0 rfl rfl (tx_in g10) dX7_workOutCosts_41 (fun H locs hP hD hS => ?_)
      obtain ⟨Tu_11, eTu_11, h⟩ := tx_lt h
      rw [sX_ua_a12, eTu_11] at hP hD
      refine lv_aload_n hx hb dX7_workOutCosts_42 rfl (lv_at hl 0 rfl) ?_
      refine va_get (D := G) (ci := 7) (v := .ref (ua 0)) (C := RX7) (T := TX7) (N := 12) hx hb hT ku_7 hown hK hP 0 rfl rfl 5 (by decide) (hT _ kw_2_3) (fun _ h9 => h9) rfl dX7_workOutCosts_43 ?_
      refine va_get (D := G) (ci := 6) (v := .ref (ua 13)) (C := RX6) (T := TX6) (N := 20) hx hb hT ku_6 hown hK hP 77 rfl rfl 12 (by decide) (hT _ kw_46_15) (fun _ h9 => h9) rfl dX7_workOutCosts_46 ?_
      refine lv_iload_n hx hb dX7_workOutCosts_49 rfl (lv_at hl 2 rfl) ?_
      refine lv_iload hx hb dX7_workOutCosts_50 (lv_at hl 4 rfl) ?_
      obtain ⟨g12, h⟩ := tx_ck h
      refine va_iast (i := x2) hx hb hK hP hD hS 82 0 rfl rfl (tx_in g12) dX7_workOutCosts_52 (fun H locs hP hD hS => ?_)
      obtain ⟨Tu_13, eTu_13, h⟩ := tx_lt h
      rw [sX_ua_a12, eTu_13] at hP hD
      refine lv_aload_n hx hb dX7_workOutCosts_53 rfl (lv_at hl 0 rfl) ?_
      refine va_get (D := G) (ci := 7) (v := .ref (ua 0)) (C := RX7) (T := TX7) (N := 12) hx hb hT ku_7 hown hK hP 0 rfl rfl 5 (by decide) (hT _ kw_2_3) (fun _ h9 => h9) rfl dX7_workOutCosts_54 ?_
      obtain ⟨g14, h⟩ := tx_ck h
      have eg14 := of_decide_eq_true g14
      subst eg14
      obtain ⟨⟨Tu_15, L_16⟩, hc17, h⟩ := tx_bd h
      replace h := tx_let (y := Tu_15) rfl h
      replace h := tx_let (y := L_16) rfl h
      refine tw_cv pX_ua hP hD hS hA (va_runV (As := []) (rest := []) ⟨hx, hb, hml, hown, hT⟩ (c_X6_runToEnd l G cA H.size ua pa Tu_13 P L  Tu_15 L_16 hc17) (cwV 0 hT (tq_gV kw_47_10 kw_47_11 kw_47_12 kw_1_23 kw_47_13) rfl rfl rfl (by decide +kernel) ⟨Nat.le_of_ble_eq_true rfl, Nat.le_of_ble_eq_true rfl⟩) ⟨(tw_pre pX_ua hP hD hK hN).1, va_recv hK hP (ci := 6) (q0 := 77) rfl rfl, (tw_pre pX_ua hP hD hK hN).2⟩ rfl rfl hl.1 rfl (lv_room (Nat.le_of_ble_eq_true rfl)) dX7_workOutCosts_57 ⟨Nat.le_of_ble_eq_true rfl, Nat.le_of_ble_eq_true rfl⟩) (fun _ H locs z18 hP hD hS => ?_)
      replace hP := tw_P pX_ua.symm hP
      replace hD := tw_D pX_ua.symm hD
      have hP : va_P G vwCl (wX cA xa ka ra na ia ua va ca za pa qa X K R P L_16 P2 L2 Tn Ti Tu_15 Tv C Z q0 q1 (pa 0) q3 (pa 0) q5) H := hP
      have hD : va_D A (wX cA xa ka ra na ia ua va ca za pa qa X K R P L_16 P2 L2 Tn Ti Tu_15 Tv C Z q0 q1 (pa 0) q3 (pa 0) q5) := hD
      refine lv_aload_n hx hb dX7_workOutCosts_60 rfl (lv_at hl 0 rfl) ?_
      refine va_get (D := G) (ci := 7) (v := .ref (xa 11)) (C := RX7) (T := TX7) (N := 12) hx hb hT ku_7 hown hK hP 0 rfl rfl 10 (by decide) (hT _ kw_2_15) (fun _ h9 => h9) rfl dX7_workOutCosts_61 ?_
      refine lv_iload_n hx hb dX7_workOutCosts_64 rfl (lv_at hl 3 rfl) ?_
      refine lv_iconst (v := 5) hx hb dX7_workOutCosts_65 (by decide) ?_
      refine lv_imul hx hb dX7_workOutCosts_66 ?_
      refine lv_iload hx hb dX7_workOutCosts_67 (lv_at hl 4 rfl) ?_
      refine lv_iadd hx hb dX7_workOutCosts_69 ?_
      refine lv_aload_n hx hb dX7_workOutCosts_70 rfl (lv_at hl 0 rfl) ?_
      refine lv_iload_n hx hb dX7_workOutCosts_71 rfl (lv_at hl 1 rfl) ?_
      obtain ⟨r19, hc20, h⟩ := tx_bd h
      refine tw_ci tw_all hP hD hS hA (va_runV (As := [.int x1]) (rest := [.int ((x3 * 5) + x4), .ref (xa 11)]) ⟨hx, hb, hml, hown, hT⟩ (c_X7_costOf l G cA H.size xa ka ra na ia ua va ca za pa qa X K R P L_16 P2 L2 Tn Ti Tu_15 Tv C Z q0 q1 (pa 0) q3 (pa 0) q5 x1  r19 hc20) (cwV 1 hT (tq_gV kw_50_1 kw_50_2 kw_50_3 kw_1_2 kw_50_4) rfl rfl rfl (by decide +kernel) ⟨Nat.le_of_ble_eq_true rfl, Nat.le_of_ble_eq_true rfl⟩) ⟨(tw_pre tw_all hP hD hK hN).1, va_recv hK hP (ci := 7) (q0 := 0) rfl rfl, (tw_pre tw_all hP hD hK hN).2⟩ rfl rfl hl.1 rfl (lv_room (Nat.le_of_ble_eq_true rfl)) dX7_workOutCosts_72 ⟨Nat.le_of_ble_eq_true rfl, Nat.le_of_ble_eq_true rfl⟩) (fun _ _ H locs z21 hP hD hS => ?_)
      subst z21
      rw [List.append_nil] at hP hD
      have hP : va_P G vwCl (wX cA xa ka ra na ia ua va ca za pa qa X K R P L_16 P2 L2 Tn Ti Tu_15 Tv C Z q0 q1 (pa 0) q3 (pa 0) q5) H := hP
      have hD : va_D A (wX cA xa ka ra na ia ua va ca za pa qa X K R P L_16 P2 L2 Tn Ti Tu_15 Tv C Z q0 q1 (pa 0) q3 (pa 0) q5) := hD
      obtain ⟨g22, h⟩ := tx_ck h
      refine va_iast (i := ((x3 * 5) + x4)) hx hb hK hP hD hS 2 0 rfl rfl (tx_in g22) dX7_workOutCosts_75 (fun H locs hP hD hS => ?_)
      obtain ⟨X_23, eX_23, h⟩ := tx_lt h
      rw [sX_xa_a10, eX_23] at hP hD
      refine lv_aload_n hx hb dX7_workOutCosts_76 rfl (lv_at hl 0 rfl) ?_
      refine va_get (D := G) (ci := 7) (v := .ref (xa 12)) (C := RX7) (T := TX7) (N := 12) hx hb hT ku_7 hown hK hP 0 rfl rfl 11 (by decide) (hT _ kw_2_16) (fun _ h9 => h9) rfl dX7_workOutCosts_77 ?_
      refine lv_iload_n hx hb dX7_workOutCosts_80 rfl (lv_at hl 3 rfl) ?_
      refine lv_iconst (v := 5) hx hb dX7_workOutCosts_81 (by decide) ?_
      refine lv_imul hx hb dX7_workOutCosts_82 ?_
      refine lv_iload hx hb dX7_workOutCosts_83 (lv_at hl 4 rfl) ?_
      refine lv_iadd hx hb dX7_workOutCosts_85 ?_
      refine lv_aload_n hx hb dX7_workOutCosts_86 rfl (lv_at hl 0 rfl) ?_
      refine lv_iload_n hx hb dX7_workOutCosts_87 rfl (lv_at hl 2 rfl) ?_
      obtain ⟨r24, hc25, h⟩ := tx_bd h
      refine tw_ci tw_all hP hD hS hA (va_runV (As := [.int x2]) (rest := [.int ((x3 * 5) + x4), .ref (xa 12)]) ⟨hx, hb, hml, hown, hT⟩ (c_X7_costOf l G cA H.size xa ka ra na ia ua va ca za pa qa X_23 K R P L_16 P2 L2 Tn Ti Tu_15 Tv C Z q0 q1 (pa 0) q3 (pa 0) q5 x2  r24 hc25) (cwV 1 hT (tq_gV kw_50_1 kw_50_2 kw_50_3 kw_1_2 kw_50_4) rfl rfl rfl (by decide +kernel) ⟨Nat.le_of_ble_eq_true rfl, Nat.le_of_ble_eq_true rfl⟩) ⟨(tw_pre tw_all hP hD hK hN).1, va_recv hK hP (ci := 7) (q0 := 0) rfl rfl, (tw_pre tw_all hP hD hK hN).2⟩ rfl rfl hl.1 rfl (lv_room (Nat.le_of_ble_eq_true rfl)) dX7_workOutCosts_88 ⟨Nat.le_of_ble_eq_true rfl, Nat.le_of_ble_eq_true rfl⟩) (fun _ _ H locs z26 hP hD hS => ?_)
      subst z26
      rw [List.append_nil] at hP hD
      have hP : va_P G vwCl (wX cA xa ka ra na ia ua va ca za pa qa X_23 K R P L_16 P2 L2 Tn Ti Tu_15 Tv C Z q0 q1 (pa 0) q3 (pa 0) q5) H := hP
      have hD : va_D A (wX cA xa ka ra na ia ua va ca za pa qa X_23 K R P L_16 P2 L2 Tn Ti Tu_15 Tv C Z q0 q1 (pa 0) q3 (pa 0) q5) := hD
      refine va_iast (i := ((x3 * 5) + x4)) hx hb hK hP hD hS 3 0 rfl rfl (tx_in g22) dX7_workOutCosts_91 (fun H locs hP hD hS => ?_)
      obtain ⟨X_27, eX_27, h⟩ := tx_lt h
      rw [sX_xa_a11, eX_27] at hP hD
      obtain ⟨y28, ey28, h⟩ := tx_lt h
      refine lv_iinc (v := y28) (lv' := [(4, .int y28), (0, .ref (xa 0)), (1, .int x1), (2, .int x2), (3, .int x3)]) hx hb dX7_workOutCosts_92 hl (k := 4) rfl ey28 (by decide) rfl (fun ls hl => ?_)
      refine lv_goto (tgt := 16) hx hb dX7_workOutCosts_95 (by decide) ?_
      exact hk16 y28 X_27 L_16 Tu_15 (pa 0) H locs ls h hP hD hS (lv_sub hl [1, 2, 3, 4, 0] rfl)
set_option maxHeartbeats 4000000 in
set_option maxRecDepth 100000 in
theorem w_X7_workOutCosts_L2 {p : Program} {l : Launch} {e : Env} {s : State} {m : MethodId} {below : List Frame} {meth : Method} {c : Code} {G : va_G} {cA : Nat → ClassId} {A : Nat → Prop} {xa : Nat → Nat} {ka : Nat → Nat} {ra : Nat → Nat} {na : Nat → Nat} {ia : Nat → Nat} {ua : Nat → Nat} {va : Nat → Nat} {ca : Nat → Nat} {za : Nat → Nat} {pa : Nat → Nat} {qa : Nat → Nat} {K : Tr} {R : Tr} {P : Tr} {P2 : Tr} {L2 : Lo} {Tn : Tr} {Ti : Tr} {Tv : Tr} {C : Tr} {Z : Tr} {q0 : Nat} {q1 : Nat} {q3 : Nat} {q4 : Nat} {q5 : Nat} {x1₀ : Int32} {x2₀ : Int32} {X' : Tr} {L' : Lo} {Tu' : Tr} {q2' : Nat} {x1 : Int32} {x2 : Int32} (F : tF p s m ([.ref (xa 0), .int x1₀, .int x2₀] : List Value).toArray meth c G cA A RX7 cX7_workOutCosts 5 none)    (N : Nat) : ∀ (x3 : Int32) (X : Tr) (L : Lo) (Tu : Tr) (q2 : Nat) (H : Heap) (locs : List Loc) (ls : Array Slot), lpF (fun _ _ _ _ _ => none) (fB_X7_workOutCosts_L2 pa qa P Tn q0 q4 x1 x2) N x3 X L Tu q2 = some (X', L', Tu', q2') → va_P G vwCl (wX cA xa ka ra na ia ua va ca za pa qa X K R P L P2 L2 Tn Ti Tu Tv C Z q0 q1 q2 q3 (pa 0) q5) H → va_D A (wX cA xa ka ra na ia ua va ca za pa qa X K R P L P2 L2 Tn Ti Tu Tv C Z q0 q1 q2 q3 (pa 0) q5) → va_S A s.heap H locs → lv_has ls 5 [(0, .ref (xa 0)), (1, .int x1), (2, .int x2), (3, .int x3)] → G_X7_workOutCosts p l e s m below meth c G cA A xa ka ra na ia ua va ca za pa qa K R P P2 L2 Tn Ti Tv C Z q0 q1 q3 q4 q5 x1₀ x2₀ X' L' Tu' q2' H locs (F0 m 2 ls []) := by
  obtain ⟨hx, hb, hr, hml, hT, hown, hlocks, hK, hN, hA⟩ := id F
  induction N with
  | zero =>
    intro x3 X L Tu q2 H locs ls h
    have h : (none : Option (Tr × Lo × Tr × Nat)) = some (X', L', Tu', q2') := h
    cases h
  | succ N hk2 =>
    intro x3 X L Tu q2 H locs ls h hP hD hS hl
    have h : fB_X7_workOutCosts_L2 pa qa P Tn q0 q4 x1 x2 (lpF (fun _ _ _ _ _ => none) (fB_X7_workOutCosts_L2 pa qa P Tn q0 q4 x1 x2) N) x3 X L Tu q2 = some (X', L', Tu', q2') := h
    generalize hk2e : lpF (fun _ _ _ _ _ => none) (fB_X7_workOutCosts_L2 pa qa P Tn q0 q4 x1 x2) N = k2 at h hk2
    unfold fB_X7_workOutCosts_L2 at h
    refine lv_iload_n hx hb dX7_workOutCosts_2 rfl (lv_at hl 3 rfl) ?_
    refine lv_aload_n hx hb dX7_workOutCosts_3 rfl (lv_at hl 0 rfl) ?_
    refine va_get (D := G) (ci := 7) (v := .ref q4) (C := RX7) (T := TX7) (N := 12) hx hb hT ku_7 hown hK hP 0 rfl rfl 1 (by decide) (hT _ kw_1_20) (fun _ h9 => h9) rfl dX7_workOutCosts_4 ?_
    obtain ⟨g1, h⟩ := tx_ck h
    have eg1 := of_decide_eq_true g1
    subst eg1
    refine va_get (D := G) (ci := 2) (v := .int (P 0 0)) (C := RX2) (T := TX2) (N := 19) hx hb hT ku_2 hown hK hP 9 rfl rfl 0 (by decide) (hT _ kw_32_2) (fun _ h9 => h9) rfl dX7_workOutCosts_7 ?_
    refine lv_icmp_ge (tgt := 104) hx hb dX7_workOutCosts_10 (by decide) (fun c2 => ?_) (fun c2 => ?_)
    · have h := tx_pos c2 h
      obtain ⟨rfl, rfl, rfl, rfl⟩ := tx_4 h
      exact W.vret hx hb hr (fun t ht hW => ⟨⟨(), rfl, trivial, by rw [ht]; exact hP, hD⟩, hS.F ht⟩) hS.2.2 dX7_workOutCosts_104
    · have h := tx_neg c2 h
      refine lv_iconst (v := 0) hx hb dX7_workOutCosts_13 (by decide) ?_
      refine lv_istore (lv' := [(4, .int 0), (0, .ref (xa 0)), (1, .int x1), (2, .int x2), (3, .int x3)]) hx hb dX7_workOutCosts_14 hl (by decide) rfl (fun ls hl => ?_)
      exact w_X7_workOutCosts_L16 F k2 hk2 2000 0 X L Tu q2 H locs ls h hP hD hS (lv_sub hl [1, 2, 3, 4, 0] rfl)
set_option maxHeartbeats 4000000 in
set_option maxRecDepth 100000 in
theorem c_X7_workOutCosts (l : Launch) (G : va_G) (cA : Nat → ClassId) (sz : Nat) (xa : Nat → Nat) (ka : Nat → Nat) (ra : Nat → Nat) (na : Nat → Nat) (ia : Nat → Nat) (ua : Nat → Nat) (va : Nat → Nat) (ca : Nat → Nat) (za : Nat → Nat) (pa : Nat → Nat) (qa : Nat → Nat) (X : Tr) (K : Tr) (R : Tr) (P : Tr) (L : Lo) (P2 : Tr) (L2 : Lo) (Tn : Tr) (Ti : Tr) (Tu : Tr) (Tv : Tr) (C : Tr) (Z : Tr) (q0 : Nat) (q1 : Nat) (q2 : Nat) (q3 : Nat) (q4 : Nat) (q5 : Nat) (x1 : Int32) (x2 : Int32)  (X' : Tr) (L' : Lo) (Tu' : Tr) (q2' : Nat) (h : f_X7_workOutCosts pa qa X P L Tn Tu q0 q2 q4 x1 x2 = some (X', L', Tu', q2')) : Met l yX7_workOutCosts (.code yX7_workOutCosts cX7_workOutCosts 5 none :: T0) ({ frames := 6, cells := 0, slots := 0, locals := 153 } : Room) (tqP G cA [.ref (xa 0), .int x1, .int x2] (wX cA xa ka ra na ia ua va ca za pa qa X K R P L P2 L2 Tn Ti Tu Tv C Z q0 q1 q2 q3 q4 q5) sz) (tqQv G cA (fun (_ : Unit) => True) (fun (_ : Unit) => wX cA xa ka ra na ia ua va ca za pa qa (X') K R P (L') P2 L2 Tn Ti (Tu') Tv C Z q0 q1 (q2') q3 q4 q5) (va_A (wX cA xa ka ra na ia ua va ca za pa qa X K R P L P2 L2 Tn Ti Tu Tv C Z q0 q1 q2 q3 q4 q5) sz)) 0 0 (va_A (wX cA xa ka ra na ia ua va ca za pa qa X K R P L P2 L2 Tn Ti Tu Tv C Z q0 q1 q2 q3 q4 q5) sz) := by
  refine Met.ofW (cc := cX7_workOutCosts) (maxL := 5) (ret := none) (by decide) rfl ?_
  intro p e s m args below meth c s₁ B hml hv
  obtain ⟨rfl, hsz, hP, hK, hD0, hN⟩ := hv
  have hx := B.exec
  have hb := B.bytes
  have hr := B.returns
  have hts := atoms_spec (ws := .code yX7_workOutCosts cX7_workOutCosts 5 none :: T0) B.pre
  have hT : ∀ w ∈ T0, w.before _ s = true := fun w h => hts w (List.mem_cons_of_mem _ h)
  have hown : s.vm.findClass RX7 = some m.cls := findClass_of_methodNamed B.named
  have hlocks := B.notSynchronized
  subst hsz
  have hD := hD0.self (sz := s.heap.size)
  generalize hAe : va_A (wX cA xa ka ra na ia ua va ca za pa qa X K R P L P2 L2 Tn Ti Tu Tv C Z q0 q1 q2 q3 q4 q5) s.heap.size = A at hD ⊢
  have hA : ∀ q : Nat, s.heap.size ≤ q → A q := fun q h => by rw [← hAe]; exact Or.inr h
  have hS : va_S A s.heap s.heap [] := va_S.rf
  have hl := lv_entry ([.ref (xa 0), .int x1, .int x2]) (n := 5) (Nat.le_of_ble_eq_true rfl)
  rw [lg_entry_eq]
  generalize (lg_sl ([.ref (xa 0), .int x1, .int x2]) ++ List.replicate (5 - (lg_sl ([.ref (xa 0), .int x1, .int x2])).length) Slot.unset).toArray = ls at hl ⊢
  have hl : lv_has ls 5 [(0, .ref (xa 0)), (1, .int x1), (2, .int x2)] := hl
  have F : tF p s m ([.ref (xa 0), .int x1, .int x2] : List Value).toArray meth c G cA A RX7 cX7_workOutCosts 5 none := ⟨hx, hb, hr, hml, hT, hown, hlocks, hK, hN, hA⟩
  obtain ⟨H, hH⟩ : ∃ z, z = s.heap := ⟨_, rfl⟩
  rw [← hH] at hP
  have hS : va_S A s.heap H [] := by rw [hH]; exact hS
  suffices hgo : G_X7_workOutCosts p l e s m below meth c G cA A xa ka ra na ia ua va ca za pa qa K R P P2 L2 Tn Ti Tv C Z q0 q1 q3 q4 q5 x1 x2 X' L' Tu' q2' H [] (F0 m 0 ls []) by rw [hH] at hgo; exact hgo
  generalize ([] : List Loc) = locs at hS ⊢
  unfold f_X7_workOutCosts at h
  refine lv_iconst (v := 0) hx hb dX7_workOutCosts_0 (by decide) ?_
  refine lv_istore_n (lv' := [(3, .int 0), (0, .ref (xa 0)), (1, .int x1), (2, .int x2)]) hx hb dX7_workOutCosts_1 rfl hl (by decide) rfl (fun ls hl => ?_)
  exact w_X7_workOutCosts_L2 F 2000 0 X L Tu q2 H locs ls h hP hD hS (lv_sub hl [1, 2, 3, 0] rfl)
abbrev G_X7_rest (p : Program) (l : Launch) (e : Env) (s : State) (m : MethodId) (below : List Frame) (meth : Method) (c : Code) (G : va_G) (cA : Nat → ClassId) (A : Nat → Prop) (xa : Nat → Nat) (ka : Nat → Nat) (ra : Nat → Nat) (na : Nat → Nat) (ia : Nat → Nat) (ua : Nat → Nat) (va : Nat → Nat) (ca : Nat → Nat) (za : Nat → Nat) (pa : Nat → Nat) (qa : Nat → Nat) (K : Tr) (R : Tr) (P : Tr) (P2 : Tr) (L2 : Lo) (Tn : Tr) (Ti : Tr) (Tv : Tr) (C : Tr) (Z : Tr) (q0 : Nat) (q1 : Nat) (q3 : Nat) (q4 : Nat) (q5 : Nat) (x1 : Int32) (x2 : Int32) (x3 : Int32) (r0 : Int32) (X' : Tr) (L' : Lo) (Tu' : Tr) (q2' : Nat) (H : Heap) (locs : List Loc) (g : JFrame) : Prop := W p l e (headSpec (.code yX7_rest cX7_rest 6 (some .int) :: T0) ({ frames := 7, cells := 0, slots := 0, locals := 177 } : Room)).room s m ([.ref (xa 0), .int x1, .int x2, .int x3] : List Value).toArray below meth c H locs 0 0 (MQ below (tqQi G cA (fun (r : Int32) (_ : Unit) => r = r0) (fun (_ : Unit) => wX cA xa ka ra na ia ua va ca za pa qa (X') K R P (L') P2 L2 Tn Ti (Tu') Tv C Z q0 q1 (q2') q3 q4 q5) A) ([.ref (xa 0), .int x1, .int x2, .int x3] : List Value).toArray s 0 0 A) g
set_option maxHeartbeats 4000000 in
set_option maxRecDepth 100000 in
theorem w_X7_rest_J49 {p : Program} {l : Launch} {e : Env} {s : State} {m : MethodId} {below : List Frame} {meth : Method} {c : Code} {G : va_G} {cA : Nat → ClassId} {A : Nat → Prop} {xa : Nat → Nat} {ka : Nat → Nat} {ra : Nat → Nat} {na : Nat → Nat} {ia : Nat → Nat} {ua : Nat → Nat} {va : Nat → Nat} {ca : Nat → Nat} {za : Nat → Nat} {pa : Nat → Nat} {qa : Nat → Nat} {K : Tr} {R : Tr} {P : Tr} {P2 : Tr} {L2 : Lo} {Tn : Tr} {Ti : Tr} {Tv : Tr} {C : Tr} {Z : Tr} {q0 : Nat} {q1 : Nat} {q3 : Nat} {q4 : Nat} {q5 : Nat} {x1₀ : Int32} {x2₀ : Int32} {x3₀ : Int32} {r0 : Int32} {X' : Tr} {L' : Lo} {Tu' : Tr} {q2' : Nat} (F : tF p s m ([.ref (xa 0), .int x1₀, .int x2₀, .int x3₀] : List Value).toArray meth c G cA A RX7 cX7_rest 6 (some .int))    (x5 : Int32) (X : Tr) (L : Lo) (Tu : Tr) (q2 : Nat) (H : Heap) (locs : List Loc) (ls : Array Slot) (h : fJ_X7_rest_J49 pa qa P Tn q0 q4 x5 X L Tu q2 = some (r0, X', L', Tu', q2')) (hP : va_P G vwCl (wX cA xa ka ra na ia ua va ca za pa qa X K R P L P2 L2 Tn Ti Tu Tv C Z q0 q1 q2 q3 q4 q5) H) (hD : va_D A (wX cA xa ka ra na ia ua va ca za pa qa X K R P L P2 L2 Tn Ti Tu Tv C Z q0 q1 q2 q3 q4 q5)) (hS : va_S A s.heap H locs) (hl : lv_has ls 6 [(5, .int x5)]) : G_X7_rest p l e s m below meth c G cA A xa ka ra na ia ua va ca za pa qa K R P P2 L2 Tn Ti Tv C Z q0 q1 q3 q4 q5 x1₀ x2₀ x3₀ r0 X' L' Tu' q2' H locs (F0 m 49 ls []) := by
  obtain ⟨hx, hb, hr, hml, hT, hown, hlocks, hK, hN, hA⟩ := id F
  unfold fJ_X7_rest_J49 at h
  refine lv_iload hx hb dX7_rest_49 (lv_at hl 0 rfl) ?_
  refine lv_iconst (v := 5) hx hb dX7_rest_51 (by decide) ?_
  refine lv_idiv hx hb dX7_rest_52 (by decide) ?_
  refine lv_bipush (v := 10) hx hb dX7_rest_53 (by decide) ?_
  refine lv_imul hx hb dX7_rest_55 ?_
  refine lv_iload hx hb dX7_rest_56 (lv_at hl 0 rfl) ?_
  refine lv_iconst (v := 5) hx hb dX7_rest_58 (by decide) ?_
  refine lv_irem hx hb dX7_rest_59 (by decide) ?_
  refine lv_iadd hx hb dX7_rest_60 ?_
  obtain ⟨rfl, rfl, rfl, rfl, rfl⟩ := tx_5 h
  exact W.iret hx hb hr (fun t ht hW => ⟨⟨_, (), rfl, rfl, by rw [ht]; exact hP, hD⟩, hS.F ht⟩) hS.2.2 dX7_rest_61
set_option maxHeartbeats 4000000 in
set_option maxRecDepth 100000 in
theorem w_X7_rest_L27 {p : Program} {l : Launch} {e : Env} {s : State} {m : MethodId} {below : List Frame} {meth : Method} {c : Code} {G : va_G} {cA : Nat → ClassId} {A : Nat → Prop} {xa : Nat → Nat} {ka : Nat → Nat} {ra : Nat → Nat} {na : Nat → Nat} {ia : Nat → Nat} {ua : Nat → Nat} {va : Nat → Nat} {ca : Nat → Nat} {za : Nat → Nat} {pa : Nat → Nat} {qa : Nat → Nat} {K : Tr} {R : Tr} {P : Tr} {P2 : Tr} {L2 : Lo} {Tn : Tr} {Ti : Tr} {Tv : Tr} {C : Tr} {Z : Tr} {q0 : Nat} {q1 : Nat} {q3 : Nat} {q4 : Nat} {q5 : Nat} {x1₀ : Int32} {x2₀ : Int32} {x3₀ : Int32} {r0 : Int32} {X' : Tr} {L' : Lo} {Tu' : Tr} {q2' : Nat} {X : Tr} {L : Lo} {Tu : Tr} {q2 : Nat} {x3 : Int32} (F : tF p s m ([.ref (xa 0), .int x1₀, .int x2₀, .int x3₀] : List Value).toArray meth c G cA A RX7 cX7_rest 6 (some .int))    (N : Nat) : ∀ (x4 : Int32) (x5 : Int32) (H : Heap) (locs : List Loc) (ls : Array Slot), lpF (fun _ _ => none) (fB_X7_rest_L27 pa qa X P L Tn Tu q0 q2 q4 x3) N x4 x5 = some (r0, X', L', Tu', q2') → va_P G vwCl (wX cA xa ka ra na ia ua va ca za pa qa X K R P L P2 L2 Tn Ti Tu Tv C Z q0 q1 q2 q3 q4 q5) H → va_D A (wX cA xa ka ra na ia ua va ca za pa qa X K R P L P2 L2 Tn Ti Tu Tv C Z q0 q1 q2 q3 q4 q5) → va_S A s.heap H locs → lv_has ls 6 [(0, .ref (xa 0)), (3, .int x3), (4, .int x4), (5, .int x5)] → G_X7_rest p l e s m below meth c G cA A xa ka ra na ia ua va ca za pa qa K R P P2 L2 Tn Ti Tv C Z q0 q1 q3 q4 q5 x1₀ x2₀ x3₀ r0 X' L' Tu' q2' H locs (F0 m 27 ls []) := by
  obtain ⟨hx, hb, hr, hml, hT, hown, hlocks, hK, hN, hA⟩ := id F
  induction N with
  | zero =>
    intro x4 x5 H locs ls h
    have h : (none : Option (Int32 × Tr × Lo × Tr × Nat)) = some (r0, X', L', Tu', q2') := h
    cases h
  | succ N hk27 =>
    intro x4 x5 H locs ls h hP hD hS hl
    have h : fB_X7_rest_L27 pa qa X P L Tn Tu q0 q2 q4 x3 (lpF (fun _ _ => none) (fB_X7_rest_L27 pa qa X P L Tn Tu q0 q2 q4 x3) N) x4 x5 = some (r0, X', L', Tu', q2') := h
    generalize hk27e : lpF (fun _ _ => none) (fB_X7_rest_L27 pa qa X P L Tn Tu q0 q2 q4 x3) N = k27 at h hk27
    unfold fB_X7_rest_L27 at h
    refine lv_iload hx hb dX7_rest_27 (lv_at hl 3 rfl) ?_
    refine lv_bipush (v := 25) hx hb dX7_rest_29 (by decide) ?_
    refine lv_icmp_ge (tgt := 71) hx hb dX7_rest_31 (by decide) (fun c12 => ?_) (fun c12 => ?_)
    · have h := tx_pos c12 h
      refine lv_bipush (v := (-2)) hx hb dX7_rest_71 (by decide) ?_
      obtain ⟨rfl, rfl, rfl, rfl, rfl⟩ := tx_5 h
      exact W.iret hx hb hr (fun t ht hW => ⟨⟨_, (), rfl, rfl, by rw [ht]; exact hP, hD⟩, hS.F ht⟩) hS.2.2 dX7_rest_73
    · have h := tx_neg c12 h
      refine lv_aload_n hx hb dX7_rest_34 rfl (lv_at hl 0 rfl) ?_
      refine lv_iload hx hb dX7_rest_35 (lv_at hl 3 rfl) ?_
      obtain ⟨r13, hc14, h⟩ := tx_bd h
      refine tw_ci tw_all hP hD hS hA (va_runV (As := [.int x5]) (rest := []) ⟨hx, hb, hml, hown, hT⟩ (c_X7_isRest l G cA H.size xa ka ra na ia ua va ca za pa qa X K R P L P2 L2 Tn Ti Tu Tv C Z q0 q1 q2 q3 q4 q5 x5  r13 hc14) (cwV 1 hT (tq_gV kw_50_5 kw_50_6 kw_50_7 kw_1_2 kw_50_8) rfl rfl rfl (by decide +kernel) ⟨Nat.le_of_ble_eq_true rfl, Nat.le_of_ble_eq_true rfl⟩) ⟨(tw_pre tw_all hP hD hK hN).1, va_recv hK hP (ci := 7) (q0 := 0) rfl rfl, (tw_pre tw_all hP hD hK hN).2⟩ rfl rfl hl.1 rfl (lv_room (Nat.le_of_ble_eq_true rfl)) dX7_rest_37 ⟨Nat.le_of_ble_eq_true rfl, Nat.le_of_ble_eq_true rfl⟩) (fun _ _ H locs z15 hP hD hS => ?_)
      subst z15
      rw [List.append_nil] at hP hD
      have hP : va_P G vwCl (wX cA xa ka ra na ia ua va ca za pa qa X K R P L P2 L2 Tn Ti Tu Tv C Z q0 q1 q2 q3 q4 q5) H := hP
      have hD : va_D A (wX cA xa ka ra na ia ua va ca za pa qa X K R P L P2 L2 Tn Ti Tu Tv C Z q0 q1 q2 q3 q4 q5) := hD
      refine lv_if_eq (tgt := 65) hx hb dX7_rest_40 (by decide) (fun c16 => ?_) (fun c16 => ?_)
      · have h := tx_pos c16 h
        obtain ⟨y17, ey17, h⟩ := tx_lt h
        refine lv_iinc (v := y17) (lv' := [(5, .int y17), (0, .ref (xa 0)), (3, .int x3), (4, .int x4)]) hx hb dX7_rest_65 hl (k := 3) rfl ey17 (by decide) rfl (fun ls hl => ?_)
        refine lv_goto (tgt := 27) hx hb dX7_rest_68 (by decide) ?_
        exact hk27 x4 y17 H locs ls h hP hD hS (lv_sub hl [1, 2, 3, 0] rfl)
      · have h := tx_neg c16 h
        refine lv_iload hx hb dX7_rest_43 (lv_at hl 2 rfl) ?_
        refine lv_iload_n hx hb dX7_rest_45 rfl (lv_at hl 1 rfl) ?_
        refine lv_icmp_ne (tgt := 62) hx hb dX7_rest_46 (by decide) (fun c18 => ?_) (fun c18 => ?_)
        · have h := tx_neg c18 h
          obtain ⟨y19, ey19, h⟩ := tx_lt h
          refine lv_iinc (v := y19) (lv' := [(4, .int y19), (0, .ref (xa 0)), (3, .int x3), (5, .int x5)]) hx hb dX7_rest_62 hl (k := 2) rfl ey19 (by decide) rfl (fun ls hl => ?_)
          obtain ⟨y20, ey20, h⟩ := tx_lt h
          refine lv_iinc (v := y20) (lv' := [(5, .int y20), (4, .int y19), (0, .ref (xa 0)), (3, .int x3)]) hx hb dX7_rest_65 hl (k := 3) rfl ey20 (by decide) rfl (fun ls hl => ?_)
          refine lv_goto (tgt := 27) hx hb dX7_rest_68 (by decide) ?_
          exact hk27 y19 y20 H locs ls h hP hD hS (lv_sub hl [2, 3, 1, 0] rfl)
        · have h := tx_pos c18 h
          exact w_X7_rest_J49 F x5 X L Tu q2 H locs ls h hP hD hS (lv_sub hl [3] rfl)
set_option maxHeartbeats 4000000 in
set_option maxRecDepth 100000 in
theorem c_X7_rest (l : Launch) (G : va_G) (cA : Nat → ClassId) (sz : Nat) (xa : Nat → Nat) (ka : Nat → Nat) (ra : Nat → Nat) (na : Nat → Nat) (ia : Nat → Nat) (ua : Nat → Nat) (va : Nat → Nat) (ca : Nat → Nat) (za : Nat → Nat) (pa : Nat → Nat) (qa : Nat → Nat) (X : Tr) (K : Tr) (R : Tr) (P : Tr) (L : Lo) (P2 : Tr) (L2 : Lo) (Tn : Tr) (Ti : Tr) (Tu : Tr) (Tv : Tr) (C : Tr) (Z : Tr) (q0 : Nat) (q1 : Nat) (q2 : Nat) (q3 : Nat) (q4 : Nat) (q5 : Nat) (x1 : Int32) (x2 : Int32) (x3 : Int32)  (r0 : Int32) (X' : Tr) (L' : Lo) (Tu' : Tr) (q2' : Nat) (h : f_X7_rest pa qa X P L Tn Tu q0 q2 q4 x1 x2 x3 = some (r0, X', L', Tu', q2')) : Met l yX7_rest (.code yX7_rest cX7_rest 6 (some .int) :: T0) ({ frames := 7, cells := 0, slots := 0, locals := 177 } : Room) (tqP G cA [.ref (xa 0), .int x1, .int x2, .int x3] (wX cA xa ka ra na ia ua va ca za pa qa X K R P L P2 L2 Tn Ti Tu Tv C Z q0 q1 q2 q3 q4 q5) sz) (tqQi G cA (fun (r : Int32) (_ : Unit) => r = r0) (fun (_ : Unit) => wX cA xa ka ra na ia ua va ca za pa qa (X') K R P (L') P2 L2 Tn Ti (Tu') Tv C Z q0 q1 (q2') q3 q4 q5) (va_A (wX cA xa ka ra na ia ua va ca za pa qa X K R P L P2 L2 Tn Ti Tu Tv C Z q0 q1 q2 q3 q4 q5) sz)) 0 0 (va_A (wX cA xa ka ra na ia ua va ca za pa qa X K R P L P2 L2 Tn Ti Tu Tv C Z q0 q1 q2 q3 q4 q5) sz) := by
  refine Met.ofW (cc := cX7_rest) (maxL := 6) (ret := (some .int)) (by decide) rfl ?_
  intro p e s m args below meth c s₁ B hml hv
  obtain ⟨rfl, hsz, hP, hK, hD0, hN⟩ := hv
  have hx := B.exec
  have hb := B.bytes
  have hr := B.returns
  have hts := atoms_spec (ws := .code yX7_rest cX7_rest 6 (some .int) :: T0) B.pre
  have hT : ∀ w ∈ T0, w.before _ s = true := fun w h => hts w (List.mem_cons_of_mem _ h)
  have hown : s.vm.findClass RX7 = some m.cls := findClass_of_methodNamed B.named
  have hlocks := B.notSynchronized
  subst hsz
  have hD := hD0.self (sz := s.heap.size)
  generalize hAe : va_A (wX cA xa ka ra na ia ua va ca za pa qa X K R P L P2 L2 Tn Ti Tu Tv C Z q0 q1 q2 q3 q4 q5) s.heap.size = A at hD ⊢
  have hA : ∀ q : Nat, s.heap.size ≤ q → A q := fun q h => by rw [← hAe]; exact Or.inr h
  have hS : va_S A s.heap s.heap [] := va_S.rf
  have hl := lv_entry ([.ref (xa 0), .int x1, .int x2, .int x3]) (n := 6) (Nat.le_of_ble_eq_true rfl)
  rw [lg_entry_eq]
  generalize (lg_sl ([.ref (xa 0), .int x1, .int x2, .int x3]) ++ List.replicate (6 - (lg_sl ([.ref (xa 0), .int x1, .int x2, .int x3])).length) Slot.unset).toArray = ls at hl ⊢
  have hl : lv_has ls 6 [(0, .ref (xa 0)), (1, .int x1), (2, .int x2), (3, .int x3)] := hl
  have F : tF p s m ([.ref (xa 0), .int x1, .int x2, .int x3] : List Value).toArray meth c G cA A RX7 cX7_rest 6 (some .int) := ⟨hx, hb, hr, hml, hT, hown, hlocks, hK, hN, hA⟩
  obtain ⟨H, hH⟩ : ∃ z, z = s.heap := ⟨_, rfl⟩
  rw [← hH] at hP
  have hS : va_S A s.heap H [] := by rw [hH]; exact hS
  suffices hgo : G_X7_rest p l e s m below meth c G cA A xa ka ra na ia ua va ca za pa qa K R P P2 L2 Tn Ti Tv C Z q0 q1 q3 q4 q5 x1 x2 x3 r0 X' L' Tu' q2' H [] (F0 m 0 ls []) by rw [hH] at hgo; exact hgo
  generalize ([] : List Loc) = locs at hS ⊢
  unfold f_X7_rest at h
  refine lv_iload_n hx hb dX7_rest_0 rfl (lv_at hl 3 rfl) ?_
  refine lv_if_lt (tgt := 13) hx hb dX7_rest_1 (by decide) (fun c1 => ?_) (fun c1 => ?_)
  · have h := tx_pos c1 h
    refine lv_iconst (v := (-1)) hx hb dX7_rest_13 (by decide) ?_
    obtain ⟨rfl, rfl, rfl, rfl, rfl⟩ := tx_5 h
    exact W.iret hx hb hr (fun t ht hW => ⟨⟨_, (), rfl, rfl, by rw [ht]; exact hP, hD⟩, hS.F ht⟩) hS.2.2 dX7_rest_14
  · have h := tx_neg c1 h
    refine lv_aload_n hx hb dX7_rest_4 rfl (lv_at hl 0 rfl) ?_
    refine lv_iload_n hx hb dX7_rest_5 rfl (lv_at hl 1 rfl) ?_
    refine lv_iload_n hx hb dX7_rest_6 rfl (lv_at hl 2 rfl) ?_
    obtain ⟨r2, hc3, h⟩ := tx_bd h
    refine tw_ci tw_all hP hD hS hA (va_runV (As := [.int x1, .int x2]) (rest := []) ⟨hx, hb, hml, hown, hT⟩ (c_X7_canChoose l G cA H.size xa ka ra na ia ua va ca za pa qa X K R P L P2 L2 Tn Ti Tu Tv C Z q0 q1 q2 q3 q4 q5 x1 x2  r2 hc3) (cwV 2 hT (tq_gV kw_49_17 kw_49_18 kw_49_19 kw_1_2 kw_49_20) rfl rfl rfl (by decide +kernel) ⟨Nat.le_of_ble_eq_true rfl, Nat.le_of_ble_eq_true rfl⟩) ⟨(tw_pre tw_all hP hD hK hN).1, va_recv hK hP (ci := 7) (q0 := 0) rfl rfl, (tw_pre tw_all hP hD hK hN).2⟩ rfl rfl hl.1 rfl (lv_room (Nat.le_of_ble_eq_true rfl)) dX7_rest_7 ⟨Nat.le_of_ble_eq_true rfl, Nat.le_of_ble_eq_true rfl⟩) (fun _ _ H locs z4 hP hD hS => ?_)
    subst z4
    rw [List.append_nil] at hP hD
    have hP : va_P G vwCl (wX cA xa ka ra na ia ua va ca za pa qa X K R P L P2 L2 Tn Ti Tu Tv C Z q0 q1 q2 q3 q4 q5) H := hP
    have hD : va_D A (wX cA xa ka ra na ia ua va ca za pa qa X K R P L P2 L2 Tn Ti Tu Tv C Z q0 q1 q2 q3 q4 q5) := hD
    refine lv_if_ne (tgt := 15) hx hb dX7_rest_10 (by decide) (fun c5 => ?_) (fun c5 => ?_)
    · have h := tx_neg c5 h
      refine lv_aload_n hx hb dX7_rest_15 rfl (lv_at hl 0 rfl) ?_
      refine lv_iload_n hx hb dX7_rest_16 rfl (lv_at hl 1 rfl) ?_
      refine lv_iload_n hx hb dX7_rest_17 rfl (lv_at hl 2 rfl) ?_
      obtain ⟨⟨X_6, L_7, Tu_8, q2_9⟩, hc10, h⟩ := tx_bd h
      replace h := tx_let (y := X_6) rfl h
      replace h := tx_let (y := L_7) rfl h
      replace h := tx_let (y := Tu_8) rfl h
      replace h := tx_let (y := q2_9) rfl h
      refine tw_cv tw_all hP hD hS hA (va_runV (As := [.int x1, .int x2]) (rest := []) ⟨hx, hb, hml, hown, hT⟩ (c_X7_workOutCosts l G cA H.size xa ka ra na ia ua va ca za pa qa X K R P L P2 L2 Tn Ti Tu Tv C Z q0 q1 q2 q3 q4 q5 x1 x2  X_6 L_7 Tu_8 q2_9 hc10) (cwV 2 hT (tq_gV kw_49_21 kw_49_22 kw_49_23 kw_1_2 kw_50_0) rfl rfl rfl (by decide +kernel) ⟨Nat.le_of_ble_eq_true rfl, Nat.le_of_ble_eq_true rfl⟩) ⟨(tw_pre tw_all hP hD hK hN).1, va_recv hK hP (ci := 7) (q0 := 0) rfl rfl, (tw_pre tw_all hP hD hK hN).2⟩ rfl rfl hl.1 rfl (lv_room (Nat.le_of_ble_eq_true rfl)) dX7_rest_18 ⟨Nat.le_of_ble_eq_true rfl, Nat.le_of_ble_eq_true rfl⟩) (fun _ H locs z11 hP hD hS => ?_)
      rw [List.append_nil] at hP hD
      have hP : va_P G vwCl (wX cA xa ka ra na ia ua va ca za pa qa X_6 K R P L_7 P2 L2 Tn Ti Tu_8 Tv C Z q0 q1 q2_9 q3 q4 q5) H := hP
      have hD : va_D A (wX cA xa ka ra na ia ua va ca za pa qa X_6 K R P L_7 P2 L2 Tn Ti Tu_8 Tv C Z q0 q1 q2_9 q3 q4 q5) := hD
      refine lv_iconst (v := 0) hx hb dX7_rest_21 (by decide) ?_
      refine lv_istore (lv' := [(4, .int 0), (0, .ref (xa 0)), (1, .int x1), (2, .int x2), (3, .int x3)]) hx hb dX7_rest_22 hl (by decide) rfl (fun ls hl => ?_)
      refine lv_iconst (v := 0) hx hb dX7_rest_24 (by decide) ?_
      refine lv_istore (lv' := [(5, .int 0), (4, .int 0), (0, .ref (xa 0)), (1, .int x1), (2, .int x2), (3, .int x3)]) hx hb dX7_rest_25 hl (by decide) rfl (fun ls hl => ?_)
      exact w_X7_rest_L27 F 2000 0 0 H locs ls h hP hD hS (lv_sub hl [2, 5, 1, 0] rfl)
    · have h := tx_pos c5 h
      refine lv_iconst (v := (-1)) hx hb dX7_rest_13 (by decide) ?_
      obtain ⟨rfl, rfl, rfl, rfl, rfl⟩ := tx_5 h
      exact W.iret hx hb hr (fun t ht hW => ⟨⟨_, (), rfl, rfl, by rw [ht]; exact hP, hD⟩, hS.F ht⟩) hS.2.2 dX7_rest_14
abbrev G_X7_rests (p : Program) (l : Launch) (e : Env) (s : State) (m : MethodId) (below : List Frame) (meth : Method) (c : Code) (G : va_G) (cA : Nat → ClassId) (A : Nat → Prop) (xa : Nat → Nat) (ka : Nat → Nat) (ra : Nat → Nat) (na : Nat → Nat) (ia : Nat → Nat) (ua : Nat → Nat) (va : Nat → Nat) (ca : Nat → Nat) (za : Nat → Nat) (pa : Nat → Nat) (qa : Nat → Nat) (K : Tr) (R : Tr) (P : Tr) (P2 : Tr) (L2 : Lo) (Tn : Tr) (Ti : Tr) (Tv : Tr) (C : Tr) (Z : Tr) (q0 : Nat) (q1 : Nat) (q3 : Nat) (q4 : Nat) (q5 : Nat) (x1 : Int32) (x2 : Int32) (r0 : Int32) (X' : Tr) (L' : Lo) (Tu' : Tr) (q2' : Nat) (H : Heap) (locs : List Loc) (g : JFrame) : Prop := W p l e (headSpec (.code yX7_rests cX7_rests 5 (some .int) :: T0) ({ frames := 7, cells := 0, slots := 0, locals := 177 } : Room)).room s m ([.ref (xa 0), .int x1, .int x2] : List Value).toArray below meth c H locs 0 0 (MQ below (tqQi G cA (fun (r : Int32) (_ : Unit) => r = r0) (fun (_ : Unit) => wX cA xa ka ra na ia ua va ca za pa qa (X') K R P (L') P2 L2 Tn Ti (Tu') Tv C Z q0 q1 (q2') q3 q4 q5) A) ([.ref (xa 0), .int x1, .int x2] : List Value).toArray s 0 0 A) g
set_option maxHeartbeats 4000000 in
set_option maxRecDepth 100000 in
theorem w_X7_rests_L22 {p : Program} {l : Launch} {e : Env} {s : State} {m : MethodId} {below : List Frame} {meth : Method} {c : Code} {G : va_G} {cA : Nat → ClassId} {A : Nat → Prop} {xa : Nat → Nat} {ka : Nat → Nat} {ra : Nat → Nat} {na : Nat → Nat} {ia : Nat → Nat} {ua : Nat → Nat} {va : Nat → Nat} {ca : Nat → Nat} {za : Nat → Nat} {pa : Nat → Nat} {qa : Nat → Nat} {K : Tr} {R : Tr} {P : Tr} {P2 : Tr} {L2 : Lo} {Tn : Tr} {Ti : Tr} {Tv : Tr} {C : Tr} {Z : Tr} {q0 : Nat} {q1 : Nat} {q3 : Nat} {q4 : Nat} {q5 : Nat} {x1₀ : Int32} {x2₀ : Int32} {r0 : Int32} {X' : Tr} {L' : Lo} {Tu' : Tr} {q2' : Nat} {X : Tr} {L : Lo} {Tu : Tr} {q2 : Nat} (F : tF p s m ([.ref (xa 0), .int x1₀, .int x2₀] : List Value).toArray meth c G cA A RX7 cX7_rests 5 (some .int))    (N : Nat) : ∀ (x3 : Int32) (x4 : Int32) (H : Heap) (locs : List Loc) (ls : Array Slot), lpF (fun _ _ => none) (fB_X7_rests_L22 pa qa X P L Tn Tu q0 q2 q4) N x3 x4 = some (r0, X', L', Tu', q2') → va_P G vwCl (wX cA xa ka ra na ia ua va ca za pa qa X K R P L P2 L2 Tn Ti Tu Tv C Z q0 q1 q2 q3 q4 q5) H → va_D A (wX cA xa ka ra na ia ua va ca za pa qa X K R P L P2 L2 Tn Ti Tu Tv C Z q0 q1 q2 q3 q4 q5) → va_S A s.heap H locs → lv_has ls 5 [(0, .ref (xa 0)), (3, .int x3), (4, .int x4)] → G_X7_rests p l e s m below meth c G cA A xa ka ra na ia ua va ca za pa qa K R P P2 L2 Tn Ti Tv C Z q0 q1 q3 q4 q5 x1₀ x2₀ r0 X' L' Tu' q2' H locs (F0 m 22 ls []) := by
  obtain ⟨hx, hb, hr, hml, hT, hown, hlocks, hK, hN, hA⟩ := id F
  induction N with
  | zero =>
    intro x3 x4 H locs ls h
    have h : (none : Option (Int32 × Tr × Lo × Tr × Nat)) = some (r0, X', L', Tu', q2') := h
    cases h
  | succ N hk22 =>
    intro x3 x4 H locs ls h hP hD hS hl
    have h : fB_X7_rests_L22 pa qa X P L Tn Tu q0 q2 q4 (lpF (fun _ _ => none) (fB_X7_rests_L22 pa qa X P L Tn Tu q0 q2 q4) N) x3 x4 = some (r0, X', L', Tu', q2') := h
    generalize hk22e : lpF (fun _ _ => none) (fB_X7_rests_L22 pa qa X P L Tn Tu q0 q2 q4) N = k22 at h hk22
    unfold fB_X7_rests_L22 at h
    refine lv_iload hx hb dX7_rests_22 (lv_at hl 2 rfl) ?_
    refine lv_bipush (v := 25) hx hb dX7_rests_24 (by decide) ?_
    refine lv_icmp_ge (tgt := 47) hx hb dX7_rests_26 (by decide) (fun c11 => ?_) (fun c11 => ?_)
    · have h := tx_pos c11 h
      refine lv_iload_n hx hb dX7_rests_47 rfl (lv_at hl 1 rfl) ?_
      obtain ⟨rfl, rfl, rfl, rfl, rfl⟩ := tx_5 h
      exact W.iret hx hb hr (fun t ht hW => ⟨⟨_, (), rfl, rfl, by rw [ht]; exact hP, hD⟩, hS.F ht⟩) hS.2.2 dX7_rests_48
    · have h := tx_neg c11 h
      refine lv_aload_n hx hb dX7_rests_29 rfl (lv_at hl 0 rfl) ?_
      refine lv_iload hx hb dX7_rests_30 (lv_at hl 2 rfl) ?_
      obtain ⟨r12, hc13, h⟩ := tx_bd h
      refine tw_ci tw_all hP hD hS hA (va_runV (As := [.int x4]) (rest := []) ⟨hx, hb, hml, hown, hT⟩ (c_X7_isRest l G cA H.size xa ka ra na ia ua va ca za pa qa X K R P L P2 L2 Tn Ti Tu Tv C Z q0 q1 q2 q3 q4 q5 x4  r12 hc13) (cwV 1 hT (tq_gV kw_50_5 kw_50_6 kw_50_7 kw_1_2 kw_50_8) rfl rfl rfl (by decide +kernel) ⟨Nat.le_of_ble_eq_true rfl, Nat.le_of_ble_eq_true rfl⟩) ⟨(tw_pre tw_all hP hD hK hN).1, va_recv hK hP (ci := 7) (q0 := 0) rfl rfl, (tw_pre tw_all hP hD hK hN).2⟩ rfl rfl hl.1 rfl (lv_room (Nat.le_of_ble_eq_true rfl)) dX7_rests_32 ⟨Nat.le_of_ble_eq_true rfl, Nat.le_of_ble_eq_true rfl⟩) (fun _ _ H locs z14 hP hD hS => ?_)
      subst z14
      rw [List.append_nil] at hP hD
      have hP : va_P G vwCl (wX cA xa ka ra na ia ua va ca za pa qa X K R P L P2 L2 Tn Ti Tu Tv C Z q0 q1 q2 q3 q4 q5) H := hP
      have hD : va_D A (wX cA xa ka ra na ia ua va ca za pa qa X K R P L P2 L2 Tn Ti Tu Tv C Z q0 q1 q2 q3 q4 q5) := hD
      refine lv_if_eq (tgt := 41) hx hb dX7_rests_35 (by decide) (fun c15 => ?_) (fun c15 => ?_)
      · have h := tx_pos c15 h
        obtain ⟨y16, ey16, h⟩ := tx_lt h
        refine lv_iinc (v := y16) (lv' := [(4, .int y16), (0, .ref (xa 0)), (3, .int x3)]) hx hb dX7_rests_41 hl (k := 2) rfl ey16 (by decide) rfl (fun ls hl => ?_)
        refine lv_goto (tgt := 22) hx hb dX7_rests_44 (by decide) ?_
        exact hk22 x3 y16 H locs ls h hP hD hS (lv_sub hl [1, 2, 0] rfl)
      · have h := tx_neg c15 h
        obtain ⟨y17, ey17, h⟩ := tx_lt h
        refine lv_iinc (v := y17) (lv' := [(3, .int y17), (0, .ref (xa 0)), (4, .int x4)]) hx hb dX7_rests_38 hl (k := 1) rfl ey17 (by decide) rfl (fun ls hl => ?_)
        obtain ⟨y18, ey18, h⟩ := tx_lt h
        refine lv_iinc (v := y18) (lv' := [(4, .int y18), (3, .int y17), (0, .ref (xa 0))]) hx hb dX7_rests_41 hl (k := 2) rfl ey18 (by decide) rfl (fun ls hl => ?_)
        refine lv_goto (tgt := 22) hx hb dX7_rests_44 (by decide) ?_
        exact hk22 y17 y18 H locs ls h hP hD hS (lv_sub hl [2, 1, 0] rfl)
set_option maxHeartbeats 4000000 in
set_option maxRecDepth 100000 in
theorem c_X7_rests (l : Launch) (G : va_G) (cA : Nat → ClassId) (sz : Nat) (xa : Nat → Nat) (ka : Nat → Nat) (ra : Nat → Nat) (na : Nat → Nat) (ia : Nat → Nat) (ua : Nat → Nat) (va : Nat → Nat) (ca : Nat → Nat) (za : Nat → Nat) (pa : Nat → Nat) (qa : Nat → Nat) (X : Tr) (K : Tr) (R : Tr) (P : Tr) (L : Lo) (P2 : Tr) (L2 : Lo) (Tn : Tr) (Ti : Tr) (Tu : Tr) (Tv : Tr) (C : Tr) (Z : Tr) (q0 : Nat) (q1 : Nat) (q2 : Nat) (q3 : Nat) (q4 : Nat) (q5 : Nat) (x1 : Int32) (x2 : Int32)  (r0 : Int32) (X' : Tr) (L' : Lo) (Tu' : Tr) (q2' : Nat) (h : f_X7_rests pa qa X P L Tn Tu q0 q2 q4 x1 x2 = some (r0, X', L', Tu', q2')) : Met l yX7_rests (.code yX7_rests cX7_rests 5 (some .int) :: T0) ({ frames := 7, cells := 0, slots := 0, locals := 177 } : Room) (tqP G cA [.ref (xa 0), .int x1, .int x2] (wX cA xa ka ra na ia ua va ca za pa qa X K R P L P2 L2 Tn Ti Tu Tv C Z q0 q1 q2 q3 q4 q5) sz) (tqQi G cA (fun (r : Int32) (_ : Unit) => r = r0) (fun (_ : Unit) => wX cA xa ka ra na ia ua va ca za pa qa (X') K R P (L') P2 L2 Tn Ti (Tu') Tv C Z q0 q1 (q2') q3 q4 q5) (va_A (wX cA xa ka ra na ia ua va ca za pa qa X K R P L P2 L2 Tn Ti Tu Tv C Z q0 q1 q2 q3 q4 q5) sz)) 0 0 (va_A (wX cA xa ka ra na ia ua va ca za pa qa X K R P L P2 L2 Tn Ti Tu Tv C Z q0 q1 q2 q3 q4 q5) sz) := by
  refine Met.ofW (cc := cX7_rests) (maxL := 5) (ret := (some .int)) (by decide) rfl ?_
  intro p e s m args below meth c s₁ B hml hv
  obtain ⟨rfl, hsz, hP, hK, hD0, hN⟩ := hv
  have hx := B.exec
  have hb := B.bytes
  have hr := B.returns
  have hts := atoms_spec (ws := .code yX7_rests cX7_rests 5 (some .int) :: T0) B.pre
  have hT : ∀ w ∈ T0, w.before _ s = true := fun w h => hts w (List.mem_cons_of_mem _ h)
  have hown : s.vm.findClass RX7 = some m.cls := findClass_of_methodNamed B.named
  have hlocks := B.notSynchronized
  subst hsz
  have hD := hD0.self (sz := s.heap.size)
  generalize hAe : va_A (wX cA xa ka ra na ia ua va ca za pa qa X K R P L P2 L2 Tn Ti Tu Tv C Z q0 q1 q2 q3 q4 q5) s.heap.size = A at hD ⊢
  have hA : ∀ q : Nat, s.heap.size ≤ q → A q := fun q h => by rw [← hAe]; exact Or.inr h
  have hS : va_S A s.heap s.heap [] := va_S.rf
  have hl := lv_entry ([.ref (xa 0), .int x1, .int x2]) (n := 5) (Nat.le_of_ble_eq_true rfl)
  rw [lg_entry_eq]
  generalize (lg_sl ([.ref (xa 0), .int x1, .int x2]) ++ List.replicate (5 - (lg_sl ([.ref (xa 0), .int x1, .int x2])).length) Slot.unset).toArray = ls at hl ⊢
  have hl : lv_has ls 5 [(0, .ref (xa 0)), (1, .int x1), (2, .int x2)] := hl
  have F : tF p s m ([.ref (xa 0), .int x1, .int x2] : List Value).toArray meth c G cA A RX7 cX7_rests 5 (some .int) := ⟨hx, hb, hr, hml, hT, hown, hlocks, hK, hN, hA⟩
  obtain ⟨H, hH⟩ : ∃ z, z = s.heap := ⟨_, rfl⟩
  rw [← hH] at hP
  have hS : va_S A s.heap H [] := by rw [hH]; exact hS
  suffices hgo : G_X7_rests p l e s m below meth c G cA A xa ka ra na ia ua va ca za pa qa K R P P2 L2 Tn Ti Tv C Z q0 q1 q3 q4 q5 x1 x2 r0 X' L' Tu' q2' H [] (F0 m 0 ls []) by rw [hH] at hgo; exact hgo
  generalize ([] : List Loc) = locs at hS ⊢
  unfold f_X7_rests at h
  refine lv_aload_n hx hb dX7_rests_0 rfl (lv_at hl 0 rfl) ?_
  refine lv_iload_n hx hb dX7_rests_1 rfl (lv_at hl 1 rfl) ?_
  refine lv_iload_n hx hb dX7_rests_2 rfl (lv_at hl 2 rfl) ?_
  obtain ⟨r1, hc2, h⟩ := tx_bd h
  refine tw_ci tw_all hP hD hS hA (va_runV (As := [.int x1, .int x2]) (rest := []) ⟨hx, hb, hml, hown, hT⟩ (c_X7_canChoose l G cA H.size xa ka ra na ia ua va ca za pa qa X K R P L P2 L2 Tn Ti Tu Tv C Z q0 q1 q2 q3 q4 q5 x1 x2  r1 hc2) (cwV 2 hT (tq_gV kw_49_17 kw_49_18 kw_49_19 kw_1_2 kw_49_20) rfl rfl rfl (by decide +kernel) ⟨Nat.le_of_ble_eq_true rfl, Nat.le_of_ble_eq_true rfl⟩) ⟨(tw_pre tw_all hP hD hK hN).1, va_recv hK hP (ci := 7) (q0 := 0) rfl rfl, (tw_pre tw_all hP hD hK hN).2⟩ rfl rfl hl.1 rfl (lv_room (Nat.le_of_ble_eq_true rfl)) dX7_rests_3 ⟨Nat.le_of_ble_eq_true rfl, Nat.le_of_ble_eq_true rfl⟩) (fun _ _ H locs z3 hP hD hS => ?_)
  subst z3
  rw [List.append_nil] at hP hD
  have hP : va_P G vwCl (wX cA xa ka ra na ia ua va ca za pa qa X K R P L P2 L2 Tn Ti Tu Tv C Z q0 q1 q2 q3 q4 q5) H := hP
  have hD : va_D A (wX cA xa ka ra na ia ua va ca za pa qa X K R P L P2 L2 Tn Ti Tu Tv C Z q0 q1 q2 q3 q4 q5) := hD
  refine lv_if_ne (tgt := 11) hx hb dX7_rests_6 (by decide) (fun c4 => ?_) (fun c4 => ?_)
  · have h := tx_neg c4 h
    refine lv_aload_n hx hb dX7_rests_11 rfl (lv_at hl 0 rfl) ?_
    refine lv_iload_n hx hb dX7_rests_12 rfl (lv_at hl 1 rfl) ?_
    refine lv_iload_n hx hb dX7_rests_13 rfl (lv_at hl 2 rfl) ?_
    obtain ⟨⟨X_5, L_6, Tu_7, q2_8⟩, hc9, h⟩ := tx_bd h
    replace h := tx_let (y := X_5) rfl h
    replace h := tx_let (y := L_6) rfl h
    replace h := tx_let (y := Tu_7) rfl h
    replace h := tx_let (y := q2_8) rfl h
    refine tw_cv tw_all hP hD hS hA (va_runV (As := [.int x1, .int x2]) (rest := []) ⟨hx, hb, hml, hown, hT⟩ (c_X7_workOutCosts l G cA H.size xa ka ra na ia ua va ca za pa qa X K R P L P2 L2 Tn Ti Tu Tv C Z q0 q1 q2 q3 q4 q5 x1 x2  X_5 L_6 Tu_7 q2_8 hc9) (cwV 2 hT (tq_gV kw_49_21 kw_49_22 kw_49_23 kw_1_2 kw_50_0) rfl rfl rfl (by decide +kernel) ⟨Nat.le_of_ble_eq_true rfl, Nat.le_of_ble_eq_true rfl⟩) ⟨(tw_pre tw_all hP hD hK hN).1, va_recv hK hP (ci := 7) (q0 := 0) rfl rfl, (tw_pre tw_all hP hD hK hN).2⟩ rfl rfl hl.1 rfl (lv_room (Nat.le_of_ble_eq_true rfl)) dX7_rests_14 ⟨Nat.le_of_ble_eq_true rfl, Nat.le_of_ble_eq_true rfl⟩) (fun _ H locs z10 hP hD hS => ?_)
    rw [List.append_nil] at hP hD
    have hP : va_P G vwCl (wX cA xa ka ra na ia ua va ca za pa qa X_5 K R P L_6 P2 L2 Tn Ti Tu_7 Tv C Z q0 q1 q2_8 q3 q4 q5) H := hP
    have hD : va_D A (wX cA xa ka ra na ia ua va ca za pa qa X_5 K R P L_6 P2 L2 Tn Ti Tu_7 Tv C Z q0 q1 q2_8 q3 q4 q5) := hD
    refine lv_iconst (v := 0) hx hb dX7_rests_17 (by decide) ?_
    refine lv_istore_n (lv' := [(3, .int 0), (0, .ref (xa 0)), (1, .int x1), (2, .int x2)]) hx hb dX7_rests_18 rfl hl (by decide) rfl (fun ls hl => ?_)
    refine lv_iconst (v := 0) hx hb dX7_rests_19 (by decide) ?_
    refine lv_istore (lv' := [(4, .int 0), (3, .int 0), (0, .ref (xa 0)), (1, .int x1), (2, .int x2)]) hx hb dX7_rests_20 hl (by decide) rfl (fun ls hl => ?_)
    exact w_X7_rests_L22 F 2000 0 0 H locs ls h hP hD hS (lv_sub hl [2, 1, 0] rfl)
  · have h := tx_pos c4 h
    refine lv_iconst (v := (-1)) hx hb dX7_rests_9 (by decide) ?_
    obtain ⟨rfl, rfl, rfl, rfl, rfl⟩ := tx_5 h
    exact W.iret hx hb hr (fun t ht hW => ⟨⟨_, (), rfl, rfl, by rw [ht]; exact hP, hD⟩, hS.F ht⟩) hS.2.2 dX7_rests_10
abbrev G_X4_add_x (p : Program) (l : Launch) (e : Env) (s : State) (m : MethodId) (below : List Frame) (meth : Method) (c : Code) (G : va_G) (cA : Nat → ClassId) (A : Nat → Prop) (xa : Nat → Nat) (ka : Nat → Nat) (ra : Nat → Nat) (na : Nat → Nat) (ia : Nat → Nat) (ua : Nat → Nat) (va : Nat → Nat) (ca : Nat → Nat) (za : Nat → Nat) (pa : Nat → Nat) (qa : Nat → Nat) (X : Tr) (K : Tr) (R : Tr) (P : Tr) (L : Lo) (P2 : Tr) (L2 : Lo) (Tn : Tr) (Ti : Tr) (Tu : Tr) (Tv : Tr) (C : Tr) (q0 : Nat) (q1 : Nat) (q2 : Nat) (q3 : Nat) (q4 : Nat) (q5 : Nat) (x1 : Int32) (x2 : Int32) (x3 : Int32) (x4 : Int32) (r0 : Int32) (Z' : Tr) (H : Heap) (locs : List Loc) (g : JFrame) : Prop := W p l e (headSpec (.code yX4_add cX4_add 5 (some .int) :: T0) ({ frames := 0, cells := 0, slots := 0, locals := 0 } : Room)).room s m ([.ref (za 0), .int x1, .int x2, .int x3, .int x4] : List Value).toArray below meth c H locs 0 0 (MQ below (tqQi G cA (fun (r : Int32) (_ : Unit) => r = r0) (fun (_ : Unit) => wX cA xa ka ra na ia ua va ca za pa qa X K R P L P2 L2 Tn Ti Tu Tv C (Z') q0 q1 q2 q3 q4 q5) A) ([.ref (za 0), .int x1, .int x2, .int x3, .int x4] : List Value).toArray s 0 0 A) g
set_option maxHeartbeats 4000000 in
set_option maxRecDepth 100000 in
theorem c_X4_add_x (l : Launch) (G : va_G) (cA : Nat → ClassId) (sz : Nat) (xa : Nat → Nat) (ka : Nat → Nat) (ra : Nat → Nat) (na : Nat → Nat) (ia : Nat → Nat) (ua : Nat → Nat) (va : Nat → Nat) (ca : Nat → Nat) (za : Nat → Nat) (pa : Nat → Nat) (qa : Nat → Nat) (X : Tr) (K : Tr) (R : Tr) (P : Tr) (L : Lo) (P2 : Tr) (L2 : Lo) (Tn : Tr) (Ti : Tr) (Tu : Tr) (Tv : Tr) (C : Tr) (Z : Tr) (q0 : Nat) (q1 : Nat) (q2 : Nat) (q3 : Nat) (q4 : Nat) (q5 : Nat) (x1 : Int32) (x2 : Int32) (x3 : Int32) (x4 : Int32)  (r0 : Int32) (Z' : Tr) (h : f_X4_add_x pa qa Z x1 x2 x3 x4 = some (r0, Z')) : Met l yX4_add (.code yX4_add cX4_add 5 (some .int) :: T0) ({ frames := 0, cells := 0, slots := 0, locals := 0 } : Room) (tqP G cA [.ref (za 0), .int x1, .int x2, .int x3, .int x4] (wX cA xa ka ra na ia ua va ca za pa qa X K R P L P2 L2 Tn Ti Tu Tv C Z q0 q1 q2 q3 q4 q5) sz) (tqQi G cA (fun (r : Int32) (_ : Unit) => r = r0) (fun (_ : Unit) => wX cA xa ka ra na ia ua va ca za pa qa X K R P L P2 L2 Tn Ti Tu Tv C (Z') q0 q1 q2 q3 q4 q5) (va_A (wX cA xa ka ra na ia ua va ca za pa qa X K R P L P2 L2 Tn Ti Tu Tv C Z q0 q1 q2 q3 q4 q5) sz)) 0 0 (va_A (wX cA xa ka ra na ia ua va ca za pa qa X K R P L P2 L2 Tn Ti Tu Tv C Z q0 q1 q2 q3 q4 q5) sz) := by
  refine Met.ofW (cc := cX4_add) (maxL := 5) (ret := (some .int)) (by decide) rfl ?_
  intro p e s m args below meth c s₁ B hml hv
  obtain ⟨rfl, hsz, hP, hK, hD0, hN⟩ := hv
  have hx := B.exec
  have hb := B.bytes
  have hr := B.returns
  have hts := atoms_spec (ws := .code yX4_add cX4_add 5 (some .int) :: T0) B.pre
  have hT : ∀ w ∈ T0, w.before _ s = true := fun w h => hts w (List.mem_cons_of_mem _ h)
  have hown : s.vm.findClass RX4 = some m.cls := findClass_of_methodNamed B.named
  have hlocks := B.notSynchronized
  subst hsz
  have hD := hD0.self (sz := s.heap.size)
  generalize hAe : va_A (wX cA xa ka ra na ia ua va ca za pa qa X K R P L P2 L2 Tn Ti Tu Tv C Z q0 q1 q2 q3 q4 q5) s.heap.size = A at hD ⊢
  have hA : ∀ q : Nat, s.heap.size ≤ q → A q := fun q h => by rw [← hAe]; exact Or.inr h
  have hS : va_S A s.heap s.heap [] := va_S.rf
  have hl := lv_entry ([.ref (za 0), .int x1, .int x2, .int x3, .int x4]) (n := 5) (Nat.le_of_ble_eq_true rfl)
  rw [lg_entry_eq]
  generalize (lg_sl ([.ref (za 0), .int x1, .int x2, .int x3, .int x4]) ++ List.replicate (5 - (lg_sl ([.ref (za 0), .int x1, .int x2, .int x3, .int x4])).length) Slot.unset).toArray = ls at hl ⊢
  have hl : lv_has ls 5 [(0, .ref (za 0)), (1, .int x1), (2, .int x2), (3, .int x3), (4, .int x4)] := hl
  have F : tF p s m ([.ref (za 0), .int x1, .int x2, .int x3, .int x4] : List Value).toArray meth c G cA A RX4 cX4_add 5 (some .int) := ⟨hx, hb, hr, hml, hT, hown, hlocks, hK, hN, hA⟩
  obtain ⟨H, hH⟩ : ∃ z, z = s.heap := ⟨_, rfl⟩
  rw [← hH] at hP
  have hS : va_S A s.heap H [] := by rw [hH]; exact hS
  suffices hgo : G_X4_add_x p l e s m below meth c G cA A xa ka ra na ia ua va ca za pa qa X K R P L P2 L2 Tn Ti Tu Tv C q0 q1 q2 q3 q4 q5 x1 x2 x3 x4 r0 Z' H [] (F0 m 0 ls []) by rw [hH] at hgo; exact hgo
  generalize ([] : List Loc) = locs at hS ⊢
  unfold f_X4_add_x at h
  refine lv_aload_n hx hb dX4_add_0 rfl (lv_at hl 0 rfl) ?_
  refine va_get (D := G) (ci := 4) (v := .int (Z 0 0)) (C := RX4) (T := TX4) (N := 7) hx hb hT ku_4 hown hK hP 103 rfl rfl 0 (by decide) (hT _ kw_8_22) (fun _ h9 => h9) rfl dX4_add_1 ?_
  refine lv_bipush (v := 24) hx hb dX4_add_4 (by decide) ?_
  refine lv_icmp_lt (tgt := 11) hx hb dX4_add_6 (by decide) (fun c1 => ?_) (fun c1 => ?_)
  · have h := tx_pos c1 h
    refine lv_aload_n hx hb dX4_add_11 rfl (lv_at hl 0 rfl) ?_
    refine va_get (D := G) (ci := 4) (v := .ref (za 3)) (C := RX4) (T := TX4) (N := 7) hx hb hT ku_4 hown hK hP 103 rfl rfl 2 (by decide) (hT _ kw_9_0) (fun _ h9 => h9) rfl dX4_add_12 ?_
    refine lv_aload_n hx hb dX4_add_15 rfl (lv_at hl 0 rfl) ?_
    refine va_get (D := G) (ci := 4) (v := .int (Z 0 0)) (C := RX4) (T := TX4) (N := 7) hx hb hT ku_4 hown hK hP 103 rfl rfl 0 (by decide) (hT _ kw_8_22) (fun _ h9 => h9) rfl dX4_add_16 ?_
    refine lv_iload_n hx hb dX4_add_19 rfl (lv_at hl 1 rfl) ?_
    obtain ⟨g2, h⟩ := tx_ck h
    refine va_iast (i := (Z 0 0)) hx hb hK hP hD hS 104 0 rfl rfl (tx_in g2) dX4_add_20 (fun H locs hP hD hS => ?_)
    obtain ⟨Z_3, eZ_3, h⟩ := tx_lt h
    rw [sX_za_a2, eZ_3] at hP hD
    refine lv_aload_n hx hb dX4_add_21 rfl (lv_at hl 0 rfl) ?_
    refine va_get (D := G) (ci := 4) (v := .ref (za 4)) (C := RX4) (T := TX4) (N := 7) hx hb hT ku_4 hown hK hP 103 rfl rfl 3 (by decide) (hT _ kw_9_1) (fun _ h9 => h9) rfl dX4_add_22 ?_
    refine lv_aload_n hx hb dX4_add_25 rfl (lv_at hl 0 rfl) ?_
    refine va_get (D := G) (ci := 4) (v := .int (Z_3 0 0)) (C := RX4) (T := TX4) (N := 7) hx hb hT ku_4 hown hK hP 103 rfl rfl 0 (by decide) (hT _ kw_8_22) (fun _ h9 => h9) rfl dX4_add_26 ?_
    refine lv_iload_n hx hb dX4_add_29 rfl (lv_at hl 2 rfl) ?_
    obtain ⟨g4, h⟩ := tx_ck h
    refine va_iast (i := (Z_3 0 0)) hx hb hK hP hD hS 105 0 rfl rfl (tx_in g4) dX4_add_30 (fun H locs hP hD hS => ?_)
    obtain ⟨Z_5, eZ_5, h⟩ := tx_lt h
    rw [sX_za_a3, eZ_5] at hP hD
    refine lv_aload_n hx hb dX4_add_31 rfl (lv_at hl 0 rfl) ?_
    refine va_get (D := G) (ci := 4) (v := .ref (za 5)) (C := RX4) (T := TX4) (N := 7) hx hb hT ku_4 hown hK hP 103 rfl rfl 4 (by decide) (hT _ kw_9_2) (fun _ h9 => h9) rfl dX4_add_32 ?_
    refine lv_aload_n hx hb dX4_add_35 rfl (lv_at hl 0 rfl) ?_
    refine va_get (D := G) (ci := 4) (v := .int (Z_5 0 0)) (C := RX4) (T := TX4) (N := 7) hx hb hT ku_4 hown hK hP 103 rfl rfl 0 (by decide) (hT _ kw_8_22) (fun _ h9 => h9) rfl dX4_add_36 ?_
    refine lv_iload_n hx hb dX4_add_39 rfl (lv_at hl 3 rfl) ?_
    obtain ⟨g6, h⟩ := tx_ck h
    refine va_iast (i := (Z_5 0 0)) hx hb hK hP hD hS 106 0 rfl rfl (tx_in g6) dX4_add_40 (fun H locs hP hD hS => ?_)
    obtain ⟨Z_7, eZ_7, h⟩ := tx_lt h
    rw [sX_za_a4, eZ_7] at hP hD
    refine lv_aload_n hx hb dX4_add_41 rfl (lv_at hl 0 rfl) ?_
    refine va_get (D := G) (ci := 4) (v := .ref (za 6)) (C := RX4) (T := TX4) (N := 7) hx hb hT ku_4 hown hK hP 103 rfl rfl 5 (by decide) (hT _ kw_9_3) (fun _ h9 => h9) rfl dX4_add_42 ?_
    refine lv_aload_n hx hb dX4_add_45 rfl (lv_at hl 0 rfl) ?_
    refine va_get (D := G) (ci := 4) (v := .int (Z_7 0 0)) (C := RX4) (T := TX4) (N := 7) hx hb hT ku_4 hown hK hP 103 rfl rfl 0 (by decide) (hT _ kw_8_22) (fun _ h9 => h9) rfl dX4_add_46 ?_
    refine lv_iload hx hb dX4_add_49 (lv_at hl 4 rfl) ?_
    obtain ⟨g8, h⟩ := tx_ck h
    refine va_iast (i := (Z_7 0 0)) hx hb hK hP hD hS 107 0 rfl rfl (tx_in g8) dX4_add_51 (fun H locs hP hD hS => ?_)
    obtain ⟨Z_9, eZ_9, h⟩ := tx_lt h
    rw [sX_za_a5, eZ_9] at hP hD
    refine lv_aload_n hx hb dX4_add_52 rfl (lv_at hl 0 rfl) ?_
    refine lv_dup hx hb dX4_add_53 rfl ?_
    refine va_get (D := G) (ci := 4) (v := .int (Z_9 0 0)) (C := RX4) (T := TX4) (N := 7) hx hb hT ku_4 hown hK hP 103 rfl rfl 0 (by decide) (hT _ kw_8_22) (fun _ h9 => h9) rfl dX4_add_54 ?_
    refine lv_iconst (v := 1) hx hb dX4_add_57 (by decide) ?_
    refine lv_iadd hx hb dX4_add_58 ?_
    refine va_put (D := G) (ci := 4) (v := .int ((Z_9 0 0) + 1)) (ty := .int) (C := RX4) (T := TX4) (N := 7) hx hb hT ku_4 tyX4 tyX4_ok nmX4 hown hK hP hD hS 103 rfl rfl 0 (by decide) (hT _ kw_8_22) (fun _ h9 => h9) rfl (by decide +kernel) rfl rfl (Nat.le_of_ble_eq_true rfl) dX4_add_59 (fun H locs hP hD hS => ?_)
    obtain ⟨Z_10, eZ_10, h⟩ := tx_lt h
    rw [sX_za_f0, eZ_10] at hP hD
    refine lv_aload_n hx hb dX4_add_62 rfl (lv_at hl 0 rfl) ?_
    refine va_get (D := G) (ci := 4) (v := .int (Z_10 0 0)) (C := RX4) (T := TX4) (N := 7) hx hb hT ku_4 hown hK hP 103 rfl rfl 0 (by decide) (hT _ kw_8_22) (fun _ h9 => h9) rfl dX4_add_63 ?_
    refine lv_iconst (v := 1) hx hb dX4_add_66 (by decide) ?_
    refine lv_isub hx hb dX4_add_67 ?_
    obtain ⟨rfl, rfl⟩ := tx_2 h
    exact W.iret hx hb hr (fun t ht hW => ⟨⟨_, (), rfl, rfl, by rw [ht]; exact hP, hD⟩, hS.F ht⟩) hS.2.2 dX4_add_68
  · have h := tx_neg c1 h
    refine lv_iconst (v := (-1)) hx hb dX4_add_9 (by decide) ?_
    obtain ⟨rfl, rfl⟩ := tx_2 h
    exact W.iret hx hb hr (fun t ht hW => ⟨⟨_, (), rfl, rfl, by rw [ht]; exact hP, hD⟩, hS.F ht⟩) hS.2.2 dX4_add_10
