abbrev G_X7_feet (p : Program) (l : Launch) (e : Env) (s : State) (m : MethodId) (below : List Frame) (meth : Method) (c : Code) (G : va_G) (cA : Nat → ClassId) (A : Nat → Prop) (xa : Nat → Nat) (ka : Nat → Nat) (ra : Nat → Nat) (na : Nat → Nat) (ia : Nat → Nat) (ua : Nat → Nat) (va : Nat → Nat) (ca : Nat → Nat) (za : Nat → Nat) (pa : Nat → Nat) (qa : Nat → Nat) (X : Tr) (K : Tr) (R : Tr) (P : Tr) (P2 : Tr) (L2 : Lo) (Tn : Tr) (Ti : Tr) (Tv : Tr) (C : Tr) (Z : Tr) (q0 : Nat) (q1 : Nat) (q3 : Nat) (q4 : Nat) (q5 : Nat) (r0 : Int32) (L' : Lo) (Tu' : Tr) (q2' : Nat) (H : Heap) (locs : List Loc) (g : JFrame) : Prop := W p l e (headSpec (.code yX7_feet cX7_feet 4 (some .int) :: T0) ({ frames := 6, cells := 0, slots := 0, locals := 144 } : Room)).room s m ([.ref (xa 0)] : List Value).toArray below meth c H locs 0 0 (MQ below (tqQi G cA (fun (r : Int32) (_ : Unit) => r = r0) (fun (_ : Unit) => wX cA xa ka ra na ia ua va ca za pa qa X K R P (L') P2 L2 Tn Ti (Tu') Tv C Z q0 q1 (q2') q3 q4 q5) A) ([.ref (xa 0)] : List Value).toArray s 0 0 A) g
set_option maxHeartbeats 4000000 in
set_option maxRecDepth 100000 in
theorem w_X7_feet_J88 {p : Program} {l : Launch} {e : Env} {s : State} {m : MethodId} {below : List Frame} {meth : Method} {c : Code} {G : va_G} {cA : Nat → ClassId} {A : Nat → Prop} {xa : Nat → Nat} {ka : Nat → Nat} {ra : Nat → Nat} {na : Nat → Nat} {ia : Nat → Nat} {ua : Nat → Nat} {va : Nat → Nat} {ca : Nat → Nat} {za : Nat → Nat} {pa : Nat → Nat} {qa : Nat → Nat} {X : Tr} {K : Tr} {R : Tr} {P : Tr} {P2 : Tr} {L2 : Lo} {Tn : Tr} {Ti : Tr} {Tv : Tr} {C : Tr} {Z : Tr} {q0 : Nat} {q1 : Nat} {q3 : Nat} {q4 : Nat} {q5 : Nat} {r0 : Int32} {L' : Lo} {Tu' : Tr} {q2' : Nat} {q2 : Nat} (F : tF p s m ([.ref (xa 0)] : List Value).toArray meth c G cA A RX7 cX7_feet 4 (some .int))  (k14 : Int32 → Int32 → Lo → Tr → Option (Int32 × Lo × Tr × Nat)) (hk14 : ∀ (x1 : Int32) (x2 : Int32) (L : Lo) (Tu : Tr) (H : Heap) (locs : List Loc) (ls : Array Slot), k14 x1 x2 L Tu = some (r0, L', Tu', q2') → va_P G vwCl (wX cA xa ka ra na ia ua va ca za pa qa X K R P L P2 L2 Tn Ti Tu Tv C Z q0 q1 q2 q3 q4 q5) H → va_D A (wX cA xa ka ra na ia ua va ca za pa qa X K R P L P2 L2 Tn Ti Tu Tv C Z q0 q1 q2 q3 q4 q5) → va_S A s.heap H locs → lv_has ls 4 [(0, .ref (xa 0)), (1, .int x1), (2, .int x2)] → G_X7_feet p l e s m below meth c G cA A xa ka ra na ia ua va ca za pa qa X K R P P2 L2 Tn Ti Tv C Z q0 q1 q3 q4 q5 r0 L' Tu' q2' H locs (F0 m 14 ls [])) (x1 : Int32) (x2 : Int32) (L : Lo) (Tu : Tr) (H : Heap) (locs : List Loc) (ls : Array Slot) (h : fJ_X7_feet_J88 k14 pa qa P Tn q0 q2 q4 x1 x2 L Tu = some (r0, L', Tu', q2')) (hP : va_P G vwCl (wX cA xa ka ra na ia ua va ca za pa qa X K R P L_22 P2 L2 Tn Ti Tu_21 Tv C Z q0 q1 (pa 0) q3 q4 q5) H) (hD : va_D A (wX cA xa ka ra na ia ua va ca za pa qa X K R P L_22 P2 L2 Tn Ti Tu_21 Tv C Z q0 q1 (pa 0) q3 q4 q5)) (hS : va_S A s.heap H locs) (hl : lv_has ls 4 [(2, .int y25), (0, .ref (xa 0)), (1, .int x1)]) : G_X7_feet p l e s m below meth c G cA A xa ka ra na ia ua va ca za pa qa X K R P P2 L2 Tn Ti Tv C Z q0 q1 q3 q4 q5 r0 L' Tu' q2' H locs (F0 m 88 ls []) := by
  obtain ⟨hx, hb, hr, hml, hT, hown, hlocks, hK, hN, hA⟩ := id F
  unfold fJ_X7_feet_J88 at h
  refine lv_aload_n hx hb dX7_feet_88 rfl (lv_at hl 0 rfl) ?_
  refine va_get (D := G) (ci := 7) (v := .ref (ua 0)) (C := RX7) (T := TX7) (N := 12) hx hb hT ku_7 hown hK hP 0 rfl rfl 5 (by decide) (hT _ kw_2_3) (fun _ h9 => h9) rfl dX7_feet_89 ?_
  obtain ⟨g20, h⟩ := tx_ck h
  have eg20 := of_decide_eq_true g20
  subst eg20
  obtain ⟨⟨Tu_21, L_22⟩, hc23, h⟩ := tx_bd h
  replace h := tx_let (y := Tu_21) rfl h
  replace h := tx_let (y := L_22) rfl h
  refine tw_cv pX_ua hP hD hS hA (va_runV (As := []) (rest := []) ⟨hx, hb, hml, hown, hT⟩ (c_X6_wayOn l G cA H.size ua pa Tu P L  Tu_21 L_22 hc23) (cwV 0 hT (tq_gV kw_47_9 kw_42_4 kw_42_5 kw_1_23 kw_42_6) rfl rfl rfl (by decide +kernel) ⟨Nat.le_of_ble_eq_true rfl, Nat.le_of_ble_eq_true rfl⟩) ⟨(tw_pre pX_ua hP hD hK hN).1, va_recv hK hP (ci := 6) (q0 := 77) rfl rfl, (tw_pre pX_ua hP hD hK hN).2⟩ rfl rfl hl.1 rfl (lv_room (Nat.le_of_ble_eq_true rfl)) dX7_feet_92 ⟨Nat.le_of_ble_eq_true rfl, Nat.le_of_ble_eq_true rfl⟩) (fun _ H locs z24 hP hD hS => ?_)
  replace hP := tw_P pX_ua.symm hP
  replace hD := tw_D pX_ua.symm hD
  have hP : va_P G vwCl (wX cA xa ka ra na ia ua va ca za pa qa X K R P L_22 P2 L2 Tn Ti Tu_21 Tv C Z q0 q1 (pa 0) q3 q4 q5) H := hP
  have hD : va_D A (wX cA xa ka ra na ia ua va ca za pa qa X K R P L_22 P2 L2 Tn Ti Tu_21 Tv C Z q0 q1 (pa 0) q3 q4 q5) := hD
  obtain ⟨y25, ey25, h⟩ := tx_lt h
  refine lv_iinc (v := y25) (lv' := [(2, .int y25), (0, .ref (xa 0)), (1, .int x1)]) hx hb dX7_feet_95 hl (k := 2) rfl ey25 (by decide) rfl (fun ls hl => ?_)
  refine lv_goto (tgt := 14) hx hb dX7_feet_98 (by decide) ?_
  exact hk14 x1 y25 L_22 Tu_21 H locs ls h hP hD hS (lv_sub hl [1, 2, 0] rfl)
set_option maxHeartbeats 4000000 in
set_option maxRecDepth 100000 in
theorem w_X7_feet_L46 {p : Program} {l : Launch} {e : Env} {s : State} {m : MethodId} {below : List Frame} {meth : Method} {c : Code} {G : va_G} {cA : Nat → ClassId} {A : Nat → Prop} {xa : Nat → Nat} {ka : Nat → Nat} {ra : Nat → Nat} {na : Nat → Nat} {ia : Nat → Nat} {ua : Nat → Nat} {va : Nat → Nat} {ca : Nat → Nat} {za : Nat → Nat} {pa : Nat → Nat} {qa : Nat → Nat} {X : Tr} {K : Tr} {R : Tr} {P : Tr} {P2 : Tr} {L2 : Lo} {Tn : Tr} {Ti : Tr} {Tv : Tr} {C : Tr} {Z : Tr} {q0 : Nat} {q1 : Nat} {q3 : Nat} {q4 : Nat} {q5 : Nat} {r0 : Int32} {L' : Lo} {Tu' : Tr} {q2' : Nat} {L : Lo} {Tu : Tr} {q2 : Nat} {x2 : Int32} (F : tF p s m ([.ref (xa 0)] : List Value).toArray meth c G cA A RX7 cX7_feet 4 (some .int))  (k14 : Int32 → Int32 → Lo → Tr → Option (Int32 × Lo × Tr × Nat)) (hk14 : ∀ (x1 : Int32) (x2 : Int32) (L : Lo) (Tu : Tr) (H : Heap) (locs : List Loc) (ls : Array Slot), k14 x1 x2 L Tu = some (r0, L', Tu', q2') → va_P G vwCl (wX cA xa ka ra na ia ua va ca za pa qa X K R P L P2 L2 Tn Ti Tu Tv C Z q0 q1 q2 q3 q4 q5) H → va_D A (wX cA xa ka ra na ia ua va ca za pa qa X K R P L P2 L2 Tn Ti Tu Tv C Z q0 q1 q2 q3 q4 q5) → va_S A s.heap H locs → lv_has ls 4 [(0, .ref (xa 0)), (1, .int x1), (2, .int x2)] → G_X7_feet p l e s m below meth c G cA A xa ka ra na ia ua va ca za pa qa X K R P P2 L2 Tn Ti Tv C Z q0 q1 q3 q4 q5 r0 L' Tu' q2' H locs (F0 m 14 ls [])) (N : Nat) : ∀ (x1 : Int32) (x3 : Int32) (H : Heap) (locs : List Loc) (ls : Array Slot), lpF (fun _ _ => none) (fB_X7_feet_L46 k14 pa qa P L Tn Tu q0 q2 q4 x2) N x1 x3 = some (r0, L', Tu', q2') → va_P G vwCl (wX cA xa ka ra na ia ua va ca za pa qa X K R P L P2 L2 Tn Ti Tu Tv C Z q0 q1 q2 q3 (pa 0) q5) H → va_D A (wX cA xa ka ra na ia ua va ca za pa qa X K R P L P2 L2 Tn Ti Tu Tv C Z q0 q1 q2 q3 (pa 0) q5) → va_S A s.heap H locs → lv_has ls 4 [(0, .ref (xa 0)), (1, .int x1), (2, .int x2), (3, .int x3)] → G_X7_feet p l e s m below meth c G cA A xa ka ra na ia ua va ca za pa qa X K R P P2 L2 Tn Ti Tv C Z q0 q1 q3 q4 q5 r0 L' Tu' q2' H locs (F0 m 46 ls []) := by
  obtain ⟨hx, hb, hr, hml, hT, hown, hlocks, hK, hN, hA⟩ := id F
  induction N with
  | zero =>
    intro x1 x3 H locs ls h
    have h : (none : Option (Int32 × Lo × Tr × Nat)) = some (r0, L', Tu', q2') := h
    cases h
  | succ N hk46 =>
    intro x1 x3 H locs ls h hP hD hS hl
    have h : fB_X7_feet_L46 k14 pa qa P L Tn Tu q0 q2 q4 x2 (lpF (fun _ _ => none) (fB_X7_feet_L46 k14 pa qa P L Tn Tu q0 q2 q4 x2) N) x1 x3 = some (r0, L', Tu', q2') := h
    generalize hk46e : lpF (fun _ _ => none) (fB_X7_feet_L46 k14 pa qa P L Tn Tu q0 q2 q4 x2) N = k46 at h hk46
    unfold fB_X7_feet_L46 at h
    refine lv_iload_n hx hb dX7_feet_46 rfl (lv_at hl 3 rfl) ?_
    refine lv_aload_n hx hb dX7_feet_47 rfl (lv_at hl 0 rfl) ?_
    refine va_get (D := G) (ci := 7) (v := .ref q4) (C := RX7) (T := TX7) (N := 12) hx hb hT ku_7 hown hK hP 0 rfl rfl 1 (by decide) (hT _ kw_1_20) (fun _ h9 => h9) rfl dX7_feet_48 ?_
    obtain ⟨g18, h⟩ := tx_ck h
    have eg18 := of_decide_eq_true g18
    subst eg18
    refine va_get (D := G) (ci := 2) (v := .int (P 0 0)) (C := RX2) (T := TX2) (N := 19) hx hb hT ku_2 hown hK hP 9 rfl rfl 0 (by decide) (hT _ kw_32_2) (fun _ h9 => h9) rfl dX7_feet_51 ?_
    refine lv_icmp_ge (tgt := 88) hx hb dX7_feet_54 (by decide) (fun c19 => ?_) (fun c19 => ?_)
    · have h := tx_pos c19 h
      exact w_X7_feet_J88 F k14 hk14 x1 x2 L Tu H locs ls h hP hD hS (lv_sub hl [0, 1, 2] rfl)
    · have h := tx_neg c19 h
      refine lv_aload_n hx hb dX7_feet_57 rfl (lv_at hl 0 rfl) ?_
      refine va_get (D := G) (ci := 7) (v := .ref (pa 0)) (C := RX7) (T := TX7) (N := 12) hx hb hT ku_7 hown hK hP 0 rfl rfl 1 (by decide) (hT _ kw_1_20) (fun _ h9 => h9) rfl dX7_feet_58 ?_
      refine va_get (D := G) (ci := 2) (v := .ref (pa 8)) (C := RX2) (T := TX2) (N := 19) hx hb hT ku_2 hown hK hP 9 rfl rfl 7 (by decide) (hT _ kw_31_18) (fun _ h9 => h9) rfl dX7_feet_61 ?_
      refine lv_iload_n hx hb dX7_feet_64 rfl (lv_at hl 3 rfl) ?_
      obtain ⟨g26, h⟩ := tx_ck h
      refine va_iald (i := x3) hx hb hK hP 10 0 rfl rfl (tx_in g26) dX7_feet_65 ?_
      refine lv_iconst (v := 2) hx hb dX7_feet_66 (by decide) ?_
      refine lv_icmp_ne (tgt := 82) hx hb dX7_feet_67 (by decide) (fun c27 => ?_) (fun c27 => ?_)
      · have h := tx_neg c27 h
        obtain ⟨y28, ey28, h⟩ := tx_lt h
        refine lv_iinc (v := y28) (lv' := [(3, .int y28), (0, .ref (xa 0)), (1, .int x1), (2, .int x2)]) hx hb dX7_feet_82 hl (k := 3) rfl ey28 (by decide) rfl (fun ls hl => ?_)
        refine lv_goto (tgt := 46) hx hb dX7_feet_85 (by decide) ?_
        exact hk46 x1 y28 H locs ls h hP hD hS (lv_sub hl [1, 2, 3, 0] rfl)
      · have h := tx_pos c27 h
        refine lv_iload_n hx hb dX7_feet_70 rfl (lv_at hl 1 rfl) ?_
        refine lv_aload_n hx hb dX7_feet_71 rfl (lv_at hl 0 rfl) ?_
        refine va_get (D := G) (ci := 7) (v := .ref (ua 0)) (C := RX7) (T := TX7) (N := 12) hx hb hT ku_7 hown hK hP 0 rfl rfl 5 (by decide) (hT _ kw_2_3) (fun _ h9 => h9) rfl dX7_feet_72 ?_
        refine va_get (D := G) (ci := 6) (v := .ref (ua 17)) (C := RX6) (T := TX6) (N := 20) hx hb hT ku_6 hown hK hP 77 rfl rfl 16 (by decide) (hT _ kw_31_21) (fun _ h9 => h9) rfl dX7_feet_75 ?_
        refine lv_iload_n hx hb dX7_feet_78 rfl (lv_at hl 3 rfl) ?_
        refine va_iald (i := x3) hx hb hK hP 86 0 rfl rfl (tx_in g26) dX7_feet_79 ?_
        refine lv_iadd hx hb dX7_feet_80 ?_
        refine lv_topi (fun y29 ey29 => ?_)
        have h := tx_let ey29 h
        refine lv_istore_n (lv' := [(1, .int y29), (0, .ref (xa 0)), (2, .int x2), (3, .int x3)]) hx hb dX7_feet_81 rfl hl (by decide) rfl (fun ls hl => ?_)
        obtain ⟨y30, ey30, h⟩ := tx_lt h
        refine lv_iinc (v := y30) (lv' := [(3, .int y30), (1, .int y29), (0, .ref (xa 0)), (2, .int x2)]) hx hb dX7_feet_82 hl (k := 3) rfl ey30 (by decide) rfl (fun ls hl => ?_)
        refine lv_goto (tgt := 46) hx hb dX7_feet_85 (by decide) ?_
        exact hk46 y29 y30 H locs ls h hP hD hS (lv_sub hl [2, 1, 3, 0] rfl)
set_option maxHeartbeats 4000000 in
set_option maxRecDepth 100000 in
theorem w_X7_feet_L14 {p : Program} {l : Launch} {e : Env} {s : State} {m : MethodId} {below : List Frame} {meth : Method} {c : Code} {G : va_G} {cA : Nat → ClassId} {A : Nat → Prop} {xa : Nat → Nat} {ka : Nat → Nat} {ra : Nat → Nat} {na : Nat → Nat} {ia : Nat → Nat} {ua : Nat → Nat} {va : Nat → Nat} {ca : Nat → Nat} {za : Nat → Nat} {pa : Nat → Nat} {qa : Nat → Nat} {X : Tr} {K : Tr} {R : Tr} {P : Tr} {P2 : Tr} {L2 : Lo} {Tn : Tr} {Ti : Tr} {Tv : Tr} {C : Tr} {Z : Tr} {q0 : Nat} {q1 : Nat} {q3 : Nat} {q4 : Nat} {q5 : Nat} {r0 : Int32} {L' : Lo} {Tu' : Tr} {q2' : Nat} {q2 : Nat} (F : tF p s m ([.ref (xa 0)] : List Value).toArray meth c G cA A RX7 cX7_feet 4 (some .int))    (N : Nat) : ∀ (x1 : Int32) (x2 : Int32) (L : Lo) (Tu : Tr) (H : Heap) (locs : List Loc) (ls : Array Slot), lpF (fun _ _ _ _ => none) (fB_X7_feet_L14 pa qa P Tn q0 q2 q4) N x1 x2 L Tu = some (r0, L', Tu', q2') → va_P G vwCl (wX cA xa ka ra na ia ua va ca za pa qa X K R P L P2 L2 Tn Ti Tu Tv C Z q0 q1 q2 q3 q4 q5) H → va_D A (wX cA xa ka ra na ia ua va ca za pa qa X K R P L P2 L2 Tn Ti Tu Tv C Z q0 q1 q2 q3 q4 q5) → va_S A s.heap H locs → lv_has ls 4 [(0, .ref (xa 0)), (1, .int x1), (2, .int x2)] → G_X7_feet p l e s m below meth c G cA A xa ka ra na ia ua va ca za pa qa X K R P P2 L2 Tn Ti Tv C Z q0 q1 q3 q4 q5 r0 L' Tu' q2' H locs (F0 m 14 ls []) := by
  obtain ⟨hx, hb, hr, hml, hT, hown, hlocks, hK, hN, hA⟩ := id F
  induction N with
  | zero =>
    intro x1 x2 L Tu H locs ls h
    have h : (none : Option (Int32 × Lo × Tr × Nat)) = some (r0, L', Tu', q2') := h
    cases h
  | succ N hk14 =>
    intro x1 x2 L Tu H locs ls h hP hD hS hl
    have h : fB_X7_feet_L14 pa qa P Tn q0 q2 q4 (lpF (fun _ _ _ _ => none) (fB_X7_feet_L14 pa qa P Tn q0 q2 q4) N) x1 x2 L Tu = some (r0, L', Tu', q2') := h
    generalize hk14e : lpF (fun _ _ _ _ => none) (fB_X7_feet_L14 pa qa P Tn q0 q2 q4) N = k14 at h hk14
    unfold fB_X7_feet_L14 at h
    refine lv_iload_n hx hb dX7_feet_14 rfl (lv_at hl 2 rfl) ?_
    refine lv_bipush (v := 20) hx hb dX7_feet_15 (by decide) ?_
    refine lv_icmp_gt (tgt := 101) hx hb dX7_feet_17 (by decide) (fun c6 => ?_) (fun c6 => ?_)
    · have h := tx_pos c6 h
      refine lv_iload_n hx hb dX7_feet_101 rfl (lv_at hl 1 rfl) ?_
      obtain ⟨rfl, rfl, rfl, rfl⟩ := tx_4 h
      exact W.iret hx hb hr (fun t ht hW => ⟨⟨_, (), rfl, rfl, by rw [ht]; exact hP, hD⟩, hS.F ht⟩) hS.2.2 dX7_feet_102
    · have h := tx_neg c6 h
      refine lv_aload_n hx hb dX7_feet_20 rfl (lv_at hl 0 rfl) ?_
      refine va_get (D := G) (ci := 7) (v := .ref (ua 0)) (C := RX7) (T := TX7) (N := 12) hx hb hT ku_7 hown hK hP 0 rfl rfl 5 (by decide) (hT _ kw_2_3) (fun _ h9 => h9) rfl dX7_feet_21 ?_
      refine lv_aload_n hx hb dX7_feet_24 rfl (lv_at hl 0 rfl) ?_
      refine va_get (D := G) (ci := 7) (v := .ref q4) (C := RX7) (T := TX7) (N := 12) hx hb hT ku_7 hown hK hP 0 rfl rfl 1 (by decide) (hT _ kw_1_20) (fun _ h9 => h9) rfl dX7_feet_25 ?_
      obtain ⟨g7, h⟩ := tx_ck h
      have eg7 := of_decide_eq_true g7
      subst eg7
      refine va_get (D := G) (ci := 2) (v := .ref (pa 18)) (C := RX2) (T := TX2) (N := 19) hx hb hT ku_2 hown hK hP 9 rfl rfl 17 (by decide) (hT _ kw_32_23) (fun _ h9 => h9) rfl dX7_feet_28 ?_
      refine lv_iload_n hx hb dX7_feet_31 rfl (lv_at hl 2 rfl) ?_
      obtain ⟨g8, h⟩ := tx_ck h
      refine va_iald (i := x2) hx hb hK hP 20 0 rfl rfl (tx_in g8) dX7_feet_32 ?_
      obtain ⟨g9, h⟩ := tx_ck h
      have eg9 := of_decide_eq_true g9
      subst eg9
      obtain ⟨⟨r10, Tu_11, L_12⟩, hc13, h⟩ := tx_bd h
      replace h := tx_let (y := r10) rfl h
      replace h := tx_let (y := Tu_11) rfl h
      replace h := tx_let (y := L_12) rfl h
      refine tw_ci pX_ua hP hD hS hA (va_runV (As := [.int (P 18 x2.toNatClampNeg)]) (rest := []) ⟨hx, hb, hml, hown, hT⟩ (c_X6_takeDown l G cA H.size ua pa Tu P L (P 18 x2.toNatClampNeg)  r10 Tu_11 L_12 hc13) (cwV 1 hT (tq_gV kw_46_23 kw_40_13 kw_40_14 kw_1_23 kw_40_15) rfl rfl rfl (by decide +kernel) ⟨Nat.le_of_ble_eq_true rfl, Nat.le_of_ble_eq_true rfl⟩) ⟨(tw_pre pX_ua hP hD hK hN).1, va_recv hK hP (ci := 6) (q0 := 77) rfl rfl, (tw_pre pX_ua hP hD hK hN).2⟩ rfl rfl hl.1 rfl (lv_room (Nat.le_of_ble_eq_true rfl)) dX7_feet_33 ⟨Nat.le_of_ble_eq_true rfl, Nat.le_of_ble_eq_true rfl⟩) (fun _ _ H locs z14 hP hD hS => ?_)
      subst z14
      replace hP := tw_P pX_ua.symm hP
      replace hD := tw_D pX_ua.symm hD
      have hP : va_P G vwCl (wX cA xa ka ra na ia ua va ca za pa qa X K R P L_12 P2 L2 Tn Ti Tu_11 Tv C Z q0 q1 (pa 0) q3 (pa 0) q5) H := hP
      have hD : va_D A (wX cA xa ka ra na ia ua va ca za pa qa X K R P L_12 P2 L2 Tn Ti Tu_11 Tv C Z q0 q1 (pa 0) q3 (pa 0) q5) := hD
      refine lv_pop hx hb dX7_feet_36 rfl ?_
      refine lv_aload_n hx hb dX7_feet_37 rfl (lv_at hl 0 rfl) ?_
      refine va_get (D := G) (ci := 7) (v := .ref (ua 0)) (C := RX7) (T := TX7) (N := 12) hx hb hT ku_7 hown hK hP 0 rfl rfl 5 (by decide) (hT _ kw_2_3) (fun _ h9 => h9) rfl dX7_feet_38 ?_
      obtain ⟨Tu_15, hc16, h⟩ := tx_bd h
      refine tw_cv pX_ua hP hD hS hA (va_runV (As := []) (rest := []) ⟨hx, hb, hml, hown, hT⟩ (c_X6_getIn l G cA H.size ua pa Tu_11 P L_12  Tu_15 hc16) (cwV 0 hT (tq_gV kw_47_4 kw_41_13 kw_41_14 kw_1_23 kw_41_15) rfl rfl rfl (by decide +kernel) ⟨Nat.le_of_ble_eq_true rfl, Nat.le_of_ble_eq_true rfl⟩) ⟨(tw_pre pX_ua hP hD hK hN).1, va_recv hK hP (ci := 6) (q0 := 77) rfl rfl, (tw_pre pX_ua hP hD hK hN).2⟩ rfl rfl hl.1 rfl (lv_room (Nat.le_of_ble_eq_true rfl)) dX7_feet_41 ⟨Nat.le_of_ble_eq_true rfl, Nat.le_of_ble_eq_true rfl⟩) (fun _ H locs z17 hP hD hS => ?_)
      replace hP := tw_P pX_ua.symm hP
      replace hD := tw_D pX_ua.symm hD
      have hP : va_P G vwCl (wX cA xa ka ra na ia ua va ca za pa qa X K R P L_12 P2 L2 Tn Ti Tu_15 Tv C Z q0 q1 (pa 0) q3 (pa 0) q5) H := hP
      have hD : va_D A (wX cA xa ka ra na ia ua va ca za pa qa X K R P L_12 P2 L2 Tn Ti Tu_15 Tv C Z q0 q1 (pa 0) q3 (pa 0) q5) := hD
      refine lv_iconst (v := 0) hx hb dX7_feet_44 (by decide) ?_
      refine lv_istore_n (lv' := [(3, .int 0), (0, .ref (xa 0)), (1, .int x1), (2, .int x2)]) hx hb dX7_feet_45 rfl hl (by decide) rfl (fun ls hl => ?_)
      exact w_X7_feet_L46 F k14 hk14 2000 x1 0 H locs ls h hP hD hS (lv_sub hl [1, 2, 3, 0] rfl)
set_option maxHeartbeats 4000000 in
set_option maxRecDepth 100000 in
theorem c_X7_feet (l : Launch) (G : va_G) (cA : Nat → ClassId) (sz : Nat) (xa : Nat → Nat) (ka : Nat → Nat) (ra : Nat → Nat) (na : Nat → Nat) (ia : Nat → Nat) (ua : Nat → Nat) (va : Nat → Nat) (ca : Nat → Nat) (za : Nat → Nat) (pa : Nat → Nat) (qa : Nat → Nat) (X : Tr) (K : Tr) (R : Tr) (P : Tr) (L : Lo) (P2 : Tr) (L2 : Lo) (Tn : Tr) (Ti : Tr) (Tu : Tr) (Tv : Tr) (C : Tr) (Z : Tr) (q0 : Nat) (q1 : Nat) (q2 : Nat) (q3 : Nat) (q4 : Nat) (q5 : Nat)  (r0 : Int32) (L' : Lo) (Tu' : Tr) (q2' : Nat) (h : f_X7_feet pa qa P L Tn Tu q0 q2 q4 = some (r0, L', Tu', q2')) : Met l yX7_feet (.code yX7_feet cX7_feet 4 (some .int) :: T0) ({ frames := 6, cells := 0, slots := 0, locals := 144 } : Room) (tqP G cA [.ref (xa 0)] (wX cA xa ka ra na ia ua va ca za pa qa X K R P L P2 L2 Tn Ti Tu Tv C Z q0 q1 q2 q3 q4 q5) sz) (tqQi G cA (fun (r : Int32) (_ : Unit) => r = r0) (fun (_ : Unit) => wX cA xa ka ra na ia ua va ca za pa qa X K R P (L') P2 L2 Tn Ti (Tu') Tv C Z q0 q1 (q2') q3 q4 q5) (va_A (wX cA xa ka ra na ia ua va ca za pa qa X K R P L P2 L2 Tn Ti Tu Tv C Z q0 q1 q2 q3 q4 q5) sz)) 0 0 (va_A (wX cA xa ka ra na ia ua va ca za pa qa X K R P L P2 L2 Tn Ti Tu Tv C Z q0 q1 q2 q3 q4 q5) sz) := by
  refine Met.ofW (cc := cX7_feet) (maxL := 4) (ret := (some .int)) (by decide) rfl ?_
  intro p e s m args below meth c s₁ B hml hv
  obtain ⟨rfl, hsz, hP, hK, hD0, hN⟩ := hv
  have hx := B.exec
  have hb := B.bytes
  have hr := B.returns
  have hts := atoms_spec (ws := .code yX7_feet cX7_feet 4 (some .int) :: T0) B.pre
  have hT : ∀ w ∈ T0, w.before _ s = true := fun w h => hts w (List.mem_cons_of_mem _ h)
  have hown : s.vm.findClass RX7 = some m.cls := findClass_of_methodNamed B.named
  have hlocks := B.notSynchronized
  subst hsz
  have hD := hD0.self (sz := s.heap.size)
  generalize hAe : va_A (wX cA xa ka ra na ia ua va ca za pa qa X K R P L P2 L2 Tn Ti Tu Tv C Z q0 q1 q2 q3 q4 q5) s.heap.size = A at hD ⊢
  have hA : ∀ q : Nat, s.heap.size ≤ q → A q := fun q h => by rw [← hAe]; exact Or.inr h
  have hS : va_S A s.heap s.heap [] := va_S.rf
  have hl := lv_entry ([.ref (xa 0)]) (n := 4) (Nat.le_of_ble_eq_true rfl)
  rw [lg_entry_eq]
  generalize (lg_sl ([.ref (xa 0)]) ++ List.replicate (4 - (lg_sl ([.ref (xa 0)])).length) Slot.unset).toArray = ls at hl ⊢
  have hl : lv_has ls 4 [(0, .ref (xa 0))] := hl
  have F : tF p s m ([.ref (xa 0)] : List Value).toArray meth c G cA A RX7 cX7_feet 4 (some .int) := ⟨hx, hb, hr, hml, hT, hown, hlocks, hK, hN, hA⟩
  obtain ⟨H, hH⟩ : ∃ z, z = s.heap := ⟨_, rfl⟩
  rw [← hH] at hP
  have hS : va_S A s.heap H [] := by rw [hH]; exact hS
  suffices hgo : G_X7_feet p l e s m below meth c G cA A xa ka ra na ia ua va ca za pa qa X K R P P2 L2 Tn Ti Tv C Z q0 q1 q3 q4 q5 r0 L' Tu' q2' H [] (F0 m 0 ls []) by rw [hH] at hgo; exact hgo
  generalize ([] : List Loc) = locs at hS ⊢
  unfold f_X7_feet at h
  refine lv_aload_n hx hb dX7_feet_0 rfl (lv_at hl 0 rfl) ?_
  obtain ⟨⟨Tu_1, q2_2⟩, hc3, h⟩ := tx_bd h
  replace h := tx_let (y := Tu_1) rfl h
  replace h := tx_let (y := q2_2) rfl h
  refine tw_cv tw_all hP hD hS hA (va_runV (As := []) (rest := []) ⟨hx, hb, hml, hown, hT⟩ (c_X7_startTrial l G cA H.size xa ka ra na ia ua va ca za pa qa X K R P L P2 L2 Tn Ti Tu Tv C Z q0 q1 q2 q3 q4 q5  Tu_1 q2_2 hc3) (cwV 0 hT (tq_gV kw_46_17 kw_46_18 kw_46_19 kw_1_2 kw_46_20) rfl rfl rfl (by decide +kernel) ⟨Nat.le_of_ble_eq_true rfl, Nat.le_of_ble_eq_true rfl⟩) ⟨(tw_pre tw_all hP hD hK hN).1, va_recv hK hP (ci := 7) (q0 := 0) rfl rfl, (tw_pre tw_all hP hD hK hN).2⟩ rfl rfl hl.1 rfl (lv_room (Nat.le_of_ble_eq_true rfl)) dX7_feet_1 ⟨Nat.le_of_ble_eq_true rfl, Nat.le_of_ble_eq_true rfl⟩) (fun _ H locs z4 hP hD hS => ?_)
  rw [List.append_nil] at hP hD
  have hP : va_P G vwCl (wX cA xa ka ra na ia ua va ca za pa qa X K R P L P2 L2 Tn Ti Tu_1 Tv C Z q0 q1 q2_2 q3 q4 q5) H := hP
  have hD : va_D A (wX cA xa ka ra na ia ua va ca za pa qa X K R P L P2 L2 Tn Ti Tu_1 Tv C Z q0 q1 q2_2 q3 q4 q5) := hD
  refine lv_iconst (v := 0) hx hb dX7_feet_4 (by decide) ?_
  refine lv_istore_n (lv' := [(1, .int 0), (0, .ref (xa 0))]) hx hb dX7_feet_5 rfl hl (by decide) rfl (fun ls hl => ?_)
  refine lv_aload_n hx hb dX7_feet_6 rfl (lv_at hl 1 rfl) ?_
  refine va_get (D := G) (ci := 7) (v := .ref (na 0)) (C := RX7) (T := TX7) (N := 12) hx hb hT ku_7 hown hK hP 0 rfl rfl 2 (by decide) (hT _ kw_2_0) (fun _ h9 => h9) rfl dX7_feet_7 ?_
  refine va_get (D := G) (ci := 6) (v := .int (Tn 0 0)) (C := RX6) (T := TX6) (N := 20) hx hb hT ku_6 hown hK hP 53 rfl rfl 0 (by decide) (hT _ kw_40_5) (fun _ h9 => h9) rfl dX7_feet_10 ?_
  refine lv_topi (fun y5 ey5 => ?_)
  have h := tx_let ey5 h
  refine lv_istore_n (lv' := [(2, .int y5), (1, .int 0), (0, .ref (xa 0))]) hx hb dX7_feet_13 rfl hl (by decide) rfl (fun ls hl => ?_)
  exact w_X7_feet_L14 F 2000 0 y5 L Tu_1 H locs ls h hP hD hS (lv_sub hl [2, 1, 0] rfl)
abbrev G_X7_findLeast (p : Program) (l : Launch) (e : Env) (s : State) (m : MethodId) (below : List Frame) (meth : Method) (c : Code) (G : va_G) (cA : Nat → ClassId) (A : Nat → Prop) (xa : Nat → Nat) (ka : Nat → Nat) (ra : Nat → Nat) (na : Nat → Nat) (ia : Nat → Nat) (ua : Nat → Nat) (va : Nat → Nat) (ca : Nat → Nat) (za : Nat → Nat) (pa : Nat → Nat) (qa : Nat → Nat) (X : Tr) (K : Tr) (R : Tr) (P : Tr) (P2 : Tr) (L2 : Lo) (Tn : Tr) (Ti : Tr) (C : Tr) (Z : Tr) (q0 : Nat) (q1 : Nat) (q4 : Nat) (q5 : Nat) (x1 : Int32) (r0 : Int32) (L' : Lo) (Tu' : Tr) (Tv' : Tr) (q2' : Nat) (q3' : Nat) (H : Heap) (locs : List Loc) (g : JFrame) : Prop := W p l e (headSpec (.code yX7_findLeast cX7_findLeast 6 (some .int) :: T0) ({ frames := 6, cells := 0, slots := 0, locals := 153 } : Room)).room s m ([.ref (xa 0), .int x1] : List Value).toArray below meth c H locs 0 0 (MQ below (tqQi G cA (fun (r : Int32) (_ : Unit) => r = r0) (fun (_ : Unit) => wX cA xa ka ra na ia ua va ca za pa qa X K R P (L') P2 L2 Tn Ti (Tu') (Tv') C Z q0 q1 (q2') (q3') q4 q5) A) ([.ref (xa 0), .int x1] : List Value).toArray s 0 0 A) g
set_option maxHeartbeats 4000000 in
set_option maxRecDepth 100000 in
theorem w_X7_findLeast_J138 {p : Program} {l : Launch} {e : Env} {s : State} {m : MethodId} {below : List Frame} {meth : Method} {c : Code} {G : va_G} {cA : Nat → ClassId} {A : Nat → Prop} {xa : Nat → Nat} {ka : Nat → Nat} {ra : Nat → Nat} {na : Nat → Nat} {ia : Nat → Nat} {ua : Nat → Nat} {va : Nat → Nat} {ca : Nat → Nat} {za : Nat → Nat} {pa : Nat → Nat} {qa : Nat → Nat} {X : Tr} {K : Tr} {R : Tr} {P : Tr} {P2 : Tr} {L2 : Lo} {Tn : Tr} {Ti : Tr} {C : Tr} {Z : Tr} {q0 : Nat} {q1 : Nat} {q4 : Nat} {q5 : Nat} {x1₀ : Int32} {r0 : Int32} {L' : Lo} {Tu' : Tr} {Tv' : Tr} {q2' : Nat} {q3' : Nat} {Tv : Tr} {q3 : Nat} {x1 : Int32} {x2 : Int32} (F : tF p s m ([.ref (xa 0), .int x1₀] : List Value).toArray meth c G cA A RX7 cX7_findLeast 6 (some .int))  (k68 : Int32 → Int32 → Lo → Tr → Nat → Option (Int32 × Lo × Tr × Tr × Nat × Nat)) (hk68 : ∀ (x3 : Int32) (x4 : Int32) (L : Lo) (Tu : Tr) (q2 : Nat) (H : Heap) (locs : List Loc) (ls : Array Slot), k68 x3 x4 L Tu q2 = some (r0, L', Tu', Tv', q2', q3') → va_P G vwCl (wX cA xa ka ra na ia ua va ca za pa qa X K R P L P2 L2 Tn Ti Tu Tv C Z q0 q1 q2 q3 q4 q5) H → va_D A (wX cA xa ka ra na ia ua va ca za pa qa X K R P L P2 L2 Tn Ti Tu Tv C Z q0 q1 q2 q3 q4 q5) → va_S A s.heap H locs → lv_has ls 6 [(0, .ref (xa 0)), (1, .int x1), (2, .int x2), (3, .int x3), (4, .int x4)] → G_X7_findLeast p l e s m below meth c G cA A xa ka ra na ia ua va ca za pa qa X K R P P2 L2 Tn Ti C Z q0 q1 q4 q5 x1₀ r0 L' Tu' Tv' q2' q3' H locs (F0 m 68 ls [])) (x3 : Int32) (x4 : Int32) (L : Lo) (Tu : Tr) (q2 : Nat) (H : Heap) (locs : List Loc) (ls : Array Slot) (h : fJ_X7_findLeast_J138 k68 pa qa X P Tn Tv q0 q3 q4 x1 x2 x3 x4 L Tu q2 = some (r0, L', Tu', Tv', q2', q3')) (hP : va_P G vwCl (wX cA xa ka ra na ia ua va ca za pa qa X K R P L P2 L2 Tn Ti Tu_26 Tv C Z q0 q1 (pa 0) q3 q4 q5) H) (hD : va_D A (wX cA xa ka ra na ia ua va ca za pa qa X K R P L P2 L2 Tn Ti Tu_26 Tv C Z q0 q1 (pa 0) q3 q4 q5)) (hS : va_S A s.heap H locs) (hl : lv_has ls 6 [(0, .ref (xa 0)), (1, .int x1), (2, .int x2), (3, .int x3), (4, .int x4)]) : G_X7_findLeast p l e s m below meth c G cA A xa ka ra na ia ua va ca za pa qa X K R P P2 L2 Tn Ti C Z q0 q1 q4 q5 x1₀ r0 L' Tu' Tv' q2' q3' H locs (F0 m 138 ls []) := by
  obtain ⟨hx, hb, hr, hml, hT, hown, hlocks, hK, hN, hA⟩ := id F
  unfold fJ_X7_findLeast_J138 at h
  refine lv_aload_n hx hb dX7_findLeast_138 rfl (lv_at hl 0 rfl) ?_
  refine va_get (D := G) (ci := 7) (v := .ref (ua 0)) (C := RX7) (T := TX7) (N := 12) hx hb hT ku_7 hown hK hP 0 rfl rfl 5 (by decide) (hT _ kw_2_3) (fun _ h9 => h9) rfl dX7_findLeast_139 ?_
  obtain ⟨g25, h⟩ := tx_ck h
  have eg25 := of_decide_eq_true g25
  subst eg25
  obtain ⟨Tu_26, hc27, h⟩ := tx_bd h
  refine tw_cv pX_ua hP hD hS hA (va_runV (As := []) (rest := []) ⟨hx, hb, hml, hown, hT⟩ (c_X6_getIn l G cA H.size ua pa Tu P L  Tu_26 hc27) (cwV 0 hT (tq_gV kw_47_4 kw_41_13 kw_41_14 kw_1_23 kw_41_15) rfl rfl rfl (by decide +kernel) ⟨Nat.le_of_ble_eq_true rfl, Nat.le_of_ble_eq_true rfl⟩) ⟨(tw_pre pX_ua hP hD hK hN).1, va_recv hK hP (ci := 6) (q0 := 77) rfl rfl, (tw_pre pX_ua hP hD hK hN).2⟩ rfl rfl hl.1 rfl (lv_room (Nat.le_of_ble_eq_true rfl)) dX7_findLeast_142 ⟨Nat.le_of_ble_eq_true rfl, Nat.le_of_ble_eq_true rfl⟩) (fun _ H locs z28 hP hD hS => ?_)
  replace hP := tw_P pX_ua.symm hP
  replace hD := tw_D pX_ua.symm hD
  have hP : va_P G vwCl (wX cA xa ka ra na ia ua va ca za pa qa X K R P L P2 L2 Tn Ti Tu_26 Tv C Z q0 q1 (pa 0) q3 q4 q5) H := hP
  have hD : va_D A (wX cA xa ka ra na ia ua va ca za pa qa X K R P L P2 L2 Tn Ti Tu_26 Tv C Z q0 q1 (pa 0) q3 q4 q5) := hD
  refine lv_aload_n hx hb dX7_findLeast_145 rfl (lv_at hl 0 rfl) ?_
  refine lv_iload_n hx hb dX7_findLeast_146 rfl (lv_at hl 1 rfl) ?_
  obtain ⟨r29, hc30, h⟩ := tx_bd h
  refine tw_ci tw_all hP hD hS hA (va_runV (As := [.int x1]) (rest := []) ⟨hx, hb, hml, hown, hT⟩ (c_X7_comingLeft l G cA H.size xa ka ra na ia ua va ca za pa qa X K R P L P2 L2 Tn Ti Tu_26 Tv C Z q0 q1 (pa 0) q3 q4 q5 x1  r29 hc30) (cwV 1 hT (tq_gV kw_47_5 kw_47_6 kw_47_7 kw_1_2 kw_47_8) rfl rfl rfl (by decide +kernel) ⟨Nat.le_of_ble_eq_true rfl, Nat.le_of_ble_eq_true rfl⟩) ⟨(tw_pre tw_all hP hD hK hN).1, va_recv hK hP (ci := 7) (q0 := 0) rfl rfl, (tw_pre tw_all hP hD hK hN).2⟩ rfl rfl hl.1 rfl (lv_room (Nat.le_of_ble_eq_true rfl)) dX7_findLeast_147 ⟨Nat.le_of_ble_eq_true rfl, Nat.le_of_ble_eq_true rfl⟩) (fun _ _ H locs z31 hP hD hS => ?_)
  subst z31
  rw [List.append_nil] at hP hD
  have hP : va_P G vwCl (wX cA xa ka ra na ia ua va ca za pa qa X K R P L P2 L2 Tn Ti Tu_26 Tv C Z q0 q1 (pa 0) q3 q4 q5) H := hP
  have hD : va_D A (wX cA xa ka ra na ia ua va ca za pa qa X K R P L P2 L2 Tn Ti Tu_26 Tv C Z q0 q1 (pa 0) q3 q4 q5) := hD
  refine lv_if_ne (tgt := 208) hx hb dX7_findLeast_150 (by decide) (fun c32 => ?_) (fun c32 => ?_)
  · have h := tx_neg c32 h
    obtain ⟨y33, ey33, h⟩ := tx_lt h
    refine lv_iinc (v := y33) (lv' := [(4, .int y33), (0, .ref (xa 0)), (1, .int x1), (2, .int x2), (3, .int x3)]) hx hb dX7_findLeast_208 hl (k := 4) rfl ey33 (by decide) rfl (fun ls hl => ?_)
    refine lv_goto (tgt := 68) hx hb dX7_findLeast_211 (by decide) ?_
    exact hk68 x3 y33 L Tu_26 (pa 0) H locs ls h hP hD hS (lv_sub hl [1, 2, 3, 4, 0] rfl)
  · have h := tx_pos c32 h
    refine lv_aload_n hx hb dX7_findLeast_153 rfl (lv_at hl 0 rfl) ?_
    refine va_get (D := G) (ci := 7) (v := .ref (ua 0)) (C := RX7) (T := TX7) (N := 12) hx hb hT ku_7 hown hK hP 0 rfl rfl 5 (by decide) (hT _ kw_2_3) (fun _ h9 => h9) rfl dX7_findLeast_154 ?_
    obtain ⟨⟨Tu_34, L_35⟩, hc36, h⟩ := tx_bd h
    replace h := tx_let (y := Tu_34) rfl h
    replace h := tx_let (y := L_35) rfl h
    refine tw_cv pX_ua hP hD hS hA (va_runV (As := []) (rest := []) ⟨hx, hb, hml, hown, hT⟩ (c_X6_wayOn l G cA H.size ua pa Tu_26 P L  Tu_34 L_35 hc36) (cwV 0 hT (tq_gV kw_47_9 kw_42_4 kw_42_5 kw_1_23 kw_42_6) rfl rfl rfl (by decide +kernel) ⟨Nat.le_of_ble_eq_true rfl, Nat.le_of_ble_eq_true rfl⟩) ⟨(tw_pre pX_ua hP hD hK hN).1, va_recv hK hP (ci := 6) (q0 := 77) rfl rfl, (tw_pre pX_ua hP hD hK hN).2⟩ rfl rfl hl.1 rfl (lv_room (Nat.le_of_ble_eq_true rfl)) dX7_findLeast_157 ⟨Nat.le_of_ble_eq_true rfl, Nat.le_of_ble_eq_true rfl⟩) (fun _ H locs z37 hP hD hS => ?_)
    replace hP := tw_P pX_ua.symm hP
    replace hD := tw_D pX_ua.symm hD
    have hP : va_P G vwCl (wX cA xa ka ra na ia ua va ca za pa qa X K R P L_35 P2 L2 Tn Ti Tu_34 Tv C Z q0 q1 (pa 0) q3 q4 q5) H := hP
    have hD : va_D A (wX cA xa ka ra na ia ua va ca za pa qa X K R P L_35 P2 L2 Tn Ti Tu_34 Tv C Z q0 q1 (pa 0) q3 q4 q5) := hD
    refine lv_aload_n hx hb dX7_findLeast_160 rfl (lv_at hl 0 rfl) ?_
    refine va_get (D := G) (ci := 7) (v := .ref (ua 0)) (C := RX7) (T := TX7) (N := 12) hx hb hT ku_7 hown hK hP 0 rfl rfl 5 (by decide) (hT _ kw_2_3) (fun _ h9 => h9) rfl dX7_findLeast_161 ?_
    obtain ⟨⟨Tu_38, L_39⟩, hc40, h⟩ := tx_bd h
    replace h := tx_let (y := Tu_38) rfl h
    replace h := tx_let (y := L_39) rfl h
    refine tw_cv pX_ua hP hD hS hA (va_runV (As := []) (rest := []) ⟨hx, hb, hml, hown, hT⟩ (c_X6_runToEnd l G cA H.size ua pa Tu_34 P L_35  Tu_38 L_39 hc40) (cwV 0 hT (tq_gV kw_47_10 kw_47_11 kw_47_12 kw_1_23 kw_47_13) rfl rfl rfl (by decide +kernel) ⟨Nat.le_of_ble_eq_true rfl, Nat.le_of_ble_eq_true rfl⟩) ⟨(tw_pre pX_ua hP hD hK hN).1, va_recv hK hP (ci := 6) (q0 := 77) rfl rfl, (tw_pre pX_ua hP hD hK hN).2⟩ rfl rfl hl.1 rfl (lv_room (Nat.le_of_ble_eq_true rfl)) dX7_findLeast_164 ⟨Nat.le_of_ble_eq_true rfl, Nat.le_of_ble_eq_true rfl⟩) (fun _ H locs z41 hP hD hS => ?_)
    replace hP := tw_P pX_ua.symm hP
    replace hD := tw_D pX_ua.symm hD
    have hP : va_P G vwCl (wX cA xa ka ra na ia ua va ca za pa qa X K R P L_39 P2 L2 Tn Ti Tu_38 Tv C Z q0 q1 (pa 0) q3 q4 q5) H := hP
    have hD : va_D A (wX cA xa ka ra na ia ua va ca za pa qa X K R P L_39 P2 L2 Tn Ti Tu_38 Tv C Z q0 q1 (pa 0) q3 q4 q5) := hD
    refine lv_aload_n hx hb dX7_findLeast_167 rfl (lv_at hl 0 rfl) ?_
    refine va_get (D := G) (ci := 7) (v := .ref (ua 0)) (C := RX7) (T := TX7) (N := 12) hx hb hT ku_7 hown hK hP 0 rfl rfl 5 (by decide) (hT _ kw_2_3) (fun _ h9 => h9) rfl dX7_findLeast_168 ?_
    refine va_get (D := G) (ci := 6) (v := .int (Tu_38 0 1)) (C := RX6) (T := TX6) (N := 20) hx hb hT ku_6 hown hK hP 77 rfl rfl 1 (by decide) (hT _ kw_46_16) (fun _ h9 => h9) rfl dX7_findLeast_171 ?_
    refine lv_aload_n hx hb dX7_findLeast_174 rfl (lv_at hl 0 rfl) ?_
    refine va_get (D := G) (ci := 7) (v := .ref (na 0)) (C := RX7) (T := TX7) (N := 12) hx hb hT ku_7 hown hK hP 0 rfl rfl 2 (by decide) (hT _ kw_2_0) (fun _ h9 => h9) rfl dX7_findLeast_175 ?_
    refine va_get (D := G) (ci := 6) (v := .int (Tn 0 1)) (C := RX6) (T := TX6) (N := 20) hx hb hT ku_6 hown hK hP 53 rfl rfl 1 (by decide) (hT _ kw_46_16) (fun _ h9 => h9) rfl dX7_findLeast_178 ?_
    refine lv_isub hx hb dX7_findLeast_181 ?_
    refine lv_sipush (v := 1024) hx hb dX7_findLeast_182 (by decide) ?_
    refine lv_imul hx hb dX7_findLeast_185 ?_
    refine lv_iload hx hb dX7_findLeast_186 (lv_at hl 4 rfl) ?_
    refine lv_iadd hx hb dX7_findLeast_188 ?_
    refine lv_topi (fun y42 ey42 => ?_)
    have h := tx_let ey42 h
    refine lv_istore (lv' := [(5, .int y42), (0, .ref (xa 0)), (1, .int x1), (2, .int x2), (3, .int x3), (4, .int x4)]) hx hb dX7_findLeast_189 hl (by decide) rfl (fun ls hl => ?_)
    refine lv_iload_n hx hb dX7_findLeast_191 rfl (lv_at hl 4 rfl) ?_
    refine lv_if_lt (tgt := 201) hx hb dX7_findLeast_192 (by decide) (fun c43 => ?_) (fun c43 => ?_)
    · have h := tx_pos c43 h
      refine lv_iload hx hb dX7_findLeast_201 (lv_at hl 0 rfl) ?_
      refine lv_goto (tgt := 207) hx hb dX7_findLeast_203 (by decide) ?_
      refine lv_istore_n (lv' := [(3, .int y42), (5, .int y42), (0, .ref (xa 0)), (1, .int x1), (2, .int x2), (4, .int x4)]) hx hb dX7_findLeast_207 rfl hl (by decide) rfl (fun ls hl => ?_)
      obtain ⟨y44, ey44, h⟩ := tx_lt h
      refine lv_iinc (v := y44) (lv' := [(4, .int y44), (3, .int y42), (5, .int y42), (0, .ref (xa 0)), (1, .int x1), (2, .int x2)]) hx hb dX7_findLeast_208 hl (k := 5) rfl ey44 (by decide) rfl (fun ls hl => ?_)
      refine lv_goto (tgt := 68) hx hb dX7_findLeast_211 (by decide) ?_
      exact hk68 y42 y44 L_39 Tu_38 (pa 0) H locs ls h hP hD hS (lv_sub hl [3, 4, 5, 1, 0] rfl)
    · have h := tx_neg c43 h
      refine lv_iload hx hb dX7_findLeast_195 (lv_at hl 0 rfl) ?_
      refine lv_iload_n hx hb dX7_findLeast_197 rfl (lv_at hl 4 rfl) ?_
      refine lv_icmp_ge (tgt := 206) hx hb dX7_findLeast_198 (by decide) (fun c45 => ?_) (fun c45 => ?_)
      · have h := tx_pos c45 h
        refine lv_iload_n hx hb dX7_findLeast_206 rfl (lv_at hl 4 rfl) ?_
        refine lv_istore_n (lv' := [(3, .int x3), (5, .int y42), (0, .ref (xa 0)), (1, .int x1), (2, .int x2), (4, .int x4)]) hx hb dX7_findLeast_207 rfl hl (by decide) rfl (fun ls hl => ?_)
        obtain ⟨y46, ey46, h⟩ := tx_lt h
        refine lv_iinc (v := y46) (lv' := [(4, .int y46), (3, .int x3), (5, .int y42), (0, .ref (xa 0)), (1, .int x1), (2, .int x2)]) hx hb dX7_findLeast_208 hl (k := 5) rfl ey46 (by decide) rfl (fun ls hl => ?_)
        refine lv_goto (tgt := 68) hx hb dX7_findLeast_211 (by decide) ?_
        exact hk68 x3 y46 L_39 Tu_38 (pa 0) H locs ls h hP hD hS (lv_sub hl [3, 4, 5, 1, 0] rfl)
      · have h := tx_neg c45 h
        refine lv_iload hx hb dX7_findLeast_201 (lv_at hl 0 rfl) ?_
        refine lv_goto (tgt := 207) hx hb dX7_findLeast_203 (by decide) ?_
        refine lv_istore_n (lv' := [(3, .int y42), (5, .int y42), (0, .ref (xa 0)), (1, .int x1), (2, .int x2), (4, .int x4)]) hx hb dX7_findLeast_207 rfl hl (by decide) rfl (fun ls hl => ?_)
        obtain ⟨y47, ey47, h⟩ := tx_lt h
        refine lv_iinc (v := y47) (lv' := [(4, .int y47), (3, .int y42), (5, .int y42), (0, .ref (xa 0)), (1, .int x1), (2, .int x2)]) hx hb dX7_findLeast_208 hl (k := 5) rfl ey47 (by decide) rfl (fun ls hl => ?_)
        refine lv_goto (tgt := 68) hx hb dX7_findLeast_211 (by decide) ?_
        exact hk68 y42 y47 L_39 Tu_38 (pa 0) H locs ls h hP hD hS (lv_sub hl [3, 4, 5, 1, 0] rfl)
set_option maxHeartbeats 4000000 in
set_option maxRecDepth 100000 in
theorem w_X7_findLeast_L99 {p : Program} {l : Launch} {e : Env} {s : State} {m : MethodId} {below : List Frame} {meth : Method} {c : Code} {G : va_G} {cA : Nat → ClassId} {A : Nat → Prop} {xa : Nat → Nat} {ka : Nat → Nat} {ra : Nat → Nat} {na : Nat → Nat} {ia : Nat → Nat} {ua : Nat → Nat} {va : Nat → Nat} {ca : Nat → Nat} {za : Nat → Nat} {pa : Nat → Nat} {qa : Nat → Nat} {X : Tr} {K : Tr} {R : Tr} {P : Tr} {P2 : Tr} {L2 : Lo} {Tn : Tr} {Ti : Tr} {C : Tr} {Z : Tr} {q0 : Nat} {q1 : Nat} {q4 : Nat} {q5 : Nat} {x1₀ : Int32} {r0 : Int32} {L' : Lo} {Tu' : Tr} {Tv' : Tr} {q2' : Nat} {q3' : Nat} {L : Lo} {Tv : Tr} {q2 : Nat} {q3 : Nat} {x1 : Int32} {x2 : Int32} {x3 : Int32} {x4 : Int32} (F : tF p s m ([.ref (xa 0), .int x1₀] : List Value).toArray meth c G cA A RX7 cX7_findLeast 6 (some .int))  (k68 : Int32 → Int32 → Lo → Tr → Nat → Option (Int32 × Lo × Tr × Tr × Nat × Nat)) (hk68 : ∀ (x3 : Int32) (x4 : Int32) (L : Lo) (Tu : Tr) (q2 : Nat) (H : Heap) (locs : List Loc) (ls : Array Slot), k68 x3 x4 L Tu q2 = some (r0, L', Tu', Tv', q2', q3') → va_P G vwCl (wX cA xa ka ra na ia ua va ca za pa qa X K R P L P2 L2 Tn Ti Tu Tv C Z q0 q1 q2 q3 q4 q5) H → va_D A (wX cA xa ka ra na ia ua va ca za pa qa X K R P L P2 L2 Tn Ti Tu Tv C Z q0 q1 q2 q3 q4 q5) → va_S A s.heap H locs → lv_has ls 6 [(0, .ref (xa 0)), (1, .int x1), (2, .int x2), (3, .int x3), (4, .int x4)] → G_X7_findLeast p l e s m below meth c G cA A xa ka ra na ia ua va ca za pa qa X K R P P2 L2 Tn Ti C Z q0 q1 q4 q5 x1₀ r0 L' Tu' Tv' q2' q3' H locs (F0 m 68 ls [])) (N : Nat) : ∀ (x5 : Int32) (Tu : Tr) (H : Heap) (locs : List Loc) (ls : Array Slot), lpF (fun _ _ => none) (fB_X7_findLeast_L99 k68 pa qa X P L Tn Tv q0 q2 q3 q4 x1 x2 x3 x4) N x5 Tu = some (r0, L', Tu', Tv', q2', q3') → va_P G vwCl (wX cA xa ka ra na ia ua va ca za pa qa X K R P L P2 L2 Tn Ti Tu Tv C Z q0 q1 q2 q3 q4 q5) H → va_D A (wX cA xa ka ra na ia ua va ca za pa qa X K R P L P2 L2 Tn Ti Tu Tv C Z q0 q1 q2 q3 q4 q5) → va_S A s.heap H locs → lv_has ls 6 [(0, .ref (xa 0)), (1, .int x1), (2, .int x2), (3, .int x3), (4, .int x4), (5, .int x5)] → G_X7_findLeast p l e s m below meth c G cA A xa ka ra na ia ua va ca za pa qa X K R P P2 L2 Tn Ti C Z q0 q1 q4 q5 x1₀ r0 L' Tu' Tv' q2' q3' H locs (F0 m 99 ls []) := by
  obtain ⟨hx, hb, hr, hml, hT, hown, hlocks, hK, hN, hA⟩ := id F
  induction N with
  | zero =>
    intro x5 Tu H locs ls h
    have h : (none : Option (Int32 × Lo × Tr × Tr × Nat × Nat)) = some (r0, L', Tu', Tv', q2', q3') := h
    cases h
  | succ N hk99 =>
    intro x5 Tu H locs ls h hP hD hS hl
    have h : fB_X7_findLeast_L99 k68 pa qa X P L Tn Tv q0 q2 q3 q4 x1 x2 x3 x4 (lpF (fun _ _ => none) (fB_X7_findLeast_L99 k68 pa qa X P L Tn Tv q0 q2 q3 q4 x1 x2 x3 x4) N) x5 Tu = some (r0, L', Tu', Tv', q2', q3') := h
    generalize hk99e : lpF (fun _ _ => none) (fB_X7_findLeast_L99 k68 pa qa X P L Tn Tv q0 q2 q3 q4 x1 x2 x3 x4) N = k99 at h hk99
    unfold fB_X7_findLeast_L99 at h
    refine lv_iload hx hb dX7_findLeast_99 (lv_at hl 5 rfl) ?_
    refine lv_iload_n hx hb dX7_findLeast_101 rfl (lv_at hl 1 rfl) ?_
    refine lv_icmp_ge (tgt := 138) hx hb dX7_findLeast_102 (by decide) (fun c24 => ?_) (fun c24 => ?_)
    · have h := tx_pos c24 h
      exact w_X7_findLeast_J138 F k68 hk68 x3 x4 L Tu q2 H locs ls h hP hD hS (lv_sub hl [0, 1, 2, 3, 4] rfl)
    · have h := tx_neg c24 h
      refine lv_aload_n hx hb dX7_findLeast_105 rfl (lv_at hl 0 rfl) ?_
      refine va_get (D := G) (ci := 7) (v := .ref (ua 0)) (C := RX7) (T := TX7) (N := 12) hx hb hT ku_7 hown hK hP 0 rfl rfl 5 (by decide) (hT _ kw_2_3) (fun _ h9 => h9) rfl dX7_findLeast_106 ?_
      refine va_get (D := G) (ci := 6) (v := .ref (ua 13)) (C := RX6) (T := TX6) (N := 20) hx hb hT ku_6 hown hK hP 77 rfl rfl 12 (by decide) (hT _ kw_46_15) (fun _ h9 => h9) rfl dX7_findLeast_109 ?_
      refine lv_aload_n hx hb dX7_findLeast_112 rfl (lv_at hl 0 rfl) ?_
      refine va_get (D := G) (ci := 7) (v := .ref (xa 10)) (C := RX7) (T := TX7) (N := 12) hx hb hT ku_7 hown hK hP 0 rfl rfl 9 (by decide) (hT _ kw_2_14) (fun _ h9 => h9) rfl dX7_findLeast_113 ?_
      refine lv_iload hx hb dX7_findLeast_116 (lv_at hl 5 rfl) ?_
      obtain ⟨g48, h⟩ := tx_ck h
      refine va_iald (i := x5) hx hb hK hP 1 0 rfl rfl (tx_in g48) dX7_findLeast_118 ?_
      refine lv_aload_n hx hb dX7_findLeast_119 rfl (lv_at hl 0 rfl) ?_
      refine lv_iload hx hb dX7_findLeast_120 (lv_at hl 4 rfl) ?_
      refine lv_iload_n hx hb dX7_findLeast_122 rfl (lv_at hl 1 rfl) ?_
      refine lv_iconst (v := 1) hx hb dX7_findLeast_123 (by decide) ?_
      refine lv_isub hx hb dX7_findLeast_124 ?_
      refine lv_iload hx hb dX7_findLeast_125 (lv_at hl 5 rfl) ?_
      refine lv_isub hx hb dX7_findLeast_127 ?_
      obtain ⟨r49, hc50, h⟩ := tx_bd h
      refine tw_ci tw_all hP hD hS hA (va_runV (As := [.int x4, .int ((x1 - 1) - x5)]) (rest := [.int (X 10 x5.toNatClampNeg), .ref (ua 13)]) ⟨hx, hb, hml, hown, hT⟩ (c_X7_digit l G cA H.size xa ka ra na ia ua va ca za pa qa X K R P L P2 L2 Tn Ti Tu Tv C Z q0 q1 q2 q3 q4 q5 x4 ((x1 - 1) - x5)  r49 hc50) (cwV 2 hT (tq_gV kw_47_0 kw_47_1 kw_47_2 kw_1_2 kw_47_3) rfl rfl rfl (by decide +kernel) ⟨Nat.le_of_ble_eq_true rfl, Nat.le_of_ble_eq_true rfl⟩) ⟨(tw_pre tw_all hP hD hK hN).1, va_recv hK hP (ci := 7) (q0 := 0) rfl rfl, (tw_pre tw_all hP hD hK hN).2⟩ rfl rfl hl.1 rfl (lv_room (Nat.le_of_ble_eq_true rfl)) dX7_findLeast_128 ⟨Nat.le_of_ble_eq_true rfl, Nat.le_of_ble_eq_true rfl⟩) (fun _ _ H locs z51 hP hD hS => ?_)
      subst z51
      rw [List.append_nil] at hP hD
      have hP : va_P G vwCl (wX cA xa ka ra na ia ua va ca za pa qa X K R P L P2 L2 Tn Ti Tu Tv C Z q0 q1 q2 q3 q4 q5) H := hP
      have hD : va_D A (wX cA xa ka ra na ia ua va ca za pa qa X K R P L P2 L2 Tn Ti Tu Tv C Z q0 q1 q2 q3 q4 q5) := hD
      obtain ⟨g52, h⟩ := tx_ck h
      refine va_iast (i := (X 10 x5.toNatClampNeg)) hx hb hK hP hD hS 82 0 rfl rfl (tx_in g52) dX7_findLeast_131 (fun H locs hP hD hS => ?_)
      obtain ⟨Tu_53, eTu_53, h⟩ := tx_lt h
      rw [sX_ua_a12, eTu_53] at hP hD
      obtain ⟨y54, ey54, h⟩ := tx_lt h
      refine lv_iinc (v := y54) (lv' := [(5, .int y54), (0, .ref (xa 0)), (1, .int x1), (2, .int x2), (3, .int x3), (4, .int x4)]) hx hb dX7_findLeast_132 hl (k := 5) rfl ey54 (by decide) rfl (fun ls hl => ?_)
      refine lv_goto (tgt := 99) hx hb dX7_findLeast_135 (by decide) ?_
      exact hk99 y54 Tu_53 H locs ls h hP hD hS (lv_sub hl [1, 2, 3, 4, 5, 0] rfl)
set_option maxHeartbeats 4000000 in
set_option maxRecDepth 100000 in
theorem w_X7_findLeast_J85 {p : Program} {l : Launch} {e : Env} {s : State} {m : MethodId} {below : List Frame} {meth : Method} {c : Code} {G : va_G} {cA : Nat → ClassId} {A : Nat → Prop} {xa : Nat → Nat} {ka : Nat → Nat} {ra : Nat → Nat} {na : Nat → Nat} {ia : Nat → Nat} {ua : Nat → Nat} {va : Nat → Nat} {ca : Nat → Nat} {za : Nat → Nat} {pa : Nat → Nat} {qa : Nat → Nat} {X : Tr} {K : Tr} {R : Tr} {P : Tr} {P2 : Tr} {L2 : Lo} {Tn : Tr} {Ti : Tr} {C : Tr} {Z : Tr} {q0 : Nat} {q1 : Nat} {q4 : Nat} {q5 : Nat} {x1₀ : Int32} {r0 : Int32} {L' : Lo} {Tu' : Tr} {Tv' : Tr} {q2' : Nat} {q3' : Nat} {Tv : Tr} {q3 : Nat} {x1 : Int32} {x2 : Int32} (F : tF p s m ([.ref (xa 0), .int x1₀] : List Value).toArray meth c G cA A RX7 cX7_findLeast 6 (some .int))  (k68 : Int32 → Int32 → Lo → Tr → Nat → Option (Int32 × Lo × Tr × Tr × Nat × Nat)) (hk68 : ∀ (x3 : Int32) (x4 : Int32) (L : Lo) (Tu : Tr) (q2 : Nat) (H : Heap) (locs : List Loc) (ls : Array Slot), k68 x3 x4 L Tu q2 = some (r0, L', Tu', Tv', q2', q3') → va_P G vwCl (wX cA xa ka ra na ia ua va ca za pa qa X K R P L P2 L2 Tn Ti Tu Tv C Z q0 q1 q2 q3 q4 q5) H → va_D A (wX cA xa ka ra na ia ua va ca za pa qa X K R P L P2 L2 Tn Ti Tu Tv C Z q0 q1 q2 q3 q4 q5) → va_S A s.heap H locs → lv_has ls 6 [(0, .ref (xa 0)), (1, .int x1), (2, .int x2), (3, .int x3), (4, .int x4)] → G_X7_findLeast p l e s m below meth c G cA A xa ka ra na ia ua va ca za pa qa X K R P P2 L2 Tn Ti C Z q0 q1 q4 q5 x1₀ r0 L' Tu' Tv' q2' q3' H locs (F0 m 68 ls [])) (x3 : Int32) (x4 : Int32) (L : Lo) (Tu : Tr) (q2 : Nat) (H : Heap) (locs : List Loc) (ls : Array Slot) (h : fJ_X7_findLeast_J85 k68 pa qa X P Tn Tv q0 q3 q4 x1 x2 x3 x4 L Tu q2 = some (r0, L', Tu', Tv', q2', q3')) (hP : va_P G vwCl (wX cA xa ka ra na ia ua va ca za pa qa X K R P L P2 L2 Tn Ti Tu_20 Tv C Z q0 q1 q2_21 q3 q4 q5) H) (hD : va_D A (wX cA xa ka ra na ia ua va ca za pa qa X K R P L P2 L2 Tn Ti Tu_20 Tv C Z q0 q1 q2_21 q3 q4 q5)) (hS : va_S A s.heap H locs) (hl : lv_has ls 6 [(5, .int 0), (0, .ref (xa 0)), (1, .int x1), (2, .int x2), (3, .int x3), (4, .int x4)]) : G_X7_findLeast p l e s m below meth c G cA A xa ka ra na ia ua va ca za pa qa X K R P P2 L2 Tn Ti C Z q0 q1 q4 q5 x1₀ r0 L' Tu' Tv' q2' q3' H locs (F0 m 85 ls []) := by
  obtain ⟨hx, hb, hr, hml, hT, hown, hlocks, hK, hN, hA⟩ := id F
  unfold fJ_X7_findLeast_J85 at h
  refine lv_aload_n hx hb dX7_findLeast_85 rfl (lv_at hl 0 rfl) ?_
  refine va_get (D := G) (ci := 7) (v := .ref (ua 0)) (C := RX7) (T := TX7) (N := 12) hx hb hT ku_7 hown hK hP 0 rfl rfl 5 (by decide) (hT _ kw_2_3) (fun _ h9 => h9) rfl dX7_findLeast_86 ?_
  refine lv_aload_n hx hb dX7_findLeast_89 rfl (lv_at hl 0 rfl) ?_
  refine va_get (D := G) (ci := 7) (v := .ref (va 0)) (C := RX7) (T := TX7) (N := 12) hx hb hT ku_7 hown hK hP 0 rfl rfl 6 (by decide) (hT _ kw_2_4) (fun _ h9 => h9) rfl dX7_findLeast_90 ?_
  obtain ⟨⟨Tu_20, q2_21⟩, hc22, h⟩ := tx_bd h
  replace h := tx_let (y := Tu_20) rfl h
  replace h := tx_let (y := q2_21) rfl h
  refine tw_cv pX_ua_va hP hD hS hA (va_runV (As := [.ref (va 0)]) (rest := []) ⟨hx, hb, hml, hown, hT⟩ (c_X6_copy l G cA H.size ua va Tu Tv q2 q3  Tu_20 q2_21 hc22) (cwV 1 hT (tq_gV kw_38_6 kw_38_7 kw_38_8 kw_1_23 kw_38_9) rfl rfl rfl (by decide +kernel) ⟨Nat.le_of_ble_eq_true rfl, Nat.le_of_ble_eq_true rfl⟩) ⟨(tw_pre pX_ua_va hP hD hK hN).1, va_recv hK hP (ci := 6) (q0 := 77) rfl rfl, (tw_pre pX_ua_va hP hD hK hN).2⟩ rfl rfl hl.1 rfl (lv_room (Nat.le_of_ble_eq_true rfl)) dX7_findLeast_93 ⟨Nat.le_of_ble_eq_true rfl, Nat.le_of_ble_eq_true rfl⟩) (fun _ H locs z23 hP hD hS => ?_)
  replace hP := tw_P pX_ua_va.symm hP
  replace hD := tw_D pX_ua_va.symm hD
  have hP : va_P G vwCl (wX cA xa ka ra na ia ua va ca za pa qa X K R P L P2 L2 Tn Ti Tu_20 Tv C Z q0 q1 q2_21 q3 q4 q5) H := hP
  have hD : va_D A (wX cA xa ka ra na ia ua va ca za pa qa X K R P L P2 L2 Tn Ti Tu_20 Tv C Z q0 q1 q2_21 q3 q4 q5) := hD
  refine lv_iconst (v := 0) hx hb dX7_findLeast_96 (by decide) ?_
  refine lv_istore (lv' := [(5, .int 0), (0, .ref (xa 0)), (1, .int x1), (2, .int x2), (3, .int x3), (4, .int x4)]) hx hb dX7_findLeast_97 hl (by decide) rfl (fun ls hl => ?_)
  exact w_X7_findLeast_L99 F k68 hk68 2000 0 Tu_20 H locs ls h hP hD hS (lv_sub hl [1, 2, 3, 4, 5, 0] rfl)
set_option maxHeartbeats 4000000 in
set_option maxRecDepth 100000 in
theorem w_X7_findLeast_L68 {p : Program} {l : Launch} {e : Env} {s : State} {m : MethodId} {below : List Frame} {meth : Method} {c : Code} {G : va_G} {cA : Nat → ClassId} {A : Nat → Prop} {xa : Nat → Nat} {ka : Nat → Nat} {ra : Nat → Nat} {na : Nat → Nat} {ia : Nat → Nat} {ua : Nat → Nat} {va : Nat → Nat} {ca : Nat → Nat} {za : Nat → Nat} {pa : Nat → Nat} {qa : Nat → Nat} {X : Tr} {K : Tr} {R : Tr} {P : Tr} {P2 : Tr} {L2 : Lo} {Tn : Tr} {Ti : Tr} {C : Tr} {Z : Tr} {q0 : Nat} {q1 : Nat} {q4 : Nat} {q5 : Nat} {x1₀ : Int32} {r0 : Int32} {L' : Lo} {Tu' : Tr} {Tv' : Tr} {q2' : Nat} {q3' : Nat} {Tv : Tr} {q3 : Nat} {x1 : Int32} {x2 : Int32} (F : tF p s m ([.ref (xa 0), .int x1₀] : List Value).toArray meth c G cA A RX7 cX7_findLeast 6 (some .int))    (N : Nat) : ∀ (x3 : Int32) (x4 : Int32) (L : Lo) (Tu : Tr) (q2 : Nat) (H : Heap) (locs : List Loc) (ls : Array Slot), lpF (fun _ _ _ _ _ => none) (fB_X7_findLeast_L68 pa qa X P Tn Tv q0 q3 q4 x1 x2) N x3 x4 L Tu q2 = some (r0, L', Tu', Tv', q2', q3') → va_P G vwCl (wX cA xa ka ra na ia ua va ca za pa qa X K R P L P2 L2 Tn Ti Tu Tv C Z q0 q1 q2 q3 q4 q5) H → va_D A (wX cA xa ka ra na ia ua va ca za pa qa X K R P L P2 L2 Tn Ti Tu Tv C Z q0 q1 q2 q3 q4 q5) → va_S A s.heap H locs → lv_has ls 6 [(0, .ref (xa 0)), (1, .int x1), (2, .int x2), (3, .int x3), (4, .int x4)] → G_X7_findLeast p l e s m below meth c G cA A xa ka ra na ia ua va ca za pa qa X K R P P2 L2 Tn Ti C Z q0 q1 q4 q5 x1₀ r0 L' Tu' Tv' q2' q3' H locs (F0 m 68 ls []) := by
  obtain ⟨hx, hb, hr, hml, hT, hown, hlocks, hK, hN, hA⟩ := id F
  induction N with
  | zero =>
    intro x3 x4 L Tu q2 H locs ls h
    have h : (none : Option (Int32 × Lo × Tr × Tr × Nat × Nat)) = some (r0, L', Tu', Tv', q2', q3') := h
    cases h
  | succ N hk68 =>
    intro x3 x4 L Tu q2 H locs ls h hP hD hS hl
    have h : fB_X7_findLeast_L68 pa qa X P Tn Tv q0 q3 q4 x1 x2 (lpF (fun _ _ _ _ _ => none) (fB_X7_findLeast_L68 pa qa X P Tn Tv q0 q3 q4 x1 x2) N) x3 x4 L Tu q2 = some (r0, L', Tu', Tv', q2', q3') := h
    generalize hk68e : lpF (fun _ _ _ _ _ => none) (fB_X7_findLeast_L68 pa qa X P Tn Tv q0 q3 q4 x1 x2) N = k68 at h hk68
    unfold fB_X7_findLeast_L68 at h
    refine lv_iload hx hb dX7_findLeast_68 (lv_at hl 4 rfl) ?_
    refine lv_iload_n hx hb dX7_findLeast_70 rfl (lv_at hl 2 rfl) ?_
    refine lv_icmp_ge (tgt := 214) hx hb dX7_findLeast_71 (by decide) (fun c18 => ?_) (fun c18 => ?_)
    · have h := tx_pos c18 h
      refine lv_iload_n hx hb dX7_findLeast_214 rfl (lv_at hl 3 rfl) ?_
      obtain ⟨rfl, rfl, rfl, rfl, rfl, rfl⟩ := tx_6 h
      exact W.iret hx hb hr (fun t ht hW => ⟨⟨_, (), rfl, rfl, by rw [ht]; exact hP, hD⟩, hS.F ht⟩) hS.2.2 dX7_findLeast_215
    · have h := tx_neg c18 h
      refine lv_iload_n hx hb dX7_findLeast_74 rfl (lv_at hl 3 rfl) ?_
      refine lv_if_lt (tgt := 85) hx hb dX7_findLeast_75 (by decide) (fun c19 => ?_) (fun c19 => ?_)
      · have h := tx_pos c19 h
        exact w_X7_findLeast_J85 F k68 hk68 x3 x4 L Tu q2 H locs ls h hP hD hS (lv_sub hl [0, 1, 2, 3, 4] rfl)
      · have h := tx_neg c19 h
        refine lv_iload_n hx hb dX7_findLeast_78 rfl (lv_at hl 3 rfl) ?_
        refine lv_sipush (v := 1024) hx hb dX7_findLeast_79 (by decide) ?_
        refine lv_icmp_lt (tgt := 214) hx hb dX7_findLeast_82 (by decide) (fun c55 => ?_) (fun c55 => ?_)
        · have h := tx_pos c55 h
          refine lv_iload_n hx hb dX7_findLeast_214 rfl (lv_at hl 3 rfl) ?_
          obtain ⟨rfl, rfl, rfl, rfl, rfl, rfl⟩ := tx_6 h
          exact W.iret hx hb hr (fun t ht hW => ⟨⟨_, (), rfl, rfl, by rw [ht]; exact hP, hD⟩, hS.F ht⟩) hS.2.2 dX7_findLeast_215
        · have h := tx_neg c55 h
          exact w_X7_findLeast_J85 F k68 hk68 x3 x4 L Tu q2 H locs ls h hP hD hS (lv_sub hl [0, 1, 2, 3, 4] rfl)
set_option maxHeartbeats 4000000 in
set_option maxRecDepth 100000 in
theorem w_X7_findLeast_J25 {p : Program} {l : Launch} {e : Env} {s : State} {m : MethodId} {below : List Frame} {meth : Method} {c : Code} {G : va_G} {cA : Nat → ClassId} {A : Nat → Prop} {xa : Nat → Nat} {ka : Nat → Nat} {ra : Nat → Nat} {na : Nat → Nat} {ia : Nat → Nat} {ua : Nat → Nat} {va : Nat → Nat} {ca : Nat → Nat} {za : Nat → Nat} {pa : Nat → Nat} {qa : Nat → Nat} {X : Tr} {K : Tr} {R : Tr} {P : Tr} {P2 : Tr} {L2 : Lo} {Tn : Tr} {Ti : Tr} {C : Tr} {Z : Tr} {q0 : Nat} {q1 : Nat} {q4 : Nat} {q5 : Nat} {x1₀ : Int32} {r0 : Int32} {L' : Lo} {Tu' : Tr} {Tv' : Tr} {q2' : Nat} {q3' : Nat} (F : tF p s m ([.ref (xa 0), .int x1₀] : List Value).toArray meth c G cA A RX7 cX7_findLeast 6 (some .int))    (x1 : Int32) (x2 : Int32) (L : Lo) (Tu : Tr) (Tv : Tr) (q2 : Nat) (q3 : Nat) (H : Heap) (locs : List Loc) (ls : Array Slot) (h : fJ_X7_findLeast_J25 pa qa X P Tn q0 q4 x1 x2 L Tu Tv q2 q3 = some (r0, L', Tu', Tv', q2', q3')) (hP : va_P G vwCl (wX cA xa ka ra na ia ua va ca za pa qa X K R P L_11 P2 L2 Tn Ti Tu_10 Tv_14 C Z q0 q1 (pa 0) q3_15 (pa 0) q5) H) (hD : va_D A (wX cA xa ka ra na ia ua va ca za pa qa X K R P L_11 P2 L2 Tn Ti Tu_10 Tv_14 C Z q0 q1 (pa 0) q3_15 (pa 0) q5)) (hS : va_S A s.heap H locs) (hl : lv_has ls 6 [(4, .int 0), (3, .int (-1)), (0, .ref (xa 0)), (1, .int x1), (2, .int x2)]) : G_X7_findLeast p l e s m below meth c G cA A xa ka ra na ia ua va ca za pa qa X K R P P2 L2 Tn Ti C Z q0 q1 q4 q5 x1₀ r0 L' Tu' Tv' q2' q3' H locs (F0 m 25 ls []) := by
  obtain ⟨hx, hb, hr, hml, hT, hown, hlocks, hK, hN, hA⟩ := id F
  unfold fJ_X7_findLeast_J25 at h
  refine lv_aload_n hx hb dX7_findLeast_25 rfl (lv_at hl 0 rfl) ?_
  obtain ⟨⟨Tu_2, q2_3⟩, hc4, h⟩ := tx_bd h
  replace h := tx_let (y := Tu_2) rfl h
  replace h := tx_let (y := q2_3) rfl h
  refine tw_cv tw_all hP hD hS hA (va_runV (As := []) (rest := []) ⟨hx, hb, hml, hown, hT⟩ (c_X7_startTrial l G cA H.size xa ka ra na ia ua va ca za pa qa X K R P L P2 L2 Tn Ti Tu Tv C Z q0 q1 q2 q3 q4 q5  Tu_2 q2_3 hc4) (cwV 0 hT (tq_gV kw_46_17 kw_46_18 kw_46_19 kw_1_2 kw_46_20) rfl rfl rfl (by decide +kernel) ⟨Nat.le_of_ble_eq_true rfl, Nat.le_of_ble_eq_true rfl⟩) ⟨(tw_pre tw_all hP hD hK hN).1, va_recv hK hP (ci := 7) (q0 := 0) rfl rfl, (tw_pre tw_all hP hD hK hN).2⟩ rfl rfl hl.1 rfl (lv_room (Nat.le_of_ble_eq_true rfl)) dX7_findLeast_26 ⟨Nat.le_of_ble_eq_true rfl, Nat.le_of_ble_eq_true rfl⟩) (fun _ H locs z5 hP hD hS => ?_)
  rw [List.append_nil] at hP hD
  have hP : va_P G vwCl (wX cA xa ka ra na ia ua va ca za pa qa X K R P L P2 L2 Tn Ti Tu_2 Tv C Z q0 q1 q2_3 q3 q4 q5) H := hP
  have hD : va_D A (wX cA xa ka ra na ia ua va ca za pa qa X K R P L P2 L2 Tn Ti Tu_2 Tv C Z q0 q1 q2_3 q3 q4 q5) := hD
  refine lv_aload_n hx hb dX7_findLeast_29 rfl (lv_at hl 0 rfl) ?_
  refine va_get (D := G) (ci := 7) (v := .ref (ua 0)) (C := RX7) (T := TX7) (N := 12) hx hb hT ku_7 hown hK hP 0 rfl rfl 5 (by decide) (hT _ kw_2_3) (fun _ h9 => h9) rfl dX7_findLeast_30 ?_
  refine lv_aload_n hx hb dX7_findLeast_33 rfl (lv_at hl 0 rfl) ?_
  refine va_get (D := G) (ci := 7) (v := .ref q4) (C := RX7) (T := TX7) (N := 12) hx hb hT ku_7 hown hK hP 0 rfl rfl 1 (by decide) (hT _ kw_1_20) (fun _ h9 => h9) rfl dX7_findLeast_34 ?_
  obtain ⟨g6, h⟩ := tx_ck h
  have eg6 := of_decide_eq_true g6
  subst eg6
  refine va_get (D := G) (ci := 2) (v := .ref (pa 18)) (C := RX2) (T := TX2) (N := 19) hx hb hT ku_2 hown hK hP 9 rfl rfl 17 (by decide) (hT _ kw_32_23) (fun _ h9 => h9) rfl dX7_findLeast_37 ?_
  refine lv_aload_n hx hb dX7_findLeast_40 rfl (lv_at hl 0 rfl) ?_
  refine va_get (D := G) (ci := 7) (v := .ref (na 0)) (C := RX7) (T := TX7) (N := 12) hx hb hT ku_7 hown hK hP 0 rfl rfl 2 (by decide) (hT _ kw_2_0) (fun _ h9 => h9) rfl dX7_findLeast_41 ?_
  refine va_get (D := G) (ci := 6) (v := .int (Tn 0 0)) (C := RX6) (T := TX6) (N := 20) hx hb hT ku_6 hown hK hP 53 rfl rfl 0 (by decide) (hT _ kw_40_5) (fun _ h9 => h9) rfl dX7_findLeast_44 ?_
  obtain ⟨g7, h⟩ := tx_ck h
  refine va_iald (i := (Tn 0 0)) hx hb hK hP 20 0 rfl rfl (tx_in g7) dX7_findLeast_47 ?_
  obtain ⟨g8, h⟩ := tx_ck h
  have eg8 := of_decide_eq_true g8
  subst eg8
  obtain ⟨⟨r9, Tu_10, L_11⟩, hc12, h⟩ := tx_bd h
  replace h := tx_let (y := r9) rfl h
  replace h := tx_let (y := Tu_10) rfl h
  replace h := tx_let (y := L_11) rfl h
  refine tw_ci pX_ua hP hD hS hA (va_runV (As := [.int (P 18 (Tn 0 0).toNatClampNeg)]) (rest := []) ⟨hx, hb, hml, hown, hT⟩ (c_X6_takeDown l G cA H.size ua pa Tu_2 P L (P 18 (Tn 0 0).toNatClampNeg)  r9 Tu_10 L_11 hc12) (cwV 1 hT (tq_gV kw_46_23 kw_40_13 kw_40_14 kw_1_23 kw_40_15) rfl rfl rfl (by decide +kernel) ⟨Nat.le_of_ble_eq_true rfl, Nat.le_of_ble_eq_true rfl⟩) ⟨(tw_pre pX_ua hP hD hK hN).1, va_recv hK hP (ci := 6) (q0 := 77) rfl rfl, (tw_pre pX_ua hP hD hK hN).2⟩ rfl rfl hl.1 rfl (lv_room (Nat.le_of_ble_eq_true rfl)) dX7_findLeast_48 ⟨Nat.le_of_ble_eq_true rfl, Nat.le_of_ble_eq_true rfl⟩) (fun _ _ H locs z13 hP hD hS => ?_)
  subst z13
  replace hP := tw_P pX_ua.symm hP
  replace hD := tw_D pX_ua.symm hD
  have hP : va_P G vwCl (wX cA xa ka ra na ia ua va ca za pa qa X K R P L_11 P2 L2 Tn Ti Tu_10 Tv C Z q0 q1 (pa 0) q3 (pa 0) q5) H := hP
  have hD : va_D A (wX cA xa ka ra na ia ua va ca za pa qa X K R P L_11 P2 L2 Tn Ti Tu_10 Tv C Z q0 q1 (pa 0) q3 (pa 0) q5) := hD
  refine lv_pop hx hb dX7_findLeast_51 rfl ?_
  refine lv_aload_n hx hb dX7_findLeast_52 rfl (lv_at hl 0 rfl) ?_
  refine va_get (D := G) (ci := 7) (v := .ref (va 0)) (C := RX7) (T := TX7) (N := 12) hx hb hT ku_7 hown hK hP 0 rfl rfl 6 (by decide) (hT _ kw_2_4) (fun _ h9 => h9) rfl dX7_findLeast_53 ?_
  refine lv_aload_n hx hb dX7_findLeast_56 rfl (lv_at hl 0 rfl) ?_
  refine va_get (D := G) (ci := 7) (v := .ref (ua 0)) (C := RX7) (T := TX7) (N := 12) hx hb hT ku_7 hown hK hP 0 rfl rfl 5 (by decide) (hT _ kw_2_3) (fun _ h9 => h9) rfl dX7_findLeast_57 ?_
  obtain ⟨⟨Tv_14, q3_15⟩, hc16, h⟩ := tx_bd h
  replace h := tx_let (y := Tv_14) rfl h
  replace h := tx_let (y := q3_15) rfl h
  refine tw_cv pX_va_ua hP hD hS hA (va_runV (As := [.ref (ua 0)]) (rest := []) ⟨hx, hb, hml, hown, hT⟩ (c_X6_copy l G cA H.size va ua Tv Tu_10 q3 (pa 0)  Tv_14 q3_15 hc16) (cwV 1 hT (tq_gV kw_38_6 kw_38_7 kw_38_8 kw_1_23 kw_38_9) rfl rfl rfl (by decide +kernel) ⟨Nat.le_of_ble_eq_true rfl, Nat.le_of_ble_eq_true rfl⟩) ⟨(tw_pre pX_va_ua hP hD hK hN).1, va_recv hK hP (ci := 6) (q0 := 89) rfl rfl, (tw_pre pX_va_ua hP hD hK hN).2⟩ rfl rfl hl.1 rfl (lv_room (Nat.le_of_ble_eq_true rfl)) dX7_findLeast_60 ⟨Nat.le_of_ble_eq_true rfl, Nat.le_of_ble_eq_true rfl⟩) (fun _ H locs z17 hP hD hS => ?_)
  replace hP := tw_P pX_va_ua.symm hP
  replace hD := tw_D pX_va_ua.symm hD
  have hP : va_P G vwCl (wX cA xa ka ra na ia ua va ca za pa qa X K R P L_11 P2 L2 Tn Ti Tu_10 Tv_14 C Z q0 q1 (pa 0) q3_15 (pa 0) q5) H := hP
  have hD : va_D A (wX cA xa ka ra na ia ua va ca za pa qa X K R P L_11 P2 L2 Tn Ti Tu_10 Tv_14 C Z q0 q1 (pa 0) q3_15 (pa 0) q5) := hD
  refine lv_iconst (v := (-1)) hx hb dX7_findLeast_63 (by decide) ?_
  refine lv_istore_n (lv' := [(3, .int (-1)), (0, .ref (xa 0)), (1, .int x1), (2, .int x2)]) hx hb dX7_findLeast_64 rfl hl (by decide) rfl (fun ls hl => ?_)
  refine lv_iconst (v := 0) hx hb dX7_findLeast_65 (by decide) ?_
  refine lv_istore (lv' := [(4, .int 0), (3, .int (-1)), (0, .ref (xa 0)), (1, .int x1), (2, .int x2)]) hx hb dX7_findLeast_66 hl (by decide) rfl (fun ls hl => ?_)
  exact w_X7_findLeast_L68 F 2000 (-1) 0 L_11 Tu_10 (pa 0) H locs ls h hP hD hS (lv_sub hl [2, 3, 4, 1, 0] rfl)
set_option maxHeartbeats 4000000 in
set_option maxRecDepth 100000 in
theorem w_X7_findLeast_L4 {p : Program} {l : Launch} {e : Env} {s : State} {m : MethodId} {below : List Frame} {meth : Method} {c : Code} {G : va_G} {cA : Nat → ClassId} {A : Nat → Prop} {xa : Nat → Nat} {ka : Nat → Nat} {ra : Nat → Nat} {na : Nat → Nat} {ia : Nat → Nat} {ua : Nat → Nat} {va : Nat → Nat} {ca : Nat → Nat} {za : Nat → Nat} {pa : Nat → Nat} {qa : Nat → Nat} {X : Tr} {K : Tr} {R : Tr} {P : Tr} {P2 : Tr} {L2 : Lo} {Tn : Tr} {Ti : Tr} {C : Tr} {Z : Tr} {q0 : Nat} {q1 : Nat} {q4 : Nat} {q5 : Nat} {x1₀ : Int32} {r0 : Int32} {L' : Lo} {Tu' : Tr} {Tv' : Tr} {q2' : Nat} {q3' : Nat} {L : Lo} {Tu : Tr} {Tv : Tr} {q2 : Nat} {q3 : Nat} {x1 : Int32} (F : tF p s m ([.ref (xa 0), .int x1₀] : List Value).toArray meth c G cA A RX7 cX7_findLeast 6 (some .int))    (N : Nat) : ∀ (x2 : Int32) (x3 : Int32) (H : Heap) (locs : List Loc) (ls : Array Slot), lpF (fun _ _ => none) (fB_X7_findLeast_L4 pa qa X P L Tn Tu Tv q0 q2 q3 q4 x1) N x2 x3 = some (r0, L', Tu', Tv', q2', q3') → va_P G vwCl (wX cA xa ka ra na ia ua va ca za pa qa X K R P L P2 L2 Tn Ti Tu Tv C Z q0 q1 q2 q3 q4 q5) H → va_D A (wX cA xa ka ra na ia ua va ca za pa qa X K R P L P2 L2 Tn Ti Tu Tv C Z q0 q1 q2 q3 q4 q5) → va_S A s.heap H locs → lv_has ls 6 [(0, .ref (xa 0)), (1, .int x1), (2, .int x2), (3, .int x3)] → G_X7_findLeast p l e s m below meth c G cA A xa ka ra na ia ua va ca za pa qa X K R P P2 L2 Tn Ti C Z q0 q1 q4 q5 x1₀ r0 L' Tu' Tv' q2' q3' H locs (F0 m 4 ls []) := by
  obtain ⟨hx, hb, hr, hml, hT, hown, hlocks, hK, hN, hA⟩ := id F
  induction N with
  | zero =>
    intro x2 x3 H locs ls h
    have h : (none : Option (Int32 × Lo × Tr × Tr × Nat × Nat)) = some (r0, L', Tu', Tv', q2', q3') := h
    cases h
  | succ N hk4 =>
    intro x2 x3 H locs ls h hP hD hS hl
    have h : fB_X7_findLeast_L4 pa qa X P L Tn Tu Tv q0 q2 q3 q4 x1 (lpF (fun _ _ => none) (fB_X7_findLeast_L4 pa qa X P L Tn Tu Tv q0 q2 q3 q4 x1) N) x2 x3 = some (r0, L', Tu', Tv', q2', q3') := h
    generalize hk4e : lpF (fun _ _ => none) (fB_X7_findLeast_L4 pa qa X P L Tn Tu Tv q0 q2 q3 q4 x1) N = k4 at h hk4
    unfold fB_X7_findLeast_L4 at h
    refine lv_iload_n hx hb dX7_findLeast_4 rfl (lv_at hl 3 rfl) ?_
    refine lv_iload_n hx hb dX7_findLeast_5 rfl (lv_at hl 1 rfl) ?_
    refine lv_icmp_ge (tgt := 25) hx hb dX7_findLeast_6 (by decide) (fun c1 => ?_) (fun c1 => ?_)
    · have h := tx_pos c1 h
      exact w_X7_findLeast_J25 F x1 x2 L Tu Tv q2 q3 H locs ls h hP hD hS (lv_sub hl [0, 1, 2] rfl)
    · have h := tx_neg c1 h
      refine lv_iload_n hx hb dX7_findLeast_9 rfl (lv_at hl 2 rfl) ?_
      refine lv_aload_n hx hb dX7_findLeast_10 rfl (lv_at hl 0 rfl) ?_
      refine va_get (D := G) (ci := 7) (v := .ref q4) (C := RX7) (T := TX7) (N := 12) hx hb hT ku_7 hown hK hP 0 rfl rfl 1 (by decide) (hT _ kw_1_20) (fun _ h9 => h9) rfl dX7_findLeast_11 ?_
      obtain ⟨g56, h⟩ := tx_ck h
      have eg56 := of_decide_eq_true g56
      subst eg56
      refine va_get (D := G) (ci := 2) (v := .int (P 0 0)) (C := RX2) (T := TX2) (N := 19) hx hb hT ku_2 hown hK hP 9 rfl rfl 0 (by decide) (hT _ kw_32_2) (fun _ h9 => h9) rfl dX7_findLeast_14 ?_
      refine lv_imul hx hb dX7_findLeast_17 ?_
      refine lv_topi (fun y57 ey57 => ?_)
      have h := tx_let ey57 h
      refine lv_istore_n (lv' := [(2, .int y57), (0, .ref (xa 0)), (1, .int x1), (3, .int x3)]) hx hb dX7_findLeast_18 rfl hl (by decide) rfl (fun ls hl => ?_)
      obtain ⟨y58, ey58, h⟩ := tx_lt h
      refine lv_iinc (v := y58) (lv' := [(3, .int y58), (2, .int y57), (0, .ref (xa 0)), (1, .int x1)]) hx hb dX7_findLeast_19 hl (k := 3) rfl ey58 (by decide) rfl (fun ls hl => ?_)
      refine lv_goto (tgt := 4) hx hb dX7_findLeast_22 (by decide) ?_
      exact hk4 y57 y58 H locs ls h hP hD hS (lv_sub hl [2, 3, 1, 0] rfl)
set_option maxHeartbeats 4000000 in
set_option maxRecDepth 100000 in
theorem c_X7_findLeast (l : Launch) (G : va_G) (cA : Nat → ClassId) (sz : Nat) (xa : Nat → Nat) (ka : Nat → Nat) (ra : Nat → Nat) (na : Nat → Nat) (ia : Nat → Nat) (ua : Nat → Nat) (va : Nat → Nat) (ca : Nat → Nat) (za : Nat → Nat) (pa : Nat → Nat) (qa : Nat → Nat) (X : Tr) (K : Tr) (R : Tr) (P : Tr) (L : Lo) (P2 : Tr) (L2 : Lo) (Tn : Tr) (Ti : Tr) (Tu : Tr) (Tv : Tr) (C : Tr) (Z : Tr) (q0 : Nat) (q1 : Nat) (q2 : Nat) (q3 : Nat) (q4 : Nat) (q5 : Nat) (x1 : Int32)  (r0 : Int32) (L' : Lo) (Tu' : Tr) (Tv' : Tr) (q2' : Nat) (q3' : Nat) (h : f_X7_findLeast pa qa X P L Tn Tu Tv q0 q2 q3 q4 x1 = some (r0, L', Tu', Tv', q2', q3')) : Met l yX7_findLeast (.code yX7_findLeast cX7_findLeast 6 (some .int) :: T0) ({ frames := 6, cells := 0, slots := 0, locals := 153 } : Room) (tqP G cA [.ref (xa 0), .int x1] (wX cA xa ka ra na ia ua va ca za pa qa X K R P L P2 L2 Tn Ti Tu Tv C Z q0 q1 q2 q3 q4 q5) sz) (tqQi G cA (fun (r : Int32) (_ : Unit) => r = r0) (fun (_ : Unit) => wX cA xa ka ra na ia ua va ca za pa qa X K R P (L') P2 L2 Tn Ti (Tu') (Tv') C Z q0 q1 (q2') (q3') q4 q5) (va_A (wX cA xa ka ra na ia ua va ca za pa qa X K R P L P2 L2 Tn Ti Tu Tv C Z q0 q1 q2 q3 q4 q5) sz)) 0 0 (va_A (wX cA xa ka ra na ia ua va ca za pa qa X K R P L P2 L2 Tn Ti Tu Tv C Z q0 q1 q2 q3 q4 q5) sz) := by
  refine Met.ofW (cc := cX7_findLeast) (maxL := 6) (ret := (some .int)) (by decide) rfl ?_
  intro p e s m args below meth c s₁ B hml hv
  obtain ⟨rfl, hsz, hP, hK, hD0, hN⟩ := hv
  have hx := B.exec
  have hb := B.bytes
  have hr := B.returns
  have hts := atoms_spec (ws := .code yX7_findLeast cX7_findLeast 6 (some .int) :: T0) B.pre
  have hT : ∀ w ∈ T0, w.before _ s = true := fun w h => hts w (List.mem_cons_of_mem _ h)
  have hown : s.vm.findClass RX7 = some m.cls := findClass_of_methodNamed B.named
  have hlocks := B.notSynchronized
  subst hsz
  have hD := hD0.self (sz := s.heap.size)
  generalize hAe : va_A (wX cA xa ka ra na ia ua va ca za pa qa X K R P L P2 L2 Tn Ti Tu Tv C Z q0 q1 q2 q3 q4 q5) s.heap.size = A at hD ⊢
  have hA : ∀ q : Nat, s.heap.size ≤ q → A q := fun q h => by rw [← hAe]; exact Or.inr h
  have hS : va_S A s.heap s.heap [] := va_S.rf
  have hl := lv_entry ([.ref (xa 0), .int x1]) (n := 6) (Nat.le_of_ble_eq_true rfl)
  rw [lg_entry_eq]
  generalize (lg_sl ([.ref (xa 0), .int x1]) ++ List.replicate (6 - (lg_sl ([.ref (xa 0), .int x1])).length) Slot.unset).toArray = ls at hl ⊢
  have hl : lv_has ls 6 [(0, .ref (xa 0)), (1, .int x1)] := hl
  have F : tF p s m ([.ref (xa 0), .int x1] : List Value).toArray meth c G cA A RX7 cX7_findLeast 6 (some .int) := ⟨hx, hb, hr, hml, hT, hown, hlocks, hK, hN, hA⟩
  obtain ⟨H, hH⟩ : ∃ z, z = s.heap := ⟨_, rfl⟩
  rw [← hH] at hP
  have hS : va_S A s.heap H [] := by rw [hH]; exact hS
  suffices hgo : G_X7_findLeast p l e s m below meth c G cA A xa ka ra na ia ua va ca za pa qa X K R P P2 L2 Tn Ti C Z q0 q1 q4 q5 x1 r0 L' Tu' Tv' q2' q3' H [] (F0 m 0 ls []) by rw [hH] at hgo; exact hgo
  generalize ([] : List Loc) = locs at hS ⊢
  unfold f_X7_findLeast at h
  refine lv_iconst (v := 1) hx hb dX7_findLeast_0 (by decide) ?_
  refine lv_istore_n (lv' := [(2, .int 1), (0, .ref (xa 0)), (1, .int x1)]) hx hb dX7_findLeast_1 rfl hl (by decide) rfl (fun ls hl => ?_)
  refine lv_iconst (v := 0) hx hb dX7_findLeast_2 (by decide) ?_
  refine lv_istore_n (lv' := [(3, .int 0), (2, .int 1), (0, .ref (xa 0)), (1, .int x1)]) hx hb dX7_findLeast_3 rfl hl (by decide) rfl (fun ls hl => ?_)
  exact w_X7_findLeast_L4 F 2000 1 0 H locs ls h hP hD hS (lv_sub hl [2, 3, 1, 0] rfl)
abbrev G_X7_findMine (p : Program) (l : Launch) (e : Env) (s : State) (m : MethodId) (below : List Frame) (meth : Method) (c : Code) (G : va_G) (cA : Nat → ClassId) (A : Nat → Prop) (xa : Nat → Nat) (ka : Nat → Nat) (ra : Nat → Nat) (na : Nat → Nat) (ia : Nat → Nat) (ua : Nat → Nat) (va : Nat → Nat) (ca : Nat → Nat) (za : Nat → Nat) (pa : Nat → Nat) (qa : Nat → Nat) (X : Tr) (K : Tr) (R : Tr) (P : Tr) (P2 : Tr) (L2 : Lo) (Tn : Tr) (Ti : Tr) (Tv : Tr) (C : Tr) (Z : Tr) (q0 : Nat) (q1 : Nat) (q3 : Nat) (q4 : Nat) (q5 : Nat) (x1 : Int32) (x2 : Int32) (r0 : Int32) (L' : Lo) (Tu' : Tr) (q2' : Nat) (H : Heap) (locs : List Loc) (g : JFrame) : Prop := W p l e (headSpec (.code yX7_findMine cX7_findMine 7 (some .int) :: T0) ({ frames := 6, cells := 0, slots := 0, locals := 153 } : Room)).room s m ([.ref (xa 0), .int x1, .int x2] : List Value).toArray below meth c H locs 0 0 (MQ below (tqQi G cA (fun (r : Int32) (_ : Unit) => r = r0) (fun (_ : Unit) => wX cA xa ka ra na ia ua va ca za pa qa X K R P (L') P2 L2 Tn Ti (Tu') Tv C Z q0 q1 (q2') q3 q4 q5) A) ([.ref (xa 0), .int x1, .int x2] : List Value).toArray s 0 0 A) g
set_option maxHeartbeats 4000000 in
set_option maxRecDepth 100000 in
theorem w_X7_findMine_J128 {p : Program} {l : Launch} {e : Env} {s : State} {m : MethodId} {below : List Frame} {meth : Method} {c : Code} {G : va_G} {cA : Nat → ClassId} {A : Nat → Prop} {xa : Nat → Nat} {ka : Nat → Nat} {ra : Nat → Nat} {na : Nat → Nat} {ia : Nat → Nat} {ua : Nat → Nat} {va : Nat → Nat} {ca : Nat → Nat} {za : Nat → Nat} {pa : Nat → Nat} {qa : Nat → Nat} {X : Tr} {K : Tr} {R : Tr} {P : Tr} {P2 : Tr} {L2 : Lo} {Tn : Tr} {Ti : Tr} {Tv : Tr} {C : Tr} {Z : Tr} {q0 : Nat} {q1 : Nat} {q3 : Nat} {q4 : Nat} {q5 : Nat} {x1₀ : Int32} {x2₀ : Int32} {r0 : Int32} {L' : Lo} {Tu' : Tr} {q2' : Nat} {x1 : Int32} {x2 : Int32} (F : tF p s m ([.ref (xa 0), .int x1₀, .int x2₀] : List Value).toArray meth c G cA A RX7 cX7_findMine 7 (some .int))  (k5 : Int32 → Int32 → Lo → Tr → Nat → Option (Int32 × Lo × Tr × Nat)) (hk5 : ∀ (x3 : Int32) (x4 : Int32) (L : Lo) (Tu : Tr) (q2 : Nat) (H : Heap) (locs : List Loc) (ls : Array Slot), k5 x3 x4 L Tu q2 = some (r0, L', Tu', q2') → va_P G vwCl (wX cA xa ka ra na ia ua va ca za pa qa X K R P L P2 L2 Tn Ti Tu Tv C Z q0 q1 q2 q3 q4 q5) H → va_D A (wX cA xa ka ra na ia ua va ca za pa qa X K R P L P2 L2 Tn Ti Tu Tv C Z q0 q1 q2 q3 q4 q5) → va_S A s.heap H locs → lv_has ls 7 [(0, .ref (xa 0)), (1, .int x1), (2, .int x2), (3, .int x3), (4, .int x4)] → G_X7_findMine p l e s m below meth c G cA A xa ka ra na ia ua va ca za pa qa X K R P P2 L2 Tn Ti Tv C Z q0 q1 q3 q4 q5 x1₀ x2₀ r0 L' Tu' q2' H locs (F0 m 5 ls [])) (x3 : Int32) (x4 : Int32) (s0 : Int32) (L : Lo) (Tu : Tr) (q2 : Nat) (H : Heap) (locs : List Loc) (ls : Array Slot) (h : fJ_X7_findMine_J128 k5 pa qa P Tn q0 q4 x1 x2 x3 x4 s0 L Tu q2 = some (r0, L', Tu', q2')) (hP : va_P G vwCl (wX cA xa ka ra na ia ua va ca za pa qa X K R P L P2 L2 Tn Ti Tu Tv C Z q0 q1 q2 q3 q4 q5) H) (hD : va_D A (wX cA xa ka ra na ia ua va ca za pa qa X K R P L P2 L2 Tn Ti Tu Tv C Z q0 q1 q2 q3 q4 q5)) (hS : va_S A s.heap H locs) (hl : lv_has ls 7 [(6, .int y31), (5, .int s0), (0, .ref (xa 0)), (1, .int x1), (2, .int x2), (3, .int x3), (4, .int x4)]) : G_X7_findMine p l e s m below meth c G cA A xa ka ra na ia ua va ca za pa qa X K R P P2 L2 Tn Ti Tv C Z q0 q1 q3 q4 q5 x1₀ x2₀ r0 L' Tu' q2' H locs (F0 m 128 ls []) := by
  obtain ⟨hx, hb, hr, hml, hT, hown, hlocks, hK, hN, hA⟩ := id F
  unfold fJ_X7_findMine_J128 at h
  refine lv_istore (lv' := [(5, .int s0), (0, .ref (xa 0)), (1, .int x1), (2, .int x2), (3, .int x3), (4, .int x4)]) hx hb dX7_findMine_128 hl (by decide) rfl (fun ls hl => ?_)
  refine lv_iload hx hb dX7_findMine_130 (lv_at hl 0 rfl) ?_
  refine lv_iconst (v := 5) hx hb dX7_findMine_132 (by decide) ?_
  refine lv_imul hx hb dX7_findMine_133 ?_
  refine lv_iload hx hb dX7_findMine_134 (lv_at hl 5 rfl) ?_
  refine lv_iadd hx hb dX7_findMine_136 ?_
  refine lv_topi (fun y31 ey31 => ?_)
  have h := tx_let ey31 h
  refine lv_istore (lv' := [(6, .int y31), (5, .int s0), (0, .ref (xa 0)), (1, .int x1), (2, .int x2), (3, .int x3), (4, .int x4)]) hx hb dX7_findMine_137 hl (by decide) rfl (fun ls hl => ?_)
  refine lv_iload_n hx hb dX7_findMine_139 rfl (lv_at hl 5 rfl) ?_
  refine lv_if_lt (tgt := 149) hx hb dX7_findMine_140 (by decide) (fun c32 => ?_) (fun c32 => ?_)
  · have h := tx_pos c32 h
    refine lv_iload hx hb dX7_findMine_149 (lv_at hl 0 rfl) ?_
    refine lv_goto (tgt := 155) hx hb dX7_findMine_151 (by decide) ?_
    refine lv_istore_n (lv' := [(3, .int y31), (6, .int y31), (5, .int s0), (0, .ref (xa 0)), (1, .int x1), (2, .int x2), (4, .int x4)]) hx hb dX7_findMine_155 rfl hl (by decide) rfl (fun ls hl => ?_)
    obtain ⟨y33, ey33, h⟩ := tx_lt h
    refine lv_iinc (v := y33) (lv' := [(4, .int y33), (3, .int y31), (6, .int y31), (5, .int s0), (0, .ref (xa 0)), (1, .int x1), (2, .int x2)]) hx hb dX7_findMine_156 hl (k := 6) rfl ey33 (by decide) rfl (fun ls hl => ?_)
    refine lv_goto (tgt := 5) hx hb dX7_findMine_159 (by decide) ?_
    exact hk5 y31 y33 L Tu q2 H locs ls h hP hD hS (lv_sub hl [4, 5, 6, 1, 0] rfl)
  · have h := tx_neg c32 h
    refine lv_iload hx hb dX7_findMine_143 (lv_at hl 0 rfl) ?_
    refine lv_iload_n hx hb dX7_findMine_145 rfl (lv_at hl 5 rfl) ?_
    refine lv_icmp_ge (tgt := 154) hx hb dX7_findMine_146 (by decide) (fun c34 => ?_) (fun c34 => ?_)
    · have h := tx_pos c34 h
      refine lv_iload_n hx hb dX7_findMine_154 rfl (lv_at hl 5 rfl) ?_
      refine lv_istore_n (lv' := [(3, .int x3), (6, .int y31), (5, .int s0), (0, .ref (xa 0)), (1, .int x1), (2, .int x2), (4, .int x4)]) hx hb dX7_findMine_155 rfl hl (by decide) rfl (fun ls hl => ?_)
      obtain ⟨y35, ey35, h⟩ := tx_lt h
      refine lv_iinc (v := y35) (lv' := [(4, .int y35), (3, .int x3), (6, .int y31), (5, .int s0), (0, .ref (xa 0)), (1, .int x1), (2, .int x2)]) hx hb dX7_findMine_156 hl (k := 6) rfl ey35 (by decide) rfl (fun ls hl => ?_)
      refine lv_goto (tgt := 5) hx hb dX7_findMine_159 (by decide) ?_
      exact hk5 x3 y35 L Tu q2 H locs ls h hP hD hS (lv_sub hl [4, 5, 6, 1, 0] rfl)
    · have h := tx_neg c34 h
      refine lv_iload hx hb dX7_findMine_149 (lv_at hl 0 rfl) ?_
      refine lv_goto (tgt := 155) hx hb dX7_findMine_151 (by decide) ?_
      refine lv_istore_n (lv' := [(3, .int y31), (6, .int y31), (5, .int s0), (0, .ref (xa 0)), (1, .int x1), (2, .int x2), (4, .int x4)]) hx hb dX7_findMine_155 rfl hl (by decide) rfl (fun ls hl => ?_)
      obtain ⟨y36, ey36, h⟩ := tx_lt h
      refine lv_iinc (v := y36) (lv' := [(4, .int y36), (3, .int y31), (6, .int y31), (5, .int s0), (0, .ref (xa 0)), (1, .int x1), (2, .int x2)]) hx hb dX7_findMine_156 hl (k := 6) rfl ey36 (by decide) rfl (fun ls hl => ?_)
      refine lv_goto (tgt := 5) hx hb dX7_findMine_159 (by decide) ?_
      exact hk5 y31 y36 L Tu q2 H locs ls h hP hD hS (lv_sub hl [4, 5, 6, 1, 0] rfl)
set_option maxHeartbeats 4000000 in
set_option maxRecDepth 100000 in
theorem w_X7_findMine_L5 {p : Program} {l : Launch} {e : Env} {s : State} {m : MethodId} {below : List Frame} {meth : Method} {c : Code} {G : va_G} {cA : Nat → ClassId} {A : Nat → Prop} {xa : Nat → Nat} {ka : Nat → Nat} {ra : Nat → Nat} {na : Nat → Nat} {ia : Nat → Nat} {ua : Nat → Nat} {va : Nat → Nat} {ca : Nat → Nat} {za : Nat → Nat} {pa : Nat → Nat} {qa : Nat → Nat} {X : Tr} {K : Tr} {R : Tr} {P : Tr} {P2 : Tr} {L2 : Lo} {Tn : Tr} {Ti : Tr} {Tv : Tr} {C : Tr} {Z : Tr} {q0 : Nat} {q1 : Nat} {q3 : Nat} {q4 : Nat} {q5 : Nat} {x1₀ : Int32} {x2₀ : Int32} {r0 : Int32} {L' : Lo} {Tu' : Tr} {q2' : Nat} {x1 : Int32} {x2 : Int32} (F : tF p s m ([.ref (xa 0), .int x1₀, .int x2₀] : List Value).toArray meth c G cA A RX7 cX7_findMine 7 (some .int))    (N : Nat) : ∀ (x3 : Int32) (x4 : Int32) (L : Lo) (Tu : Tr) (q2 : Nat) (H : Heap) (locs : List Loc) (ls : Array Slot), lpF (fun _ _ _ _ _ => none) (fB_X7_findMine_L5 pa qa P Tn q0 q4 x1 x2) N x3 x4 L Tu q2 = some (r0, L', Tu', q2') → va_P G vwCl (wX cA xa ka ra na ia ua va ca za pa qa X K R P L P2 L2 Tn Ti Tu Tv C Z q0 q1 q2 q3 (pa 0) q5) H → va_D A (wX cA xa ka ra na ia ua va ca za pa qa X K R P L P2 L2 Tn Ti Tu Tv C Z q0 q1 q2 q3 (pa 0) q5) → va_S A s.heap H locs → lv_has ls 7 [(0, .ref (xa 0)), (1, .int x1), (2, .int x2), (3, .int x3), (4, .int x4)] → G_X7_findMine p l e s m below meth c G cA A xa ka ra na ia ua va ca za pa qa X K R P P2 L2 Tn Ti Tv C Z q0 q1 q3 q4 q5 x1₀ x2₀ r0 L' Tu' q2' H locs (F0 m 5 ls []) := by
  obtain ⟨hx, hb, hr, hml, hT, hown, hlocks, hK, hN, hA⟩ := id F
  induction N with
  | zero =>
    intro x3 x4 L Tu q2 H locs ls h
    have h : (none : Option (Int32 × Lo × Tr × Nat)) = some (r0, L', Tu', q2') := h
    cases h
  | succ N hk5 =>
    intro x3 x4 L Tu q2 H locs ls h hP hD hS hl
    have h : fB_X7_findMine_L5 pa qa P Tn q0 q4 x1 x2 (lpF (fun _ _ _ _ _ => none) (fB_X7_findMine_L5 pa qa P Tn q0 q4 x1 x2) N) x3 x4 L Tu q2 = some (r0, L', Tu', q2') := h
    generalize hk5e : lpF (fun _ _ _ _ _ => none) (fB_X7_findMine_L5 pa qa P Tn q0 q4 x1 x2) N = k5 at h hk5
    unfold fB_X7_findMine_L5 at h
    refine lv_iload hx hb dX7_findMine_5 (lv_at hl 4 rfl) ?_
    refine lv_aload_n hx hb dX7_findMine_7 rfl (lv_at hl 0 rfl) ?_
    refine va_get (D := G) (ci := 7) (v := .ref q4) (C := RX7) (T := TX7) (N := 12) hx hb hT ku_7 hown hK hP 0 rfl rfl 1 (by decide) (hT _ kw_1_20) (fun _ h9 => h9) rfl dX7_findMine_8 ?_
    obtain ⟨g1, h⟩ := tx_ck h
    have eg1 := of_decide_eq_true g1
    subst eg1
    refine va_get (D := G) (ci := 2) (v := .int (P 0 0)) (C := RX2) (T := TX2) (N := 19) hx hb hT ku_2 hown hK hP 9 rfl rfl 0 (by decide) (hT _ kw_32_2) (fun _ h9 => h9) rfl dX7_findMine_11 ?_
    refine lv_icmp_ge (tgt := 162) hx hb dX7_findMine_14 (by decide) (fun c2 => ?_) (fun c2 => ?_)
    · have h := tx_pos c2 h
      refine lv_iload_n hx hb dX7_findMine_162 rfl (lv_at hl 3 rfl) ?_
      obtain ⟨rfl, rfl, rfl, rfl⟩ := tx_4 h
      exact W.iret hx hb hr (fun t ht hW => ⟨⟨_, (), rfl, rfl, by rw [ht]; exact hP, hD⟩, hS.F ht⟩) hS.2.2 dX7_findMine_163
    · have h := tx_neg c2 h
      refine lv_aload_n hx hb dX7_findMine_17 rfl (lv_at hl 0 rfl) ?_
      obtain ⟨⟨Tu_3, q2_4⟩, hc5, h⟩ := tx_bd h
      replace h := tx_let (y := Tu_3) rfl h
      replace h := tx_let (y := q2_4) rfl h
      refine tw_cv tw_all hP hD hS hA (va_runV (As := []) (rest := []) ⟨hx, hb, hml, hown, hT⟩ (c_X7_startTrial l G cA H.size xa ka ra na ia ua va ca za pa qa X K R P L P2 L2 Tn Ti Tu Tv C Z q0 q1 q2 q3 (pa 0) q5  Tu_3 q2_4 hc5) (cwV 0 hT (tq_gV kw_46_17 kw_46_18 kw_46_19 kw_1_2 kw_46_20) rfl rfl rfl (by decide +kernel) ⟨Nat.le_of_ble_eq_true rfl, Nat.le_of_ble_eq_true rfl⟩) ⟨(tw_pre tw_all hP hD hK hN).1, va_recv hK hP (ci := 7) (q0 := 0) rfl rfl, (tw_pre tw_all hP hD hK hN).2⟩ rfl rfl hl.1 rfl (lv_room (Nat.le_of_ble_eq_true rfl)) dX7_findMine_18 ⟨Nat.le_of_ble_eq_true rfl, Nat.le_of_ble_eq_true rfl⟩) (fun _ H locs z6 hP hD hS => ?_)
      rw [List.append_nil] at hP hD
      have hP : va_P G vwCl (wX cA xa ka ra na ia ua va ca za pa qa X K R P L P2 L2 Tn Ti Tu_3 Tv C Z q0 q1 q2_4 q3 (pa 0) q5) H := hP
      have hD : va_D A (wX cA xa ka ra na ia ua va ca za pa qa X K R P L P2 L2 Tn Ti Tu_3 Tv C Z q0 q1 q2_4 q3 (pa 0) q5) := hD
      refine lv_aload_n hx hb dX7_findMine_21 rfl (lv_at hl 0 rfl) ?_
      refine va_get (D := G) (ci := 7) (v := .ref (ua 0)) (C := RX7) (T := TX7) (N := 12) hx hb hT ku_7 hown hK hP 0 rfl rfl 5 (by decide) (hT _ kw_2_3) (fun _ h9 => h9) rfl dX7_findMine_22 ?_
      refine va_get (D := G) (ci := 6) (v := .ref (ua 13)) (C := RX6) (T := TX6) (N := 20) hx hb hT ku_6 hown hK hP 77 rfl rfl 12 (by decide) (hT _ kw_46_15) (fun _ h9 => h9) rfl dX7_findMine_25 ?_
      refine lv_iload_n hx hb dX7_findMine_28 rfl (lv_at hl 1 rfl) ?_
      refine lv_iload hx hb dX7_findMine_29 (lv_at hl 4 rfl) ?_
      obtain ⟨g7, h⟩ := tx_ck h
      refine va_iast (i := x1) hx hb hK hP hD hS 82 0 rfl rfl (tx_in g7) dX7_findMine_31 (fun H locs hP hD hS => ?_)
      obtain ⟨Tu_8, eTu_8, h⟩ := tx_lt h
      rw [sX_ua_a12, eTu_8] at hP hD
      refine lv_aload_n hx hb dX7_findMine_32 rfl (lv_at hl 0 rfl) ?_
      refine va_get (D := G) (ci := 7) (v := .ref (ua 0)) (C := RX7) (T := TX7) (N := 12) hx hb hT ku_7 hown hK hP 0 rfl rfl 5 (by decide) (hT _ kw_2_3) (fun _ h9 => h9) rfl dX7_findMine_33 ?_
      refine lv_aload_n hx hb dX7_findMine_36 rfl (lv_at hl 0 rfl) ?_
      refine va_get (D := G) (ci := 7) (v := .ref (pa 0)) (C := RX7) (T := TX7) (N := 12) hx hb hT ku_7 hown hK hP 0 rfl rfl 1 (by decide) (hT _ kw_1_20) (fun _ h9 => h9) rfl dX7_findMine_37 ?_
      refine va_get (D := G) (ci := 2) (v := .ref (pa 18)) (C := RX2) (T := TX2) (N := 19) hx hb hT ku_2 hown hK hP 9 rfl rfl 17 (by decide) (hT _ kw_32_23) (fun _ h9 => h9) rfl dX7_findMine_40 ?_
      refine lv_aload_n hx hb dX7_findMine_43 rfl (lv_at hl 0 rfl) ?_
      refine va_get (D := G) (ci := 7) (v := .ref (na 0)) (C := RX7) (T := TX7) (N := 12) hx hb hT ku_7 hown hK hP 0 rfl rfl 2 (by decide) (hT _ kw_2_0) (fun _ h9 => h9) rfl dX7_findMine_44 ?_
      refine va_get (D := G) (ci := 6) (v := .int (Tn 0 0)) (C := RX6) (T := TX6) (N := 20) hx hb hT ku_6 hown hK hP 53 rfl rfl 0 (by decide) (hT _ kw_40_5) (fun _ h9 => h9) rfl dX7_findMine_47 ?_
      obtain ⟨g9, h⟩ := tx_ck h
      refine va_iald (i := (Tn 0 0)) hx hb hK hP 20 0 rfl rfl (tx_in g9) dX7_findMine_50 ?_
      obtain ⟨g10, h⟩ := tx_ck h
      have eg10 := of_decide_eq_true g10
      subst eg10
      obtain ⟨⟨r11, Tu_12, L_13⟩, hc14, h⟩ := tx_bd h
      replace h := tx_let (y := r11) rfl h
      replace h := tx_let (y := Tu_12) rfl h
      replace h := tx_let (y := L_13) rfl h
      refine tw_ci pX_ua hP hD hS hA (va_runV (As := [.int (P 18 (Tn 0 0).toNatClampNeg)]) (rest := []) ⟨hx, hb, hml, hown, hT⟩ (c_X6_takeDown l G cA H.size ua pa Tu_8 P L (P 18 (Tn 0 0).toNatClampNeg)  r11 Tu_12 L_13 hc14) (cwV 1 hT (tq_gV kw_46_23 kw_40_13 kw_40_14 kw_1_23 kw_40_15) rfl rfl rfl (by decide +kernel) ⟨Nat.le_of_ble_eq_true rfl, Nat.le_of_ble_eq_true rfl⟩) ⟨(tw_pre pX_ua hP hD hK hN).1, va_recv hK hP (ci := 6) (q0 := 77) rfl rfl, (tw_pre pX_ua hP hD hK hN).2⟩ rfl rfl hl.1 rfl (lv_room (Nat.le_of_ble_eq_true rfl)) dX7_findMine_51 ⟨Nat.le_of_ble_eq_true rfl, Nat.le_of_ble_eq_true rfl⟩) (fun _ _ H locs z15 hP hD hS => ?_)
      subst z15
      replace hP := tw_P pX_ua.symm hP
      replace hD := tw_D pX_ua.symm hD
      have hP : va_P G vwCl (wX cA xa ka ra na ia ua va ca za pa qa X K R P L_13 P2 L2 Tn Ti Tu_12 Tv C Z q0 q1 (pa 0) q3 (pa 0) q5) H := hP
      have hD : va_D A (wX cA xa ka ra na ia ua va ca za pa qa X K R P L_13 P2 L2 Tn Ti Tu_12 Tv C Z q0 q1 (pa 0) q3 (pa 0) q5) := hD
      refine lv_pop hx hb dX7_findMine_54 rfl ?_
      refine lv_aload_n hx hb dX7_findMine_55 rfl (lv_at hl 0 rfl) ?_
      refine va_get (D := G) (ci := 7) (v := .ref (ua 0)) (C := RX7) (T := TX7) (N := 12) hx hb hT ku_7 hown hK hP 0 rfl rfl 5 (by decide) (hT _ kw_2_3) (fun _ h9 => h9) rfl dX7_findMine_56 ?_
      obtain ⟨Tu_16, hc17, h⟩ := tx_bd h
      refine tw_cv pX_ua hP hD hS hA (va_runV (As := []) (rest := []) ⟨hx, hb, hml, hown, hT⟩ (c_X6_getIn l G cA H.size ua pa Tu_12 P L_13  Tu_16 hc17) (cwV 0 hT (tq_gV kw_47_4 kw_41_13 kw_41_14 kw_1_23 kw_41_15) rfl rfl rfl (by decide +kernel) ⟨Nat.le_of_ble_eq_true rfl, Nat.le_of_ble_eq_true rfl⟩) ⟨(tw_pre pX_ua hP hD hK hN).1, va_recv hK hP (ci := 6) (q0 := 77) rfl rfl, (tw_pre pX_ua hP hD hK hN).2⟩ rfl rfl hl.1 rfl (lv_room (Nat.le_of_ble_eq_true rfl)) dX7_findMine_59 ⟨Nat.le_of_ble_eq_true rfl, Nat.le_of_ble_eq_true rfl⟩) (fun _ H locs z18 hP hD hS => ?_)
      replace hP := tw_P pX_ua.symm hP
      replace hD := tw_D pX_ua.symm hD
      have hP : va_P G vwCl (wX cA xa ka ra na ia ua va ca za pa qa X K R P L_13 P2 L2 Tn Ti Tu_16 Tv C Z q0 q1 (pa 0) q3 (pa 0) q5) H := hP
      have hD : va_D A (wX cA xa ka ra na ia ua va ca za pa qa X K R P L_13 P2 L2 Tn Ti Tu_16 Tv C Z q0 q1 (pa 0) q3 (pa 0) q5) := hD
      refine lv_aload_n hx hb dX7_findMine_62 rfl (lv_at hl 0 rfl) ?_
      refine va_get (D := G) (ci := 7) (v := .ref (ua 0)) (C := RX7) (T := TX7) (N := 12) hx hb hT ku_7 hown hK hP 0 rfl rfl 5 (by decide) (hT _ kw_2_3) (fun _ h9 => h9) rfl dX7_findMine_63 ?_
      refine va_get (D := G) (ci := 6) (v := .ref (ua 14)) (C := RX6) (T := TX6) (N := 20) hx hb hT ku_6 hown hK hP 77 rfl rfl 13 (by decide) (hT _ kw_30_3) (fun _ h9 => h9) rfl dX7_findMine_66 ?_
      refine lv_iload_n hx hb dX7_findMine_69 rfl (lv_at hl 1 rfl) ?_
      refine va_iald (i := x1) hx hb hK hP 83 0 rfl rfl (tx_in g7) dX7_findMine_70 ?_
      refine lv_iconst (v := 1) hx hb dX7_findMine_71 (by decide) ?_
      refine lv_icmp_ne (tgt := 156) hx hb dX7_findMine_72 (by decide) (fun c19 => ?_) (fun c19 => ?_)
      · have h := tx_neg c19 h
        obtain ⟨y20, ey20, h⟩ := tx_lt h
        refine lv_iinc (v := y20) (lv' := [(4, .int y20), (0, .ref (xa 0)), (1, .int x1), (2, .int x2), (3, .int x3)]) hx hb dX7_findMine_156 hl (k := 4) rfl ey20 (by decide) rfl (fun ls hl => ?_)
        refine lv_goto (tgt := 5) hx hb dX7_findMine_159 (by decide) ?_
        exact hk5 x3 y20 L_13 Tu_16 (pa 0) H locs ls h hP hD hS (lv_sub hl [1, 2, 3, 4, 0] rfl)
      · have h := tx_pos c19 h
        refine lv_aload_n hx hb dX7_findMine_75 rfl (lv_at hl 0 rfl) ?_
        refine va_get (D := G) (ci := 7) (v := .ref (ua 0)) (C := RX7) (T := TX7) (N := 12) hx hb hT ku_7 hown hK hP 0 rfl rfl 5 (by decide) (hT _ kw_2_3) (fun _ h9 => h9) rfl dX7_findMine_76 ?_
        obtain ⟨⟨Tu_21, L_22⟩, hc23, h⟩ := tx_bd h
        replace h := tx_let (y := Tu_21) rfl h
        replace h := tx_let (y := L_22) rfl h
        refine tw_cv pX_ua hP hD hS hA (va_runV (As := []) (rest := []) ⟨hx, hb, hml, hown, hT⟩ (c_X6_wayOn l G cA H.size ua pa Tu_16 P L_13  Tu_21 L_22 hc23) (cwV 0 hT (tq_gV kw_47_9 kw_42_4 kw_42_5 kw_1_23 kw_42_6) rfl rfl rfl (by decide +kernel) ⟨Nat.le_of_ble_eq_true rfl, Nat.le_of_ble_eq_true rfl⟩) ⟨(tw_pre pX_ua hP hD hK hN).1, va_recv hK hP (ci := 6) (q0 := 77) rfl rfl, (tw_pre pX_ua hP hD hK hN).2⟩ rfl rfl hl.1 rfl (lv_room (Nat.le_of_ble_eq_true rfl)) dX7_findMine_79 ⟨Nat.le_of_ble_eq_true rfl, Nat.le_of_ble_eq_true rfl⟩) (fun _ H locs z24 hP hD hS => ?_)
        replace hP := tw_P pX_ua.symm hP
        replace hD := tw_D pX_ua.symm hD
        have hP : va_P G vwCl (wX cA xa ka ra na ia ua va ca za pa qa X K R P L_22 P2 L2 Tn Ti Tu_21 Tv C Z q0 q1 (pa 0) q3 (pa 0) q5) H := hP
        have hD : va_D A (wX cA xa ka ra na ia ua va ca za pa qa X K R P L_22 P2 L2 Tn Ti Tu_21 Tv C Z q0 q1 (pa 0) q3 (pa 0) q5) := hD
        refine lv_aload_n hx hb dX7_findMine_82 rfl (lv_at hl 0 rfl) ?_
        refine va_get (D := G) (ci := 7) (v := .ref (ua 0)) (C := RX7) (T := TX7) (N := 12) hx hb hT ku_7 hown hK hP 0 rfl rfl 5 (by decide) (hT _ kw_2_3) (fun _ h9 => h9) rfl dX7_findMine_83 ?_
        obtain ⟨⟨Tu_25, L_26⟩, hc27, h⟩ := tx_bd h
        replace h := tx_let (y := Tu_25) rfl h
        replace h := tx_let (y := L_26) rfl h
        refine tw_cv pX_ua hP hD hS hA (va_runV (As := []) (rest := []) ⟨hx, hb, hml, hown, hT⟩ (c_X6_runToEnd l G cA H.size ua pa Tu_21 P L_22  Tu_25 L_26 hc27) (cwV 0 hT (tq_gV kw_47_10 kw_47_11 kw_47_12 kw_1_23 kw_47_13) rfl rfl rfl (by decide +kernel) ⟨Nat.le_of_ble_eq_true rfl, Nat.le_of_ble_eq_true rfl⟩) ⟨(tw_pre pX_ua hP hD hK hN).1, va_recv hK hP (ci := 6) (q0 := 77) rfl rfl, (tw_pre pX_ua hP hD hK hN).2⟩ rfl rfl hl.1 rfl (lv_room (Nat.le_of_ble_eq_true rfl)) dX7_findMine_86 ⟨Nat.le_of_ble_eq_true rfl, Nat.le_of_ble_eq_true rfl⟩) (fun _ H locs z28 hP hD hS => ?_)
        replace hP := tw_P pX_ua.symm hP
        replace hD := tw_D pX_ua.symm hD
        have hP : va_P G vwCl (wX cA xa ka ra na ia ua va ca za pa qa X K R P L_26 P2 L2 Tn Ti Tu_25 Tv C Z q0 q1 (pa 0) q3 (pa 0) q5) H := hP
        have hD : va_D A (wX cA xa ka ra na ia ua va ca za pa qa X K R P L_26 P2 L2 Tn Ti Tu_25 Tv C Z q0 q1 (pa 0) q3 (pa 0) q5) := hD
        refine lv_iload_n hx hb dX7_findMine_89 rfl (lv_at hl 2 rfl) ?_
        refine lv_if_eq (tgt := 111) hx hb dX7_findMine_90 (by decide) (fun c29 => ?_) (fun c29 => ?_)
        · have h := tx_pos c29 h
          refine lv_aload_n hx hb dX7_findMine_111 rfl (lv_at hl 0 rfl) ?_
          refine va_get (D := G) (ci := 7) (v := .ref (ua 0)) (C := RX7) (T := TX7) (N := 12) hx hb hT ku_7 hown hK hP 0 rfl rfl 5 (by decide) (hT _ kw_2_3) (fun _ h9 => h9) rfl dX7_findMine_112 ?_
          refine va_get (D := G) (ci := 6) (v := .ref (ua 12)) (C := RX6) (T := TX6) (N := 20) hx hb hT ku_6 hown hK hP 77 rfl rfl 11 (by decide) (hT _ kw_29_2) (fun _ h9 => h9) rfl dX7_findMine_115 ?_
          refine lv_aload_n hx hb dX7_findMine_118 rfl (lv_at hl 0 rfl) ?_
          refine va_get (D := G) (ci := 7) (v := .ref (pa 0)) (C := RX7) (T := TX7) (N := 12) hx hb hT ku_7 hown hK hP 0 rfl rfl 1 (by decide) (hT _ kw_1_20) (fun _ h9 => h9) rfl dX7_findMine_119 ?_
          refine va_get (D := G) (ci := 2) (v := .ref (pa 14)) (C := RX2) (T := TX2) (N := 19) hx hb hT ku_2 hown hK hP 9 rfl rfl 13 (by decide) (hT _ kw_30_0) (fun _ h9 => h9) rfl dX7_findMine_122 ?_
          refine lv_iload_n hx hb dX7_findMine_125 rfl (lv_at hl 1 rfl) ?_
          refine va_iald (i := x1) hx hb hK hP 16 0 rfl rfl (tx_in g7) dX7_findMine_126 ?_
          obtain ⟨g30, h⟩ := tx_ck h
          refine va_iald (i := (P 14 x1.toNatClampNeg)) hx hb hK hP 81 0 rfl rfl (tx_in g30) dX7_findMine_127 ?_
          exact w_X7_findMine_J128 F k5 hk5 x3 x4 (Tu_25 12 (P 14 x1.toNatClampNeg).toNatClampNeg) L_26 Tu_25 (pa 0) H locs ls h hP hD hS (lv_sub hl [0, 1, 2, 3, 4] rfl)
        · have h := tx_neg c29 h
          refine lv_aload_n hx hb dX7_findMine_93 rfl (lv_at hl 0 rfl) ?_
          refine va_get (D := G) (ci := 7) (v := .ref (ua 0)) (C := RX7) (T := TX7) (N := 12) hx hb hT ku_7 hown hK hP 0 rfl rfl 5 (by decide) (hT _ kw_2_3) (fun _ h9 => h9) rfl dX7_findMine_94 ?_
          refine va_get (D := G) (ci := 6) (v := .int (Tu_25 0 1)) (C := RX6) (T := TX6) (N := 20) hx hb hT ku_6 hown hK hP 77 rfl rfl 1 (by decide) (hT _ kw_46_16) (fun _ h9 => h9) rfl dX7_findMine_97 ?_
          refine lv_aload_n hx hb dX7_findMine_100 rfl (lv_at hl 0 rfl) ?_
          refine va_get (D := G) (ci := 7) (v := .ref (na 0)) (C := RX7) (T := TX7) (N := 12) hx hb hT ku_7 hown hK hP 0 rfl rfl 2 (by decide) (hT _ kw_2_0) (fun _ h9 => h9) rfl dX7_findMine_101 ?_
          refine va_get (D := G) (ci := 6) (v := .int (Tn 0 1)) (C := RX6) (T := TX6) (N := 20) hx hb hT ku_6 hown hK hP 53 rfl rfl 1 (by decide) (hT _ kw_46_16) (fun _ h9 => h9) rfl dX7_findMine_104 ?_
          refine lv_isub hx hb dX7_findMine_107 ?_
          refine lv_goto (tgt := 128) hx hb dX7_findMine_108 (by decide) ?_
          exact w_X7_findMine_J128 F k5 hk5 x3 x4 ((Tu_25 0 1) - (Tn 0 1)) L_26 Tu_25 (pa 0) H locs ls h hP hD hS (lv_sub hl [0, 1, 2, 3, 4] rfl)
set_option maxHeartbeats 4000000 in
set_option maxRecDepth 100000 in
theorem c_X7_findMine (l : Launch) (G : va_G) (cA : Nat → ClassId) (sz : Nat) (xa : Nat → Nat) (ka : Nat → Nat) (ra : Nat → Nat) (na : Nat → Nat) (ia : Nat → Nat) (ua : Nat → Nat) (va : Nat → Nat) (ca : Nat → Nat) (za : Nat → Nat) (pa : Nat → Nat) (qa : Nat → Nat) (X : Tr) (K : Tr) (R : Tr) (P : Tr) (L : Lo) (P2 : Tr) (L2 : Lo) (Tn : Tr) (Ti : Tr) (Tu : Tr) (Tv : Tr) (C : Tr) (Z : Tr) (q0 : Nat) (q1 : Nat) (q2 : Nat) (q3 : Nat) (q4 : Nat) (q5 : Nat) (x1 : Int32) (x2 : Int32)  (r0 : Int32) (L' : Lo) (Tu' : Tr) (q2' : Nat) (h : f_X7_findMine pa qa P L Tn Tu q0 q2 q4 x1 x2 = some (r0, L', Tu', q2')) : Met l yX7_findMine (.code yX7_findMine cX7_findMine 7 (some .int) :: T0) ({ frames := 6, cells := 0, slots := 0, locals := 153 } : Room) (tqP G cA [.ref (xa 0), .int x1, .int x2] (wX cA xa ka ra na ia ua va ca za pa qa X K R P L P2 L2 Tn Ti Tu Tv C Z q0 q1 q2 q3 q4 q5) sz) (tqQi G cA (fun (r : Int32) (_ : Unit) => r = r0) (fun (_ : Unit) => wX cA xa ka ra na ia ua va ca za pa qa X K R P (L') P2 L2 Tn Ti (Tu') Tv C Z q0 q1 (q2') q3 q4 q5) (va_A (wX cA xa ka ra na ia ua va ca za pa qa X K R P L P2 L2 Tn Ti Tu Tv C Z q0 q1 q2 q3 q4 q5) sz)) 0 0 (va_A (wX cA xa ka ra na ia ua va ca za pa qa X K R P L P2 L2 Tn Ti Tu Tv C Z q0 q1 q2 q3 q4 q5) sz) := by
  refine Met.ofW (cc := cX7_findMine) (maxL := 7) (ret := (some .int)) (by decide) rfl ?_
  intro p e s m args below meth c s₁ B hml hv
  obtain ⟨rfl, hsz, hP, hK, hD0, hN⟩ := hv
  have hx := B.exec
  have hb := B.bytes
  have hr := B.returns
  have hts := atoms_spec (ws := .code yX7_findMine cX7_findMine 7 (some .int) :: T0) B.pre
  have hT : ∀ w ∈ T0, w.before _ s = true := fun w h => hts w (List.mem_cons_of_mem _ h)
  have hown : s.vm.findClass RX7 = some m.cls := findClass_of_methodNamed B.named
  have hlocks := B.notSynchronized
  subst hsz
  have hD := hD0.self (sz := s.heap.size)
  generalize hAe : va_A (wX cA xa ka ra na ia ua va ca za pa qa X K R P L P2 L2 Tn Ti Tu Tv C Z q0 q1 q2 q3 q4 q5) s.heap.size = A at hD ⊢
  have hA : ∀ q : Nat, s.heap.size ≤ q → A q := fun q h => by rw [← hAe]; exact Or.inr h
  have hS : va_S A s.heap s.heap [] := va_S.rf
  have hl := lv_entry ([.ref (xa 0), .int x1, .int x2]) (n := 7) (Nat.le_of_ble_eq_true rfl)
  rw [lg_entry_eq]
  generalize (lg_sl ([.ref (xa 0), .int x1, .int x2]) ++ List.replicate (7 - (lg_sl ([.ref (xa 0), .int x1, .int x2])).length) Slot.unset).toArray = ls at hl ⊢
  have hl : lv_has ls 7 [(0, .ref (xa 0)), (1, .int x1), (2, .int x2)] := hl
  have F : tF p s m ([.ref (xa 0), .int x1, .int x2] : List Value).toArray meth c G cA A RX7 cX7_findMine 7 (some .int) := ⟨hx, hb, hr, hml, hT, hown, hlocks, hK, hN, hA⟩
  obtain ⟨H, hH⟩ : ∃ z, z = s.heap := ⟨_, rfl⟩
  rw [← hH] at hP
  have hS : va_S A s.heap H [] := by rw [hH]; exact hS
  suffices hgo : G_X7_findMine p l e s m below meth c G cA A xa ka ra na ia ua va ca za pa qa X K R P P2 L2 Tn Ti Tv C Z q0 q1 q3 q4 q5 x1 x2 r0 L' Tu' q2' H [] (F0 m 0 ls []) by rw [hH] at hgo; exact hgo
  generalize ([] : List Loc) = locs at hS ⊢
  unfold f_X7_findMine at h
  refine lv_iconst (v := (-1)) hx hb dX7_findMine_0 (by decide) ?_
  refine lv_istore_n (lv' := [(3, .int (-1)), (0, .ref (xa 0)), (1, .int x1), (2, .int x2)]) hx hb dX7_findMine_1 rfl hl (by decide) rfl (fun ls hl => ?_)
  refine lv_iconst (v := 0) hx hb dX7_findMine_2 (by decide) ?_
  refine lv_istore (lv' := [(4, .int 0), (3, .int (-1)), (0, .ref (xa 0)), (1, .int x1), (2, .int x2)]) hx hb dX7_findMine_3 hl (by decide) rfl (fun ls hl => ?_)
  exact w_X7_findMine_L5 F 2000 (-1) 0 L Tu q2 H locs ls h hP hD hS (lv_sub hl [2, 3, 4, 1, 0] rfl)
abbrev G_X7_go (p : Program) (l : Launch) (e : Env) (s : State) (m : MethodId) (below : List Frame) (meth : Method) (c : Code) (G : va_G) (cA : Nat → ClassId) (A : Nat → Prop) (xa : Nat → Nat) (ka : Nat → Nat) (ra : Nat → Nat) (na : Nat → Nat) (ia : Nat → Nat) (ua : Nat → Nat) (va : Nat → Nat) (ca : Nat → Nat) (za : Nat → Nat) (pa : Nat → Nat) (qa : Nat → Nat) (X : Tr) (K : Tr) (R : Tr) (P : Tr) (P2 : Tr) (L2 : Lo) (Ti : Tr) (Tu : Tr) (Tv : Tr) (Z : Tr) (q0 : Nat) (q1 : Nat) (q2 : Nat) (q3 : Nat) (q4 : Nat) (q5 : Nat) (x1 : Int32) (r0 : Int32) (L' : Lo) (Tn' : Tr) (C' : Tr) (H : Heap) (locs : List Loc) (g : JFrame) : Prop := W p l e (headSpec (.code yX7_go cX7_go 3 (some .int) :: T0) ({ frames := 7, cells := 0, slots := 0, locals := 164 } : Room)).room s m ([.ref (xa 0), .int x1] : List Value).toArray below meth c H locs 0 0 (MQ below (tqQi G cA (fun (r : Int32) (_ : Unit) => r = r0) (fun (_ : Unit) => wX cA xa ka ra na ia ua va ca za pa qa X K R P (L') P2 L2 (Tn') Ti Tu Tv (C') Z q0 q1 q2 q3 q4 q5) A) ([.ref (xa 0), .int x1] : List Value).toArray s 0 0 A) g
set_option maxHeartbeats 4000000 in
set_option maxRecDepth 100000 in
theorem w_X7_go_J54 {p : Program} {l : Launch} {e : Env} {s : State} {m : MethodId} {below : List Frame} {meth : Method} {c : Code} {G : va_G} {cA : Nat → ClassId} {A : Nat → Prop} {xa : Nat → Nat} {ka : Nat → Nat} {ra : Nat → Nat} {na : Nat → Nat} {ia : Nat → Nat} {ua : Nat → Nat} {va : Nat → Nat} {ca : Nat → Nat} {za : Nat → Nat} {pa : Nat → Nat} {qa : Nat → Nat} {X : Tr} {K : Tr} {R : Tr} {P : Tr} {P2 : Tr} {L2 : Lo} {Ti : Tr} {Tu : Tr} {Tv : Tr} {Z : Tr} {q0 : Nat} {q1 : Nat} {q2 : Nat} {q3 : Nat} {q4 : Nat} {q5 : Nat} {x1₀ : Int32} {r0 : Int32} {L' : Lo} {Tn' : Tr} {C' : Tr} (F : tF p s m ([.ref (xa 0), .int x1₀] : List Value).toArray meth c G cA A RX7 cX7_go 3 (some .int))    (x1 : Int32) (L : Lo) (Tn : Tr) (C : Tr) (H : Heap) (locs : List Loc) (ls : Array Slot) (h : fJ_X7_go_J54 pa qa P q0 x1 L Tn C = some (r0, L', Tn', C')) (hP : va_P G vwCl (wX cA xa ka ra na ia ua va ca za pa qa X K R P L P2 L2 Tn Ti Tu Tv C Z q0 q1 q2 q3 q4 q5) H) (hD : va_D A (wX cA xa ka ra na ia ua va ca za pa qa X K R P L P2 L2 Tn Ti Tu Tv C Z q0 q1 q2 q3 q4 q5)) (hS : va_S A s.heap H locs) (hl : lv_has ls 3 [(0, .ref (xa 0)), (1, .int x1)]) : G_X7_go p l e s m below meth c G cA A xa ka ra na ia ua va ca za pa qa X K R P P2 L2 Ti Tu Tv Z q0 q1 q2 q3 q4 q5 x1₀ r0 L' Tn' C' H locs (F0 m 54 ls []) := by
  obtain ⟨hx, hb, hr, hml, hT, hown, hlocks, hK, hN, hA⟩ := id F
  unfold fJ_X7_go_J54 at h
  refine lv_iload_n hx hb dX7_go_54 rfl (lv_at hl 1 rfl) ?_
  refine lv_if_le (tgt := 66) hx hb dX7_go_55 (by decide) (fun c6 => ?_) (fun c6 => ?_)
  · have h := tx_pos c6 h
    refine lv_aload_n hx hb dX7_go_66 rfl (lv_at hl 0 rfl) ?_
    refine va_get (D := G) (ci := 7) (v := .ref (na 0)) (C := RX7) (T := TX7) (N := 12) hx hb hT ku_7 hown hK hP 0 rfl rfl 2 (by decide) (hT _ kw_2_0) (fun _ h9 => h9) rfl dX7_go_67 ?_
    refine va_get (D := G) (ci := 6) (v := .int (Tn 0 0)) (C := RX6) (T := TX6) (N := 20) hx hb hT ku_6 hown hK hP 53 rfl rfl 0 (by decide) (hT _ kw_40_5) (fun _ h9 => h9) rfl dX7_go_70 ?_
    obtain ⟨rfl, rfl, rfl, rfl⟩ := tx_4 h
    exact W.iret hx hb hr (fun t ht hW => ⟨⟨_, (), rfl, rfl, by rw [ht]; exact hP, hD⟩, hS.F ht⟩) hS.2.2 dX7_go_73
  · have h := tx_neg c6 h
    refine lv_aload_n hx hb dX7_go_58 rfl (lv_at hl 0 rfl) ?_
    refine va_get (D := G) (ci := 7) (v := .ref (ca 0)) (C := RX7) (T := TX7) (N := 12) hx hb hT ku_7 hown hK hP 0 rfl rfl 7 (by decide) (hT _ kw_2_8) (fun _ h9 => h9) rfl dX7_go_59 ?_
    refine lv_iconst (v := 0) hx hb dX7_go_62 (by decide) ?_
    refine va_put (D := G) (ci := 0) (v := .int 0) (ty := .int) (C := RX0) (T := TX0) (N := 3) hx hb hT ku_0 tyX0 tyX0_ok nmX0 hown hK hP hD hS 101 rfl rfl 0 (by decide) (hT _ kw_14_7) (fun _ h9 => h9) rfl (by decide +kernel) rfl rfl (Nat.le_of_ble_eq_true rfl) dX7_go_63 (fun H locs hP hD hS => ?_)
    obtain ⟨C_7, eC_7, h⟩ := tx_lt h
    rw [sX_ca_f0, eC_7] at hP hD
    refine lv_aload_n hx hb dX7_go_66 rfl (lv_at hl 0 rfl) ?_
    refine va_get (D := G) (ci := 7) (v := .ref (na 0)) (C := RX7) (T := TX7) (N := 12) hx hb hT ku_7 hown hK hP 0 rfl rfl 2 (by decide) (hT _ kw_2_0) (fun _ h9 => h9) rfl dX7_go_67 ?_
    refine va_get (D := G) (ci := 6) (v := .int (Tn 0 0)) (C := RX6) (T := TX6) (N := 20) hx hb hT ku_6 hown hK hP 53 rfl rfl 0 (by decide) (hT _ kw_40_5) (fun _ h9 => h9) rfl dX7_go_70 ?_
    obtain ⟨rfl, rfl, rfl, rfl⟩ := tx_4 h
    exact W.iret hx hb hr (fun t ht hW => ⟨⟨_, (), rfl, rfl, by rw [ht]; exact hP, hD⟩, hS.F ht⟩) hS.2.2 dX7_go_73
set_option maxHeartbeats 4000000 in
set_option maxRecDepth 100000 in
theorem w_X7_go_L36 {p : Program} {l : Launch} {e : Env} {s : State} {m : MethodId} {below : List Frame} {meth : Method} {c : Code} {G : va_G} {cA : Nat → ClassId} {A : Nat → Prop} {xa : Nat → Nat} {ka : Nat → Nat} {ra : Nat → Nat} {na : Nat → Nat} {ia : Nat → Nat} {ua : Nat → Nat} {va : Nat → Nat} {ca : Nat → Nat} {za : Nat → Nat} {pa : Nat → Nat} {qa : Nat → Nat} {X : Tr} {K : Tr} {R : Tr} {P : Tr} {P2 : Tr} {L2 : Lo} {Ti : Tr} {Tu : Tr} {Tv : Tr} {Z : Tr} {q0 : Nat} {q1 : Nat} {q2 : Nat} {q3 : Nat} {q4 : Nat} {q5 : Nat} {x1₀ : Int32} {r0 : Int32} {L' : Lo} {Tn' : Tr} {C' : Tr} {C : Tr} {x1 : Int32} (F : tF p s m ([.ref (xa 0), .int x1₀] : List Value).toArray meth c G cA A RX7 cX7_go 3 (some .int))    (N : Nat) : ∀ (x2 : Int32) (L : Lo) (Tn : Tr) (H : Heap) (locs : List Loc) (ls : Array Slot), lpF (fun _ _ _ => none) (fB_X7_go_L36 pa qa P C q0 x1) N x2 L Tn = some (r0, L', Tn', C') → va_P G vwCl (wX cA xa ka ra na ia ua va ca za pa qa X K R P L P2 L2 Tn Ti Tu Tv C Z q0 q1 q2 q3 q4 q5) H → va_D A (wX cA xa ka ra na ia ua va ca za pa qa X K R P L P2 L2 Tn Ti Tu Tv C Z q0 q1 q2 q3 q4 q5) → va_S A s.heap H locs → lv_has ls 3 [(0, .ref (xa 0)), (1, .int x1), (2, .int x2)] → G_X7_go p l e s m below meth c G cA A xa ka ra na ia ua va ca za pa qa X K R P P2 L2 Ti Tu Tv Z q0 q1 q2 q3 q4 q5 x1₀ r0 L' Tn' C' H locs (F0 m 36 ls []) := by
  obtain ⟨hx, hb, hr, hml, hT, hown, hlocks, hK, hN, hA⟩ := id F
  induction N with
  | zero =>
    intro x2 L Tn H locs ls h
    have h : (none : Option (Int32 × Lo × Tr × Tr)) = some (r0, L', Tn', C') := h
    cases h
  | succ N hk36 =>
    intro x2 L Tn H locs ls h hP hD hS hl
    have h : fB_X7_go_L36 pa qa P C q0 x1 (lpF (fun _ _ _ => none) (fB_X7_go_L36 pa qa P C q0 x1) N) x2 L Tn = some (r0, L', Tn', C') := h
    generalize hk36e : lpF (fun _ _ _ => none) (fB_X7_go_L36 pa qa P C q0 x1) N = k36 at h hk36
    unfold fB_X7_go_L36 at h
    refine lv_iload_n hx hb dX7_go_36 rfl (lv_at hl 2 rfl) ?_
    refine lv_iload_n hx hb dX7_go_37 rfl (lv_at hl 1 rfl) ?_
    refine lv_icmp_ge (tgt := 54) hx hb dX7_go_38 (by decide) (fun c5 => ?_) (fun c5 => ?_)
    · have h := tx_pos c5 h
      exact w_X7_go_J54 F x1 L Tn C H locs ls h hP hD hS (lv_sub hl [0, 1] rfl)
    · have h := tx_neg c5 h
      refine lv_aload_n hx hb dX7_go_41 rfl (lv_at hl 0 rfl) ?_
      refine va_get (D := G) (ci := 7) (v := .ref (na 0)) (C := RX7) (T := TX7) (N := 12) hx hb hT ku_7 hown hK hP 0 rfl rfl 2 (by decide) (hT _ kw_2_0) (fun _ h9 => h9) rfl dX7_go_42 ?_
      obtain ⟨g8, h⟩ := tx_ck h
      have eg8 := of_decide_eq_true g8
      subst eg8
      obtain ⟨⟨Tn_9, L_10⟩, hc11, h⟩ := tx_bd h
      replace h := tx_let (y := Tn_9) rfl h
      replace h := tx_let (y := L_10) rfl h
      refine tw_cv pX_na hP hD hS hA (va_runV (As := []) (rest := []) ⟨hx, hb, hml, hown, hT⟩ (c_X6_passStop l G cA H.size na pa Tn P L  Tn_9 L_10 hc11) (cwV 0 hT (tq_gV kw_40_7 kw_40_8 kw_40_9 kw_1_23 kw_40_10) rfl rfl rfl (by decide +kernel) ⟨Nat.le_of_ble_eq_true rfl, Nat.le_of_ble_eq_true rfl⟩) ⟨(tw_pre pX_na hP hD hK hN).1, va_recv hK hP (ci := 6) (q0 := 53) rfl rfl, (tw_pre pX_na hP hD hK hN).2⟩ rfl rfl hl.1 rfl (lv_room (Nat.le_of_ble_eq_true rfl)) dX7_go_45 ⟨Nat.le_of_ble_eq_true rfl, Nat.le_of_ble_eq_true rfl⟩) (fun _ H locs z12 hP hD hS => ?_)
      replace hP := tw_P pX_na.symm hP
      replace hD := tw_D pX_na.symm hD
      have hP : va_P G vwCl (wX cA xa ka ra na ia ua va ca za pa qa X K R P L_10 P2 L2 Tn_9 Ti Tu Tv C Z (pa 0) q1 q2 q3 q4 q5) H := hP
      have hD : va_D A (wX cA xa ka ra na ia ua va ca za pa qa X K R P L_10 P2 L2 Tn_9 Ti Tu Tv C Z (pa 0) q1 q2 q3 q4 q5) := hD
      obtain ⟨y13, ey13, h⟩ := tx_lt h
      refine lv_iinc (v := y13) (lv' := [(2, .int y13), (0, .ref (xa 0)), (1, .int x1)]) hx hb dX7_go_48 hl (k := 2) rfl ey13 (by decide) rfl (fun ls hl => ?_)
      refine lv_goto (tgt := 36) hx hb dX7_go_51 (by decide) ?_
      exact hk36 y13 L_10 Tn_9 H locs ls h hP hD hS (lv_sub hl [1, 2, 0] rfl)
set_option maxHeartbeats 4000000 in
set_option maxRecDepth 100000 in
theorem c_X7_go (l : Launch) (G : va_G) (cA : Nat → ClassId) (sz : Nat) (xa : Nat → Nat) (ka : Nat → Nat) (ra : Nat → Nat) (na : Nat → Nat) (ia : Nat → Nat) (ua : Nat → Nat) (va : Nat → Nat) (ca : Nat → Nat) (za : Nat → Nat) (pa : Nat → Nat) (qa : Nat → Nat) (X : Tr) (K : Tr) (R : Tr) (P : Tr) (L : Lo) (P2 : Tr) (L2 : Lo) (Tn : Tr) (Ti : Tr) (Tu : Tr) (Tv : Tr) (C : Tr) (Z : Tr) (q0 : Nat) (q1 : Nat) (q2 : Nat) (q3 : Nat) (q4 : Nat) (q5 : Nat) (x1 : Int32)  (r0 : Int32) (L' : Lo) (Tn' : Tr) (C' : Tr) (h : f_X7_go pa qa P L Tn C q0 x1 = some (r0, L', Tn', C')) : Met l yX7_go (.code yX7_go cX7_go 3 (some .int) :: T0) ({ frames := 7, cells := 0, slots := 0, locals := 164 } : Room) (tqP G cA [.ref (xa 0), .int x1] (wX cA xa ka ra na ia ua va ca za pa qa X K R P L P2 L2 Tn Ti Tu Tv C Z q0 q1 q2 q3 q4 q5) sz) (tqQi G cA (fun (r : Int32) (_ : Unit) => r = r0) (fun (_ : Unit) => wX cA xa ka ra na ia ua va ca za pa qa X K R P (L') P2 L2 (Tn') Ti Tu Tv (C') Z q0 q1 q2 q3 q4 q5) (va_A (wX cA xa ka ra na ia ua va ca za pa qa X K R P L P2 L2 Tn Ti Tu Tv C Z q0 q1 q2 q3 q4 q5) sz)) 0 0 (va_A (wX cA xa ka ra na ia ua va ca za pa qa X K R P L P2 L2 Tn Ti Tu Tv C Z q0 q1 q2 q3 q4 q5) sz) := by
  refine Met.ofW (cc := cX7_go) (maxL := 3) (ret := (some .int)) (by decide) rfl ?_
  intro p e s m args below meth c s₁ B hml hv
  obtain ⟨rfl, hsz, hP, hK, hD0, hN⟩ := hv
  have hx := B.exec
  have hb := B.bytes
  have hr := B.returns
  have hts := atoms_spec (ws := .code yX7_go cX7_go 3 (some .int) :: T0) B.pre
  have hT : ∀ w ∈ T0, w.before _ s = true := fun w h => hts w (List.mem_cons_of_mem _ h)
  have hown : s.vm.findClass RX7 = some m.cls := findClass_of_methodNamed B.named
  have hlocks := B.notSynchronized
  subst hsz
  have hD := hD0.self (sz := s.heap.size)
  generalize hAe : va_A (wX cA xa ka ra na ia ua va ca za pa qa X K R P L P2 L2 Tn Ti Tu Tv C Z q0 q1 q2 q3 q4 q5) s.heap.size = A at hD ⊢
  have hA : ∀ q : Nat, s.heap.size ≤ q → A q := fun q h => by rw [← hAe]; exact Or.inr h
  have hS : va_S A s.heap s.heap [] := va_S.rf
  have hl := lv_entry ([.ref (xa 0), .int x1]) (n := 3) (Nat.le_of_ble_eq_true rfl)
  rw [lg_entry_eq]
  generalize (lg_sl ([.ref (xa 0), .int x1]) ++ List.replicate (3 - (lg_sl ([.ref (xa 0), .int x1])).length) Slot.unset).toArray = ls at hl ⊢
  have hl : lv_has ls 3 [(0, .ref (xa 0)), (1, .int x1)] := hl
  have F : tF p s m ([.ref (xa 0), .int x1] : List Value).toArray meth c G cA A RX7 cX7_go 3 (some .int) := ⟨hx, hb, hr, hml, hT, hown, hlocks, hK, hN, hA⟩
  obtain ⟨H, hH⟩ : ∃ z, z = s.heap := ⟨_, rfl⟩
  rw [← hH] at hP
  have hS : va_S A s.heap H [] := by rw [hH]; exact hS
  suffices hgo : G_X7_go p l e s m below meth c G cA A xa ka ra na ia ua va ca za pa qa X K R P P2 L2 Ti Tu Tv Z q0 q1 q2 q3 q4 q5 x1 r0 L' Tn' C' H [] (F0 m 0 ls []) by rw [hH] at hgo; exact hgo
  generalize ([] : List Loc) = locs at hS ⊢
  unfold f_X7_go at h
  refine lv_iload_n hx hb dX7_go_0 rfl (lv_at hl 1 rfl) ?_
  refine lv_if_lt (tgt := 24) hx hb dX7_go_1 (by decide) (fun c1 => ?_) (fun c1 => ?_)
  · have h := tx_pos c1 h
    refine lv_iconst (v := (-1)) hx hb dX7_go_24 (by decide) ?_
    obtain ⟨rfl, rfl, rfl, rfl⟩ := tx_4 h
    exact W.iret hx hb hr (fun t ht hW => ⟨⟨_, (), rfl, rfl, by rw [ht]; exact hP, hD⟩, hS.F ht⟩) hS.2.2 dX7_go_25
  · have h := tx_neg c1 h
    refine lv_iload_n hx hb dX7_go_4 rfl (lv_at hl 1 rfl) ?_
    refine lv_bipush (v := 21) hx hb dX7_go_5 (by decide) ?_
    refine lv_icmp_gt (tgt := 24) hx hb dX7_go_7 (by decide) (fun c2 => ?_) (fun c2 => ?_)
    · have h := tx_pos c2 h
      refine lv_iconst (v := (-1)) hx hb dX7_go_24 (by decide) ?_
      obtain ⟨rfl, rfl, rfl, rfl⟩ := tx_4 h
      exact W.iret hx hb hr (fun t ht hW => ⟨⟨_, (), rfl, rfl, by rw [ht]; exact hP, hD⟩, hS.F ht⟩) hS.2.2 dX7_go_25
    · have h := tx_neg c2 h
      refine lv_aload_n hx hb dX7_go_10 rfl (lv_at hl 0 rfl) ?_
      refine va_get (D := G) (ci := 7) (v := .ref (na 0)) (C := RX7) (T := TX7) (N := 12) hx hb hT ku_7 hown hK hP 0 rfl rfl 2 (by decide) (hT _ kw_2_0) (fun _ h9 => h9) rfl dX7_go_11 ?_
      refine va_get (D := G) (ci := 6) (v := .int (Tn 0 0)) (C := RX6) (T := TX6) (N := 20) hx hb hT ku_6 hown hK hP 53 rfl rfl 0 (by decide) (hT _ kw_40_5) (fun _ h9 => h9) rfl dX7_go_14 ?_
      refine lv_iload_n hx hb dX7_go_17 rfl (lv_at hl 1 rfl) ?_
      refine lv_iadd hx hb dX7_go_18 ?_
      refine lv_bipush (v := 21) hx hb dX7_go_19 (by decide) ?_
      refine lv_icmp_le (tgt := 26) hx hb dX7_go_21 (by decide) (fun c3 => ?_) (fun c3 => ?_)
      · have h := tx_pos c3 h
        refine lv_aload_n hx hb dX7_go_26 rfl (lv_at hl 0 rfl) ?_
        refine va_get (D := G) (ci := 7) (v := .ref (na 0)) (C := RX7) (T := TX7) (N := 12) hx hb hT ku_7 hown hK hP 0 rfl rfl 2 (by decide) (hT _ kw_2_0) (fun _ h9 => h9) rfl dX7_go_27 ?_
        refine lv_iconst (v := 1) hx hb dX7_go_30 (by decide) ?_
        refine va_put (D := G) (ci := 6) (v := .int 1) (ty := .boolean) (C := RX6) (T := TX6) (N := 20) hx hb hT ku_6 tyX6 tyX6_ok nmX6 hown hK hP hD hS 53 rfl rfl 5 (by decide) (hT _ kw_40_6) (fun _ h9 => h9) rfl (by decide +kernel) rfl rfl (Nat.le_of_ble_eq_true rfl) dX7_go_31 (fun H locs hP hD hS => ?_)
        obtain ⟨Tn_4, eTn_4, h⟩ := tx_lt h
        rw [sX_na_f5, eTn_4] at hP hD
        refine lv_iconst (v := 0) hx hb dX7_go_34 (by decide) ?_
        refine lv_istore_n (lv' := [(2, .int 0), (0, .ref (xa 0)), (1, .int x1)]) hx hb dX7_go_35 rfl hl (by decide) rfl (fun ls hl => ?_)
        exact w_X7_go_L36 F 2000 0 L Tn_4 H locs ls h hP hD hS (lv_sub hl [1, 2, 0] rfl)
      · have h := tx_neg c3 h
        refine lv_iconst (v := (-1)) hx hb dX7_go_24 (by decide) ?_
        obtain ⟨rfl, rfl, rfl, rfl⟩ := tx_4 h
        exact W.iret hx hb hr (fun t ht hW => ⟨⟨_, (), rfl, rfl, by rw [ht]; exact hP, hD⟩, hS.F ht⟩) hS.2.2 dX7_go_25
abbrev G_X7_isPerson (p : Program) (l : Launch) (e : Env) (s : State) (m : MethodId) (below : List Frame) (meth : Method) (c : Code) (G : va_G) (cA : Nat → ClassId) (A : Nat → Prop) (xa : Nat → Nat) (ka : Nat → Nat) (ra : Nat → Nat) (na : Nat → Nat) (ia : Nat → Nat) (ua : Nat → Nat) (va : Nat → Nat) (ca : Nat → Nat) (za : Nat → Nat) (pa : Nat → Nat) (qa : Nat → Nat) (X : Tr) (K : Tr) (R : Tr) (P : Tr) (L : Lo) (P2 : Tr) (L2 : Lo) (Tn : Tr) (Ti : Tr) (Tu : Tr) (Tv : Tr) (C : Tr) (Z : Tr) (q0 : Nat) (q1 : Nat) (q2 : Nat) (q3 : Nat) (q4 : Nat) (q5 : Nat) (x1 : Int32) (r0 : Int32) (H : Heap) (locs : List Loc) (g : JFrame) : Prop := W p l e (headSpec (.code yX7_isPerson cX7_isPerson 2 (some .boolean) :: T0) ({ frames := 0, cells := 0, slots := 0, locals := 0 } : Room)).room s m ([.ref (xa 0), .int x1] : List Value).toArray below meth c H locs 0 0 (MQ below (tqQi G cA (fun (r : Int32) (_ : Unit) => r = r0) (fun (_ : Unit) => wX cA xa ka ra na ia ua va ca za pa qa X K R P L P2 L2 Tn Ti Tu Tv C Z q0 q1 q2 q3 q4 q5) A) ([.ref (xa 0), .int x1] : List Value).toArray s 0 0 A) g
set_option maxHeartbeats 4000000 in
set_option maxRecDepth 100000 in
theorem c_X7_isPerson (l : Launch) (G : va_G) (cA : Nat → ClassId) (sz : Nat) (xa : Nat → Nat) (ka : Nat → Nat) (ra : Nat → Nat) (na : Nat → Nat) (ia : Nat → Nat) (ua : Nat → Nat) (va : Nat → Nat) (ca : Nat → Nat) (za : Nat → Nat) (pa : Nat → Nat) (qa : Nat → Nat) (X : Tr) (K : Tr) (R : Tr) (P : Tr) (L : Lo) (P2 : Tr) (L2 : Lo) (Tn : Tr) (Ti : Tr) (Tu : Tr) (Tv : Tr) (C : Tr) (Z : Tr) (q0 : Nat) (q1 : Nat) (q2 : Nat) (q3 : Nat) (q4 : Nat) (q5 : Nat) (x1 : Int32)  (r0 : Int32) (h : f_X7_isPerson pa qa P q4 x1 = some r0) : Met l yX7_isPerson (.code yX7_isPerson cX7_isPerson 2 (some .boolean) :: T0) ({ frames := 0, cells := 0, slots := 0, locals := 0 } : Room) (tqP G cA [.ref (xa 0), .int x1] (wX cA xa ka ra na ia ua va ca za pa qa X K R P L P2 L2 Tn Ti Tu Tv C Z q0 q1 q2 q3 q4 q5) sz) (tqQi G cA (fun (r : Int32) (_ : Unit) => r = r0) (fun (_ : Unit) => wX cA xa ka ra na ia ua va ca za pa qa X K R P L P2 L2 Tn Ti Tu Tv C Z q0 q1 q2 q3 q4 q5) (va_A (wX cA xa ka ra na ia ua va ca za pa qa X K R P L P2 L2 Tn Ti Tu Tv C Z q0 q1 q2 q3 q4 q5) sz)) 0 0 (va_A (wX cA xa ka ra na ia ua va ca za pa qa X K R P L P2 L2 Tn Ti Tu Tv C Z q0 q1 q2 q3 q4 q5) sz) := by
  refine Met.ofW (cc := cX7_isPerson) (maxL := 2) (ret := (some .boolean)) (by decide) rfl ?_
  intro p e s m args below meth c s₁ B hml hv
  obtain ⟨rfl, hsz, hP, hK, hD0, hN⟩ := hv
  have hx := B.exec
  have hb := B.bytes
  have hr := B.returns
  have hts := atoms_spec (ws := .code yX7_isPerson cX7_isPerson 2 (some .boolean) :: T0) B.pre
  have hT : ∀ w ∈ T0, w.before _ s = true := fun w h => hts w (List.mem_cons_of_mem _ h)
  have hown : s.vm.findClass RX7 = some m.cls := findClass_of_methodNamed B.named
  have hlocks := B.notSynchronized
  subst hsz
  have hD := hD0.self (sz := s.heap.size)
  generalize hAe : va_A (wX cA xa ka ra na ia ua va ca za pa qa X K R P L P2 L2 Tn Ti Tu Tv C Z q0 q1 q2 q3 q4 q5) s.heap.size = A at hD ⊢
  have hA : ∀ q : Nat, s.heap.size ≤ q → A q := fun q h => by rw [← hAe]; exact Or.inr h
  have hS : va_S A s.heap s.heap [] := va_S.rf
  have hl := lv_entry ([.ref (xa 0), .int x1]) (n := 2) (Nat.le_of_ble_eq_true rfl)
  rw [lg_entry_eq]
  generalize (lg_sl ([.ref (xa 0), .int x1]) ++ List.replicate (2 - (lg_sl ([.ref (xa 0), .int x1])).length) Slot.unset).toArray = ls at hl ⊢
  have hl : lv_has ls 2 [(0, .ref (xa 0)), (1, .int x1)] := hl
  have F : tF p s m ([.ref (xa 0), .int x1] : List Value).toArray meth c G cA A RX7 cX7_isPerson 2 (some .boolean) := ⟨hx, hb, hr, hml, hT, hown, hlocks, hK, hN, hA⟩
  obtain ⟨H, hH⟩ : ∃ z, z = s.heap := ⟨_, rfl⟩
  rw [← hH] at hP
  have hS : va_S A s.heap H [] := by rw [hH]; exact hS
  suffices hgo : G_X7_isPerson p l e s m below meth c G cA A xa ka ra na ia ua va ca za pa qa X K R P L P2 L2 Tn Ti Tu Tv C Z q0 q1 q2 q3 q4 q5 x1 r0 H [] (F0 m 0 ls []) by rw [hH] at hgo; exact hgo
  generalize ([] : List Loc) = locs at hS ⊢
  unfold f_X7_isPerson at h
  refine lv_iload_n hx hb dX7_isPerson_0 rfl (lv_at hl 1 rfl) ?_
  refine lv_if_lt (tgt := 19) hx hb dX7_isPerson_1 (by decide) (fun c1 => ?_) (fun c1 => ?_)
  · have h := tx_pos c1 h
    refine lv_iconst (v := 0) hx hb dX7_isPerson_19 (by decide) ?_
    obtain rfl := tx_1 h
    exact W.zret (ty := .boolean) hx hb hr rfl (fun t ht hW => ⟨⟨_, (), rfl, rfl, by rw [ht]; exact hP, hD⟩, hS.F ht⟩) hS.2.2 dX7_isPerson_20
  · have h := tx_neg c1 h
    refine lv_iload_n hx hb dX7_isPerson_4 rfl (lv_at hl 1 rfl) ?_
    refine lv_aload_n hx hb dX7_isPerson_5 rfl (lv_at hl 0 rfl) ?_
    refine va_get (D := G) (ci := 7) (v := .ref q4) (C := RX7) (T := TX7) (N := 12) hx hb hT ku_7 hown hK hP 0 rfl rfl 1 (by decide) (hT _ kw_1_20) (fun _ h9 => h9) rfl dX7_isPerson_6 ?_
    obtain ⟨g2, h⟩ := tx_ck h
    have eg2 := of_decide_eq_true g2
    subst eg2
    refine va_get (D := G) (ci := 2) (v := .int (P 0 1)) (C := RX2) (T := TX2) (N := 19) hx hb hT ku_2 hown hK hP 9 rfl rfl 1 (by decide) (hT _ kw_29_7) (fun _ h9 => h9) rfl dX7_isPerson_9 ?_
    refine lv_icmp_ge (tgt := 19) hx hb dX7_isPerson_12 (by decide) (fun c3 => ?_) (fun c3 => ?_)
    · have h := tx_pos c3 h
      refine lv_iconst (v := 0) hx hb dX7_isPerson_19 (by decide) ?_
      obtain rfl := tx_1 h
      exact W.zret (ty := .boolean) hx hb hr rfl (fun t ht hW => ⟨⟨_, (), rfl, rfl, by rw [ht]; exact hP, hD⟩, hS.F ht⟩) hS.2.2 dX7_isPerson_20
    · have h := tx_neg c3 h
      refine lv_iconst (v := 1) hx hb dX7_isPerson_15 (by decide) ?_
      refine lv_goto (tgt := 20) hx hb dX7_isPerson_16 (by decide) ?_
      obtain rfl := tx_1 h
      exact W.zret (ty := .boolean) hx hb hr rfl (fun t ht hW => ⟨⟨_, (), rfl, rfl, by rw [ht]; exact hP, hD⟩, hS.F ht⟩) hS.2.2 dX7_isPerson_20
abbrev G_X4_judge_x (p : Program) (l : Launch) (e : Env) (s : State) (m : MethodId) (below : List Frame) (meth : Method) (c : Code) (G : va_G) (cA : Nat → ClassId) (A : Nat → Prop) (xa : Nat → Nat) (ka : Nat → Nat) (ra : Nat → Nat) (na : Nat → Nat) (ia : Nat → Nat) (ua : Nat → Nat) (va : Nat → Nat) (ca : Nat → Nat) (za : Nat → Nat) (pa : Nat → Nat) (qa : Nat → Nat) (X : Tr) (K : Tr) (R : Tr) (P : Tr) (L : Lo) (P2 : Tr) (L2 : Lo) (Tn : Tr) (Ti : Tr) (Tu : Tr) (Tv : Tr) (C : Tr) (q0 : Nat) (q1 : Nat) (q2 : Nat) (q3 : Nat) (q4 : Nat) (q5 : Nat) (Z' : Tr) (H : Heap) (locs : List Loc) (g : JFrame) : Prop := W p l e (headSpec (.code yX4_judge cX4_judge 3 none :: T0) ({ frames := 1, cells := 0, slots := 0, locals := 20 } : Room)).room s m ([.ref (za 0)] : List Value).toArray below meth c H locs 0 0 (MQ below (tqQv G cA (fun (_ : Unit) => True) (fun (_ : Unit) => wX cA xa ka ra na ia ua va ca za pa qa X K R P L P2 L2 Tn Ti Tu Tv C (Z') q0 q1 q2 q3 q4 q5) A) ([.ref (za 0)] : List Value).toArray s 0 0 A) g
set_option maxHeartbeats 4000000 in
set_option maxRecDepth 100000 in
theorem w_X4_judge_x_L39 {p : Program} {l : Launch} {e : Env} {s : State} {m : MethodId} {below : List Frame} {meth : Method} {c : Code} {G : va_G} {cA : Nat → ClassId} {A : Nat → Prop} {xa : Nat → Nat} {ka : Nat → Nat} {ra : Nat → Nat} {na : Nat → Nat} {ia : Nat → Nat} {ua : Nat → Nat} {va : Nat → Nat} {ca : Nat → Nat} {za : Nat → Nat} {pa : Nat → Nat} {qa : Nat → Nat} {X : Tr} {K : Tr} {R : Tr} {P : Tr} {L : Lo} {P2 : Tr} {L2 : Lo} {Tn : Tr} {Ti : Tr} {Tu : Tr} {Tv : Tr} {C : Tr} {q0 : Nat} {q1 : Nat} {q2 : Nat} {q3 : Nat} {q4 : Nat} {q5 : Nat} {Z' : Tr} (F : tF p s m ([.ref (za 0)] : List Value).toArray meth c G cA A RX4 cX4_judge 3 none)    (N : Nat) : ∀ (x2 : Int32) (Z : Tr) (H : Heap) (locs : List Loc) (ls : Array Slot), lpF (fun _ _ => none) (fB_X4_judge_x_L39 pa qa) N x2 Z = some Z' → va_P G vwCl (wX cA xa ka ra na ia ua va ca za pa qa X K R P L P2 L2 Tn Ti Tu Tv C Z q0 q1 q2 q3 q4 q5) H → va_D A (wX cA xa ka ra na ia ua va ca za pa qa X K R P L P2 L2 Tn Ti Tu Tv C Z q0 q1 q2 q3 q4 q5) → va_S A s.heap H locs → lv_has ls 3 [(0, .ref (za 0)), (2, .int x2)] → G_X4_judge_x p l e s m below meth c G cA A xa ka ra na ia ua va ca za pa qa X K R P L P2 L2 Tn Ti Tu Tv C q0 q1 q2 q3 q4 q5 Z' H locs (F0 m 39 ls []) := by
  obtain ⟨hx, hb, hr, hml, hT, hown, hlocks, hK, hN, hA⟩ := id F
  induction N with
  | zero =>
    intro x2 Z H locs ls h
    have h : (none : Option (Tr)) = some Z' := h
    cases h
  | succ N hk39 =>
    intro x2 Z H locs ls h hP hD hS hl
    have h : fB_X4_judge_x_L39 pa qa (lpF (fun _ _ => none) (fB_X4_judge_x_L39 pa qa) N) x2 Z = some Z' := h
    generalize hk39e : lpF (fun _ _ => none) (fB_X4_judge_x_L39 pa qa) N = k39 at h hk39
    unfold fB_X4_judge_x_L39 at h
    refine lv_iload_n hx hb dX4_judge_39 rfl (lv_at hl 1 rfl) ?_
    refine lv_if_lt (tgt := 80) hx hb dX4_judge_40 (by decide) (fun c6 => ?_) (fun c6 => ?_)
    · have h := tx_pos c6 h
      obtain rfl := tx_1 h
      exact W.vret hx hb hr (fun t ht hW => ⟨⟨(), rfl, trivial, by rw [ht]; exact hP, hD⟩, hS.F ht⟩) hS.2.2 dX4_judge_80
    · have h := tx_neg c6 h
      refine lv_aload_n hx hb dX4_judge_43 rfl (lv_at hl 0 rfl) ?_
      refine va_get (D := G) (ci := 4) (v := .ref (za 7)) (C := RX4) (T := TX4) (N := 7) hx hb hT ku_4 hown hK hP 103 rfl rfl 6 (by decide) (hT _ kw_9_5) (fun _ h9 => h9) rfl dX4_judge_44 ?_
      refine lv_iload_n hx hb dX4_judge_47 rfl (lv_at hl 1 rfl) ?_
      obtain ⟨g7, h⟩ := tx_ck h
      refine va_zald (i := x2) hx hb hK hP 108 1 rfl rfl (tx_in g7) dX4_judge_48 ?_
      refine lv_if_eq (tgt := 74) hx hb dX4_judge_49 (by decide) (fun c8 => ?_) (fun c8 => ?_)
      · have h := tx_pos c8 h
        obtain ⟨y9, ey9, h⟩ := tx_lt h
        refine lv_iinc (v := y9) (lv' := [(2, .int y9), (0, .ref (za 0))]) hx hb dX4_judge_74 hl (k := 1) rfl ey9 (by decide) rfl (fun ls hl => ?_)
        refine lv_goto (tgt := 39) hx hb dX4_judge_77 (by decide) ?_
        exact hk39 y9 Z H locs ls h hP hD hS (lv_sub hl [1, 0] rfl)
      · have h := tx_neg c8 h
        refine lv_aload_n hx hb dX4_judge_52 rfl (lv_at hl 0 rfl) ?_
        refine va_get (D := G) (ci := 4) (v := .ref (za 3)) (C := RX4) (T := TX4) (N := 7) hx hb hT ku_4 hown hK hP 103 rfl rfl 2 (by decide) (hT _ kw_9_0) (fun _ h9 => h9) rfl dX4_judge_53 ?_
        refine lv_iload_n hx hb dX4_judge_56 rfl (lv_at hl 1 rfl) ?_
        refine va_iald (i := x2) hx hb hK hP 104 0 rfl rfl (tx_in g7) dX4_judge_57 ?_
        refine lv_iconst (v := (-1)) hx hb dX4_judge_58 (by decide) ?_
        refine lv_icmp_ne (tgt := 74) hx hb dX4_judge_59 (by decide) (fun c10 => ?_) (fun c10 => ?_)
        · have h := tx_neg c10 h
          obtain ⟨y11, ey11, h⟩ := tx_lt h
          refine lv_iinc (v := y11) (lv' := [(2, .int y11), (0, .ref (za 0))]) hx hb dX4_judge_74 hl (k := 1) rfl ey11 (by decide) rfl (fun ls hl => ?_)
          refine lv_goto (tgt := 39) hx hb dX4_judge_77 (by decide) ?_
          exact hk39 y11 Z H locs ls h hP hD hS (lv_sub hl [1, 0] rfl)
        · have h := tx_pos c10 h
          refine lv_aload_n hx hb dX4_judge_62 rfl (lv_at hl 0 rfl) ?_
          refine va_get (D := G) (ci := 4) (v := .ref (za 7)) (C := RX4) (T := TX4) (N := 7) hx hb hT ku_4 hown hK hP 103 rfl rfl 6 (by decide) (hT _ kw_9_5) (fun _ h9 => h9) rfl dX4_judge_63 ?_
          refine lv_aload_n hx hb dX4_judge_66 rfl (lv_at hl 0 rfl) ?_
          refine va_get (D := G) (ci := 4) (v := .ref (za 4)) (C := RX4) (T := TX4) (N := 7) hx hb hT ku_4 hown hK hP 103 rfl rfl 3 (by decide) (hT _ kw_9_1) (fun _ h9 => h9) rfl dX4_judge_67 ?_
          refine lv_iload_n hx hb dX4_judge_70 rfl (lv_at hl 1 rfl) ?_
          refine va_iald (i := x2) hx hb hK hP 105 0 rfl rfl (tx_in g7) dX4_judge_71 ?_
          refine lv_iconst (v := 0) hx hb dX4_judge_72 (by decide) ?_
          obtain ⟨g12, h⟩ := tx_ck h
          refine va_zast (i := (Z 4 x2.toNatClampNeg)) hx hb hK hP hD hS 108 1 rfl rfl (tx_in g12) dX4_judge_73 (fun H locs hP hD hS => ?_)
          obtain ⟨Z_13, eZ_13, h⟩ := tx_lt h
          rw [sX_za_a6, eZ_13] at hP hD
          obtain ⟨y14, ey14, h⟩ := tx_lt h
          refine lv_iinc (v := y14) (lv' := [(2, .int y14), (0, .ref (za 0))]) hx hb dX4_judge_74 hl (k := 1) rfl ey14 (by decide) rfl (fun ls hl => ?_)
          refine lv_goto (tgt := 39) hx hb dX4_judge_77 (by decide) ?_
          exact hk39 y14 Z_13 H locs ls h hP hD hS (lv_sub hl [1, 0] rfl)
set_option maxHeartbeats 4000000 in
set_option maxRecDepth 100000 in
theorem w_X4_judge_x_J28 {p : Program} {l : Launch} {e : Env} {s : State} {m : MethodId} {below : List Frame} {meth : Method} {c : Code} {G : va_G} {cA : Nat → ClassId} {A : Nat → Prop} {xa : Nat → Nat} {ka : Nat → Nat} {ra : Nat → Nat} {na : Nat → Nat} {ia : Nat → Nat} {ua : Nat → Nat} {va : Nat → Nat} {ca : Nat → Nat} {za : Nat → Nat} {pa : Nat → Nat} {qa : Nat → Nat} {X : Tr} {K : Tr} {R : Tr} {P : Tr} {L : Lo} {P2 : Tr} {L2 : Lo} {Tn : Tr} {Ti : Tr} {Tu : Tr} {Tv : Tr} {C : Tr} {q0 : Nat} {q1 : Nat} {q2 : Nat} {q3 : Nat} {q4 : Nat} {q5 : Nat} {Z' : Tr} {x1 : Int32} (F : tF p s m ([.ref (za 0)] : List Value).toArray meth c G cA A RX4 cX4_judge 3 none)  (k7 : Int32 → Tr → Option (Tr)) (hk7 : ∀ (x2 : Int32) (Z : Tr) (H : Heap) (locs : List Loc) (ls : Array Slot), k7 x2 Z = some Z' → va_P G vwCl (wX cA xa ka ra na ia ua va ca za pa qa X K R P L P2 L2 Tn Ti Tu Tv C Z q0 q1 q2 q3 q4 q5) H → va_D A (wX cA xa ka ra na ia ua va ca za pa qa X K R P L P2 L2 Tn Ti Tu Tv C Z q0 q1 q2 q3 q4 q5) → va_S A s.heap H locs → lv_has ls 3 [(0, .ref (za 0)), (1, .int x1), (2, .int x2)] → G_X4_judge_x p l e s m below meth c G cA A xa ka ra na ia ua va ca za pa qa X K R P L P2 L2 Tn Ti Tu Tv C q0 q1 q2 q3 q4 q5 Z' H locs (F0 m 7 ls [])) (x2 : Int32) (s0 : Int32) (s1 : Int32) (Z : Tr) (H : Heap) (locs : List Loc) (ls : Array Slot) (h : fJ_X4_judge_x_J28 k7 pa qa x1 x2 s0 s1 Z = some Z') (hP : va_P G vwCl (wX cA xa ka ra na ia ua va ca za pa qa X K R P L P2 L2 Tn Ti Tu Tv C Z_17 q0 q1 q2 q3 q4 q5) H) (hD : va_D A (wX cA xa ka ra na ia ua va ca za pa qa X K R P L P2 L2 Tn Ti Tu Tv C Z_17 q0 q1 q2 q3 q4 q5)) (hS : va_S A s.heap H locs) (hl : lv_has ls 3 [(2, .int y18), (0, .ref (za 0)), (1, .int x1)]) : G_X4_judge_x p l e s m below meth c G cA A xa ka ra na ia ua va ca za pa qa X K R P L P2 L2 Tn Ti Tu Tv C q0 q1 q2 q3 q4 q5 Z' H locs (F0 m 28 ls []) := by
  obtain ⟨hx, hb, hr, hml, hT, hown, hlocks, hK, hN, hA⟩ := id F
  unfold fJ_X4_judge_x_J28 at h
  obtain ⟨g16, h⟩ := tx_ck h
  refine va_zast (i := s1) hx hb hK hP hD hS 108 1 rfl rfl (tx_in g16) dX4_judge_28 (fun H locs hP hD hS => ?_)
  obtain ⟨Z_17, eZ_17, h⟩ := tx_lt h
  rw [sX_za_a6, eZ_17] at hP hD
  obtain ⟨y18, ey18, h⟩ := tx_lt h
  refine lv_iinc (v := y18) (lv' := [(2, .int y18), (0, .ref (za 0)), (1, .int x1)]) hx hb dX4_judge_29 hl (k := 2) rfl ey18 (by decide) rfl (fun ls hl => ?_)
  refine lv_goto (tgt := 7) hx hb dX4_judge_32 (by decide) ?_
  exact hk7 y18 Z_17 H locs ls h hP hD hS (lv_sub hl [1, 2, 0] rfl)
set_option maxHeartbeats 4000000 in
set_option maxRecDepth 100000 in
theorem w_X4_judge_x_L7 {p : Program} {l : Launch} {e : Env} {s : State} {m : MethodId} {below : List Frame} {meth : Method} {c : Code} {G : va_G} {cA : Nat → ClassId} {A : Nat → Prop} {xa : Nat → Nat} {ka : Nat → Nat} {ra : Nat → Nat} {na : Nat → Nat} {ia : Nat → Nat} {ua : Nat → Nat} {va : Nat → Nat} {ca : Nat → Nat} {za : Nat → Nat} {pa : Nat → Nat} {qa : Nat → Nat} {X : Tr} {K : Tr} {R : Tr} {P : Tr} {L : Lo} {P2 : Tr} {L2 : Lo} {Tn : Tr} {Ti : Tr} {Tu : Tr} {Tv : Tr} {C : Tr} {q0 : Nat} {q1 : Nat} {q2 : Nat} {q3 : Nat} {q4 : Nat} {q5 : Nat} {Z' : Tr} {x1 : Int32} (F : tF p s m ([.ref (za 0)] : List Value).toArray meth c G cA A RX4 cX4_judge 3 none)    (N : Nat) : ∀ (x2 : Int32) (Z : Tr) (H : Heap) (locs : List Loc) (ls : Array Slot), lpF (fun _ _ => none) (fB_X4_judge_x_L7 pa qa x1) N x2 Z = some Z' → va_P G vwCl (wX cA xa ka ra na ia ua va ca za pa qa X K R P L P2 L2 Tn Ti Tu Tv C Z q0 q1 q2 q3 q4 q5) H → va_D A (wX cA xa ka ra na ia ua va ca za pa qa X K R P L P2 L2 Tn Ti Tu Tv C Z q0 q1 q2 q3 q4 q5) → va_S A s.heap H locs → lv_has ls 3 [(0, .ref (za 0)), (1, .int x1), (2, .int x2)] → G_X4_judge_x p l e s m below meth c G cA A xa ka ra na ia ua va ca za pa qa X K R P L P2 L2 Tn Ti Tu Tv C q0 q1 q2 q3 q4 q5 Z' H locs (F0 m 7 ls []) := by
  obtain ⟨hx, hb, hr, hml, hT, hown, hlocks, hK, hN, hA⟩ := id F
  induction N with
  | zero =>
    intro x2 Z H locs ls h
    have h : (none : Option (Tr)) = some Z' := h
    cases h
  | succ N hk7 =>
    intro x2 Z H locs ls h hP hD hS hl
    have h : fB_X4_judge_x_L7 pa qa x1 (lpF (fun _ _ => none) (fB_X4_judge_x_L7 pa qa x1) N) x2 Z = some Z' := h
    generalize hk7e : lpF (fun _ _ => none) (fB_X4_judge_x_L7 pa qa x1) N = k7 at h hk7
    unfold fB_X4_judge_x_L7 at h
    refine lv_iload_n hx hb dX4_judge_7 rfl (lv_at hl 2 rfl) ?_
    refine lv_bipush (v := 24) hx hb dX4_judge_8 (by decide) ?_
    refine lv_icmp_ge (tgt := 35) hx hb dX4_judge_10 (by decide) (fun c4 => ?_) (fun c4 => ?_)
    · have h := tx_pos c4 h
      refine lv_iload_n hx hb dX4_judge_35 rfl (lv_at hl 1 rfl) ?_
      refine lv_iconst (v := 1) hx hb dX4_judge_36 (by decide) ?_
      refine lv_isub hx hb dX4_judge_37 ?_
      refine lv_topi (fun y5 ey5 => ?_)
      have h := tx_let ey5 h
      refine lv_istore_n (lv' := [(2, .int y5), (0, .ref (za 0)), (1, .int x1)]) hx hb dX4_judge_38 rfl hl (by decide) rfl (fun ls hl => ?_)
      exact w_X4_judge_x_L39 F 2000 y5 Z H locs ls h hP hD hS (lv_sub hl [1, 0] rfl)
    · have h := tx_neg c4 h
      refine lv_aload_n hx hb dX4_judge_13 rfl (lv_at hl 0 rfl) ?_
      refine va_get (D := G) (ci := 4) (v := .ref (za 7)) (C := RX4) (T := TX4) (N := 7) hx hb hT ku_4 hown hK hP 103 rfl rfl 6 (by decide) (hT _ kw_9_5) (fun _ h9 => h9) rfl dX4_judge_14 ?_
      refine lv_iload_n hx hb dX4_judge_17 rfl (lv_at hl 2 rfl) ?_
      refine lv_iload_n hx hb dX4_judge_18 rfl (lv_at hl 2 rfl) ?_
      refine lv_iload_n hx hb dX4_judge_19 rfl (lv_at hl 1 rfl) ?_
      refine lv_icmp_ge (tgt := 27) hx hb dX4_judge_20 (by decide) (fun c15 => ?_) (fun c15 => ?_)
      · have h := tx_pos c15 h
        refine lv_iconst (v := 0) hx hb dX4_judge_27 (by decide) ?_
        exact w_X4_judge_x_J28 F k7 hk7 x2 0 x2 Z H locs ls h hP hD hS (lv_sub hl [0, 1, 2] rfl)
      · have h := tx_neg c15 h
        refine lv_iconst (v := 1) hx hb dX4_judge_23 (by decide) ?_
        refine lv_goto (tgt := 28) hx hb dX4_judge_24 (by decide) ?_
        exact w_X4_judge_x_J28 F k7 hk7 x2 1 x2 Z H locs ls h hP hD hS (lv_sub hl [0, 1, 2] rfl)
set_option maxHeartbeats 4000000 in
set_option maxRecDepth 100000 in
theorem c_X4_judge_x (l : Launch) (G : va_G) (cA : Nat → ClassId) (sz : Nat) (xa : Nat → Nat) (ka : Nat → Nat) (ra : Nat → Nat) (na : Nat → Nat) (ia : Nat → Nat) (ua : Nat → Nat) (va : Nat → Nat) (ca : Nat → Nat) (za : Nat → Nat) (pa : Nat → Nat) (qa : Nat → Nat) (X : Tr) (K : Tr) (R : Tr) (P : Tr) (L : Lo) (P2 : Tr) (L2 : Lo) (Tn : Tr) (Ti : Tr) (Tu : Tr) (Tv : Tr) (C : Tr) (Z : Tr) (q0 : Nat) (q1 : Nat) (q2 : Nat) (q3 : Nat) (q4 : Nat) (q5 : Nat)  (Z' : Tr) (h : f_X4_judge_x pa qa Z = some Z') : Met l yX4_judge (.code yX4_judge cX4_judge 3 none :: T0) ({ frames := 1, cells := 0, slots := 0, locals := 20 } : Room) (tqP G cA [.ref (za 0)] (wX cA xa ka ra na ia ua va ca za pa qa X K R P L P2 L2 Tn Ti Tu Tv C Z q0 q1 q2 q3 q4 q5) sz) (tqQv G cA (fun (_ : Unit) => True) (fun (_ : Unit) => wX cA xa ka ra na ia ua va ca za pa qa X K R P L P2 L2 Tn Ti Tu Tv C (Z') q0 q1 q2 q3 q4 q5) (va_A (wX cA xa ka ra na ia ua va ca za pa qa X K R P L P2 L2 Tn Ti Tu Tv C Z q0 q1 q2 q3 q4 q5) sz)) 0 0 (va_A (wX cA xa ka ra na ia ua va ca za pa qa X K R P L P2 L2 Tn Ti Tu Tv C Z q0 q1 q2 q3 q4 q5) sz) := by
  refine Met.ofW (cc := cX4_judge) (maxL := 3) (ret := none) (by decide) rfl ?_
  intro p e s m args below meth c s₁ B hml hv
  obtain ⟨rfl, hsz, hP, hK, hD0, hN⟩ := hv
  have hx := B.exec
  have hb := B.bytes
  have hr := B.returns
  have hts := atoms_spec (ws := .code yX4_judge cX4_judge 3 none :: T0) B.pre
  have hT : ∀ w ∈ T0, w.before _ s = true := fun w h => hts w (List.mem_cons_of_mem _ h)
  have hown : s.vm.findClass RX4 = some m.cls := findClass_of_methodNamed B.named
  have hlocks := B.notSynchronized
  subst hsz
  have hD := hD0.self (sz := s.heap.size)
  generalize hAe : va_A (wX cA xa ka ra na ia ua va ca za pa qa X K R P L P2 L2 Tn Ti Tu Tv C Z q0 q1 q2 q3 q4 q5) s.heap.size = A at hD ⊢
  have hA : ∀ q : Nat, s.heap.size ≤ q → A q := fun q h => by rw [← hAe]; exact Or.inr h
  have hS : va_S A s.heap s.heap [] := va_S.rf
  have hl := lv_entry ([.ref (za 0)]) (n := 3) (Nat.le_of_ble_eq_true rfl)
  rw [lg_entry_eq]
  generalize (lg_sl ([.ref (za 0)]) ++ List.replicate (3 - (lg_sl ([.ref (za 0)])).length) Slot.unset).toArray = ls at hl ⊢
  have hl : lv_has ls 3 [(0, .ref (za 0))] := hl
  have F : tF p s m ([.ref (za 0)] : List Value).toArray meth c G cA A RX4 cX4_judge 3 none := ⟨hx, hb, hr, hml, hT, hown, hlocks, hK, hN, hA⟩
  obtain ⟨H, hH⟩ : ∃ z, z = s.heap := ⟨_, rfl⟩
  rw [← hH] at hP
  have hS : va_S A s.heap H [] := by rw [hH]; exact hS
  suffices hgo : G_X4_judge_x p l e s m below meth c G cA A xa ka ra na ia ua va ca za pa qa X K R P L P2 L2 Tn Ti Tu Tv C q0 q1 q2 q3 q4 q5 Z' H [] (F0 m 0 ls []) by rw [hH] at hgo; exact hgo
  generalize ([] : List Loc) = locs at hS ⊢
  unfold f_X4_judge_x at h
  refine lv_aload_n hx hb dX4_judge_0 rfl (lv_at hl 0 rfl) ?_
  obtain ⟨r1, hc2, h⟩ := tx_bd h
  refine tw_ci tw_all hP hD hS hA (va_runV (As := []) (rest := []) ⟨hx, hb, hml, hown, hT⟩ (c_X4_regarded_x l G cA H.size xa ka ra na ia ua va ca za pa qa X K R P L P2 L2 Tn Ti Tu Tv C Z q0 q1 q2 q3 q4 q5  r1 hc2) (cwV 0 hT (tq_gV kw_55_15 kw_55_16 kw_55_17 kw_2_11 kw_55_18) rfl rfl rfl (by decide +kernel) ⟨Nat.le_of_ble_eq_true rfl, Nat.le_of_ble_eq_true rfl⟩) ⟨(tw_pre tw_all hP hD hK hN).1, va_recv hK hP (ci := 4) (q0 := 103) rfl rfl, (tw_pre tw_all hP hD hK hN).2⟩ rfl rfl hl.1 rfl (lv_room (Nat.le_of_ble_eq_true rfl)) dX4_judge_1 ⟨Nat.le_of_ble_eq_true rfl, Nat.le_of_ble_eq_true rfl⟩) (fun _ _ H locs z3 hP hD hS => ?_)
  subst z3
  rw [List.append_nil] at hP hD
  have hP : va_P G vwCl (wX cA xa ka ra na ia ua va ca za pa qa X K R P L P2 L2 Tn Ti Tu Tv C Z q0 q1 q2 q3 q4 q5) H := hP
  have hD : va_D A (wX cA xa ka ra na ia ua va ca za pa qa X K R P L P2 L2 Tn Ti Tu Tv C Z q0 q1 q2 q3 q4 q5) := hD
  refine lv_istore_n (lv' := [(1, .int r1), (0, .ref (za 0))]) hx hb dX4_judge_4 rfl hl (by decide) rfl (fun ls hl => ?_)
  refine lv_iconst (v := 0) hx hb dX4_judge_5 (by decide) ?_
  refine lv_istore_n (lv' := [(2, .int 0), (1, .int r1), (0, .ref (za 0))]) hx hb dX4_judge_6 rfl hl (by decide) rfl (fun ls hl => ?_)
  exact w_X4_judge_x_L7 F 2000 0 Z H locs ls h hP hD hS (lv_sub hl [2, 1, 0] rfl)
abbrev G_X7_got (p : Program) (l : Launch) (e : Env) (s : State) (m : MethodId) (below : List Frame) (meth : Method) (c : Code) (G : va_G) (cA : Nat → ClassId) (A : Nat → Prop) (xa : Nat → Nat) (ka : Nat → Nat) (ra : Nat → Nat) (na : Nat → Nat) (ia : Nat → Nat) (ua : Nat → Nat) (va : Nat → Nat) (ca : Nat → Nat) (za : Nat → Nat) (pa : Nat → Nat) (qa : Nat → Nat) (X : Tr) (K : Tr) (R : Tr) (P : Tr) (P2 : Tr) (L2 : Lo) (Tn : Tr) (Ti : Tr) (Tv : Tr) (C : Tr) (q0 : Nat) (q1 : Nat) (q3 : Nat) (q4 : Nat) (q5 : Nat) (x1 : Int32) (r0 : Int32) (L' : Lo) (Tu' : Tr) (Z' : Tr) (q2' : Nat) (H : Heap) (locs : List Loc) (g : JFrame) : Prop := W p l e (headSpec (.code yX7_got cX7_got 4 (some .int) :: T0) ({ frames := 7, cells := 0, slots := 0, locals := 167 } : Room)).room s m ([.ref (xa 0), .int x1] : List Value).toArray below meth c H locs 0 0 (MQ below (tqQi G cA (fun (r : Int32) (_ : Unit) => r = r0) (fun (_ : Unit) => wX cA xa ka ra na ia ua va ca za pa qa X K R P (L') P2 L2 Tn Ti (Tu') Tv C (Z') q0 q1 (q2') q3 q4 q5) A) ([.ref (xa 0), .int x1] : List Value).toArray s 0 0 A) g
set_option maxHeartbeats 4000000 in
set_option maxRecDepth 100000 in
theorem w_X7_got_L21 {p : Program} {l : Launch} {e : Env} {s : State} {m : MethodId} {below : List Frame} {meth : Method} {c : Code} {G : va_G} {cA : Nat → ClassId} {A : Nat → Prop} {xa : Nat → Nat} {ka : Nat → Nat} {ra : Nat → Nat} {na : Nat → Nat} {ia : Nat → Nat} {ua : Nat → Nat} {va : Nat → Nat} {ca : Nat → Nat} {za : Nat → Nat} {pa : Nat → Nat} {qa : Nat → Nat} {X : Tr} {K : Tr} {R : Tr} {P : Tr} {P2 : Tr} {L2 : Lo} {Tn : Tr} {Ti : Tr} {Tv : Tr} {C : Tr} {q0 : Nat} {q1 : Nat} {q3 : Nat} {q4 : Nat} {q5 : Nat} {x1₀ : Int32} {r0 : Int32} {L' : Lo} {Tu' : Tr} {Z' : Tr} {q2' : Nat} {Z : Tr} {x1 : Int32} (F : tF p s m ([.ref (xa 0), .int x1₀] : List Value).toArray meth c G cA A RX7 cX7_got 4 (some .int))    (N : Nat) : ∀ (x2 : Int32) (x3 : Int32) (L : Lo) (Tu : Tr) (q2 : Nat) (H : Heap) (locs : List Loc) (ls : Array Slot), lpF (fun _ _ _ _ _ => none) (fB_X7_got_L21 pa qa P Z q4 x1) N x2 x3 L Tu q2 = some (r0, L', Tu', Z', q2') → va_P G vwCl (wX cA xa ka ra na ia ua va ca za pa qa X K R P L P2 L2 Tn Ti Tu Tv C Z q0 q1 q2 q3 (pa 0) q5) H → va_D A (wX cA xa ka ra na ia ua va ca za pa qa X K R P L P2 L2 Tn Ti Tu Tv C Z q0 q1 q2 q3 (pa 0) q5) → va_S A s.heap H locs → lv_has ls 4 [(0, .ref (xa 0)), (1, .int x1), (2, .int x2), (3, .int x3)] → G_X7_got p l e s m below meth c G cA A xa ka ra na ia ua va ca za pa qa X K R P P2 L2 Tn Ti Tv C q0 q1 q3 q4 q5 x1₀ r0 L' Tu' Z' q2' H locs (F0 m 21 ls []) := by
  obtain ⟨hx, hb, hr, hml, hT, hown, hlocks, hK, hN, hA⟩ := id F
  induction N with
  | zero =>
    intro x2 x3 L Tu q2 H locs ls h
    have h : (none : Option (Int32 × Lo × Tr × Tr × Nat)) = some (r0, L', Tu', Z', q2') := h
    cases h
  | succ N hk21 =>
    intro x2 x3 L Tu q2 H locs ls h hP hD hS hl
    have h : fB_X7_got_L21 pa qa P Z q4 x1 (lpF (fun _ _ _ _ _ => none) (fB_X7_got_L21 pa qa P Z q4 x1) N) x2 x3 L Tu q2 = some (r0, L', Tu', Z', q2') := h
    generalize hk21e : lpF (fun _ _ _ _ _ => none) (fB_X7_got_L21 pa qa P Z q4 x1) N = k21 at h hk21
    unfold fB_X7_got_L21 at h
    refine lv_iload_n hx hb dX7_got_21 rfl (lv_at hl 3 rfl) ?_
    refine lv_aload_n hx hb dX7_got_22 rfl (lv_at hl 0 rfl) ?_
    refine va_get (D := G) (ci := 7) (v := .ref q4) (C := RX7) (T := TX7) (N := 12) hx hb hT ku_7 hown hK hP 0 rfl rfl 1 (by decide) (hT _ kw_1_20) (fun _ h9 => h9) rfl dX7_got_23 ?_
    obtain ⟨g8, h⟩ := tx_ck h
    have eg8 := of_decide_eq_true g8
    subst eg8
    refine va_get (D := G) (ci := 2) (v := .ref (pa 12)) (C := RX2) (T := TX2) (N := 19) hx hb hT ku_2 hown hK hP 9 rfl rfl 11 (by decide) (hT _ kw_28_23) (fun _ h9 => h9) rfl dX7_got_26 ?_
    refine lv_iload_n hx hb dX7_got_29 rfl (lv_at hl 1 rfl) ?_
    obtain ⟨g9, h⟩ := tx_ck h
    refine va_iald (i := x1) hx hb hK hP 14 0 rfl rfl (tx_in g9) dX7_got_30 ?_
    refine lv_icmp_ge (tgt := 55) hx hb dX7_got_31 (by decide) (fun c10 => ?_) (fun c10 => ?_)
    · have h := tx_pos c10 h
      refine lv_iload_n hx hb dX7_got_55 rfl (lv_at hl 2 rfl) ?_
      obtain ⟨rfl, rfl, rfl, rfl, rfl⟩ := tx_5 h
      exact W.iret hx hb hr (fun t ht hW => ⟨⟨_, (), rfl, rfl, by rw [ht]; exact hP, hD⟩, hS.F ht⟩) hS.2.2 dX7_got_56
    · have h := tx_neg c10 h
      refine lv_aload_n hx hb dX7_got_34 rfl (lv_at hl 0 rfl) ?_
      refine lv_iload_n hx hb dX7_got_35 rfl (lv_at hl 1 rfl) ?_
      refine lv_iload_n hx hb dX7_got_36 rfl (lv_at hl 3 rfl) ?_
      obtain ⟨⟨r11, L_12, Tu_13, q2_14⟩, hc15, h⟩ := tx_bd h
      replace h := tx_let (y := r11) rfl h
      replace h := tx_let (y := L_12) rfl h
      replace h := tx_let (y := Tu_13) rfl h
      replace h := tx_let (y := q2_14) rfl h
      refine tw_ci tw_all hP hD hS hA (va_runV (As := [.int x1, .int x3]) (rest := []) ⟨hx, hb, hml, hown, hT⟩ (c_X7_agreesIfIn l G cA H.size xa ka ra na ia ua va ca za pa qa X K R P L P2 L2 Tn Ti Tu Tv C Z q0 q1 q2 q3 (pa 0) q5 x1 x3  r11 L_12 Tu_13 q2_14 hc15) (cwV 2 hT (tq_gV kw_55_19 kw_55_20 kw_55_21 kw_1_2 kw_55_22) rfl rfl rfl (by decide +kernel) ⟨Nat.le_of_ble_eq_true rfl, Nat.le_of_ble_eq_true rfl⟩) ⟨(tw_pre tw_all hP hD hK hN).1, va_recv hK hP (ci := 7) (q0 := 0) rfl rfl, (tw_pre tw_all hP hD hK hN).2⟩ rfl rfl hl.1 rfl (lv_room (Nat.le_of_ble_eq_true rfl)) dX7_got_37 ⟨Nat.le_of_ble_eq_true rfl, Nat.le_of_ble_eq_true rfl⟩) (fun _ _ H locs z16 hP hD hS => ?_)
      subst z16
      rw [List.append_nil] at hP hD
      have hP : va_P G vwCl (wX cA xa ka ra na ia ua va ca za pa qa X K R P L_12 P2 L2 Tn Ti Tu_13 Tv C Z q0 q1 q2_14 q3 (pa 0) q5) H := hP
      have hD : va_D A (wX cA xa ka ra na ia ua va ca za pa qa X K R P L_12 P2 L2 Tn Ti Tu_13 Tv C Z q0 q1 q2_14 q3 (pa 0) q5) := hD
      refine lv_if_eq (tgt := 49) hx hb dX7_got_40 (by decide) (fun c17 => ?_) (fun c17 => ?_)
      · have h := tx_pos c17 h
        obtain ⟨y18, ey18, h⟩ := tx_lt h
        refine lv_iinc (v := y18) (lv' := [(3, .int y18), (0, .ref (xa 0)), (1, .int x1), (2, .int x2)]) hx hb dX7_got_49 hl (k := 3) rfl ey18 (by decide) rfl (fun ls hl => ?_)
        refine lv_goto (tgt := 21) hx hb dX7_got_52 (by decide) ?_
        exact hk21 x2 y18 L_12 Tu_13 q2_14 H locs ls h hP hD hS (lv_sub hl [1, 2, 3, 0] rfl)
      · have h := tx_neg c17 h
        refine lv_iload_n hx hb dX7_got_43 rfl (lv_at hl 2 rfl) ?_
        refine lv_iconst (v := 1) hx hb dX7_got_44 (by decide) ?_
        refine lv_iload_n hx hb dX7_got_45 rfl (lv_at hl 3 rfl) ?_
        refine lv_ishl hx hb dX7_got_46 ?_
        refine lv_ior hx hb dX7_got_47 ?_
        refine lv_topi (fun y19 ey19 => ?_)
        have h := tx_let ey19 h
        refine lv_istore_n (lv' := [(2, .int y19), (0, .ref (xa 0)), (1, .int x1), (3, .int x3)]) hx hb dX7_got_48 rfl hl (by decide) rfl (fun ls hl => ?_)
        obtain ⟨y20, ey20, h⟩ := tx_lt h
        refine lv_iinc (v := y20) (lv' := [(3, .int y20), (2, .int y19), (0, .ref (xa 0)), (1, .int x1)]) hx hb dX7_got_49 hl (k := 3) rfl ey20 (by decide) rfl (fun ls hl => ?_)
        refine lv_goto (tgt := 21) hx hb dX7_got_52 (by decide) ?_
        exact hk21 y19 y20 L_12 Tu_13 q2_14 H locs ls h hP hD hS (lv_sub hl [2, 3, 1, 0] rfl)
set_option maxHeartbeats 4000000 in
set_option maxRecDepth 100000 in
theorem c_X7_got (l : Launch) (G : va_G) (cA : Nat → ClassId) (sz : Nat) (xa : Nat → Nat) (ka : Nat → Nat) (ra : Nat → Nat) (na : Nat → Nat) (ia : Nat → Nat) (ua : Nat → Nat) (va : Nat → Nat) (ca : Nat → Nat) (za : Nat → Nat) (pa : Nat → Nat) (qa : Nat → Nat) (X : Tr) (K : Tr) (R : Tr) (P : Tr) (L : Lo) (P2 : Tr) (L2 : Lo) (Tn : Tr) (Ti : Tr) (Tu : Tr) (Tv : Tr) (C : Tr) (Z : Tr) (q0 : Nat) (q1 : Nat) (q2 : Nat) (q3 : Nat) (q4 : Nat) (q5 : Nat) (x1 : Int32)  (r0 : Int32) (L' : Lo) (Tu' : Tr) (Z' : Tr) (q2' : Nat) (h : f_X7_got pa qa P L Tu Z q2 q4 x1 = some (r0, L', Tu', Z', q2')) : Met l yX7_got (.code yX7_got cX7_got 4 (some .int) :: T0) ({ frames := 7, cells := 0, slots := 0, locals := 167 } : Room) (tqP G cA [.ref (xa 0), .int x1] (wX cA xa ka ra na ia ua va ca za pa qa X K R P L P2 L2 Tn Ti Tu Tv C Z q0 q1 q2 q3 q4 q5) sz) (tqQi G cA (fun (r : Int32) (_ : Unit) => r = r0) (fun (_ : Unit) => wX cA xa ka ra na ia ua va ca za pa qa X K R P (L') P2 L2 Tn Ti (Tu') Tv C (Z') q0 q1 (q2') q3 q4 q5) (va_A (wX cA xa ka ra na ia ua va ca za pa qa X K R P L P2 L2 Tn Ti Tu Tv C Z q0 q1 q2 q3 q4 q5) sz)) 0 0 (va_A (wX cA xa ka ra na ia ua va ca za pa qa X K R P L P2 L2 Tn Ti Tu Tv C Z q0 q1 q2 q3 q4 q5) sz) := by
  refine Met.ofW (cc := cX7_got) (maxL := 4) (ret := (some .int)) (by decide) rfl ?_
  intro p e s m args below meth c s₁ B hml hv
  obtain ⟨rfl, hsz, hP, hK, hD0, hN⟩ := hv
  have hx := B.exec
  have hb := B.bytes
  have hr := B.returns
  have hts := atoms_spec (ws := .code yX7_got cX7_got 4 (some .int) :: T0) B.pre
  have hT : ∀ w ∈ T0, w.before _ s = true := fun w h => hts w (List.mem_cons_of_mem _ h)
  have hown : s.vm.findClass RX7 = some m.cls := findClass_of_methodNamed B.named
  have hlocks := B.notSynchronized
  subst hsz
  have hD := hD0.self (sz := s.heap.size)
  generalize hAe : va_A (wX cA xa ka ra na ia ua va ca za pa qa X K R P L P2 L2 Tn Ti Tu Tv C Z q0 q1 q2 q3 q4 q5) s.heap.size = A at hD ⊢
  have hA : ∀ q : Nat, s.heap.size ≤ q → A q := fun q h => by rw [← hAe]; exact Or.inr h
  have hS : va_S A s.heap s.heap [] := va_S.rf
  have hl := lv_entry ([.ref (xa 0), .int x1]) (n := 4) (Nat.le_of_ble_eq_true rfl)
  rw [lg_entry_eq]
  generalize (lg_sl ([.ref (xa 0), .int x1]) ++ List.replicate (4 - (lg_sl ([.ref (xa 0), .int x1])).length) Slot.unset).toArray = ls at hl ⊢
  have hl : lv_has ls 4 [(0, .ref (xa 0)), (1, .int x1)] := hl
  have F : tF p s m ([.ref (xa 0), .int x1] : List Value).toArray meth c G cA A RX7 cX7_got 4 (some .int) := ⟨hx, hb, hr, hml, hT, hown, hlocks, hK, hN, hA⟩
  obtain ⟨H, hH⟩ : ∃ z, z = s.heap := ⟨_, rfl⟩
  rw [← hH] at hP
  have hS : va_S A s.heap H [] := by rw [hH]; exact hS
  suffices hgo : G_X7_got p l e s m below meth c G cA A xa ka ra na ia ua va ca za pa qa X K R P P2 L2 Tn Ti Tv C q0 q1 q3 q4 q5 x1 r0 L' Tu' Z' q2' H [] (F0 m 0 ls []) by rw [hH] at hgo; exact hgo
  generalize ([] : List Loc) = locs at hS ⊢
  unfold f_X7_got at h
  refine lv_aload_n hx hb dX7_got_0 rfl (lv_at hl 0 rfl) ?_
  refine lv_iload_n hx hb dX7_got_1 rfl (lv_at hl 1 rfl) ?_
  obtain ⟨r1, hc2, h⟩ := tx_bd h
  refine tw_ci tw_all hP hD hS hA (va_runV (As := [.int x1]) (rest := []) ⟨hx, hb, hml, hown, hT⟩ (c_X7_isPerson l G cA H.size xa ka ra na ia ua va ca za pa qa X K R P L P2 L2 Tn Ti Tu Tv C Z q0 q1 q2 q3 q4 q5 x1  r1 hc2) (cwV 1 hT (tq_gV kw_29_3 kw_29_4 kw_29_5 kw_1_2 kw_29_6) rfl rfl rfl (by decide +kernel) ⟨Nat.le_of_ble_eq_true rfl, Nat.le_of_ble_eq_true rfl⟩) ⟨(tw_pre tw_all hP hD hK hN).1, va_recv hK hP (ci := 7) (q0 := 0) rfl rfl, (tw_pre tw_all hP hD hK hN).2⟩ rfl rfl hl.1 rfl (lv_room (Nat.le_of_ble_eq_true rfl)) dX7_got_2 ⟨Nat.le_of_ble_eq_true rfl, Nat.le_of_ble_eq_true rfl⟩) (fun _ _ H locs z3 hP hD hS => ?_)
  subst z3
  rw [List.append_nil] at hP hD
  have hP : va_P G vwCl (wX cA xa ka ra na ia ua va ca za pa qa X K R P L P2 L2 Tn Ti Tu Tv C Z q0 q1 q2 q3 q4 q5) H := hP
  have hD : va_D A (wX cA xa ka ra na ia ua va ca za pa qa X K R P L P2 L2 Tn Ti Tu Tv C Z q0 q1 q2 q3 q4 q5) := hD
  refine lv_if_ne (tgt := 10) hx hb dX7_got_5 (by decide) (fun c4 => ?_) (fun c4 => ?_)
  · have h := tx_neg c4 h
    refine lv_aload_n hx hb dX7_got_10 rfl (lv_at hl 0 rfl) ?_
    refine va_get (D := G) (ci := 7) (v := .ref (za 0)) (C := RX7) (T := TX7) (N := 12) hx hb hT ku_7 hown hK hP 0 rfl rfl 8 (by decide) (hT _ kw_2_12) (fun _ h9 => h9) rfl dX7_got_11 ?_
    obtain ⟨Z_5, hc6, h⟩ := tx_bd h
    refine tw_cv tw_all hP hD hS hA (va_runV (As := []) (rest := []) ⟨hx, hb, hml, hown, hT⟩ (c_X4_judge_x l G cA H.size xa ka ra na ia ua va ca za pa qa X K R P L P2 L2 Tn Ti Tu Tv C Z q0 q1 q2 q3 q4 q5  Z_5 hc6) (cwV 0 hT (tq_gV kw_55_11 kw_55_12 kw_55_13 kw_2_11 kw_55_14) rfl rfl rfl (by decide +kernel) ⟨Nat.le_of_ble_eq_true rfl, Nat.le_of_ble_eq_true rfl⟩) ⟨(tw_pre tw_all hP hD hK hN).1, va_recv hK hP (ci := 4) (q0 := 103) rfl rfl, (tw_pre tw_all hP hD hK hN).2⟩ rfl rfl hl.1 rfl (lv_room (Nat.le_of_ble_eq_true rfl)) dX7_got_14 ⟨Nat.le_of_ble_eq_true rfl, Nat.le_of_ble_eq_true rfl⟩) (fun _ H locs z7 hP hD hS => ?_)
    rw [List.append_nil] at hP hD
    have hP : va_P G vwCl (wX cA xa ka ra na ia ua va ca za pa qa X K R P L P2 L2 Tn Ti Tu Tv C Z_5 q0 q1 q2 q3 q4 q5) H := hP
    have hD : va_D A (wX cA xa ka ra na ia ua va ca za pa qa X K R P L P2 L2 Tn Ti Tu Tv C Z_5 q0 q1 q2 q3 q4 q5) := hD
    refine lv_iconst (v := 0) hx hb dX7_got_17 (by decide) ?_
    refine lv_istore_n (lv' := [(2, .int 0), (0, .ref (xa 0)), (1, .int x1)]) hx hb dX7_got_18 rfl hl (by decide) rfl (fun ls hl => ?_)
    refine lv_iconst (v := 0) hx hb dX7_got_19 (by decide) ?_
    refine lv_istore_n (lv' := [(3, .int 0), (2, .int 0), (0, .ref (xa 0)), (1, .int x1)]) hx hb dX7_got_20 rfl hl (by decide) rfl (fun ls hl => ?_)
    exact w_X7_got_L21 F 2000 0 0 L Tu q2 H locs ls h hP hD hS (lv_sub hl [2, 3, 1, 0] rfl)
  · have h := tx_pos c4 h
    refine lv_iconst (v := (-1)) hx hb dX7_got_8 (by decide) ?_
    obtain ⟨rfl, rfl, rfl, rfl, rfl⟩ := tx_5 h
    exact W.iret hx hb hr (fun t ht hW => ⟨⟨_, (), rfl, rfl, by rw [ht]; exact hP, hD⟩, hS.F ht⟩) hS.2.2 dX7_got_9
abbrev G_X0_saveRow_x_na16 (p : Program) (l : Launch) (e : Env) (s : State) (m : MethodId) (below : List Frame) (meth : Method) (c : Code) (G : va_G) (cA : Nat → ClassId) (A : Nat → Prop) (xa : Nat → Nat) (ka : Nat → Nat) (ra : Nat → Nat) (na : Nat → Nat) (ia : Nat → Nat) (ua : Nat → Nat) (va : Nat → Nat) (ca : Nat → Nat) (za : Nat → Nat) (pa : Nat → Nat) (qa : Nat → Nat) (X : Tr) (K : Tr) (R : Tr) (P : Tr) (L : Lo) (P2 : Tr) (L2 : Lo) (Tn : Tr) (Ti : Tr) (Tu : Tr) (Tv : Tr) (Z : Tr) (q0 : Nat) (q1 : Nat) (q2 : Nat) (q3 : Nat) (q4 : Nat) (q5 : Nat) (x2 : Int32) (r0 : Int32) (C' : Tr) (H : Heap) (locs : List Loc) (g : JFrame) : Prop := W p l e (headSpec (.code yX0_saveRow cX0_saveRow 3 (some .int) :: T0) ({ frames := 1, cells := 0, slots := 0, locals := 40 } : Room)).room s m ([.ref (ca 0), .ref (na 16), .int x2] : List Value).toArray below meth c H locs 0 0 (MQ below (tqQi G cA (fun (r : Int32) (_ : Unit) => r = r0) (fun (_ : Unit) => wX cA xa ka ra na ia ua va ca za pa qa X K R P L P2 L2 Tn Ti Tu Tv (C') Z q0 q1 q2 q3 q4 q5) A) ([.ref (ca 0), .ref (na 16), .int x2] : List Value).toArray s 0 0 A) g
set_option maxHeartbeats 4000000 in
set_option maxRecDepth 100000 in
theorem c_X0_saveRow_x_na16 (l : Launch) (G : va_G) (cA : Nat → ClassId) (sz : Nat) (xa : Nat → Nat) (ka : Nat → Nat) (ra : Nat → Nat) (na : Nat → Nat) (ia : Nat → Nat) (ua : Nat → Nat) (va : Nat → Nat) (ca : Nat → Nat) (za : Nat → Nat) (pa : Nat → Nat) (qa : Nat → Nat) (X : Tr) (K : Tr) (R : Tr) (P : Tr) (L : Lo) (P2 : Tr) (L2 : Lo) (Tn : Tr) (Ti : Tr) (Tu : Tr) (Tv : Tr) (C : Tr) (Z : Tr) (q0 : Nat) (q1 : Nat) (q2 : Nat) (q3 : Nat) (q4 : Nat) (q5 : Nat) (x2 : Int32)  (r0 : Int32) (C' : Tr) (h : f_X0_saveRow_x_na16 pa qa Tn C x2 = some (r0, C')) : Met l yX0_saveRow (.code yX0_saveRow cX0_saveRow 3 (some .int) :: T0) ({ frames := 1, cells := 0, slots := 0, locals := 40 } : Room) (tqP G cA [.ref (ca 0), .ref (na 16), .int x2] (wX cA xa ka ra na ia ua va ca za pa qa X K R P L P2 L2 Tn Ti Tu Tv C Z q0 q1 q2 q3 q4 q5) sz) (tqQi G cA (fun (r : Int32) (_ : Unit) => r = r0) (fun (_ : Unit) => wX cA xa ka ra na ia ua va ca za pa qa X K R P L P2 L2 Tn Ti Tu Tv (C') Z q0 q1 q2 q3 q4 q5) (va_A (wX cA xa ka ra na ia ua va ca za pa qa X K R P L P2 L2 Tn Ti Tu Tv C Z q0 q1 q2 q3 q4 q5) sz)) 0 0 (va_A (wX cA xa ka ra na ia ua va ca za pa qa X K R P L P2 L2 Tn Ti Tu Tv C Z q0 q1 q2 q3 q4 q5) sz) := by
  refine Met.ofW (cc := cX0_saveRow) (maxL := 3) (ret := (some .int)) (by decide) rfl ?_
  intro p e s m args below meth c s₁ B hml hv
  obtain ⟨rfl, hsz, hP, hK, hD0, hN⟩ := hv
  have hx := B.exec
  have hb := B.bytes
  have hr := B.returns
  have hts := atoms_spec (ws := .code yX0_saveRow cX0_saveRow 3 (some .int) :: T0) B.pre
  have hT : ∀ w ∈ T0, w.before _ s = true := fun w h => hts w (List.mem_cons_of_mem _ h)
  have hown : s.vm.findClass RX0 = some m.cls := findClass_of_methodNamed B.named
  have hlocks := B.notSynchronized
  subst hsz
  have hD := hD0.self (sz := s.heap.size)
  generalize hAe : va_A (wX cA xa ka ra na ia ua va ca za pa qa X K R P L P2 L2 Tn Ti Tu Tv C Z q0 q1 q2 q3 q4 q5) s.heap.size = A at hD ⊢
  have hA : ∀ q : Nat, s.heap.size ≤ q → A q := fun q h => by rw [← hAe]; exact Or.inr h
  have hS : va_S A s.heap s.heap [] := va_S.rf
  have hl := lv_entry ([.ref (ca 0), .ref (na 16), .int x2]) (n := 3) (Nat.le_of_ble_eq_true rfl)
  rw [lg_entry_eq]
  generalize (lg_sl ([.ref (ca 0), .ref (na 16), .int x2]) ++ List.replicate (3 - (lg_sl ([.ref (ca 0), .ref (na 16), .int x2])).length) Slot.unset).toArray = ls at hl ⊢
  have hl : lv_has ls 3 [(0, .ref (ca 0)), (1, .ref (na 16)), (2, .int x2)] := hl
  have F : tF p s m ([.ref (ca 0), .ref (na 16), .int x2] : List Value).toArray meth c G cA A RX0 cX0_saveRow 3 (some .int) := ⟨hx, hb, hr, hml, hT, hown, hlocks, hK, hN, hA⟩
  obtain ⟨H, hH⟩ : ∃ z, z = s.heap := ⟨_, rfl⟩
  rw [← hH] at hP
  have hS : va_S A s.heap H [] := by rw [hH]; exact hS
  suffices hgo : G_X0_saveRow_x_na16 p l e s m below meth c G cA A xa ka ra na ia ua va ca za pa qa X K R P L P2 L2 Tn Ti Tu Tv Z q0 q1 q2 q3 q4 q5 x2 r0 C' H [] (F0 m 0 ls []) by rw [hH] at hgo; exact hgo
  generalize ([] : List Loc) = locs at hS ⊢
  unfold f_X0_saveRow_x_na16 at h
  refine lv_aload_n hx hb dX0_saveRow_0 rfl (lv_at hl 1 rfl) ?_
  refine lv_iconst (v := 0) hx hb dX0_saveRow_1 (by decide) ?_
  refine lv_aload_n hx hb dX0_saveRow_2 rfl (lv_at hl 0 rfl) ?_
  refine va_get (D := G) (ci := 0) (v := .ref (ca 3)) (C := RX0) (T := TX0) (N := 3) hx hb hT ku_0 hown hK hP 101 rfl rfl 2 (by decide) (hT _ kw_8_18) (fun _ h9 => h9) rfl dX0_saveRow_3 ?_
  refine lv_iload_n hx hb dX0_saveRow_6 rfl (lv_at hl 2 rfl) ?_
  refine lv_aload_n hx hb dX0_saveRow_7 rfl (lv_at hl 1 rfl) ?_
  refine va_alen (v := 50) hx hb hK hP 61 0 rfl rfl (by decide) dX0_saveRow_8 ?_
  obtain ⟨g1, h⟩ := tx_ck h
  refine va_copyi (ty := .int) (sp := 0) (dp := x2) (n := 50) hx hb (hml.trans hl.1.symm) hown (hT _ kw_36_14) (hT _ kw_36_15) (hT _ kw_36_16) (hT _ kw_36_17) hK hP hD hS 61 102 0 0 rfl rfl rfl rfl rfl (tx_cp g1).1 (tx_cp g1).2.1 (tx_cp g1).2.2.1 (tx_cp g1).2.2.2.1 (tx_cp g1).2.2.2.2 (fun _ _ => rfl) (Nat.le_of_ble_eq_true rfl) (by decide) dX0_saveRow_9 (fun H locs hP hD hS => ?_)
  try rw [show (0 : Int32).toNatClampNeg = 0 from rfl] at hP hD
  try rw [show (50 : Int32).toNatClampNeg = 50 from rfl] at hP hD
  obtain ⟨C_2, eC_2, h⟩ := tx_lt h
  rw [sX_ca_c2, eC_2] at hP hD
  refine lv_iload_n hx hb dX0_saveRow_12 rfl (lv_at hl 2 rfl) ?_
  refine lv_aload_n hx hb dX0_saveRow_13 rfl (lv_at hl 1 rfl) ?_
  refine va_alen (v := 50) hx hb hK hP 61 0 rfl rfl (by decide) dX0_saveRow_14 ?_
  refine lv_iadd hx hb dX0_saveRow_15 ?_
  obtain ⟨rfl, rfl⟩ := tx_2 h
  exact W.iret hx hb hr (fun t ht hW => ⟨⟨_, (), rfl, rfl, by rw [ht]; exact hP, hD⟩, hS.F ht⟩) hS.2.2 dX0_saveRow_16
