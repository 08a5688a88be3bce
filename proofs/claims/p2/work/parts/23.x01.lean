abbrev G_X7_comesNow (p : Program) (l : Launch) (e : Env) (s : State) (m : MethodId) (below : List Frame) (meth : Method) (c : Code) (G : va_G) (cA : Nat → ClassId) (A : Nat → Prop) (xa : Nat → Nat) (ka : Nat → Nat) (ra : Nat → Nat) (na : Nat → Nat) (ia : Nat → Nat) (ua : Nat → Nat) (va : Nat → Nat) (ca : Nat → Nat) (za : Nat → Nat) (pa : Nat → Nat) (qa : Nat → Nat) (X : Tr) (K : Tr) (R : Tr) (P : Tr) (L : Lo) (P2 : Tr) (L2 : Lo) (Tn : Tr) (Ti : Tr) (Tu : Tr) (Tv : Tr) (C : Tr) (Z : Tr) (q0 : Nat) (q1 : Nat) (q2 : Nat) (q3 : Nat) (q4 : Nat) (q5 : Nat) (x1 : Int32) (r0 : Int32) (H : Heap) (locs : List Loc) (g : JFrame) : Prop := W p l e (headSpec (.code yX7_comesNow cX7_comesNow 2 (some .boolean) :: T0) ({ frames := 1, cells := 0, slots := 0, locals := 21 } : Room)).room s m ([.ref (xa 0), .int x1] : List Value).toArray below meth c H locs 0 0 (MQ below (tqQi G cA (fun (r : Int32) (_ : Unit) => r = r0) (fun (_ : Unit) => wX cA xa ka ra na ia ua va ca za pa qa X K R P L P2 L2 Tn Ti Tu Tv C Z q0 q1 q2 q3 q4 q5) A) ([.ref (xa 0), .int x1] : List Value).toArray s 0 0 A) g
set_option maxHeartbeats 4000000 in
set_option maxRecDepth 100000 in
theorem c_X7_comesNow (l : Launch) (G : va_G) (cA : Nat → ClassId) (sz : Nat) (xa : Nat → Nat) (ka : Nat → Nat) (ra : Nat → Nat) (na : Nat → Nat) (ia : Nat → Nat) (ua : Nat → Nat) (va : Nat → Nat) (ca : Nat → Nat) (za : Nat → Nat) (pa : Nat → Nat) (qa : Nat → Nat) (X : Tr) (K : Tr) (R : Tr) (P : Tr) (L : Lo) (P2 : Tr) (L2 : Lo) (Tn : Tr) (Ti : Tr) (Tu : Tr) (Tv : Tr) (C : Tr) (Z : Tr) (q0 : Nat) (q1 : Nat) (q2 : Nat) (q3 : Nat) (q4 : Nat) (q5 : Nat) (x1 : Int32)  (r0 : Int32) (h : f_X7_comesNow pa qa P Tn q4 x1 = some r0) : Met l yX7_comesNow (.code yX7_comesNow cX7_comesNow 2 (some .boolean) :: T0) ({ frames := 1, cells := 0, slots := 0, locals := 21 } : Room) (tqP G cA [.ref (xa 0), .int x1] (wX cA xa ka ra na ia ua va ca za pa qa X K R P L P2 L2 Tn Ti Tu Tv C Z q0 q1 q2 q3 q4 q5) sz) (tqQi G cA (fun (r : Int32) (_ : Unit) => r = r0) (fun (_ : Unit) => wX cA xa ka ra na ia ua va ca za pa qa X K R P L P2 L2 Tn Ti Tu Tv C Z q0 q1 q2 q3 q4 q5) (va_A (wX cA xa ka ra na ia ua va ca za pa qa X K R P L P2 L2 Tn Ti Tu Tv C Z q0 q1 q2 q3 q4 q5) sz)) 0 0 (va_A (wX cA xa ka ra na ia ua va ca za pa qa X K R P L P2 L2 Tn Ti Tu Tv C Z q0 q1 q2 q3 q4 q5) sz) := by
  refine Met.ofW (cc := cX7_comesNow) (maxL := 2) (ret := (some .boolean)) (by decide) rfl ?_
  intro p e s m args below meth c s₁ B hml hv
  obtain ⟨rfl, hsz, hP, hK, hD0, hN⟩ := hv
  have hx := B.exec
  have hb := B.bytes
  have hr := B.returns
  have hts := atoms_spec (ws := .code yX7_comesNow cX7_comesNow 2 (some .boolean) :: T0) B.pre
  have hT : ∀ w ∈ T0, w.before _ s = true := fun w h => hts w (List.mem_cons_of_mem _ h)
  have hown : s.vm.findClass RX7 = some m.cls := findClass_of_methodNamed B.named
  have hlocks := B.notSynchronized
  subst hsz
  have hD := hD0.self (sz := s.heap.size)
  generalize hAe : va_A (wX cA xa ka ra na ia ua va ca za pa qa X K R P L P2 L2 Tn Ti Tu Tv C Z q0 q1 q2 q3 q4 q5) s.heap.size = A at hD ⊢
  have hA : ∀ q : Nat, s.heap.size ≤ q → A q := fun q h => by rw [← hAe]; exact Or.inr h
  have hS : va_S A s.heap s.heap [] := va_S.rf
  have hl := lv_entry ([.ref (xa 0), .int x1]) (n := 2) (Nat.le_of_ble_eq_true rfl)
  rw [lg_entry_eq]
  generalize (lg_sl ([.ref (xa 0), .int x1]) ++ List.replicate (2 - (lg_sl ([.ref (xa 0), .int x1])).length) Slot.unset).toArray = ls at hl ⊢
  have hl : lv_has ls 2 [(0, .ref (xa 0)), (1, .int x1)] := hl
  have F : tF p s m ([.ref (xa 0), .int x1] : List Value).toArray meth c G cA A RX7 cX7_comesNow 2 (some .boolean) := ⟨hx, hb, hr, hml, hT, hown, hlocks, hK, hN, hA⟩
  obtain ⟨H, hH⟩ : ∃ z, z = s.heap := ⟨_, rfl⟩
  rw [← hH] at hP
  have hS : va_S A s.heap H [] := by rw [hH]; exact hS
  suffices hgo : G_X7_comesNow p l e s m below meth c G cA A xa ka ra na ia ua va ca za pa qa X K R P L P2 L2 Tn Ti Tu Tv C Z q0 q1 q2 q3 q4 q5 x1 r0 H [] (F0 m 0 ls []) by rw [hH] at hgo; exact hgo
  generalize ([] : List Loc) = locs at hS ⊢
  unfold f_X7_comesNow at h
  refine lv_aload_n hx hb dX7_comesNow_0 rfl (lv_at hl 0 rfl) ?_
  refine lv_iload_n hx hb dX7_comesNow_1 rfl (lv_at hl 1 rfl) ?_
  obtain ⟨r1, hc2, h⟩ := tx_bd h
  refine tw_ci tw_all hP hD hS hA (va_runV (As := [.int x1]) (rest := []) ⟨hx, hb, hml, hown, hT⟩ (c_X7_isPiece l G cA H.size xa ka ra na ia ua va ca za pa qa X K R P L P2 L2 Tn Ti Tu Tv C Z q0 q1 q2 q3 q4 q5 x1  r1 hc2) (cwV 1 hT (tq_gV kw_30_5 kw_30_6 kw_30_7 kw_1_2 kw_30_8) rfl rfl rfl (by decide +kernel) ⟨Nat.le_of_ble_eq_true rfl, Nat.le_of_ble_eq_true rfl⟩) ⟨(tw_pre tw_all hP hD hK hN).1, va_recv hK hP (ci := 7) (q0 := 0) rfl rfl, (tw_pre tw_all hP hD hK hN).2⟩ rfl rfl hl.1 rfl (lv_room (Nat.le_of_ble_eq_true rfl)) dX7_comesNow_2 ⟨Nat.le_of_ble_eq_true rfl, Nat.le_of_ble_eq_true rfl⟩) (fun _ _ H locs z3 hP hD hS => ?_)
  subst z3
  rw [List.append_nil] at hP hD
  have hP : va_P G vwCl (wX cA xa ka ra na ia ua va ca za pa qa X K R P L P2 L2 Tn Ti Tu Tv C Z q0 q1 q2 q3 q4 q5) H := hP
  have hD : va_D A (wX cA xa ka ra na ia ua va ca za pa qa X K R P L P2 L2 Tn Ti Tu Tv C Z q0 q1 q2 q3 q4 q5) := hD
  refine lv_if_eq (tgt := 51) hx hb dX7_comesNow_5 (by decide) (fun c4 => ?_) (fun c4 => ?_)
  · have h := tx_pos c4 h
    refine lv_iconst (v := 0) hx hb dX7_comesNow_51 (by decide) ?_
    obtain rfl := tx_1 h
    exact W.zret (ty := .boolean) hx hb hr rfl (fun t ht hW => ⟨⟨_, (), rfl, rfl, by rw [ht]; exact hP, hD⟩, hS.F ht⟩) hS.2.2 dX7_comesNow_52
  · have h := tx_neg c4 h
    refine lv_aload_n hx hb dX7_comesNow_8 rfl (lv_at hl 0 rfl) ?_
    refine va_get (D := G) (ci := 7) (v := .ref (na 0)) (C := RX7) (T := TX7) (N := 12) hx hb hT ku_7 hown hK hP 0 rfl rfl 2 (by decide) (hT _ kw_2_0) (fun _ h9 => h9) rfl dX7_comesNow_9 ?_
    refine va_get (D := G) (ci := 6) (v := .int (Tn 0 0)) (C := RX6) (T := TX6) (N := 20) hx hb hT ku_6 hown hK hP 53 rfl rfl 0 (by decide) (hT _ kw_40_5) (fun _ h9 => h9) rfl dX7_comesNow_12 ?_
    refine lv_bipush (v := 20) hx hb dX7_comesNow_15 (by decide) ?_
    refine lv_icmp_gt (tgt := 51) hx hb dX7_comesNow_17 (by decide) (fun c5 => ?_) (fun c5 => ?_)
    · have h := tx_pos c5 h
      refine lv_iconst (v := 0) hx hb dX7_comesNow_51 (by decide) ?_
      obtain rfl := tx_1 h
      exact W.zret (ty := .boolean) hx hb hr rfl (fun t ht hW => ⟨⟨_, (), rfl, rfl, by rw [ht]; exact hP, hD⟩, hS.F ht⟩) hS.2.2 dX7_comesNow_52
    · have h := tx_neg c5 h
      refine lv_aload_n hx hb dX7_comesNow_20 rfl (lv_at hl 0 rfl) ?_
      refine va_get (D := G) (ci := 7) (v := .ref q4) (C := RX7) (T := TX7) (N := 12) hx hb hT ku_7 hown hK hP 0 rfl rfl 1 (by decide) (hT _ kw_1_20) (fun _ h9 => h9) rfl dX7_comesNow_21 ?_
      obtain ⟨g6, h⟩ := tx_ck h
      have eg6 := of_decide_eq_true g6
      subst eg6
      refine va_get (D := G) (ci := 2) (v := .ref (pa 11)) (C := RX2) (T := TX2) (N := 19) hx hb hT ku_2 hown hK hP 9 rfl rfl 10 (by decide) (hT _ kw_28_22) (fun _ h9 => h9) rfl dX7_comesNow_24 ?_
      refine lv_aload_n hx hb dX7_comesNow_27 rfl (lv_at hl 0 rfl) ?_
      refine va_get (D := G) (ci := 7) (v := .ref (pa 0)) (C := RX7) (T := TX7) (N := 12) hx hb hT ku_7 hown hK hP 0 rfl rfl 1 (by decide) (hT _ kw_1_20) (fun _ h9 => h9) rfl dX7_comesNow_28 ?_
      refine va_get (D := G) (ci := 2) (v := .ref (pa 14)) (C := RX2) (T := TX2) (N := 19) hx hb hT ku_2 hown hK hP 9 rfl rfl 13 (by decide) (hT _ kw_30_0) (fun _ h9 => h9) rfl dX7_comesNow_31 ?_
      refine lv_iload_n hx hb dX7_comesNow_34 rfl (lv_at hl 1 rfl) ?_
      obtain ⟨g7, h⟩ := tx_ck h
      refine va_iald (i := x1) hx hb hK hP 16 0 rfl rfl (tx_in g7) dX7_comesNow_35 ?_
      obtain ⟨g8, h⟩ := tx_ck h
      refine va_iald (i := (P 14 x1.toNatClampNeg)) hx hb hK hP 13 0 rfl rfl (tx_in g8) dX7_comesNow_36 ?_
      refine lv_aload_n hx hb dX7_comesNow_37 rfl (lv_at hl 0 rfl) ?_
      refine va_get (D := G) (ci := 7) (v := .ref (na 0)) (C := RX7) (T := TX7) (N := 12) hx hb hT ku_7 hown hK hP 0 rfl rfl 2 (by decide) (hT _ kw_2_0) (fun _ h9 => h9) rfl dX7_comesNow_38 ?_
      refine va_get (D := G) (ci := 6) (v := .int (Tn 0 0)) (C := RX6) (T := TX6) (N := 20) hx hb hT ku_6 hown hK hP 53 rfl rfl 0 (by decide) (hT _ kw_40_5) (fun _ h9 => h9) rfl dX7_comesNow_41 ?_
      refine lv_icmp_ne (tgt := 51) hx hb dX7_comesNow_44 (by decide) (fun c9 => ?_) (fun c9 => ?_)
      · have h := tx_neg c9 h
        refine lv_iconst (v := 0) hx hb dX7_comesNow_51 (by decide) ?_
        obtain rfl := tx_1 h
        exact W.zret (ty := .boolean) hx hb hr rfl (fun t ht hW => ⟨⟨_, (), rfl, rfl, by rw [ht]; exact hP, hD⟩, hS.F ht⟩) hS.2.2 dX7_comesNow_52
      · have h := tx_pos c9 h
        refine lv_iconst (v := 1) hx hb dX7_comesNow_47 (by decide) ?_
        refine lv_goto (tgt := 52) hx hb dX7_comesNow_48 (by decide) ?_
        obtain rfl := tx_1 h
        exact W.zret (ty := .boolean) hx hb hr rfl (fun t ht hW => ⟨⟨_, (), rfl, rfl, by rw [ht]; exact hP, hD⟩, hS.F ht⟩) hS.2.2 dX7_comesNow_52
abbrev G_X7_canChoose (p : Program) (l : Launch) (e : Env) (s : State) (m : MethodId) (below : List Frame) (meth : Method) (c : Code) (G : va_G) (cA : Nat → ClassId) (A : Nat → Prop) (xa : Nat → Nat) (ka : Nat → Nat) (ra : Nat → Nat) (na : Nat → Nat) (ia : Nat → Nat) (ua : Nat → Nat) (va : Nat → Nat) (ca : Nat → Nat) (za : Nat → Nat) (pa : Nat → Nat) (qa : Nat → Nat) (X : Tr) (K : Tr) (R : Tr) (P : Tr) (L : Lo) (P2 : Tr) (L2 : Lo) (Tn : Tr) (Ti : Tr) (Tu : Tr) (Tv : Tr) (C : Tr) (Z : Tr) (q0 : Nat) (q1 : Nat) (q2 : Nat) (q3 : Nat) (q4 : Nat) (q5 : Nat) (x1 : Int32) (x2 : Int32) (r0 : Int32) (H : Heap) (locs : List Loc) (g : JFrame) : Prop := W p l e (headSpec (.code yX7_canChoose cX7_canChoose 3 (some .boolean) :: T0) ({ frames := 2, cells := 0, slots := 0, locals := 42 } : Room)).room s m ([.ref (xa 0), .int x1, .int x2] : List Value).toArray below meth c H locs 0 0 (MQ below (tqQi G cA (fun (r : Int32) (_ : Unit) => r = r0) (fun (_ : Unit) => wX cA xa ka ra na ia ua va ca za pa qa X K R P L P2 L2 Tn Ti Tu Tv C Z q0 q1 q2 q3 q4 q5) A) ([.ref (xa 0), .int x1, .int x2] : List Value).toArray s 0 0 A) g
set_option maxHeartbeats 4000000 in
set_option maxRecDepth 100000 in
theorem c_X7_canChoose (l : Launch) (G : va_G) (cA : Nat → ClassId) (sz : Nat) (xa : Nat → Nat) (ka : Nat → Nat) (ra : Nat → Nat) (na : Nat → Nat) (ia : Nat → Nat) (ua : Nat → Nat) (va : Nat → Nat) (ca : Nat → Nat) (za : Nat → Nat) (pa : Nat → Nat) (qa : Nat → Nat) (X : Tr) (K : Tr) (R : Tr) (P : Tr) (L : Lo) (P2 : Tr) (L2 : Lo) (Tn : Tr) (Ti : Tr) (Tu : Tr) (Tv : Tr) (C : Tr) (Z : Tr) (q0 : Nat) (q1 : Nat) (q2 : Nat) (q3 : Nat) (q4 : Nat) (q5 : Nat) (x1 : Int32) (x2 : Int32)  (r0 : Int32) (h : f_X7_canChoose pa qa P Tn q4 x1 x2 = some r0) : Met l yX7_canChoose (.code yX7_canChoose cX7_canChoose 3 (some .boolean) :: T0) ({ frames := 2, cells := 0, slots := 0, locals := 42 } : Room) (tqP G cA [.ref (xa 0), .int x1, .int x2] (wX cA xa ka ra na ia ua va ca za pa qa X K R P L P2 L2 Tn Ti Tu Tv C Z q0 q1 q2 q3 q4 q5) sz) (tqQi G cA (fun (r : Int32) (_ : Unit) => r = r0) (fun (_ : Unit) => wX cA xa ka ra na ia ua va ca za pa qa X K R P L P2 L2 Tn Ti Tu Tv C Z q0 q1 q2 q3 q4 q5) (va_A (wX cA xa ka ra na ia ua va ca za pa qa X K R P L P2 L2 Tn Ti Tu Tv C Z q0 q1 q2 q3 q4 q5) sz)) 0 0 (va_A (wX cA xa ka ra na ia ua va ca za pa qa X K R P L P2 L2 Tn Ti Tu Tv C Z q0 q1 q2 q3 q4 q5) sz) := by
  refine Met.ofW (cc := cX7_canChoose) (maxL := 3) (ret := (some .boolean)) (by decide) rfl ?_
  intro p e s m args below meth c s₁ B hml hv
  obtain ⟨rfl, hsz, hP, hK, hD0, hN⟩ := hv
  have hx := B.exec
  have hb := B.bytes
  have hr := B.returns
  have hts := atoms_spec (ws := .code yX7_canChoose cX7_canChoose 3 (some .boolean) :: T0) B.pre
  have hT : ∀ w ∈ T0, w.before _ s = true := fun w h => hts w (List.mem_cons_of_mem _ h)
  have hown : s.vm.findClass RX7 = some m.cls := findClass_of_methodNamed B.named
  have hlocks := B.notSynchronized
  subst hsz
  have hD := hD0.self (sz := s.heap.size)
  generalize hAe : va_A (wX cA xa ka ra na ia ua va ca za pa qa X K R P L P2 L2 Tn Ti Tu Tv C Z q0 q1 q2 q3 q4 q5) s.heap.size = A at hD ⊢
  have hA : ∀ q : Nat, s.heap.size ≤ q → A q := fun q h => by rw [← hAe]; exact Or.inr h
  have hS : va_S A s.heap s.heap [] := va_S.rf
  have hl := lv_entry ([.ref (xa 0), .int x1, .int x2]) (n := 3) (Nat.le_of_ble_eq_true rfl)
  rw [lg_entry_eq]
  generalize (lg_sl ([.ref (xa 0), .int x1, .int x2]) ++ List.replicate (3 - (lg_sl ([.ref (xa 0), .int x1, .int x2])).length) Slot.unset).toArray = ls at hl ⊢
  have hl : lv_has ls 3 [(0, .ref (xa 0)), (1, .int x1), (2, .int x2)] := hl
  have F : tF p s m ([.ref (xa 0), .int x1, .int x2] : List Value).toArray meth c G cA A RX7 cX7_canChoose 3 (some .boolean) := ⟨hx, hb, hr, hml, hT, hown, hlocks, hK, hN, hA⟩
  obtain ⟨H, hH⟩ : ∃ z, z = s.heap := ⟨_, rfl⟩
  rw [← hH] at hP
  have hS : va_S A s.heap H [] := by rw [hH]; exact hS
  suffices hgo : G_X7_canChoose p l e s m below meth c G cA A xa ka ra na ia ua va ca za pa qa X K R P L P2 L2 Tn Ti Tu Tv C Z q0 q1 q2 q3 q4 q5 x1 x2 r0 H [] (F0 m 0 ls []) by rw [hH] at hgo; exact hgo
  generalize ([] : List Loc) = locs at hS ⊢
  unfold f_X7_canChoose at h
  refine lv_aload_n hx hb dX7_canChoose_0 rfl (lv_at hl 0 rfl) ?_
  refine lv_iload_n hx hb dX7_canChoose_1 rfl (lv_at hl 1 rfl) ?_
  obtain ⟨r1, hc2, h⟩ := tx_bd h
  refine tw_ci tw_all hP hD hS hA (va_runV (As := [.int x1]) (rest := []) ⟨hx, hb, hml, hown, hT⟩ (c_X7_comesNow l G cA H.size xa ka ra na ia ua va ca za pa qa X K R P L P2 L2 Tn Ti Tu Tv C Z q0 q1 q2 q3 q4 q5 x1  r1 hc2) (cwV 1 hT (tq_gV kw_46_7 kw_46_8 kw_46_9 kw_1_2 kw_46_10) rfl rfl rfl (by decide +kernel) ⟨Nat.le_of_ble_eq_true rfl, Nat.le_of_ble_eq_true rfl⟩) ⟨(tw_pre tw_all hP hD hK hN).1, va_recv hK hP (ci := 7) (q0 := 0) rfl rfl, (tw_pre tw_all hP hD hK hN).2⟩ rfl rfl hl.1 rfl (lv_room (Nat.le_of_ble_eq_true rfl)) dX7_canChoose_2 ⟨Nat.le_of_ble_eq_true rfl, Nat.le_of_ble_eq_true rfl⟩) (fun _ _ H locs z3 hP hD hS => ?_)
  subst z3
  rw [List.append_nil] at hP hD
  have hP : va_P G vwCl (wX cA xa ka ra na ia ua va ca za pa qa X K R P L P2 L2 Tn Ti Tu Tv C Z q0 q1 q2 q3 q4 q5) H := hP
  have hD : va_D A (wX cA xa ka ra na ia ua va ca za pa qa X K R P L P2 L2 Tn Ti Tu Tv C Z q0 q1 q2 q3 q4 q5) := hD
  refine lv_if_eq (tgt := 51) hx hb dX7_canChoose_5 (by decide) (fun c4 => ?_) (fun c4 => ?_)
  · have h := tx_pos c4 h
    refine lv_iconst (v := 0) hx hb dX7_canChoose_51 (by decide) ?_
    obtain rfl := tx_1 h
    exact W.zret (ty := .boolean) hx hb hr rfl (fun t ht hW => ⟨⟨_, (), rfl, rfl, by rw [ht]; exact hP, hD⟩, hS.F ht⟩) hS.2.2 dX7_canChoose_52
  · have h := tx_neg c4 h
    refine lv_aload_n hx hb dX7_canChoose_8 rfl (lv_at hl 0 rfl) ?_
    refine lv_iload_n hx hb dX7_canChoose_9 rfl (lv_at hl 2 rfl) ?_
    obtain ⟨r5, hc6, h⟩ := tx_bd h
    refine tw_ci tw_all hP hD hS hA (va_runV (As := [.int x2]) (rest := []) ⟨hx, hb, hml, hown, hT⟩ (c_X7_comesNow l G cA H.size xa ka ra na ia ua va ca za pa qa X K R P L P2 L2 Tn Ti Tu Tv C Z q0 q1 q2 q3 q4 q5 x2  r5 hc6) (cwV 1 hT (tq_gV kw_46_7 kw_46_8 kw_46_9 kw_1_2 kw_46_10) rfl rfl rfl (by decide +kernel) ⟨Nat.le_of_ble_eq_true rfl, Nat.le_of_ble_eq_true rfl⟩) ⟨(tw_pre tw_all hP hD hK hN).1, va_recv hK hP (ci := 7) (q0 := 0) rfl rfl, (tw_pre tw_all hP hD hK hN).2⟩ rfl rfl hl.1 rfl (lv_room (Nat.le_of_ble_eq_true rfl)) dX7_canChoose_10 ⟨Nat.le_of_ble_eq_true rfl, Nat.le_of_ble_eq_true rfl⟩) (fun _ _ H locs z7 hP hD hS => ?_)
    subst z7
    rw [List.append_nil] at hP hD
    have hP : va_P G vwCl (wX cA xa ka ra na ia ua va ca za pa qa X K R P L P2 L2 Tn Ti Tu Tv C Z q0 q1 q2 q3 q4 q5) H := hP
    have hD : va_D A (wX cA xa ka ra na ia ua va ca za pa qa X K R P L P2 L2 Tn Ti Tu Tv C Z q0 q1 q2 q3 q4 q5) := hD
    refine lv_if_eq (tgt := 51) hx hb dX7_canChoose_13 (by decide) (fun c8 => ?_) (fun c8 => ?_)
    · have h := tx_pos c8 h
      refine lv_iconst (v := 0) hx hb dX7_canChoose_51 (by decide) ?_
      obtain rfl := tx_1 h
      exact W.zret (ty := .boolean) hx hb hr rfl (fun t ht hW => ⟨⟨_, (), rfl, rfl, by rw [ht]; exact hP, hD⟩, hS.F ht⟩) hS.2.2 dX7_canChoose_52
    · have h := tx_neg c8 h
      refine lv_aload_n hx hb dX7_canChoose_16 rfl (lv_at hl 0 rfl) ?_
      refine va_get (D := G) (ci := 7) (v := .ref q4) (C := RX7) (T := TX7) (N := 12) hx hb hT ku_7 hown hK hP 0 rfl rfl 1 (by decide) (hT _ kw_1_20) (fun _ h9 => h9) rfl dX7_canChoose_17 ?_
      obtain ⟨g9, h⟩ := tx_ck h
      have eg9 := of_decide_eq_true g9
      subst eg9
      refine va_get (D := G) (ci := 2) (v := .ref (pa 14)) (C := RX2) (T := TX2) (N := 19) hx hb hT ku_2 hown hK hP 9 rfl rfl 13 (by decide) (hT _ kw_30_0) (fun _ h9 => h9) rfl dX7_canChoose_20 ?_
      refine lv_iload_n hx hb dX7_canChoose_23 rfl (lv_at hl 1 rfl) ?_
      obtain ⟨g10, h⟩ := tx_ck h
      refine va_iald (i := x1) hx hb hK hP 16 0 rfl rfl (tx_in g10) dX7_canChoose_24 ?_
      refine lv_aload_n hx hb dX7_canChoose_25 rfl (lv_at hl 0 rfl) ?_
      refine va_get (D := G) (ci := 7) (v := .ref (pa 0)) (C := RX7) (T := TX7) (N := 12) hx hb hT ku_7 hown hK hP 0 rfl rfl 1 (by decide) (hT _ kw_1_20) (fun _ h9 => h9) rfl dX7_canChoose_26 ?_
      refine va_get (D := G) (ci := 2) (v := .ref (pa 14)) (C := RX2) (T := TX2) (N := 19) hx hb hT ku_2 hown hK hP 9 rfl rfl 13 (by decide) (hT _ kw_30_0) (fun _ h9 => h9) rfl dX7_canChoose_29 ?_
      refine lv_iload_n hx hb dX7_canChoose_32 rfl (lv_at hl 2 rfl) ?_
      obtain ⟨g11, h⟩ := tx_ck h
      refine va_iald (i := x2) hx hb hK hP 16 0 rfl rfl (tx_in g11) dX7_canChoose_33 ?_
      refine lv_icmp_eq (tgt := 51) hx hb dX7_canChoose_34 (by decide) (fun c12 => ?_) (fun c12 => ?_)
      · have h := tx_pos c12 h
        refine lv_iconst (v := 0) hx hb dX7_canChoose_51 (by decide) ?_
        obtain rfl := tx_1 h
        exact W.zret (ty := .boolean) hx hb hr rfl (fun t ht hW => ⟨⟨_, (), rfl, rfl, by rw [ht]; exact hP, hD⟩, hS.F ht⟩) hS.2.2 dX7_canChoose_52
      · have h := tx_neg c12 h
        refine lv_aload_n hx hb dX7_canChoose_37 rfl (lv_at hl 0 rfl) ?_
        refine va_get (D := G) (ci := 7) (v := .ref (pa 0)) (C := RX7) (T := TX7) (N := 12) hx hb hT ku_7 hown hK hP 0 rfl rfl 1 (by decide) (hT _ kw_1_20) (fun _ h9 => h9) rfl dX7_canChoose_38 ?_
        refine va_get (D := G) (ci := 2) (v := .int (P 0 0)) (C := RX2) (T := TX2) (N := 19) hx hb hT ku_2 hown hK hP 9 rfl rfl 0 (by decide) (hT _ kw_32_2) (fun _ h9 => h9) rfl dX7_canChoose_41 ?_
        refine lv_if_le (tgt := 51) hx hb dX7_canChoose_44 (by decide) (fun c13 => ?_) (fun c13 => ?_)
        · have h := tx_pos c13 h
          refine lv_iconst (v := 0) hx hb dX7_canChoose_51 (by decide) ?_
          obtain rfl := tx_1 h
          exact W.zret (ty := .boolean) hx hb hr rfl (fun t ht hW => ⟨⟨_, (), rfl, rfl, by rw [ht]; exact hP, hD⟩, hS.F ht⟩) hS.2.2 dX7_canChoose_52
        · have h := tx_neg c13 h
          refine lv_iconst (v := 1) hx hb dX7_canChoose_47 (by decide) ?_
          refine lv_goto (tgt := 52) hx hb dX7_canChoose_48 (by decide) ?_
          obtain rfl := tx_1 h
          exact W.zret (ty := .boolean) hx hb hr rfl (fun t ht hW => ⟨⟨_, (), rfl, rfl, by rw [ht]; exact hP, hD⟩, hS.F ht⟩) hS.2.2 dX7_canChoose_52
abbrev G_X7_chance (p : Program) (l : Launch) (e : Env) (s : State) (m : MethodId) (below : List Frame) (meth : Method) (c : Code) (G : va_G) (cA : Nat → ClassId) (A : Nat → Prop) (xa : Nat → Nat) (ka : Nat → Nat) (ra : Nat → Nat) (na : Nat → Nat) (ia : Nat → Nat) (ua : Nat → Nat) (va : Nat → Nat) (ca : Nat → Nat) (za : Nat → Nat) (pa : Nat → Nat) (qa : Nat → Nat) (X : Tr) (K : Tr) (R : Tr) (P : Tr) (P2 : Tr) (L2 : Lo) (Tn : Tr) (Ti : Tr) (Tv : Tr) (C : Tr) (Z : Tr) (q0 : Nat) (q1 : Nat) (q3 : Nat) (q4 : Nat) (q5 : Nat) (x1 : Int32) (x2 : Int32) (r0 : Int32) (L' : Lo) (Tu' : Tr) (q2' : Nat) (H : Heap) (locs : List Loc) (g : JFrame) : Prop := W p l e (headSpec (.code yX7_chance cX7_chance 6 (some .int) :: T0) ({ frames := 6, cells := 0, slots := 0, locals := 153 } : Room)).room s m ([.ref (xa 0), .int x1, .int x2] : List Value).toArray below meth c H locs 0 0 (MQ below (tqQi G cA (fun (r : Int32) (_ : Unit) => r = r0) (fun (_ : Unit) => wX cA xa ka ra na ia ua va ca za pa qa X K R P (L') P2 L2 Tn Ti (Tu') Tv C Z q0 q1 (q2') q3 q4 q5) A) ([.ref (xa 0), .int x1, .int x2] : List Value).toArray s 0 0 A) g
set_option maxHeartbeats 4000000 in
set_option maxRecDepth 100000 in
theorem w_X7_chance_L22 {p : Program} {l : Launch} {e : Env} {s : State} {m : MethodId} {below : List Frame} {meth : Method} {c : Code} {G : va_G} {cA : Nat → ClassId} {A : Nat → Prop} {xa : Nat → Nat} {ka : Nat → Nat} {ra : Nat → Nat} {na : Nat → Nat} {ia : Nat → Nat} {ua : Nat → Nat} {va : Nat → Nat} {ca : Nat → Nat} {za : Nat → Nat} {pa : Nat → Nat} {qa : Nat → Nat} {X : Tr} {K : Tr} {R : Tr} {P : Tr} {P2 : Tr} {L2 : Lo} {Tn : Tr} {Ti : Tr} {Tv : Tr} {C : Tr} {Z : Tr} {q0 : Nat} {q1 : Nat} {q3 : Nat} {q4 : Nat} {q5 : Nat} {x1₀ : Int32} {x2₀ : Int32} {r0 : Int32} {L' : Lo} {Tu' : Tr} {q2' : Nat} {x2 : Int32} (F : tF p s m ([.ref (xa 0), .int x1₀, .int x2₀] : List Value).toArray meth c G cA A RX7 cX7_chance 6 (some .int))    (N : Nat) : ∀ (x3 : Int32) (x4 : Int32) (x5 : Int32) (L : Lo) (Tu : Tr) (q2 : Nat) (H : Heap) (locs : List Loc) (ls : Array Slot), lpF (fun _ _ _ _ _ _ => none) (fB_X7_chance_L22 pa qa P Tn q0 q4 x2) N x3 x4 x5 L Tu q2 = some (r0, L', Tu', q2') → va_P G vwCl (wX cA xa ka ra na ia ua va ca za pa qa X K R P L P2 L2 Tn Ti Tu Tv C Z q0 q1 q2 q3 q4 q5) H → va_D A (wX cA xa ka ra na ia ua va ca za pa qa X K R P L P2 L2 Tn Ti Tu Tv C Z q0 q1 q2 q3 q4 q5) → va_S A s.heap H locs → lv_has ls 6 [(0, .ref (xa 0)), (2, .int x2), (3, .int x3), (4, .int x4), (5, .int x5)] → G_X7_chance p l e s m below meth c G cA A xa ka ra na ia ua va ca za pa qa X K R P P2 L2 Tn Ti Tv C Z q0 q1 q3 q4 q5 x1₀ x2₀ r0 L' Tu' q2' H locs (F0 m 22 ls []) := by
  obtain ⟨hx, hb, hr, hml, hT, hown, hlocks, hK, hN, hA⟩ := id F
  induction N with
  | zero =>
    intro x3 x4 x5 L Tu q2 H locs ls h
    have h : (none : Option (Int32 × Lo × Tr × Nat)) = some (r0, L', Tu', q2') := h
    cases h
  | succ N hk22 =>
    intro x3 x4 x5 L Tu q2 H locs ls h hP hD hS hl
    have h : fB_X7_chance_L22 pa qa P Tn q0 q4 x2 (lpF (fun _ _ _ _ _ _ => none) (fB_X7_chance_L22 pa qa P Tn q0 q4 x2) N) x3 x4 x5 L Tu q2 = some (r0, L', Tu', q2') := h
    generalize hk22e : lpF (fun _ _ _ _ _ _ => none) (fB_X7_chance_L22 pa qa P Tn q0 q4 x2) N = k22 at h hk22
    unfold fB_X7_chance_L22 at h
    refine lv_iload hx hb dX7_chance_22 (lv_at hl 4 rfl) ?_
    refine lv_bipush (v := 10) hx hb dX7_chance_24 (by decide) ?_
    refine lv_icmp_ge (tgt := 88) hx hb dX7_chance_26 (by decide) (fun c6 => ?_) (fun c6 => ?_)
    · have h := tx_pos c6 h
      refine lv_iload_n hx hb dX7_chance_88 rfl (lv_at hl 2 rfl) ?_
      obtain ⟨rfl, rfl, rfl, rfl⟩ := tx_4 h
      exact W.iret hx hb hr (fun t ht hW => ⟨⟨_, (), rfl, rfl, by rw [ht]; exact hP, hD⟩, hS.F ht⟩) hS.2.2 dX7_chance_89
    · have h := tx_neg c6 h
      refine lv_aload_n hx hb dX7_chance_29 rfl (lv_at hl 0 rfl) ?_
      obtain ⟨⟨Tu_7, q2_8⟩, hc9, h⟩ := tx_bd h
      replace h := tx_let (y := Tu_7) rfl h
      replace h := tx_let (y := q2_8) rfl h
      refine tw_cv tw_all hP hD hS hA (va_runV (As := []) (rest := []) ⟨hx, hb, hml, hown, hT⟩ (c_X7_startTrial l G cA H.size xa ka ra na ia ua va ca za pa qa X K R P L P2 L2 Tn Ti Tu Tv C Z q0 q1 q2 q3 q4 q5  Tu_7 q2_8 hc9) (cwV 0 hT (tq_gV kw_46_17 kw_46_18 kw_46_19 kw_1_2 kw_46_20) rfl rfl rfl (by decide +kernel) ⟨Nat.le_of_ble_eq_true rfl, Nat.le_of_ble_eq_true rfl⟩) ⟨(tw_pre tw_all hP hD hK hN).1, va_recv hK hP (ci := 7) (q0 := 0) rfl rfl, (tw_pre tw_all hP hD hK hN).2⟩ rfl rfl hl.1 rfl (lv_room (Nat.le_of_ble_eq_true rfl)) dX7_chance_30 ⟨Nat.le_of_ble_eq_true rfl, Nat.le_of_ble_eq_true rfl⟩) (fun _ H locs z10 hP hD hS => ?_)
      rw [List.append_nil] at hP hD
      have hP : va_P G vwCl (wX cA xa ka ra na ia ua va ca za pa qa X K R P L P2 L2 Tn Ti Tu_7 Tv C Z q0 q1 q2_8 q3 q4 q5) H := hP
      have hD : va_D A (wX cA xa ka ra na ia ua va ca za pa qa X K R P L P2 L2 Tn Ti Tu_7 Tv C Z q0 q1 q2_8 q3 q4 q5) := hD
      refine lv_aload_n hx hb dX7_chance_33 rfl (lv_at hl 0 rfl) ?_
      refine va_get (D := G) (ci := 7) (v := .ref (ua 0)) (C := RX7) (T := TX7) (N := 12) hx hb hT ku_7 hown hK hP 0 rfl rfl 5 (by decide) (hT _ kw_2_3) (fun _ h9 => h9) rfl dX7_chance_34 ?_
      refine lv_iconst (v := 1) hx hb dX7_chance_37 (by decide) ?_
      refine va_put (D := G) (ci := 6) (v := .int 1) (ty := .boolean) (C := RX6) (T := TX6) (N := 20) hx hb hT ku_6 tyX6 tyX6_ok nmX6 hown hK hP hD hS 77 rfl rfl 5 (by decide) (hT _ kw_40_6) (fun _ h9 => h9) rfl (by decide +kernel) rfl rfl (Nat.le_of_ble_eq_true rfl) dX7_chance_38 (fun H locs hP hD hS => ?_)
      obtain ⟨Tu_11, eTu_11, h⟩ := tx_lt h
      rw [sX_ua_f5, eTu_11] at hP hD
      refine lv_aload_n hx hb dX7_chance_41 rfl (lv_at hl 0 rfl) ?_
      refine va_get (D := G) (ci := 7) (v := .ref (ua 0)) (C := RX7) (T := TX7) (N := 12) hx hb hT ku_7 hown hK hP 0 rfl rfl 5 (by decide) (hT _ kw_2_3) (fun _ h9 => h9) rfl dX7_chance_42 ?_
      refine lv_iload hx hb dX7_chance_45 (lv_at hl 3 rfl) ?_
      refine va_put (D := G) (ci := 6) (v := .int x4) (ty := .int) (C := RX6) (T := TX6) (N := 20) hx hb hT ku_6 tyX6 tyX6_ok nmX6 hown hK hP hD hS 77 rfl rfl 2 (by decide) (hT _ kw_57_2) (fun _ h9 => h9) rfl (by decide +kernel) rfl rfl (Nat.le_of_ble_eq_true rfl) dX7_chance_47 (fun H locs hP hD hS => ?_)
      obtain ⟨Tu_12, eTu_12, h⟩ := tx_lt h
      rw [sX_ua_f2, eTu_12] at hP hD
      refine lv_aload_n hx hb dX7_chance_50 rfl (lv_at hl 0 rfl) ?_
      refine va_get (D := G) (ci := 7) (v := .ref (ua 0)) (C := RX7) (T := TX7) (N := 12) hx hb hT ku_7 hown hK hP 0 rfl rfl 5 (by decide) (hT _ kw_2_3) (fun _ h9 => h9) rfl dX7_chance_51 ?_
      obtain ⟨g13, h⟩ := tx_ck h
      have eg13 := of_decide_eq_true g13
      subst eg13
      obtain ⟨⟨Tu_14, L_15⟩, hc16, h⟩ := tx_bd h
      replace h := tx_let (y := Tu_14) rfl h
      replace h := tx_let (y := L_15) rfl h
      refine tw_cv pX_ua hP hD hS hA (va_runV (As := []) (rest := []) ⟨hx, hb, hml, hown, hT⟩ (c_X6_runToEnd l G cA H.size ua pa Tu_12 P L  Tu_14 L_15 hc16) (cwV 0 hT (tq_gV kw_47_10 kw_47_11 kw_47_12 kw_1_23 kw_47_13) rfl rfl rfl (by decide +kernel) ⟨Nat.le_of_ble_eq_true rfl, Nat.le_of_ble_eq_true rfl⟩) ⟨(tw_pre pX_ua hP hD hK hN).1, va_recv hK hP (ci := 6) (q0 := 77) rfl rfl, (tw_pre pX_ua hP hD hK hN).2⟩ rfl rfl hl.1 rfl (lv_room (Nat.le_of_ble_eq_true rfl)) dX7_chance_54 ⟨Nat.le_of_ble_eq_true rfl, Nat.le_of_ble_eq_true rfl⟩) (fun _ H locs z17 hP hD hS => ?_)
      replace hP := tw_P pX_ua.symm hP
      replace hD := tw_D pX_ua.symm hD
      have hP : va_P G vwCl (wX cA xa ka ra na ia ua va ca za pa qa X K R P L_15 P2 L2 Tn Ti Tu_14 Tv C Z q0 q1 (pa 0) q3 q4 q5) H := hP
      have hD : va_D A (wX cA xa ka ra na ia ua va ca za pa qa X K R P L_15 P2 L2 Tn Ti Tu_14 Tv C Z q0 q1 (pa 0) q3 q4 q5) := hD
      refine lv_aload_n hx hb dX7_chance_57 rfl (lv_at hl 0 rfl) ?_
      refine va_get (D := G) (ci := 7) (v := .ref (ua 0)) (C := RX7) (T := TX7) (N := 12) hx hb hT ku_7 hown hK hP 0 rfl rfl 5 (by decide) (hT _ kw_2_3) (fun _ h9 => h9) rfl dX7_chance_58 ?_
      refine va_get (D := G) (ci := 6) (v := .int (Tu_14 0 2)) (C := RX6) (T := TX6) (N := 20) hx hb hT ku_6 hown hK hP 77 rfl rfl 2 (by decide) (hT _ kw_57_2) (fun _ h9 => h9) rfl dX7_chance_61 ?_
      refine lv_topi (fun y18 ey18 => ?_)
      have h := tx_let ey18 h
      refine lv_istore (lv' := [(4, .int y18), (0, .ref (xa 0)), (2, .int x2), (3, .int x3), (5, .int x5)]) hx hb dX7_chance_64 hl (by decide) rfl (fun ls hl => ?_)
      refine lv_aload_n hx hb dX7_chance_66 rfl (lv_at hl 1 rfl) ?_
      refine va_get (D := G) (ci := 7) (v := .ref (ua 0)) (C := RX7) (T := TX7) (N := 12) hx hb hT ku_7 hown hK hP 0 rfl rfl 5 (by decide) (hT _ kw_2_3) (fun _ h9 => h9) rfl dX7_chance_67 ?_
      refine va_get (D := G) (ci := 6) (v := .ref (ua 14)) (C := RX6) (T := TX6) (N := 20) hx hb hT ku_6 hown hK hP 77 rfl rfl 13 (by decide) (hT _ kw_30_3) (fun _ h9 => h9) rfl dX7_chance_70 ?_
      refine lv_iload_n hx hb dX7_chance_73 rfl (lv_at hl 2 rfl) ?_
      obtain ⟨g19, h⟩ := tx_ck h
      refine va_iald (i := x2) hx hb hK hP 83 0 rfl rfl (tx_in g19) dX7_chance_74 ?_
      refine lv_iconst (v := 2) hx hb dX7_chance_75 (by decide) ?_
      refine lv_icmp_ne (tgt := 82) hx hb dX7_chance_76 (by decide) (fun c20 => ?_) (fun c20 => ?_)
      · have h := tx_neg c20 h
        obtain ⟨y21, ey21, h⟩ := tx_lt h
        refine lv_iinc (v := y21) (lv' := [(5, .int y21), (4, .int y18), (0, .ref (xa 0)), (2, .int x2), (3, .int x3)]) hx hb dX7_chance_82 hl (k := 4) rfl ey21 (by decide) rfl (fun ls hl => ?_)
        refine lv_goto (tgt := 22) hx hb dX7_chance_85 (by decide) ?_
        exact hk22 x3 y18 y21 L_15 Tu_14 (pa 0) H locs ls h hP hD hS (lv_sub hl [2, 3, 4, 1, 0] rfl)
      · have h := tx_pos c20 h
        obtain ⟨y22, ey22, h⟩ := tx_lt h
        refine lv_iinc (v := y22) (lv' := [(3, .int y22), (4, .int y18), (0, .ref (xa 0)), (2, .int x2), (5, .int x5)]) hx hb dX7_chance_79 hl (k := 3) rfl ey22 (by decide) rfl (fun ls hl => ?_)
        obtain ⟨y23, ey23, h⟩ := tx_lt h
        refine lv_iinc (v := y23) (lv' := [(5, .int y23), (3, .int y22), (4, .int y18), (0, .ref (xa 0)), (2, .int x2)]) hx hb dX7_chance_82 hl (k := 4) rfl ey23 (by decide) rfl (fun ls hl => ?_)
        refine lv_goto (tgt := 22) hx hb dX7_chance_85 (by decide) ?_
        exact hk22 y22 y18 y23 L_15 Tu_14 (pa 0) H locs ls h hP hD hS (lv_sub hl [3, 4, 1, 2, 0] rfl)
set_option maxHeartbeats 4000000 in
set_option maxRecDepth 100000 in
theorem c_X7_chance (l : Launch) (G : va_G) (cA : Nat → ClassId) (sz : Nat) (xa : Nat → Nat) (ka : Nat → Nat) (ra : Nat → Nat) (na : Nat → Nat) (ia : Nat → Nat) (ua : Nat → Nat) (va : Nat → Nat) (ca : Nat → Nat) (za : Nat → Nat) (pa : Nat → Nat) (qa : Nat → Nat) (X : Tr) (K : Tr) (R : Tr) (P : Tr) (L : Lo) (P2 : Tr) (L2 : Lo) (Tn : Tr) (Ti : Tr) (Tu : Tr) (Tv : Tr) (C : Tr) (Z : Tr) (q0 : Nat) (q1 : Nat) (q2 : Nat) (q3 : Nat) (q4 : Nat) (q5 : Nat) (x1 : Int32) (x2 : Int32)  (r0 : Int32) (L' : Lo) (Tu' : Tr) (q2' : Nat) (h : f_X7_chance pa qa P L Tn Tu q0 q2 q4 x1 x2 = some (r0, L', Tu', q2')) : Met l yX7_chance (.code yX7_chance cX7_chance 6 (some .int) :: T0) ({ frames := 6, cells := 0, slots := 0, locals := 153 } : Room) (tqP G cA [.ref (xa 0), .int x1, .int x2] (wX cA xa ka ra na ia ua va ca za pa qa X K R P L P2 L2 Tn Ti Tu Tv C Z q0 q1 q2 q3 q4 q5) sz) (tqQi G cA (fun (r : Int32) (_ : Unit) => r = r0) (fun (_ : Unit) => wX cA xa ka ra na ia ua va ca za pa qa X K R P (L') P2 L2 Tn Ti (Tu') Tv C Z q0 q1 (q2') q3 q4 q5) (va_A (wX cA xa ka ra na ia ua va ca za pa qa X K R P L P2 L2 Tn Ti Tu Tv C Z q0 q1 q2 q3 q4 q5) sz)) 0 0 (va_A (wX cA xa ka ra na ia ua va ca za pa qa X K R P L P2 L2 Tn Ti Tu Tv C Z q0 q1 q2 q3 q4 q5) sz) := by
  refine Met.ofW (cc := cX7_chance) (maxL := 6) (ret := (some .int)) (by decide) rfl ?_
  intro p e s m args below meth c s₁ B hml hv
  obtain ⟨rfl, hsz, hP, hK, hD0, hN⟩ := hv
  have hx := B.exec
  have hb := B.bytes
  have hr := B.returns
  have hts := atoms_spec (ws := .code yX7_chance cX7_chance 6 (some .int) :: T0) B.pre
  have hT : ∀ w ∈ T0, w.before _ s = true := fun w h => hts w (List.mem_cons_of_mem _ h)
  have hown : s.vm.findClass RX7 = some m.cls := findClass_of_methodNamed B.named
  have hlocks := B.notSynchronized
  subst hsz
  have hD := hD0.self (sz := s.heap.size)
  generalize hAe : va_A (wX cA xa ka ra na ia ua va ca za pa qa X K R P L P2 L2 Tn Ti Tu Tv C Z q0 q1 q2 q3 q4 q5) s.heap.size = A at hD ⊢
  have hA : ∀ q : Nat, s.heap.size ≤ q → A q := fun q h => by rw [← hAe]; exact Or.inr h
  have hS : va_S A s.heap s.heap [] := va_S.rf
  have hl := lv_entry ([.ref (xa 0), .int x1, .int x2]) (n := 6) (Nat.le_of_ble_eq_true rfl)
  rw [lg_entry_eq]
  generalize (lg_sl ([.ref (xa 0), .int x1, .int x2]) ++ List.replicate (6 - (lg_sl ([.ref (xa 0), .int x1, .int x2])).length) Slot.unset).toArray = ls at hl ⊢
  have hl : lv_has ls 6 [(0, .ref (xa 0)), (1, .int x1), (2, .int x2)] := hl
  have F : tF p s m ([.ref (xa 0), .int x1, .int x2] : List Value).toArray meth c G cA A RX7 cX7_chance 6 (some .int) := ⟨hx, hb, hr, hml, hT, hown, hlocks, hK, hN, hA⟩
  obtain ⟨H, hH⟩ : ∃ z, z = s.heap := ⟨_, rfl⟩
  rw [← hH] at hP
  have hS : va_S A s.heap H [] := by rw [hH]; exact hS
  suffices hgo : G_X7_chance p l e s m below meth c G cA A xa ka ra na ia ua va ca za pa qa X K R P P2 L2 Tn Ti Tv C Z q0 q1 q3 q4 q5 x1 x2 r0 L' Tu' q2' H [] (F0 m 0 ls []) by rw [hH] at hgo; exact hgo
  generalize ([] : List Loc) = locs at hS ⊢
  unfold f_X7_chance at h
  refine lv_iload_n hx hb dX7_chance_0 rfl (lv_at hl 1 rfl) ?_
  refine lv_if_lt (tgt := 12) hx hb dX7_chance_1 (by decide) (fun c1 => ?_) (fun c1 => ?_)
  · have h := tx_pos c1 h
    refine lv_iconst (v := (-1)) hx hb dX7_chance_12 (by decide) ?_
    obtain ⟨rfl, rfl, rfl, rfl⟩ := tx_4 h
    exact W.iret hx hb hr (fun t ht hW => ⟨⟨_, (), rfl, rfl, by rw [ht]; exact hP, hD⟩, hS.F ht⟩) hS.2.2 dX7_chance_13
  · have h := tx_neg c1 h
    refine lv_aload_n hx hb dX7_chance_4 rfl (lv_at hl 0 rfl) ?_
    refine lv_iload_n hx hb dX7_chance_5 rfl (lv_at hl 2 rfl) ?_
    obtain ⟨r2, hc3, h⟩ := tx_bd h
    refine tw_ci tw_all hP hD hS hA (va_runV (As := [.int x2]) (rest := []) ⟨hx, hb, hml, hown, hT⟩ (c_X7_isPiece l G cA H.size xa ka ra na ia ua va ca za pa qa X K R P L P2 L2 Tn Ti Tu Tv C Z q0 q1 q2 q3 q4 q5 x2  r2 hc3) (cwV 1 hT (tq_gV kw_30_5 kw_30_6 kw_30_7 kw_1_2 kw_30_8) rfl rfl rfl (by decide +kernel) ⟨Nat.le_of_ble_eq_true rfl, Nat.le_of_ble_eq_true rfl⟩) ⟨(tw_pre tw_all hP hD hK hN).1, va_recv hK hP (ci := 7) (q0 := 0) rfl rfl, (tw_pre tw_all hP hD hK hN).2⟩ rfl rfl hl.1 rfl (lv_room (Nat.le_of_ble_eq_true rfl)) dX7_chance_6 ⟨Nat.le_of_ble_eq_true rfl, Nat.le_of_ble_eq_true rfl⟩) (fun _ _ H locs z4 hP hD hS => ?_)
    subst z4
    rw [List.append_nil] at hP hD
    have hP : va_P G vwCl (wX cA xa ka ra na ia ua va ca za pa qa X K R P L P2 L2 Tn Ti Tu Tv C Z q0 q1 q2 q3 q4 q5) H := hP
    have hD : va_D A (wX cA xa ka ra na ia ua va ca za pa qa X K R P L P2 L2 Tn Ti Tu Tv C Z q0 q1 q2 q3 q4 q5) := hD
    refine lv_if_ne (tgt := 14) hx hb dX7_chance_9 (by decide) (fun c5 => ?_) (fun c5 => ?_)
    · have h := tx_neg c5 h
      refine lv_iconst (v := 0) hx hb dX7_chance_14 (by decide) ?_
      refine lv_istore_n (lv' := [(3, .int 0), (0, .ref (xa 0)), (1, .int x1), (2, .int x2)]) hx hb dX7_chance_15 rfl hl (by decide) rfl (fun ls hl => ?_)
      refine lv_iload_n hx hb dX7_chance_16 rfl (lv_at hl 2 rfl) ?_
      refine lv_istore (lv' := [(4, .int x1), (3, .int 0), (0, .ref (xa 0)), (1, .int x1), (2, .int x2)]) hx hb dX7_chance_17 hl (by decide) rfl (fun ls hl => ?_)
      refine lv_iconst (v := 0) hx hb dX7_chance_19 (by decide) ?_
      refine lv_istore (lv' := [(5, .int 0), (4, .int x1), (3, .int 0), (0, .ref (xa 0)), (1, .int x1), (2, .int x2)]) hx hb dX7_chance_20 hl (by decide) rfl (fun ls hl => ?_)
      exact w_X7_chance_L22 F 2000 0 x1 0 L Tu q2 H locs ls h hP hD hS (lv_sub hl [3, 5, 2, 1, 0] rfl)
    · have h := tx_pos c5 h
      refine lv_iconst (v := (-1)) hx hb dX7_chance_12 (by decide) ?_
      obtain ⟨rfl, rfl, rfl, rfl⟩ := tx_4 h
      exact W.iret hx hb hr (fun t ht hW => ⟨⟨_, (), rfl, rfl, by rw [ht]; exact hP, hD⟩, hS.F ht⟩) hS.2.2 dX7_chance_13
abbrev G_X7_comingLeft (p : Program) (l : Launch) (e : Env) (s : State) (m : MethodId) (below : List Frame) (meth : Method) (c : Code) (G : va_G) (cA : Nat → ClassId) (A : Nat → Prop) (xa : Nat → Nat) (ka : Nat → Nat) (ra : Nat → Nat) (na : Nat → Nat) (ia : Nat → Nat) (ua : Nat → Nat) (va : Nat → Nat) (ca : Nat → Nat) (za : Nat → Nat) (pa : Nat → Nat) (qa : Nat → Nat) (X : Tr) (K : Tr) (R : Tr) (P : Tr) (L : Lo) (P2 : Tr) (L2 : Lo) (Tn : Tr) (Ti : Tr) (Tu : Tr) (Tv : Tr) (C : Tr) (Z : Tr) (q0 : Nat) (q1 : Nat) (q2 : Nat) (q3 : Nat) (q4 : Nat) (q5 : Nat) (x1 : Int32) (r0 : Int32) (H : Heap) (locs : List Loc) (g : JFrame) : Prop := W p l e (headSpec (.code yX7_comingLeft cX7_comingLeft 3 (some .boolean) :: T0) ({ frames := 0, cells := 0, slots := 0, locals := 0 } : Room)).room s m ([.ref (xa 0), .int x1] : List Value).toArray below meth c H locs 0 0 (MQ below (tqQi G cA (fun (r : Int32) (_ : Unit) => r = r0) (fun (_ : Unit) => wX cA xa ka ra na ia ua va ca za pa qa X K R P L P2 L2 Tn Ti Tu Tv C Z q0 q1 q2 q3 q4 q5) A) ([.ref (xa 0), .int x1] : List Value).toArray s 0 0 A) g
set_option maxHeartbeats 4000000 in
set_option maxRecDepth 100000 in
theorem w_X7_comingLeft_L2 {p : Program} {l : Launch} {e : Env} {s : State} {m : MethodId} {below : List Frame} {meth : Method} {c : Code} {G : va_G} {cA : Nat → ClassId} {A : Nat → Prop} {xa : Nat → Nat} {ka : Nat → Nat} {ra : Nat → Nat} {na : Nat → Nat} {ia : Nat → Nat} {ua : Nat → Nat} {va : Nat → Nat} {ca : Nat → Nat} {za : Nat → Nat} {pa : Nat → Nat} {qa : Nat → Nat} {X : Tr} {K : Tr} {R : Tr} {P : Tr} {L : Lo} {P2 : Tr} {L2 : Lo} {Tn : Tr} {Ti : Tr} {Tu : Tr} {Tv : Tr} {C : Tr} {Z : Tr} {q0 : Nat} {q1 : Nat} {q2 : Nat} {q3 : Nat} {q4 : Nat} {q5 : Nat} {x1₀ : Int32} {r0 : Int32} {x1 : Int32} (F : tF p s m ([.ref (xa 0), .int x1₀] : List Value).toArray meth c G cA A RX7 cX7_comingLeft 3 (some .boolean))    (N : Nat) : ∀ (x2 : Int32) (H : Heap) (locs : List Loc) (ls : Array Slot), lpF (fun _ => none) (fB_X7_comingLeft_L2 pa qa X Tu x1) N x2 = some r0 → va_P G vwCl (wX cA xa ka ra na ia ua va ca za pa qa X K R P L P2 L2 Tn Ti Tu Tv C Z q0 q1 q2 q3 q4 q5) H → va_D A (wX cA xa ka ra na ia ua va ca za pa qa X K R P L P2 L2 Tn Ti Tu Tv C Z q0 q1 q2 q3 q4 q5) → va_S A s.heap H locs → lv_has ls 3 [(0, .ref (xa 0)), (1, .int x1), (2, .int x2)] → G_X7_comingLeft p l e s m below meth c G cA A xa ka ra na ia ua va ca za pa qa X K R P L P2 L2 Tn Ti Tu Tv C Z q0 q1 q2 q3 q4 q5 x1₀ r0 H locs (F0 m 2 ls []) := by
  obtain ⟨hx, hb, hr, hml, hT, hown, hlocks, hK, hN, hA⟩ := id F
  induction N with
  | zero =>
    intro x2 H locs ls h
    have h : (none : Option (Int32)) = some r0 := h
    cases h
  | succ N hk2 =>
    intro x2 H locs ls h hP hD hS hl
    have h : fB_X7_comingLeft_L2 pa qa X Tu x1 (lpF (fun _ => none) (fB_X7_comingLeft_L2 pa qa X Tu x1) N) x2 = some r0 := h
    generalize hk2e : lpF (fun _ => none) (fB_X7_comingLeft_L2 pa qa X Tu x1) N = k2 at h hk2
    unfold fB_X7_comingLeft_L2 at h
    refine lv_iload_n hx hb dX7_comingLeft_2 rfl (lv_at hl 2 rfl) ?_
    refine lv_iload_n hx hb dX7_comingLeft_3 rfl (lv_at hl 1 rfl) ?_
    refine lv_icmp_ge (tgt := 33) hx hb dX7_comingLeft_4 (by decide) (fun c1 => ?_) (fun c1 => ?_)
    · have h := tx_pos c1 h
      refine lv_iconst (v := 0) hx hb dX7_comingLeft_33 (by decide) ?_
      obtain rfl := tx_1 h
      exact W.zret (ty := .boolean) hx hb hr rfl (fun t ht hW => ⟨⟨_, (), rfl, rfl, by rw [ht]; exact hP, hD⟩, hS.F ht⟩) hS.2.2 dX7_comingLeft_34
    · have h := tx_neg c1 h
      refine lv_aload_n hx hb dX7_comingLeft_7 rfl (lv_at hl 0 rfl) ?_
      refine va_get (D := G) (ci := 7) (v := .ref (ua 0)) (C := RX7) (T := TX7) (N := 12) hx hb hT ku_7 hown hK hP 0 rfl rfl 5 (by decide) (hT _ kw_2_3) (fun _ h9 => h9) rfl dX7_comingLeft_8 ?_
      refine va_get (D := G) (ci := 6) (v := .ref (ua 14)) (C := RX6) (T := TX6) (N := 20) hx hb hT ku_6 hown hK hP 77 rfl rfl 13 (by decide) (hT _ kw_30_3) (fun _ h9 => h9) rfl dX7_comingLeft_11 ?_
      refine lv_aload_n hx hb dX7_comingLeft_14 rfl (lv_at hl 0 rfl) ?_
      refine va_get (D := G) (ci := 7) (v := .ref (xa 10)) (C := RX7) (T := TX7) (N := 12) hx hb hT ku_7 hown hK hP 0 rfl rfl 9 (by decide) (hT _ kw_2_14) (fun _ h9 => h9) rfl dX7_comingLeft_15 ?_
      refine lv_iload_n hx hb dX7_comingLeft_18 rfl (lv_at hl 2 rfl) ?_
      obtain ⟨g2, h⟩ := tx_ck h
      refine va_iald (i := x2) hx hb hK hP 1 0 rfl rfl (tx_in g2) dX7_comingLeft_19 ?_
      obtain ⟨g3, h⟩ := tx_ck h
      refine va_iald (i := (X 10 x2.toNatClampNeg)) hx hb hK hP 83 0 rfl rfl (tx_in g3) dX7_comingLeft_20 ?_
      refine lv_iconst (v := 5) hx hb dX7_comingLeft_21 (by decide) ?_
      refine lv_icmp_ne (tgt := 27) hx hb dX7_comingLeft_22 (by decide) (fun c4 => ?_) (fun c4 => ?_)
      · have h := tx_neg c4 h
        obtain ⟨y5, ey5, h⟩ := tx_lt h
        refine lv_iinc (v := y5) (lv' := [(2, .int y5), (0, .ref (xa 0)), (1, .int x1)]) hx hb dX7_comingLeft_27 hl (k := 2) rfl ey5 (by decide) rfl (fun ls hl => ?_)
        refine lv_goto (tgt := 2) hx hb dX7_comingLeft_30 (by decide) ?_
        exact hk2 y5 H locs ls h hP hD hS (lv_sub hl [1, 2, 0] rfl)
      · have h := tx_pos c4 h
        refine lv_iconst (v := 1) hx hb dX7_comingLeft_25 (by decide) ?_
        obtain rfl := tx_1 h
        exact W.zret (ty := .boolean) hx hb hr rfl (fun t ht hW => ⟨⟨_, (), rfl, rfl, by rw [ht]; exact hP, hD⟩, hS.F ht⟩) hS.2.2 dX7_comingLeft_26
set_option maxHeartbeats 4000000 in
set_option maxRecDepth 100000 in
theorem c_X7_comingLeft (l : Launch) (G : va_G) (cA : Nat → ClassId) (sz : Nat) (xa : Nat → Nat) (ka : Nat → Nat) (ra : Nat → Nat) (na : Nat → Nat) (ia : Nat → Nat) (ua : Nat → Nat) (va : Nat → Nat) (ca : Nat → Nat) (za : Nat → Nat) (pa : Nat → Nat) (qa : Nat → Nat) (X : Tr) (K : Tr) (R : Tr) (P : Tr) (L : Lo) (P2 : Tr) (L2 : Lo) (Tn : Tr) (Ti : Tr) (Tu : Tr) (Tv : Tr) (C : Tr) (Z : Tr) (q0 : Nat) (q1 : Nat) (q2 : Nat) (q3 : Nat) (q4 : Nat) (q5 : Nat) (x1 : Int32)  (r0 : Int32) (h : f_X7_comingLeft pa qa X Tu x1 = some r0) : Met l yX7_comingLeft (.code yX7_comingLeft cX7_comingLeft 3 (some .boolean) :: T0) ({ frames := 0, cells := 0, slots := 0, locals := 0 } : Room) (tqP G cA [.ref (xa 0), .int x1] (wX cA xa ka ra na ia ua va ca za pa qa X K R P L P2 L2 Tn Ti Tu Tv C Z q0 q1 q2 q3 q4 q5) sz) (tqQi G cA (fun (r : Int32) (_ : Unit) => r = r0) (fun (_ : Unit) => wX cA xa ka ra na ia ua va ca za pa qa X K R P L P2 L2 Tn Ti Tu Tv C Z q0 q1 q2 q3 q4 q5) (va_A (wX cA xa ka ra na ia ua va ca za pa qa X K R P L P2 L2 Tn Ti Tu Tv C Z q0 q1 q2 q3 q4 q5) sz)) 0 0 (va_A (wX cA xa ka ra na ia ua va ca za pa qa X K R P L P2 L2 Tn Ti Tu Tv C Z q0 q1 q2 q3 q4 q5) sz) := by
  refine Met.ofW (cc := cX7_comingLeft) (maxL := 3) (ret := (some .boolean)) (by decide) rfl ?_
  intro p e s m args below meth c s₁ B hml hv
  obtain ⟨rfl, hsz, hP, hK, hD0, hN⟩ := hv
  have hx := B.exec
  have hb := B.bytes
  have hr := B.returns
  have hts := atoms_spec (ws := .code yX7_comingLeft cX7_comingLeft 3 (some .boolean) :: T0) B.pre
  have hT : ∀ w ∈ T0, w.before _ s = true := fun w h => hts w (List.mem_cons_of_mem _ h)
  have hown : s.vm.findClass RX7 = some m.cls := findClass_of_methodNamed B.named
  have hlocks := B.notSynchronized
  subst hsz
  have hD := hD0.self (sz := s.heap.size)
  generalize hAe : va_A (wX cA xa ka ra na ia ua va ca za pa qa X K R P L P2 L2 Tn Ti Tu Tv C Z q0 q1 q2 q3 q4 q5) s.heap.size = A at hD ⊢
  have hA : ∀ q : Nat, s.heap.size ≤ q → A q := fun q h => by rw [← hAe]; exact Or.inr h
  have hS : va_S A s.heap s.heap [] := va_S.rf
  have hl := lv_entry ([.ref (xa 0), .int x1]) (n := 3) (Nat.le_of_ble_eq_true rfl)
  rw [lg_entry_eq]
  generalize (lg_sl ([.ref (xa 0), .int x1]) ++ List.replicate (3 - (lg_sl ([.ref (xa 0), .int x1])).length) Slot.unset).toArray = ls at hl ⊢
  have hl : lv_has ls 3 [(0, .ref (xa 0)), (1, .int x1)] := hl
  have F : tF p s m ([.ref (xa 0), .int x1] : List Value).toArray meth c G cA A RX7 cX7_comingLeft 3 (some .boolean) := ⟨hx, hb, hr, hml, hT, hown, hlocks, hK, hN, hA⟩
  obtain ⟨H, hH⟩ : ∃ z, z = s.heap := ⟨_, rfl⟩
  rw [← hH] at hP
  have hS : va_S A s.heap H [] := by rw [hH]; exact hS
  suffices hgo : G_X7_comingLeft p l e s m below meth c G cA A xa ka ra na ia ua va ca za pa qa X K R P L P2 L2 Tn Ti Tu Tv C Z q0 q1 q2 q3 q4 q5 x1 r0 H [] (F0 m 0 ls []) by rw [hH] at hgo; exact hgo
  generalize ([] : List Loc) = locs at hS ⊢
  unfold f_X7_comingLeft at h
  refine lv_iconst (v := 0) hx hb dX7_comingLeft_0 (by decide) ?_
  refine lv_istore_n (lv' := [(2, .int 0), (0, .ref (xa 0)), (1, .int x1)]) hx hb dX7_comingLeft_1 rfl hl (by decide) rfl (fun ls hl => ?_)
  exact w_X7_comingLeft_L2 F 2000 0 H locs ls h hP hD hS (lv_sub hl [1, 2, 0] rfl)
abbrev G_X7_costOf (p : Program) (l : Launch) (e : Env) (s : State) (m : MethodId) (below : List Frame) (meth : Method) (c : Code) (G : va_G) (cA : Nat → ClassId) (A : Nat → Prop) (xa : Nat → Nat) (ka : Nat → Nat) (ra : Nat → Nat) (na : Nat → Nat) (ia : Nat → Nat) (ua : Nat → Nat) (va : Nat → Nat) (ca : Nat → Nat) (za : Nat → Nat) (pa : Nat → Nat) (qa : Nat → Nat) (X : Tr) (K : Tr) (R : Tr) (P : Tr) (L : Lo) (P2 : Tr) (L2 : Lo) (Tn : Tr) (Ti : Tr) (Tu : Tr) (Tv : Tr) (C : Tr) (Z : Tr) (q0 : Nat) (q1 : Nat) (q2 : Nat) (q3 : Nat) (q4 : Nat) (q5 : Nat) (x1 : Int32) (r0 : Int32) (H : Heap) (locs : List Loc) (g : JFrame) : Prop := W p l e (headSpec (.code yX7_costOf cX7_costOf 2 (some .int) :: T0) ({ frames := 0, cells := 0, slots := 0, locals := 0 } : Room)).room s m ([.ref (xa 0), .int x1] : List Value).toArray below meth c H locs 0 0 (MQ below (tqQi G cA (fun (r : Int32) (_ : Unit) => r = r0) (fun (_ : Unit) => wX cA xa ka ra na ia ua va ca za pa qa X K R P L P2 L2 Tn Ti Tu Tv C Z q0 q1 q2 q3 q4 q5) A) ([.ref (xa 0), .int x1] : List Value).toArray s 0 0 A) g
set_option maxHeartbeats 4000000 in
set_option maxRecDepth 100000 in
theorem c_X7_costOf (l : Launch) (G : va_G) (cA : Nat → ClassId) (sz : Nat) (xa : Nat → Nat) (ka : Nat → Nat) (ra : Nat → Nat) (na : Nat → Nat) (ia : Nat → Nat) (ua : Nat → Nat) (va : Nat → Nat) (ca : Nat → Nat) (za : Nat → Nat) (pa : Nat → Nat) (qa : Nat → Nat) (X : Tr) (K : Tr) (R : Tr) (P : Tr) (L : Lo) (P2 : Tr) (L2 : Lo) (Tn : Tr) (Ti : Tr) (Tu : Tr) (Tv : Tr) (C : Tr) (Z : Tr) (q0 : Nat) (q1 : Nat) (q2 : Nat) (q3 : Nat) (q4 : Nat) (q5 : Nat) (x1 : Int32)  (r0 : Int32) (h : f_X7_costOf pa qa P Tu q4 x1 = some r0) : Met l yX7_costOf (.code yX7_costOf cX7_costOf 2 (some .int) :: T0) ({ frames := 0, cells := 0, slots := 0, locals := 0 } : Room) (tqP G cA [.ref (xa 0), .int x1] (wX cA xa ka ra na ia ua va ca za pa qa X K R P L P2 L2 Tn Ti Tu Tv C Z q0 q1 q2 q3 q4 q5) sz) (tqQi G cA (fun (r : Int32) (_ : Unit) => r = r0) (fun (_ : Unit) => wX cA xa ka ra na ia ua va ca za pa qa X K R P L P2 L2 Tn Ti Tu Tv C Z q0 q1 q2 q3 q4 q5) (va_A (wX cA xa ka ra na ia ua va ca za pa qa X K R P L P2 L2 Tn Ti Tu Tv C Z q0 q1 q2 q3 q4 q5) sz)) 0 0 (va_A (wX cA xa ka ra na ia ua va ca za pa qa X K R P L P2 L2 Tn Ti Tu Tv C Z q0 q1 q2 q3 q4 q5) sz) := by
  refine Met.ofW (cc := cX7_costOf) (maxL := 2) (ret := (some .int)) (by decide) rfl ?_
  intro p e s m args below meth c s₁ B hml hv
  obtain ⟨rfl, hsz, hP, hK, hD0, hN⟩ := hv
  have hx := B.exec
  have hb := B.bytes
  have hr := B.returns
  have hts := atoms_spec (ws := .code yX7_costOf cX7_costOf 2 (some .int) :: T0) B.pre
  have hT : ∀ w ∈ T0, w.before _ s = true := fun w h => hts w (List.mem_cons_of_mem _ h)
  have hown : s.vm.findClass RX7 = some m.cls := findClass_of_methodNamed B.named
  have hlocks := B.notSynchronized
  subst hsz
  have hD := hD0.self (sz := s.heap.size)
  generalize hAe : va_A (wX cA xa ka ra na ia ua va ca za pa qa X K R P L P2 L2 Tn Ti Tu Tv C Z q0 q1 q2 q3 q4 q5) s.heap.size = A at hD ⊢
  have hA : ∀ q : Nat, s.heap.size ≤ q → A q := fun q h => by rw [← hAe]; exact Or.inr h
  have hS : va_S A s.heap s.heap [] := va_S.rf
  have hl := lv_entry ([.ref (xa 0), .int x1]) (n := 2) (Nat.le_of_ble_eq_true rfl)
  rw [lg_entry_eq]
  generalize (lg_sl ([.ref (xa 0), .int x1]) ++ List.replicate (2 - (lg_sl ([.ref (xa 0), .int x1])).length) Slot.unset).toArray = ls at hl ⊢
  have hl : lv_has ls 2 [(0, .ref (xa 0)), (1, .int x1)] := hl
  have F : tF p s m ([.ref (xa 0), .int x1] : List Value).toArray meth c G cA A RX7 cX7_costOf 2 (some .int) := ⟨hx, hb, hr, hml, hT, hown, hlocks, hK, hN, hA⟩
  obtain ⟨H, hH⟩ : ∃ z, z = s.heap := ⟨_, rfl⟩
  rw [← hH] at hP
  have hS : va_S A s.heap H [] := by rw [hH]; exact hS
  suffices hgo : G_X7_costOf p l e s m below meth c G cA A xa ka ra na ia ua va ca za pa qa X K R P L P2 L2 Tn Ti Tu Tv C Z q0 q1 q2 q3 q4 q5 x1 r0 H [] (F0 m 0 ls []) by rw [hH] at hgo; exact hgo
  generalize ([] : List Loc) = locs at hS ⊢
  unfold f_X7_costOf at h
  refine lv_aload_n hx hb dX7_costOf_0 rfl (lv_at hl 0 rfl) ?_
  refine va_get (D := G) (ci := 7) (v := .ref (ua 0)) (C := RX7) (T := TX7) (N := 12) hx hb hT ku_7 hown hK hP 0 rfl rfl 5 (by decide) (hT _ kw_2_3) (fun _ h9 => h9) rfl dX7_costOf_1 ?_
  refine va_get (D := G) (ci := 6) (v := .ref (ua 12)) (C := RX6) (T := TX6) (N := 20) hx hb hT ku_6 hown hK hP 77 rfl rfl 11 (by decide) (hT _ kw_29_2) (fun _ h9 => h9) rfl dX7_costOf_4 ?_
  refine lv_aload_n hx hb dX7_costOf_7 rfl (lv_at hl 0 rfl) ?_
  refine va_get (D := G) (ci := 7) (v := .ref q4) (C := RX7) (T := TX7) (N := 12) hx hb hT ku_7 hown hK hP 0 rfl rfl 1 (by decide) (hT _ kw_1_20) (fun _ h9 => h9) rfl dX7_costOf_8 ?_
  obtain ⟨g1, h⟩ := tx_ck h
  have eg1 := of_decide_eq_true g1
  subst eg1
  refine va_get (D := G) (ci := 2) (v := .ref (pa 14)) (C := RX2) (T := TX2) (N := 19) hx hb hT ku_2 hown hK hP 9 rfl rfl 13 (by decide) (hT _ kw_30_0) (fun _ h9 => h9) rfl dX7_costOf_11 ?_
  refine lv_iload_n hx hb dX7_costOf_14 rfl (lv_at hl 1 rfl) ?_
  obtain ⟨g2, h⟩ := tx_ck h
  refine va_iald (i := x1) hx hb hK hP 16 0 rfl rfl (tx_in g2) dX7_costOf_15 ?_
  obtain ⟨g3, h⟩ := tx_ck h
  refine va_iald (i := (P 14 x1.toNatClampNeg)) hx hb hK hP 81 0 rfl rfl (tx_in g3) dX7_costOf_16 ?_
  refine lv_aload_n hx hb dX7_costOf_17 rfl (lv_at hl 0 rfl) ?_
  refine va_get (D := G) (ci := 7) (v := .ref (ua 0)) (C := RX7) (T := TX7) (N := 12) hx hb hT ku_7 hown hK hP 0 rfl rfl 5 (by decide) (hT _ kw_2_3) (fun _ h9 => h9) rfl dX7_costOf_18 ?_
  refine va_get (D := G) (ci := 6) (v := .ref (ua 14)) (C := RX6) (T := TX6) (N := 20) hx hb hT ku_6 hown hK hP 77 rfl rfl 13 (by decide) (hT _ kw_30_3) (fun _ h9 => h9) rfl dX7_costOf_21 ?_
  refine lv_iload_n hx hb dX7_costOf_24 rfl (lv_at hl 1 rfl) ?_
  refine va_iald (i := x1) hx hb hK hP 83 0 rfl rfl (tx_in g2) dX7_costOf_25 ?_
  refine lv_iconst (v := 5) hx hb dX7_costOf_26 (by decide) ?_
  refine lv_icmp_ne (tgt := 36) hx hb dX7_costOf_27 (by decide) (fun c4 => ?_) (fun c4 => ?_)
  · have h := tx_neg c4 h
    refine lv_iconst (v := 0) hx hb dX7_costOf_36 (by decide) ?_
    refine lv_iadd hx hb dX7_costOf_37 ?_
    obtain rfl := tx_1 h
    exact W.iret hx hb hr (fun t ht hW => ⟨⟨_, (), rfl, rfl, by rw [ht]; exact hP, hD⟩, hS.F ht⟩) hS.2.2 dX7_costOf_38
  · have h := tx_pos c4 h
    refine lv_sipush (v := 999) hx hb dX7_costOf_30 (by decide) ?_
    refine lv_goto (tgt := 37) hx hb dX7_costOf_33 (by decide) ?_
    refine lv_iadd hx hb dX7_costOf_37 ?_
    obtain rfl := tx_1 h
    exact W.iret hx hb hr (fun t ht hW => ⟨⟨_, (), rfl, rfl, by rw [ht]; exact hP, hD⟩, hS.F ht⟩) hS.2.2 dX7_costOf_38
abbrev G_X4_regarded_x (p : Program) (l : Launch) (e : Env) (s : State) (m : MethodId) (below : List Frame) (meth : Method) (c : Code) (G : va_G) (cA : Nat → ClassId) (A : Nat → Prop) (xa : Nat → Nat) (ka : Nat → Nat) (ra : Nat → Nat) (na : Nat → Nat) (ia : Nat → Nat) (ua : Nat → Nat) (va : Nat → Nat) (ca : Nat → Nat) (za : Nat → Nat) (pa : Nat → Nat) (qa : Nat → Nat) (X : Tr) (K : Tr) (R : Tr) (P : Tr) (L : Lo) (P2 : Tr) (L2 : Lo) (Tn : Tr) (Ti : Tr) (Tu : Tr) (Tv : Tr) (C : Tr) (Z : Tr) (q0 : Nat) (q1 : Nat) (q2 : Nat) (q3 : Nat) (q4 : Nat) (q5 : Nat) (r0 : Int32) (H : Heap) (locs : List Loc) (g : JFrame) : Prop := W p l e (headSpec (.code yX4_regarded cX4_regarded 1 (some .int) :: T0) ({ frames := 0, cells := 0, slots := 0, locals := 0 } : Room)).room s m ([.ref (za 0)] : List Value).toArray below meth c H locs 0 0 (MQ below (tqQi G cA (fun (r : Int32) (_ : Unit) => r = r0) (fun (_ : Unit) => wX cA xa ka ra na ia ua va ca za pa qa X K R P L P2 L2 Tn Ti Tu Tv C Z q0 q1 q2 q3 q4 q5) A) ([.ref (za 0)] : List Value).toArray s 0 0 A) g
set_option maxHeartbeats 4000000 in
set_option maxRecDepth 100000 in
theorem c_X4_regarded_x (l : Launch) (G : va_G) (cA : Nat → ClassId) (sz : Nat) (xa : Nat → Nat) (ka : Nat → Nat) (ra : Nat → Nat) (na : Nat → Nat) (ia : Nat → Nat) (ua : Nat → Nat) (va : Nat → Nat) (ca : Nat → Nat) (za : Nat → Nat) (pa : Nat → Nat) (qa : Nat → Nat) (X : Tr) (K : Tr) (R : Tr) (P : Tr) (L : Lo) (P2 : Tr) (L2 : Lo) (Tn : Tr) (Ti : Tr) (Tu : Tr) (Tv : Tr) (C : Tr) (Z : Tr) (q0 : Nat) (q1 : Nat) (q2 : Nat) (q3 : Nat) (q4 : Nat) (q5 : Nat)  (r0 : Int32) (h : f_X4_regarded_x pa qa Z = some r0) : Met l yX4_regarded (.code yX4_regarded cX4_regarded 1 (some .int) :: T0) ({ frames := 0, cells := 0, slots := 0, locals := 0 } : Room) (tqP G cA [.ref (za 0)] (wX cA xa ka ra na ia ua va ca za pa qa X K R P L P2 L2 Tn Ti Tu Tv C Z q0 q1 q2 q3 q4 q5) sz) (tqQi G cA (fun (r : Int32) (_ : Unit) => r = r0) (fun (_ : Unit) => wX cA xa ka ra na ia ua va ca za pa qa X K R P L P2 L2 Tn Ti Tu Tv C Z q0 q1 q2 q3 q4 q5) (va_A (wX cA xa ka ra na ia ua va ca za pa qa X K R P L P2 L2 Tn Ti Tu Tv C Z q0 q1 q2 q3 q4 q5) sz)) 0 0 (va_A (wX cA xa ka ra na ia ua va ca za pa qa X K R P L P2 L2 Tn Ti Tu Tv C Z q0 q1 q2 q3 q4 q5) sz) := by
  refine Met.ofW (cc := cX4_regarded) (maxL := 1) (ret := (some .int)) (by decide) rfl ?_
  intro p e s m args below meth c s₁ B hml hv
  obtain ⟨rfl, hsz, hP, hK, hD0, hN⟩ := hv
  have hx := B.exec
  have hb := B.bytes
  have hr := B.returns
  have hts := atoms_spec (ws := .code yX4_regarded cX4_regarded 1 (some .int) :: T0) B.pre
  have hT : ∀ w ∈ T0, w.before _ s = true := fun w h => hts w (List.mem_cons_of_mem _ h)
  have hown : s.vm.findClass RX4 = some m.cls := findClass_of_methodNamed B.named
  have hlocks := B.notSynchronized
  subst hsz
  have hD := hD0.self (sz := s.heap.size)
  generalize hAe : va_A (wX cA xa ka ra na ia ua va ca za pa qa X K R P L P2 L2 Tn Ti Tu Tv C Z q0 q1 q2 q3 q4 q5) s.heap.size = A at hD ⊢
  have hA : ∀ q : Nat, s.heap.size ≤ q → A q := fun q h => by rw [← hAe]; exact Or.inr h
  have hS : va_S A s.heap s.heap [] := va_S.rf
  have hl := lv_entry ([.ref (za 0)]) (n := 1) (Nat.le_of_ble_eq_true rfl)
  rw [lg_entry_eq]
  generalize (lg_sl ([.ref (za 0)]) ++ List.replicate (1 - (lg_sl ([.ref (za 0)])).length) Slot.unset).toArray = ls at hl ⊢
  have hl : lv_has ls 1 [(0, .ref (za 0))] := hl
  have F : tF p s m ([.ref (za 0)] : List Value).toArray meth c G cA A RX4 cX4_regarded 1 (some .int) := ⟨hx, hb, hr, hml, hT, hown, hlocks, hK, hN, hA⟩
  obtain ⟨H, hH⟩ : ∃ z, z = s.heap := ⟨_, rfl⟩
  rw [← hH] at hP
  have hS : va_S A s.heap H [] := by rw [hH]; exact hS
  suffices hgo : G_X4_regarded_x p l e s m below meth c G cA A xa ka ra na ia ua va ca za pa qa X K R P L P2 L2 Tn Ti Tu Tv C Z q0 q1 q2 q3 q4 q5 r0 H [] (F0 m 0 ls []) by rw [hH] at hgo; exact hgo
  generalize ([] : List Loc) = locs at hS ⊢
  unfold f_X4_regarded_x at h
  refine lv_aload_n hx hb dX4_regarded_0 rfl (lv_at hl 0 rfl) ?_
  refine va_get (D := G) (ci := 4) (v := .int (Z 0 1)) (C := RX4) (T := TX4) (N := 7) hx hb hT ku_4 hown hK hP 103 rfl rfl 1 (by decide) (hT _ kw_8_23) (fun _ h9 => h9) rfl dX4_regarded_1 ?_
  refine lv_if_ge (tgt := 14) hx hb dX4_regarded_4 (by decide) (fun c1 => ?_) (fun c1 => ?_)
  · have h := tx_pos c1 h
    refine lv_aload_n hx hb dX4_regarded_14 rfl (lv_at hl 0 rfl) ?_
    refine va_get (D := G) (ci := 4) (v := .int (Z 0 1)) (C := RX4) (T := TX4) (N := 7) hx hb hT ku_4 hown hK hP 103 rfl rfl 1 (by decide) (hT _ kw_8_23) (fun _ h9 => h9) rfl dX4_regarded_15 ?_
    obtain rfl := tx_1 h
    exact W.iret hx hb hr (fun t ht hW => ⟨⟨_, (), rfl, rfl, by rw [ht]; exact hP, hD⟩, hS.F ht⟩) hS.2.2 dX4_regarded_18
  · have h := tx_neg c1 h
    refine lv_aload_n hx hb dX4_regarded_7 rfl (lv_at hl 0 rfl) ?_
    refine va_get (D := G) (ci := 4) (v := .int (Z 0 0)) (C := RX4) (T := TX4) (N := 7) hx hb hT ku_4 hown hK hP 103 rfl rfl 0 (by decide) (hT _ kw_8_22) (fun _ h9 => h9) rfl dX4_regarded_8 ?_
    refine lv_goto (tgt := 18) hx hb dX4_regarded_11 (by decide) ?_
    obtain rfl := tx_1 h
    exact W.iret hx hb hr (fun t ht hW => ⟨⟨_, (), rfl, rfl, by rw [ht]; exact hP, hD⟩, hS.F ht⟩) hS.2.2 dX4_regarded_18
abbrev G_X7_count (p : Program) (l : Launch) (e : Env) (s : State) (m : MethodId) (below : List Frame) (meth : Method) (c : Code) (G : va_G) (cA : Nat → ClassId) (A : Nat → Prop) (xa : Nat → Nat) (ka : Nat → Nat) (ra : Nat → Nat) (na : Nat → Nat) (ia : Nat → Nat) (ua : Nat → Nat) (va : Nat → Nat) (ca : Nat → Nat) (za : Nat → Nat) (pa : Nat → Nat) (qa : Nat → Nat) (X : Tr) (K : Tr) (R : Tr) (P : Tr) (L : Lo) (P2 : Tr) (L2 : Lo) (Tn : Tr) (Ti : Tr) (Tu : Tr) (Tv : Tr) (C : Tr) (Z : Tr) (q0 : Nat) (q1 : Nat) (q2 : Nat) (q3 : Nat) (q4 : Nat) (q5 : Nat) (x1 : Int32) (r0 : Int32) (H : Heap) (locs : List Loc) (g : JFrame) : Prop := W p l e (headSpec (.code yX7_count cX7_count 2 (some .int) :: T0) ({ frames := 1, cells := 0, slots := 0, locals := 23 } : Room)).room s m ([.ref (xa 0), .int x1] : List Value).toArray below meth c H locs 0 0 (MQ below (tqQi G cA (fun (r : Int32) (_ : Unit) => r = r0) (fun (_ : Unit) => wX cA xa ka ra na ia ua va ca za pa qa X K R P L P2 L2 Tn Ti Tu Tv C Z q0 q1 q2 q3 q4 q5) A) ([.ref (xa 0), .int x1] : List Value).toArray s 0 0 A) g
set_option maxHeartbeats 4000000 in
set_option maxRecDepth 100000 in
theorem c_X7_count (l : Launch) (G : va_G) (cA : Nat → ClassId) (sz : Nat) (xa : Nat → Nat) (ka : Nat → Nat) (ra : Nat → Nat) (na : Nat → Nat) (ia : Nat → Nat) (ua : Nat → Nat) (va : Nat → Nat) (ca : Nat → Nat) (za : Nat → Nat) (pa : Nat → Nat) (qa : Nat → Nat) (X : Tr) (K : Tr) (R : Tr) (P : Tr) (L : Lo) (P2 : Tr) (L2 : Lo) (Tn : Tr) (Ti : Tr) (Tu : Tr) (Tv : Tr) (C : Tr) (Z : Tr) (q0 : Nat) (q1 : Nat) (q2 : Nat) (q3 : Nat) (q4 : Nat) (q5 : Nat) (x1 : Int32)  (r0 : Int32) (h : f_X7_count pa qa P Tn C Z q0 q4 x1 = some r0) : Met l yX7_count (.code yX7_count cX7_count 2 (some .int) :: T0) ({ frames := 1, cells := 0, slots := 0, locals := 23 } : Room) (tqP G cA [.ref (xa 0), .int x1] (wX cA xa ka ra na ia ua va ca za pa qa X K R P L P2 L2 Tn Ti Tu Tv C Z q0 q1 q2 q3 q4 q5) sz) (tqQi G cA (fun (r : Int32) (_ : Unit) => r = r0) (fun (_ : Unit) => wX cA xa ka ra na ia ua va ca za pa qa X K R P L P2 L2 Tn Ti Tu Tv C Z q0 q1 q2 q3 q4 q5) (va_A (wX cA xa ka ra na ia ua va ca za pa qa X K R P L P2 L2 Tn Ti Tu Tv C Z q0 q1 q2 q3 q4 q5) sz)) 0 0 (va_A (wX cA xa ka ra na ia ua va ca za pa qa X K R P L P2 L2 Tn Ti Tu Tv C Z q0 q1 q2 q3 q4 q5) sz) := by
  refine Met.ofW (cc := cX7_count) (maxL := 2) (ret := (some .int)) (by decide) rfl ?_
  intro p e s m args below meth c s₁ B hml hv
  obtain ⟨rfl, hsz, hP, hK, hD0, hN⟩ := hv
  have hx := B.exec
  have hb := B.bytes
  have hr := B.returns
  have hts := atoms_spec (ws := .code yX7_count cX7_count 2 (some .int) :: T0) B.pre
  have hT : ∀ w ∈ T0, w.before _ s = true := fun w h => hts w (List.mem_cons_of_mem _ h)
  have hown : s.vm.findClass RX7 = some m.cls := findClass_of_methodNamed B.named
  have hlocks := B.notSynchronized
  subst hsz
  have hD := hD0.self (sz := s.heap.size)
  generalize hAe : va_A (wX cA xa ka ra na ia ua va ca za pa qa X K R P L P2 L2 Tn Ti Tu Tv C Z q0 q1 q2 q3 q4 q5) s.heap.size = A at hD ⊢
  have hA : ∀ q : Nat, s.heap.size ≤ q → A q := fun q h => by rw [← hAe]; exact Or.inr h
  have hS : va_S A s.heap s.heap [] := va_S.rf
  have hl := lv_entry ([.ref (xa 0), .int x1]) (n := 2) (Nat.le_of_ble_eq_true rfl)
  rw [lg_entry_eq]
  generalize (lg_sl ([.ref (xa 0), .int x1]) ++ List.replicate (2 - (lg_sl ([.ref (xa 0), .int x1])).length) Slot.unset).toArray = ls at hl ⊢
  have hl : lv_has ls 2 [(0, .ref (xa 0)), (1, .int x1)] := hl
  have F : tF p s m ([.ref (xa 0), .int x1] : List Value).toArray meth c G cA A RX7 cX7_count 2 (some .int) := ⟨hx, hb, hr, hml, hT, hown, hlocks, hK, hN, hA⟩
  obtain ⟨H, hH⟩ : ∃ z, z = s.heap := ⟨_, rfl⟩
  rw [← hH] at hP
  have hS : va_S A s.heap H [] := by rw [hH]; exact hS
  suffices hgo : G_X7_count p l e s m below meth c G cA A xa ka ra na ia ua va ca za pa qa X K R P L P2 L2 Tn Ti Tu Tv C Z q0 q1 q2 q3 q4 q5 x1 r0 H [] (F0 m 0 ls []) by rw [hH] at hgo; exact hgo
  generalize ([] : List Loc) = locs at hS ⊢
  unfold f_X7_count at h
  refine lv_iload_n hx hb dX7_count_0 rfl (lv_at hl 1 rfl) ?_
  by_cases c1 : x1 = 0
  · have h := tx_pos c1 h
    refine lv_tableIn (off := 79) (tgt := 88) hx hb dX7_count_1 (by rw [c1]; decide) (by rw [c1]; decide) (by rw [c1]; decide) (by decide) ?_
    refine lv_aload_n hx hb dX7_count_80 rfl (lv_at hl 0 rfl) ?_
    refine va_get (D := G) (ci := 7) (v := .ref q4) (C := RX7) (T := TX7) (N := 12) hx hb hT ku_7 hown hK hP 0 rfl rfl 1 (by decide) (hT _ kw_1_20) (fun _ h9 => h9) rfl dX7_count_81 ?_
    obtain ⟨g2, h⟩ := tx_ck h
    have eg2 := of_decide_eq_true g2
    subst eg2
    refine va_get (D := G) (ci := 2) (v := .int (P 0 0)) (C := RX2) (T := TX2) (N := 19) hx hb hT ku_2 hown hK hP 9 rfl rfl 0 (by decide) (hT _ kw_32_2) (fun _ h9 => h9) rfl dX7_count_84 ?_
    obtain rfl := tx_1 h
    exact W.iret hx hb hr (fun t ht hW => ⟨⟨_, (), rfl, rfl, by rw [ht]; exact hP, hD⟩, hS.F ht⟩) hS.2.2 dX7_count_87
  · have h := tx_neg c1 h
    by_cases c3 : x1 = 1
    · have h := tx_pos c3 h
      refine lv_tableIn (off := 87) (tgt := 96) hx hb dX7_count_1 (by rw [c3]; decide) (by rw [c3]; decide) (by rw [c3]; decide) (by decide) ?_
      refine lv_aload_n hx hb dX7_count_88 rfl (lv_at hl 0 rfl) ?_
      refine va_get (D := G) (ci := 7) (v := .ref q4) (C := RX7) (T := TX7) (N := 12) hx hb hT ku_7 hown hK hP 0 rfl rfl 1 (by decide) (hT _ kw_1_20) (fun _ h9 => h9) rfl dX7_count_89 ?_
      obtain ⟨g4, h⟩ := tx_ck h
      have eg4 := of_decide_eq_true g4
      subst eg4
      refine va_get (D := G) (ci := 2) (v := .int (P 0 1)) (C := RX2) (T := TX2) (N := 19) hx hb hT ku_2 hown hK hP 9 rfl rfl 1 (by decide) (hT _ kw_29_7) (fun _ h9 => h9) rfl dX7_count_92 ?_
      obtain rfl := tx_1 h
      exact W.iret hx hb hr (fun t ht hW => ⟨⟨_, (), rfl, rfl, by rw [ht]; exact hP, hD⟩, hS.F ht⟩) hS.2.2 dX7_count_95
    · have h := tx_neg c3 h
      by_cases c5 : x1 = 2
      · have h := tx_pos c5 h
        refine lv_tableIn (off := 95) (tgt := 104) hx hb dX7_count_1 (by rw [c5]; decide) (by rw [c5]; decide) (by rw [c5]; decide) (by decide) ?_
        refine lv_aload_n hx hb dX7_count_96 rfl (lv_at hl 0 rfl) ?_
        refine va_get (D := G) (ci := 7) (v := .ref q4) (C := RX7) (T := TX7) (N := 12) hx hb hT ku_7 hown hK hP 0 rfl rfl 1 (by decide) (hT _ kw_1_20) (fun _ h9 => h9) rfl dX7_count_97 ?_
        obtain ⟨g6, h⟩ := tx_ck h
        have eg6 := of_decide_eq_true g6
        subst eg6
        refine va_get (D := G) (ci := 2) (v := .int (P 0 2)) (C := RX2) (T := TX2) (N := 19) hx hb hT ku_2 hown hK hP 9 rfl rfl 2 (by decide) (hT _ kw_30_9) (fun _ h9 => h9) rfl dX7_count_100 ?_
        obtain rfl := tx_1 h
        exact W.iret hx hb hr (fun t ht hW => ⟨⟨_, (), rfl, rfl, by rw [ht]; exact hP, hD⟩, hS.F ht⟩) hS.2.2 dX7_count_103
      · have h := tx_neg c5 h
        by_cases c7 : x1 = 3
        · have h := tx_pos c7 h
          refine lv_tableIn (off := 103) (tgt := 112) hx hb dX7_count_1 (by rw [c7]; decide) (by rw [c7]; decide) (by rw [c7]; decide) (by decide) ?_
          refine lv_aload_n hx hb dX7_count_104 rfl (lv_at hl 0 rfl) ?_
          refine va_get (D := G) (ci := 7) (v := .ref q4) (C := RX7) (T := TX7) (N := 12) hx hb hT ku_7 hown hK hP 0 rfl rfl 1 (by decide) (hT _ kw_1_20) (fun _ h9 => h9) rfl dX7_count_105 ?_
          obtain ⟨g8, h⟩ := tx_ck h
          have eg8 := of_decide_eq_true g8
          subst eg8
          refine va_get (D := G) (ci := 2) (v := .int (P 0 3)) (C := RX2) (T := TX2) (N := 19) hx hb hT ku_2 hown hK hP 9 rfl rfl 3 (by decide) (hT _ kw_59_19) (fun _ h9 => h9) rfl dX7_count_108 ?_
          obtain rfl := tx_1 h
          exact W.iret hx hb hr (fun t ht hW => ⟨⟨_, (), rfl, rfl, by rw [ht]; exact hP, hD⟩, hS.F ht⟩) hS.2.2 dX7_count_111
        · have h := tx_neg c7 h
          by_cases c9 : x1 = 4
          · have h := tx_pos c9 h
            refine lv_tableIn (off := 111) (tgt := 120) hx hb dX7_count_1 (by rw [c9]; decide) (by rw [c9]; decide) (by rw [c9]; decide) (by decide) ?_
            refine lv_aload_n hx hb dX7_count_112 rfl (lv_at hl 0 rfl) ?_
            refine va_get (D := G) (ci := 7) (v := .ref (na 0)) (C := RX7) (T := TX7) (N := 12) hx hb hT ku_7 hown hK hP 0 rfl rfl 2 (by decide) (hT _ kw_2_0) (fun _ h9 => h9) rfl dX7_count_113 ?_
            refine va_get (D := G) (ci := 6) (v := .int (Tn 0 0)) (C := RX6) (T := TX6) (N := 20) hx hb hT ku_6 hown hK hP 53 rfl rfl 0 (by decide) (hT _ kw_40_5) (fun _ h9 => h9) rfl dX7_count_116 ?_
            obtain rfl := tx_1 h
            exact W.iret hx hb hr (fun t ht hW => ⟨⟨_, (), rfl, rfl, by rw [ht]; exact hP, hD⟩, hS.F ht⟩) hS.2.2 dX7_count_119
          · have h := tx_neg c9 h
            by_cases c10 : x1 = 5
            · have h := tx_pos c10 h
              refine lv_tableIn (off := 119) (tgt := 128) hx hb dX7_count_1 (by rw [c10]; decide) (by rw [c10]; decide) (by rw [c10]; decide) (by decide) ?_
              refine lv_aload_n hx hb dX7_count_120 rfl (lv_at hl 0 rfl) ?_
              refine va_get (D := G) (ci := 7) (v := .ref (na 0)) (C := RX7) (T := TX7) (N := 12) hx hb hT ku_7 hown hK hP 0 rfl rfl 2 (by decide) (hT _ kw_2_0) (fun _ h9 => h9) rfl dX7_count_121 ?_
              refine va_get (D := G) (ci := 6) (v := .int (Tn 0 1)) (C := RX6) (T := TX6) (N := 20) hx hb hT ku_6 hown hK hP 53 rfl rfl 1 (by decide) (hT _ kw_46_16) (fun _ h9 => h9) rfl dX7_count_124 ?_
              obtain rfl := tx_1 h
              exact W.iret hx hb hr (fun t ht hW => ⟨⟨_, (), rfl, rfl, by rw [ht]; exact hP, hD⟩, hS.F ht⟩) hS.2.2 dX7_count_127
            · have h := tx_neg c10 h
              by_cases c11 : x1 = 6
              · have h := tx_pos c11 h
                refine lv_tableIn (off := 127) (tgt := 142) hx hb dX7_count_1 (by rw [c11]; decide) (by rw [c11]; decide) (by rw [c11]; decide) (by decide) ?_
                refine lv_aload_n hx hb dX7_count_128 rfl (lv_at hl 0 rfl) ?_
                refine va_get (D := G) (ci := 7) (v := .ref (na 0)) (C := RX7) (T := TX7) (N := 12) hx hb hT ku_7 hown hK hP 0 rfl rfl 2 (by decide) (hT _ kw_2_0) (fun _ h9 => h9) rfl dX7_count_129 ?_
                refine lv_iload_n hx hb dX7_count_132 rfl (lv_at hl 1 rfl) ?_
                refine lv_bipush (v := 6) hx hb dX7_count_133 (by decide) ?_
                refine lv_isub hx hb dX7_count_135 ?_
                refine lv_iconst (v := 1) hx hb dX7_count_136 (by decide) ?_
                refine lv_iadd hx hb dX7_count_137 ?_
                obtain ⟨g12, h⟩ := tx_ck h
                have eg12 := of_decide_eq_true g12
                subst eg12
                obtain ⟨r13, hc14, h⟩ := tx_bd h
                refine tw_ci pX_na hP hD hS hA (va_runV (As := [.int ((x1 - 6) + 1)]) (rest := []) ⟨hx, hb, hml, hown, hT⟩ (c_X6_piecesThatAre l G cA H.size na pa Tn P L ((x1 - 6) + 1)  r13 hc14) (cwV 1 hT (tq_gV kw_59_21 kw_59_22 kw_59_23 kw_1_23 kw_60_0) rfl rfl rfl (by decide +kernel) ⟨Nat.le_of_ble_eq_true rfl, Nat.le_of_ble_eq_true rfl⟩) ⟨(tw_pre pX_na hP hD hK hN).1, va_recv hK hP (ci := 6) (q0 := 53) rfl rfl, (tw_pre pX_na hP hD hK hN).2⟩ rfl rfl hl.1 rfl (lv_room (Nat.le_of_ble_eq_true rfl)) dX7_count_138 ⟨Nat.le_of_ble_eq_true rfl, Nat.le_of_ble_eq_true rfl⟩) (fun _ _ H locs z15 hP hD hS => ?_)
                subst z15
                replace hP := tw_P pX_na.symm hP
                replace hD := tw_D pX_na.symm hD
                have hP : va_P G vwCl (wX cA xa ka ra na ia ua va ca za pa qa X K R P L P2 L2 Tn Ti Tu Tv C Z (pa 0) q1 q2 q3 q4 q5) H := hP
                have hD : va_D A (wX cA xa ka ra na ia ua va ca za pa qa X K R P L P2 L2 Tn Ti Tu Tv C Z (pa 0) q1 q2 q3 q4 q5) := hD
                obtain rfl := tx_1 h
                exact W.iret hx hb hr (fun t ht hW => ⟨⟨_, (), rfl, rfl, by rw [ht]; exact hP, hD⟩, hS.F ht⟩) hS.2.2 dX7_count_141
              · have h := tx_neg c11 h
                by_cases c16 : x1 = 7
                · have h := tx_pos c16 h
                  refine lv_tableIn (off := 127) (tgt := 142) hx hb dX7_count_1 (by rw [c16]; decide) (by rw [c16]; decide) (by rw [c16]; decide) (by decide) ?_
                  refine lv_aload_n hx hb dX7_count_128 rfl (lv_at hl 0 rfl) ?_
                  refine va_get (D := G) (ci := 7) (v := .ref (na 0)) (C := RX7) (T := TX7) (N := 12) hx hb hT ku_7 hown hK hP 0 rfl rfl 2 (by decide) (hT _ kw_2_0) (fun _ h9 => h9) rfl dX7_count_129 ?_
                  refine lv_iload_n hx hb dX7_count_132 rfl (lv_at hl 1 rfl) ?_
                  refine lv_bipush (v := 6) hx hb dX7_count_133 (by decide) ?_
                  refine lv_isub hx hb dX7_count_135 ?_
                  refine lv_iconst (v := 1) hx hb dX7_count_136 (by decide) ?_
                  refine lv_iadd hx hb dX7_count_137 ?_
                  obtain ⟨g17, h⟩ := tx_ck h
                  have eg17 := of_decide_eq_true g17
                  subst eg17
                  obtain ⟨r18, hc19, h⟩ := tx_bd h
                  refine tw_ci pX_na hP hD hS hA (va_runV (As := [.int ((x1 - 6) + 1)]) (rest := []) ⟨hx, hb, hml, hown, hT⟩ (c_X6_piecesThatAre l G cA H.size na pa Tn P L ((x1 - 6) + 1)  r18 hc19) (cwV 1 hT (tq_gV kw_59_21 kw_59_22 kw_59_23 kw_1_23 kw_60_0) rfl rfl rfl (by decide +kernel) ⟨Nat.le_of_ble_eq_true rfl, Nat.le_of_ble_eq_true rfl⟩) ⟨(tw_pre pX_na hP hD hK hN).1, va_recv hK hP (ci := 6) (q0 := 53) rfl rfl, (tw_pre pX_na hP hD hK hN).2⟩ rfl rfl hl.1 rfl (lv_room (Nat.le_of_ble_eq_true rfl)) dX7_count_138 ⟨Nat.le_of_ble_eq_true rfl, Nat.le_of_ble_eq_true rfl⟩) (fun _ _ H locs z20 hP hD hS => ?_)
                  subst z20
                  replace hP := tw_P pX_na.symm hP
                  replace hD := tw_D pX_na.symm hD
                  have hP : va_P G vwCl (wX cA xa ka ra na ia ua va ca za pa qa X K R P L P2 L2 Tn Ti Tu Tv C Z (pa 0) q1 q2 q3 q4 q5) H := hP
                  have hD : va_D A (wX cA xa ka ra na ia ua va ca za pa qa X K R P L P2 L2 Tn Ti Tu Tv C Z (pa 0) q1 q2 q3 q4 q5) := hD
                  obtain rfl := tx_1 h
                  exact W.iret hx hb hr (fun t ht hW => ⟨⟨_, (), rfl, rfl, by rw [ht]; exact hP, hD⟩, hS.F ht⟩) hS.2.2 dX7_count_141
                · have h := tx_neg c16 h
                  by_cases c21 : x1 = 8
                  · have h := tx_pos c21 h
                    refine lv_tableIn (off := 127) (tgt := 142) hx hb dX7_count_1 (by rw [c21]; decide) (by rw [c21]; decide) (by rw [c21]; decide) (by decide) ?_
                    refine lv_aload_n hx hb dX7_count_128 rfl (lv_at hl 0 rfl) ?_
                    refine va_get (D := G) (ci := 7) (v := .ref (na 0)) (C := RX7) (T := TX7) (N := 12) hx hb hT ku_7 hown hK hP 0 rfl rfl 2 (by decide) (hT _ kw_2_0) (fun _ h9 => h9) rfl dX7_count_129 ?_
                    refine lv_iload_n hx hb dX7_count_132 rfl (lv_at hl 1 rfl) ?_
                    refine lv_bipush (v := 6) hx hb dX7_count_133 (by decide) ?_
                    refine lv_isub hx hb dX7_count_135 ?_
                    refine lv_iconst (v := 1) hx hb dX7_count_136 (by decide) ?_
                    refine lv_iadd hx hb dX7_count_137 ?_
                    obtain ⟨g22, h⟩ := tx_ck h
                    have eg22 := of_decide_eq_true g22
                    subst eg22
                    obtain ⟨r23, hc24, h⟩ := tx_bd h
                    refine tw_ci pX_na hP hD hS hA (va_runV (As := [.int ((x1 - 6) + 1)]) (rest := []) ⟨hx, hb, hml, hown, hT⟩ (c_X6_piecesThatAre l G cA H.size na pa Tn P L ((x1 - 6) + 1)  r23 hc24) (cwV 1 hT (tq_gV kw_59_21 kw_59_22 kw_59_23 kw_1_23 kw_60_0) rfl rfl rfl (by decide +kernel) ⟨Nat.le_of_ble_eq_true rfl, Nat.le_of_ble_eq_true rfl⟩) ⟨(tw_pre pX_na hP hD hK hN).1, va_recv hK hP (ci := 6) (q0 := 53) rfl rfl, (tw_pre pX_na hP hD hK hN).2⟩ rfl rfl hl.1 rfl (lv_room (Nat.le_of_ble_eq_true rfl)) dX7_count_138 ⟨Nat.le_of_ble_eq_true rfl, Nat.le_of_ble_eq_true rfl⟩) (fun _ _ H locs z25 hP hD hS => ?_)
                    subst z25
                    replace hP := tw_P pX_na.symm hP
                    replace hD := tw_D pX_na.symm hD
                    have hP : va_P G vwCl (wX cA xa ka ra na ia ua va ca za pa qa X K R P L P2 L2 Tn Ti Tu Tv C Z (pa 0) q1 q2 q3 q4 q5) H := hP
                    have hD : va_D A (wX cA xa ka ra na ia ua va ca za pa qa X K R P L P2 L2 Tn Ti Tu Tv C Z (pa 0) q1 q2 q3 q4 q5) := hD
                    obtain rfl := tx_1 h
                    exact W.iret hx hb hr (fun t ht hW => ⟨⟨_, (), rfl, rfl, by rw [ht]; exact hP, hD⟩, hS.F ht⟩) hS.2.2 dX7_count_141
                  · have h := tx_neg c21 h
                    by_cases c26 : x1 = 9
                    · have h := tx_pos c26 h
                      refine lv_tableIn (off := 127) (tgt := 142) hx hb dX7_count_1 (by rw [c26]; decide) (by rw [c26]; decide) (by rw [c26]; decide) (by decide) ?_
                      refine lv_aload_n hx hb dX7_count_128 rfl (lv_at hl 0 rfl) ?_
                      refine va_get (D := G) (ci := 7) (v := .ref (na 0)) (C := RX7) (T := TX7) (N := 12) hx hb hT ku_7 hown hK hP 0 rfl rfl 2 (by decide) (hT _ kw_2_0) (fun _ h9 => h9) rfl dX7_count_129 ?_
                      refine lv_iload_n hx hb dX7_count_132 rfl (lv_at hl 1 rfl) ?_
                      refine lv_bipush (v := 6) hx hb dX7_count_133 (by decide) ?_
                      refine lv_isub hx hb dX7_count_135 ?_
                      refine lv_iconst (v := 1) hx hb dX7_count_136 (by decide) ?_
                      refine lv_iadd hx hb dX7_count_137 ?_
                      obtain ⟨g27, h⟩ := tx_ck h
                      have eg27 := of_decide_eq_true g27
                      subst eg27
                      obtain ⟨r28, hc29, h⟩ := tx_bd h
                      refine tw_ci pX_na hP hD hS hA (va_runV (As := [.int ((x1 - 6) + 1)]) (rest := []) ⟨hx, hb, hml, hown, hT⟩ (c_X6_piecesThatAre l G cA H.size na pa Tn P L ((x1 - 6) + 1)  r28 hc29) (cwV 1 hT (tq_gV kw_59_21 kw_59_22 kw_59_23 kw_1_23 kw_60_0) rfl rfl rfl (by decide +kernel) ⟨Nat.le_of_ble_eq_true rfl, Nat.le_of_ble_eq_true rfl⟩) ⟨(tw_pre pX_na hP hD hK hN).1, va_recv hK hP (ci := 6) (q0 := 53) rfl rfl, (tw_pre pX_na hP hD hK hN).2⟩ rfl rfl hl.1 rfl (lv_room (Nat.le_of_ble_eq_true rfl)) dX7_count_138 ⟨Nat.le_of_ble_eq_true rfl, Nat.le_of_ble_eq_true rfl⟩) (fun _ _ H locs z30 hP hD hS => ?_)
                      subst z30
                      replace hP := tw_P pX_na.symm hP
                      replace hD := tw_D pX_na.symm hD
                      have hP : va_P G vwCl (wX cA xa ka ra na ia ua va ca za pa qa X K R P L P2 L2 Tn Ti Tu Tv C Z (pa 0) q1 q2 q3 q4 q5) H := hP
                      have hD : va_D A (wX cA xa ka ra na ia ua va ca za pa qa X K R P L P2 L2 Tn Ti Tu Tv C Z (pa 0) q1 q2 q3 q4 q5) := hD
                      obtain rfl := tx_1 h
                      exact W.iret hx hb hr (fun t ht hW => ⟨⟨_, (), rfl, rfl, by rw [ht]; exact hP, hD⟩, hS.F ht⟩) hS.2.2 dX7_count_141
                    · have h := tx_neg c26 h
                      by_cases c31 : x1 = 10
                      · have h := tx_pos c31 h
                        refine lv_tableIn (off := 127) (tgt := 142) hx hb dX7_count_1 (by rw [c31]; decide) (by rw [c31]; decide) (by rw [c31]; decide) (by decide) ?_
                        refine lv_aload_n hx hb dX7_count_128 rfl (lv_at hl 0 rfl) ?_
                        refine va_get (D := G) (ci := 7) (v := .ref (na 0)) (C := RX7) (T := TX7) (N := 12) hx hb hT ku_7 hown hK hP 0 rfl rfl 2 (by decide) (hT _ kw_2_0) (fun _ h9 => h9) rfl dX7_count_129 ?_
                        refine lv_iload_n hx hb dX7_count_132 rfl (lv_at hl 1 rfl) ?_
                        refine lv_bipush (v := 6) hx hb dX7_count_133 (by decide) ?_
                        refine lv_isub hx hb dX7_count_135 ?_
                        refine lv_iconst (v := 1) hx hb dX7_count_136 (by decide) ?_
                        refine lv_iadd hx hb dX7_count_137 ?_
                        obtain ⟨g32, h⟩ := tx_ck h
                        have eg32 := of_decide_eq_true g32
                        subst eg32
                        obtain ⟨r33, hc34, h⟩ := tx_bd h
                        refine tw_ci pX_na hP hD hS hA (va_runV (As := [.int ((x1 - 6) + 1)]) (rest := []) ⟨hx, hb, hml, hown, hT⟩ (c_X6_piecesThatAre l G cA H.size na pa Tn P L ((x1 - 6) + 1)  r33 hc34) (cwV 1 hT (tq_gV kw_59_21 kw_59_22 kw_59_23 kw_1_23 kw_60_0) rfl rfl rfl (by decide +kernel) ⟨Nat.le_of_ble_eq_true rfl, Nat.le_of_ble_eq_true rfl⟩) ⟨(tw_pre pX_na hP hD hK hN).1, va_recv hK hP (ci := 6) (q0 := 53) rfl rfl, (tw_pre pX_na hP hD hK hN).2⟩ rfl rfl hl.1 rfl (lv_room (Nat.le_of_ble_eq_true rfl)) dX7_count_138 ⟨Nat.le_of_ble_eq_true rfl, Nat.le_of_ble_eq_true rfl⟩) (fun _ _ H locs z35 hP hD hS => ?_)
                        subst z35
                        replace hP := tw_P pX_na.symm hP
                        replace hD := tw_D pX_na.symm hD
                        have hP : va_P G vwCl (wX cA xa ka ra na ia ua va ca za pa qa X K R P L P2 L2 Tn Ti Tu Tv C Z (pa 0) q1 q2 q3 q4 q5) H := hP
                        have hD : va_D A (wX cA xa ka ra na ia ua va ca za pa qa X K R P L P2 L2 Tn Ti Tu Tv C Z (pa 0) q1 q2 q3 q4 q5) := hD
                        obtain rfl := tx_1 h
                        exact W.iret hx hb hr (fun t ht hW => ⟨⟨_, (), rfl, rfl, by rw [ht]; exact hP, hD⟩, hS.F ht⟩) hS.2.2 dX7_count_141
                      · have h := tx_neg c31 h
                        by_cases c36 : x1 = 11
                        · have h := tx_pos c36 h
                          refine lv_tableIn (off := 141) (tgt := 150) hx hb dX7_count_1 (by rw [c36]; decide) (by rw [c36]; decide) (by rw [c36]; decide) (by decide) ?_
                          refine lv_aload_n hx hb dX7_count_142 rfl (lv_at hl 0 rfl) ?_
                          refine va_get (D := G) (ci := 7) (v := .ref (na 0)) (C := RX7) (T := TX7) (N := 12) hx hb hT ku_7 hown hK hP 0 rfl rfl 2 (by decide) (hT _ kw_2_0) (fun _ h9 => h9) rfl dX7_count_143 ?_
                          obtain ⟨g37, h⟩ := tx_ck h
                          have eg37 := of_decide_eq_true g37
                          subst eg37
                          obtain ⟨r38, hc39, h⟩ := tx_bd h
                          refine tw_ci pX_na hP hD hS hA (va_runV (As := []) (rest := []) ⟨hx, hb, hml, hown, hT⟩ (c_X6_personsAboard l G cA H.size na pa Tn P L  r38 hc39) (cwV 0 hT (tq_gV kw_60_1 kw_60_2 kw_60_3 kw_1_23 kw_60_4) rfl rfl rfl (by decide +kernel) ⟨Nat.le_of_ble_eq_true rfl, Nat.le_of_ble_eq_true rfl⟩) ⟨(tw_pre pX_na hP hD hK hN).1, va_recv hK hP (ci := 6) (q0 := 53) rfl rfl, (tw_pre pX_na hP hD hK hN).2⟩ rfl rfl hl.1 rfl (lv_room (Nat.le_of_ble_eq_true rfl)) dX7_count_146 ⟨Nat.le_of_ble_eq_true rfl, Nat.le_of_ble_eq_true rfl⟩) (fun _ _ H locs z40 hP hD hS => ?_)
                          subst z40
                          replace hP := tw_P pX_na.symm hP
                          replace hD := tw_D pX_na.symm hD
                          have hP : va_P G vwCl (wX cA xa ka ra na ia ua va ca za pa qa X K R P L P2 L2 Tn Ti Tu Tv C Z (pa 0) q1 q2 q3 q4 q5) H := hP
                          have hD : va_D A (wX cA xa ka ra na ia ua va ca za pa qa X K R P L P2 L2 Tn Ti Tu Tv C Z (pa 0) q1 q2 q3 q4 q5) := hD
                          obtain rfl := tx_1 h
                          exact W.iret hx hb hr (fun t ht hW => ⟨⟨_, (), rfl, rfl, by rw [ht]; exact hP, hD⟩, hS.F ht⟩) hS.2.2 dX7_count_149
                        · have h := tx_neg c36 h
                          by_cases c41 : x1 = 12
                          · have h := tx_pos c41 h
                            refine lv_tableIn (off := 149) (tgt := 158) hx hb dX7_count_1 (by rw [c41]; decide) (by rw [c41]; decide) (by rw [c41]; decide) (by decide) ?_
                            refine lv_aload_n hx hb dX7_count_150 rfl (lv_at hl 0 rfl) ?_
                            refine va_get (D := G) (ci := 7) (v := .ref q4) (C := RX7) (T := TX7) (N := 12) hx hb hT ku_7 hown hK hP 0 rfl rfl 1 (by decide) (hT _ kw_1_20) (fun _ h9 => h9) rfl dX7_count_151 ?_
                            obtain ⟨g42, h⟩ := tx_ck h
                            have eg42 := of_decide_eq_true g42
                            subst eg42
                            refine va_get (D := G) (ci := 2) (v := .int (P 0 4)) (C := RX2) (T := TX2) (N := 19) hx hb hT ku_2 hown hK hP 9 rfl rfl 4 (by decide) (hT _ kw_59_20) (fun _ h9 => h9) rfl dX7_count_154 ?_
                            obtain rfl := tx_1 h
                            exact W.iret hx hb hr (fun t ht hW => ⟨⟨_, (), rfl, rfl, by rw [ht]; exact hP, hD⟩, hS.F ht⟩) hS.2.2 dX7_count_157
                          · have h := tx_neg c41 h
                            by_cases c43 : x1 = 13
                            · have h := tx_pos c43 h
                              refine lv_tableIn (off := 157) (tgt := 166) hx hb dX7_count_1 (by rw [c43]; decide) (by rw [c43]; decide) (by rw [c43]; decide) (by decide) ?_
                              refine lv_aload_n hx hb dX7_count_158 rfl (lv_at hl 0 rfl) ?_
                              refine va_get (D := G) (ci := 7) (v := .ref (za 0)) (C := RX7) (T := TX7) (N := 12) hx hb hT ku_7 hown hK hP 0 rfl rfl 8 (by decide) (hT _ kw_2_12) (fun _ h9 => h9) rfl dX7_count_159 ?_
                              refine va_get (D := G) (ci := 4) (v := .int (Z 0 0)) (C := RX4) (T := TX4) (N := 7) hx hb hT ku_4 hown hK hP 103 rfl rfl 0 (by decide) (hT _ kw_54_17) (fun _ h9 => h9) rfl dX7_count_162 ?_
                              obtain rfl := tx_1 h
                              exact W.iret hx hb hr (fun t ht hW => ⟨⟨_, (), rfl, rfl, by rw [ht]; exact hP, hD⟩, hS.F ht⟩) hS.2.2 dX7_count_165
                            · have h := tx_neg c43 h
                              by_cases c44 : x1 = 14
                              · have h := tx_pos c44 h
                                refine lv_tableIn (off := 165) (tgt := 174) hx hb dX7_count_1 (by rw [c44]; decide) (by rw [c44]; decide) (by rw [c44]; decide) (by decide) ?_
                                refine lv_aload_n hx hb dX7_count_166 rfl (lv_at hl 0 rfl) ?_
                                refine va_get (D := G) (ci := 7) (v := .ref (za 0)) (C := RX7) (T := TX7) (N := 12) hx hb hT ku_7 hown hK hP 0 rfl rfl 8 (by decide) (hT _ kw_2_12) (fun _ h9 => h9) rfl dX7_count_167 ?_
                                obtain ⟨r45, hc46, h⟩ := tx_bd h
                                refine tw_ci tw_all hP hD hS hA (va_runV (As := []) (rest := []) ⟨hx, hb, hml, hown, hT⟩ (c_X4_regarded_x l G cA H.size xa ka ra na ia ua va ca za pa qa X K R P L P2 L2 Tn Ti Tu Tv C Z q0 q1 q2 q3 q4 q5  r45 hc46) (cwV 0 hT (tq_gV kw_60_5 kw_55_16 kw_55_17 kw_2_11 kw_55_18) rfl rfl rfl (by decide +kernel) ⟨Nat.le_of_ble_eq_true rfl, Nat.le_of_ble_eq_true rfl⟩) ⟨(tw_pre tw_all hP hD hK hN).1, va_recv hK hP (ci := 4) (q0 := 103) rfl rfl, (tw_pre tw_all hP hD hK hN).2⟩ rfl rfl hl.1 rfl (lv_room (Nat.le_of_ble_eq_true rfl)) dX7_count_170 ⟨Nat.le_of_ble_eq_true rfl, Nat.le_of_ble_eq_true rfl⟩) (fun _ _ H locs z47 hP hD hS => ?_)
                                subst z47
                                rw [List.append_nil] at hP hD
                                have hP : va_P G vwCl (wX cA xa ka ra na ia ua va ca za pa qa X K R P L P2 L2 Tn Ti Tu Tv C Z q0 q1 q2 q3 q4 q5) H := hP
                                have hD : va_D A (wX cA xa ka ra na ia ua va ca za pa qa X K R P L P2 L2 Tn Ti Tu Tv C Z q0 q1 q2 q3 q4 q5) := hD
                                obtain rfl := tx_1 h
                                exact W.iret hx hb hr (fun t ht hW => ⟨⟨_, (), rfl, rfl, by rw [ht]; exact hP, hD⟩, hS.F ht⟩) hS.2.2 dX7_count_173
                              · have h := tx_neg c44 h
                                by_cases c48 : x1 = 15
                                · have h := tx_pos c48 h
                                  refine lv_tableIn (off := 173) (tgt := 182) hx hb dX7_count_1 (by rw [c48]; decide) (by rw [c48]; decide) (by rw [c48]; decide) (by decide) ?_
                                  refine lv_aload_n hx hb dX7_count_174 rfl (lv_at hl 0 rfl) ?_
                                  refine va_get (D := G) (ci := 7) (v := .ref (ca 0)) (C := RX7) (T := TX7) (N := 12) hx hb hT ku_7 hown hK hP 0 rfl rfl 7 (by decide) (hT _ kw_2_8) (fun _ h9 => h9) rfl dX7_count_175 ?_
                                  refine va_get (D := G) (ci := 0) (v := .int (C 0 0)) (C := RX0) (T := TX0) (N := 3) hx hb hT ku_0 hown hK hP 101 rfl rfl 0 (by decide) (hT _ kw_14_7) (fun _ h9 => h9) rfl dX7_count_178 ?_
                                  obtain rfl := tx_1 h
                                  exact W.iret hx hb hr (fun t ht hW => ⟨⟨_, (), rfl, rfl, by rw [ht]; exact hP, hD⟩, hS.F ht⟩) hS.2.2 dX7_count_181
                                · have h := tx_neg c48 h
                                  have kc1 := tq_eqn (a := x1.toInt) (b := 0) rfl (by decide) c1
                                  have kc3 := tq_eqn (a := x1.toInt) (b := 1) rfl (by decide) c3
                                  have kc5 := tq_eqn (a := x1.toInt) (b := 2) rfl (by decide) c5
                                  have kc7 := tq_eqn (a := x1.toInt) (b := 3) rfl (by decide) c7
                                  have kc9 := tq_eqn (a := x1.toInt) (b := 4) rfl (by decide) c9
                                  have kc10 := tq_eqn (a := x1.toInt) (b := 5) rfl (by decide) c10
                                  have kc11 := tq_eqn (a := x1.toInt) (b := 6) rfl (by decide) c11
                                  have kc16 := tq_eqn (a := x1.toInt) (b := 7) rfl (by decide) c16
                                  have kc21 := tq_eqn (a := x1.toInt) (b := 8) rfl (by decide) c21
                                  have kc26 := tq_eqn (a := x1.toInt) (b := 9) rfl (by decide) c26
                                  have kc31 := tq_eqn (a := x1.toInt) (b := 10) rfl (by decide) c31
                                  have kc36 := tq_eqn (a := x1.toInt) (b := 11) rfl (by decide) c36
                                  have kc41 := tq_eqn (a := x1.toInt) (b := 12) rfl (by decide) c41
                                  have kc43 := tq_eqn (a := x1.toInt) (b := 13) rfl (by decide) c43
                                  have kc44 := tq_eqn (a := x1.toInt) (b := 14) rfl (by decide) c44
                                  have kc48 := tq_eqn (a := x1.toInt) (b := 15) rfl (by decide) c48
                                  refine lv_tableOut (tgt := 182) hx hb dX7_count_1 (by omega) (by decide) ?_
                                  refine lv_iconst (v := (-1)) hx hb dX7_count_182 (by decide) ?_
                                  obtain rfl := tx_1 h
                                  exact W.iret hx hb hr (fun t ht hW => ⟨⟨_, (), rfl, rfl, by rw [ht]; exact hP, hD⟩, hS.F ht⟩) hS.2.2 dX7_count_183
abbrev G_X7_digit (p : Program) (l : Launch) (e : Env) (s : State) (m : MethodId) (below : List Frame) (meth : Method) (c : Code) (G : va_G) (cA : Nat → ClassId) (A : Nat → Prop) (xa : Nat → Nat) (ka : Nat → Nat) (ra : Nat → Nat) (na : Nat → Nat) (ia : Nat → Nat) (ua : Nat → Nat) (va : Nat → Nat) (ca : Nat → Nat) (za : Nat → Nat) (pa : Nat → Nat) (qa : Nat → Nat) (X : Tr) (K : Tr) (R : Tr) (P : Tr) (L : Lo) (P2 : Tr) (L2 : Lo) (Tn : Tr) (Ti : Tr) (Tu : Tr) (Tv : Tr) (C : Tr) (Z : Tr) (q0 : Nat) (q1 : Nat) (q2 : Nat) (q3 : Nat) (q4 : Nat) (q5 : Nat) (x1 : Int32) (x2 : Int32) (r0 : Int32) (H : Heap) (locs : List Loc) (g : JFrame) : Prop := W p l e (headSpec (.code yX7_digit cX7_digit 5 (some .int) :: T0) ({ frames := 0, cells := 0, slots := 0, locals := 0 } : Room)).room s m ([.ref (xa 0), .int x1, .int x2] : List Value).toArray below meth c H locs 0 0 (MQ below (tqQi G cA (fun (r : Int32) (_ : Unit) => r = r0) (fun (_ : Unit) => wX cA xa ka ra na ia ua va ca za pa qa X K R P L P2 L2 Tn Ti Tu Tv C Z q0 q1 q2 q3 q4 q5) A) ([.ref (xa 0), .int x1, .int x2] : List Value).toArray s 0 0 A) g
set_option maxHeartbeats 4000000 in
set_option maxRecDepth 100000 in
theorem w_X7_digit_L17 {p : Program} {l : Launch} {e : Env} {s : State} {m : MethodId} {below : List Frame} {meth : Method} {c : Code} {G : va_G} {cA : Nat → ClassId} {A : Nat → Prop} {xa : Nat → Nat} {ka : Nat → Nat} {ra : Nat → Nat} {na : Nat → Nat} {ia : Nat → Nat} {ua : Nat → Nat} {va : Nat → Nat} {ca : Nat → Nat} {za : Nat → Nat} {pa : Nat → Nat} {qa : Nat → Nat} {X : Tr} {K : Tr} {R : Tr} {P : Tr} {L : Lo} {P2 : Tr} {L2 : Lo} {Tn : Tr} {Ti : Tr} {Tu : Tr} {Tv : Tr} {C : Tr} {Z : Tr} {q0 : Nat} {q1 : Nat} {q2 : Nat} {q3 : Nat} {q4 : Nat} {q5 : Nat} {x1₀ : Int32} {x2₀ : Int32} {r0 : Int32} {x2 : Int32} (F : tF p s m ([.ref (xa 0), .int x1₀, .int x2₀] : List Value).toArray meth c G cA A RX7 cX7_digit 5 (some .int))    (N : Nat) : ∀ (x3 : Int32) (x4 : Int32) (H : Heap) (locs : List Loc) (ls : Array Slot), lpF (fun _ _ => none) (fB_X7_digit_L17 pa qa P q4 x2) N x3 x4 = some r0 → va_P G vwCl (wX cA xa ka ra na ia ua va ca za pa qa X K R P L P2 L2 Tn Ti Tu Tv C Z q0 q1 q2 q3 q4 q5) H → va_D A (wX cA xa ka ra na ia ua va ca za pa qa X K R P L P2 L2 Tn Ti Tu Tv C Z q0 q1 q2 q3 q4 q5) → va_S A s.heap H locs → lv_has ls 5 [(0, .ref (xa 0)), (2, .int x2), (3, .int x3), (4, .int x4)] → G_X7_digit p l e s m below meth c G cA A xa ka ra na ia ua va ca za pa qa X K R P L P2 L2 Tn Ti Tu Tv C Z q0 q1 q2 q3 q4 q5 x1₀ x2₀ r0 H locs (F0 m 17 ls []) := by
  obtain ⟨hx, hb, hr, hml, hT, hown, hlocks, hK, hN, hA⟩ := id F
  induction N with
  | zero =>
    intro x3 x4 H locs ls h
    have h : (none : Option (Int32)) = some r0 := h
    cases h
  | succ N hk17 =>
    intro x3 x4 H locs ls h hP hD hS hl
    have h : fB_X7_digit_L17 pa qa P q4 x2 (lpF (fun _ _ => none) (fB_X7_digit_L17 pa qa P q4 x2) N) x3 x4 = some r0 := h
    generalize hk17e : lpF (fun _ _ => none) (fB_X7_digit_L17 pa qa P q4 x2) N = k17 at h hk17
    unfold fB_X7_digit_L17 at h
    refine lv_iload hx hb dX7_digit_17 (lv_at hl 3 rfl) ?_
    refine lv_iload_n hx hb dX7_digit_19 rfl (lv_at hl 1 rfl) ?_
    refine lv_icmp_ge (tgt := 39) hx hb dX7_digit_20 (by decide) (fun c3 => ?_) (fun c3 => ?_)
    · have h := tx_pos c3 h
      refine lv_iload_n hx hb dX7_digit_39 rfl (lv_at hl 2 rfl) ?_
      refine lv_aload_n hx hb dX7_digit_40 rfl (lv_at hl 0 rfl) ?_
      refine va_get (D := G) (ci := 7) (v := .ref q4) (C := RX7) (T := TX7) (N := 12) hx hb hT ku_7 hown hK hP 0 rfl rfl 1 (by decide) (hT _ kw_1_20) (fun _ h9 => h9) rfl dX7_digit_41 ?_
      obtain ⟨g4, h⟩ := tx_ck h
      have eg4 := of_decide_eq_true g4
      subst eg4
      refine va_get (D := G) (ci := 2) (v := .int (P 0 0)) (C := RX2) (T := TX2) (N := 19) hx hb hT ku_2 hown hK hP 9 rfl rfl 0 (by decide) (hT _ kw_32_2) (fun _ h9 => h9) rfl dX7_digit_44 ?_
      obtain ⟨g5, h⟩ := tx_ck h
      refine lv_irem hx hb dX7_digit_47 (tx_nz g5) ?_
      obtain rfl := tx_1 h
      exact W.iret hx hb hr (fun t ht hW => ⟨⟨_, (), rfl, rfl, by rw [ht]; exact hP, hD⟩, hS.F ht⟩) hS.2.2 dX7_digit_48
    · have h := tx_neg c3 h
      refine lv_iload_n hx hb dX7_digit_23 rfl (lv_at hl 2 rfl) ?_
      refine lv_aload_n hx hb dX7_digit_24 rfl (lv_at hl 0 rfl) ?_
      refine va_get (D := G) (ci := 7) (v := .ref q4) (C := RX7) (T := TX7) (N := 12) hx hb hT ku_7 hown hK hP 0 rfl rfl 1 (by decide) (hT _ kw_1_20) (fun _ h9 => h9) rfl dX7_digit_25 ?_
      obtain ⟨g6, h⟩ := tx_ck h
      have eg6 := of_decide_eq_true g6
      subst eg6
      refine va_get (D := G) (ci := 2) (v := .int (P 0 0)) (C := RX2) (T := TX2) (N := 19) hx hb hT ku_2 hown hK hP 9 rfl rfl 0 (by decide) (hT _ kw_32_2) (fun _ h9 => h9) rfl dX7_digit_28 ?_
      obtain ⟨g7, h⟩ := tx_ck h
      refine lv_idiv hx hb dX7_digit_31 (tx_nz g7) ?_
      refine lv_topi (fun y8 ey8 => ?_)
      have h := tx_let ey8 h
      refine lv_istore_n (lv' := [(3, .int y8), (0, .ref (xa 0)), (2, .int x2), (4, .int x4)]) hx hb dX7_digit_32 rfl hl (by decide) rfl (fun ls hl => ?_)
      obtain ⟨y9, ey9, h⟩ := tx_lt h
      refine lv_iinc (v := y9) (lv' := [(4, .int y9), (3, .int y8), (0, .ref (xa 0)), (2, .int x2)]) hx hb dX7_digit_33 hl (k := 3) rfl ey9 (by decide) rfl (fun ls hl => ?_)
      refine lv_goto (tgt := 17) hx hb dX7_digit_36 (by decide) ?_
      exact hk17 y8 y9 H locs ls h hP hD hS (lv_sub hl [2, 3, 1, 0] rfl)
set_option maxHeartbeats 4000000 in
set_option maxRecDepth 100000 in
theorem c_X7_digit (l : Launch) (G : va_G) (cA : Nat → ClassId) (sz : Nat) (xa : Nat → Nat) (ka : Nat → Nat) (ra : Nat → Nat) (na : Nat → Nat) (ia : Nat → Nat) (ua : Nat → Nat) (va : Nat → Nat) (ca : Nat → Nat) (za : Nat → Nat) (pa : Nat → Nat) (qa : Nat → Nat) (X : Tr) (K : Tr) (R : Tr) (P : Tr) (L : Lo) (P2 : Tr) (L2 : Lo) (Tn : Tr) (Ti : Tr) (Tu : Tr) (Tv : Tr) (C : Tr) (Z : Tr) (q0 : Nat) (q1 : Nat) (q2 : Nat) (q3 : Nat) (q4 : Nat) (q5 : Nat) (x1 : Int32) (x2 : Int32)  (r0 : Int32) (h : f_X7_digit pa qa P q4 x1 x2 = some r0) : Met l yX7_digit (.code yX7_digit cX7_digit 5 (some .int) :: T0) ({ frames := 0, cells := 0, slots := 0, locals := 0 } : Room) (tqP G cA [.ref (xa 0), .int x1, .int x2] (wX cA xa ka ra na ia ua va ca za pa qa X K R P L P2 L2 Tn Ti Tu Tv C Z q0 q1 q2 q3 q4 q5) sz) (tqQi G cA (fun (r : Int32) (_ : Unit) => r = r0) (fun (_ : Unit) => wX cA xa ka ra na ia ua va ca za pa qa X K R P L P2 L2 Tn Ti Tu Tv C Z q0 q1 q2 q3 q4 q5) (va_A (wX cA xa ka ra na ia ua va ca za pa qa X K R P L P2 L2 Tn Ti Tu Tv C Z q0 q1 q2 q3 q4 q5) sz)) 0 0 (va_A (wX cA xa ka ra na ia ua va ca za pa qa X K R P L P2 L2 Tn Ti Tu Tv C Z q0 q1 q2 q3 q4 q5) sz) := by
  refine Met.ofW (cc := cX7_digit) (maxL := 5) (ret := (some .int)) (by decide) rfl ?_
  intro p e s m args below meth c s₁ B hml hv
  obtain ⟨rfl, hsz, hP, hK, hD0, hN⟩ := hv
  have hx := B.exec
  have hb := B.bytes
  have hr := B.returns
  have hts := atoms_spec (ws := .code yX7_digit cX7_digit 5 (some .int) :: T0) B.pre
  have hT : ∀ w ∈ T0, w.before _ s = true := fun w h => hts w (List.mem_cons_of_mem _ h)
  have hown : s.vm.findClass RX7 = some m.cls := findClass_of_methodNamed B.named
  have hlocks := B.notSynchronized
  subst hsz
  have hD := hD0.self (sz := s.heap.size)
  generalize hAe : va_A (wX cA xa ka ra na ia ua va ca za pa qa X K R P L P2 L2 Tn Ti Tu Tv C Z q0 q1 q2 q3 q4 q5) s.heap.size = A at hD ⊢
  have hA : ∀ q : Nat, s.heap.size ≤ q → A q := fun q h => by rw [← hAe]; exact Or.inr h
  have hS : va_S A s.heap s.heap [] := va_S.rf
  have hl := lv_entry ([.ref (xa 0), .int x1, .int x2]) (n := 5) (Nat.le_of_ble_eq_true rfl)
  rw [lg_entry_eq]
  generalize (lg_sl ([.ref (xa 0), .int x1, .int x2]) ++ List.replicate (5 - (lg_sl ([.ref (xa 0), .int x1, .int x2])).length) Slot.unset).toArray = ls at hl ⊢
  have hl : lv_has ls 5 [(0, .ref (xa 0)), (1, .int x1), (2, .int x2)] := hl
  have F : tF p s m ([.ref (xa 0), .int x1, .int x2] : List Value).toArray meth c G cA A RX7 cX7_digit 5 (some .int) := ⟨hx, hb, hr, hml, hT, hown, hlocks, hK, hN, hA⟩
  obtain ⟨H, hH⟩ : ∃ z, z = s.heap := ⟨_, rfl⟩
  rw [← hH] at hP
  have hS : va_S A s.heap H [] := by rw [hH]; exact hS
  suffices hgo : G_X7_digit p l e s m below meth c G cA A xa ka ra na ia ua va ca za pa qa X K R P L P2 L2 Tn Ti Tu Tv C Z q0 q1 q2 q3 q4 q5 x1 x2 r0 H [] (F0 m 0 ls []) by rw [hH] at hgo; exact hgo
  generalize ([] : List Loc) = locs at hS ⊢
  unfold f_X7_digit at h
  refine lv_aload_n hx hb dX7_digit_0 rfl (lv_at hl 0 rfl) ?_
  refine va_get (D := G) (ci := 7) (v := .ref q4) (C := RX7) (T := TX7) (N := 12) hx hb hT ku_7 hown hK hP 0 rfl rfl 1 (by decide) (hT _ kw_1_20) (fun _ h9 => h9) rfl dX7_digit_1 ?_
  obtain ⟨g1, h⟩ := tx_ck h
  have eg1 := of_decide_eq_true g1
  subst eg1
  refine va_get (D := G) (ci := 2) (v := .int (P 0 0)) (C := RX2) (T := TX2) (N := 19) hx hb hT ku_2 hown hK hP 9 rfl rfl 0 (by decide) (hT _ kw_32_2) (fun _ h9 => h9) rfl dX7_digit_4 ?_
  refine lv_if_ne (tgt := 12) hx hb dX7_digit_7 (by decide) (fun c2 => ?_) (fun c2 => ?_)
  · have h := tx_neg c2 h
    refine lv_iload_n hx hb dX7_digit_12 rfl (lv_at hl 1 rfl) ?_
    refine lv_istore_n (lv' := [(3, .int x1), (0, .ref (xa 0)), (1, .int x1), (2, .int x2)]) hx hb dX7_digit_13 rfl hl (by decide) rfl (fun ls hl => ?_)
    refine lv_iconst (v := 0) hx hb dX7_digit_14 (by decide) ?_
    refine lv_istore (lv' := [(4, .int 0), (3, .int x1), (0, .ref (xa 0)), (1, .int x1), (2, .int x2)]) hx hb dX7_digit_15 hl (by decide) rfl (fun ls hl => ?_)
    exact w_X7_digit_L17 F 2000 x1 0 H locs ls h hP hD hS (lv_sub hl [2, 4, 1, 0] rfl)
  · have h := tx_pos c2 h
    refine lv_iconst (v := (-1)) hx hb dX7_digit_10 (by decide) ?_
    obtain rfl := tx_1 h
    exact W.iret hx hb hr (fun t ht hW => ⟨⟨_, (), rfl, rfl, by rw [ht]; exact hP, hD⟩, hS.F ht⟩) hS.2.2 dX7_digit_11
abbrev G_X7_falls (p : Program) (l : Launch) (e : Env) (s : State) (m : MethodId) (below : List Frame) (meth : Method) (c : Code) (G : va_G) (cA : Nat → ClassId) (A : Nat → Prop) (xa : Nat → Nat) (ka : Nat → Nat) (ra : Nat → Nat) (na : Nat → Nat) (ia : Nat → Nat) (ua : Nat → Nat) (va : Nat → Nat) (ca : Nat → Nat) (za : Nat → Nat) (pa : Nat → Nat) (qa : Nat → Nat) (X : Tr) (K : Tr) (R : Tr) (P : Tr) (P2 : Tr) (L2 : Lo) (Tn : Tr) (Ti : Tr) (Tv : Tr) (C : Tr) (Z : Tr) (q0 : Nat) (q1 : Nat) (q3 : Nat) (q4 : Nat) (q5 : Nat) (r0 : Int32) (L' : Lo) (Tu' : Tr) (q2' : Nat) (H : Heap) (locs : List Loc) (g : JFrame) : Prop := W p l e (headSpec (.code yX7_falls cX7_falls 1 (some .int) :: T0) ({ frames := 5, cells := 0, slots := 0, locals := 133 } : Room)).room s m ([.ref (xa 0)] : List Value).toArray below meth c H locs 0 0 (MQ below (tqQi G cA (fun (r : Int32) (_ : Unit) => r = r0) (fun (_ : Unit) => wX cA xa ka ra na ia ua va ca za pa qa X K R P (L') P2 L2 Tn Ti (Tu') Tv C Z q0 q1 (q2') q3 q4 q5) A) ([.ref (xa 0)] : List Value).toArray s 0 0 A) g
set_option maxHeartbeats 4000000 in
set_option maxRecDepth 100000 in
theorem c_X7_falls (l : Launch) (G : va_G) (cA : Nat → ClassId) (sz : Nat) (xa : Nat → Nat) (ka : Nat → Nat) (ra : Nat → Nat) (na : Nat → Nat) (ia : Nat → Nat) (ua : Nat → Nat) (va : Nat → Nat) (ca : Nat → Nat) (za : Nat → Nat) (pa : Nat → Nat) (qa : Nat → Nat) (X : Tr) (K : Tr) (R : Tr) (P : Tr) (L : Lo) (P2 : Tr) (L2 : Lo) (Tn : Tr) (Ti : Tr) (Tu : Tr) (Tv : Tr) (C : Tr) (Z : Tr) (q0 : Nat) (q1 : Nat) (q2 : Nat) (q3 : Nat) (q4 : Nat) (q5 : Nat)  (r0 : Int32) (L' : Lo) (Tu' : Tr) (q2' : Nat) (h : f_X7_falls pa qa P L Tn Tu q0 q2 q4 = some (r0, L', Tu', q2')) : Met l yX7_falls (.code yX7_falls cX7_falls 1 (some .int) :: T0) ({ frames := 5, cells := 0, slots := 0, locals := 133 } : Room) (tqP G cA [.ref (xa 0)] (wX cA xa ka ra na ia ua va ca za pa qa X K R P L P2 L2 Tn Ti Tu Tv C Z q0 q1 q2 q3 q4 q5) sz) (tqQi G cA (fun (r : Int32) (_ : Unit) => r = r0) (fun (_ : Unit) => wX cA xa ka ra na ia ua va ca za pa qa X K R P (L') P2 L2 Tn Ti (Tu') Tv C Z q0 q1 (q2') q3 q4 q5) (va_A (wX cA xa ka ra na ia ua va ca za pa qa X K R P L P2 L2 Tn Ti Tu Tv C Z q0 q1 q2 q3 q4 q5) sz)) 0 0 (va_A (wX cA xa ka ra na ia ua va ca za pa qa X K R P L P2 L2 Tn Ti Tu Tv C Z q0 q1 q2 q3 q4 q5) sz) := by
  refine Met.ofW (cc := cX7_falls) (maxL := 1) (ret := (some .int)) (by decide) rfl ?_
  intro p e s m args below meth c s₁ B hml hv
  obtain ⟨rfl, hsz, hP, hK, hD0, hN⟩ := hv
  have hx := B.exec
  have hb := B.bytes
  have hr := B.returns
  have hts := atoms_spec (ws := .code yX7_falls cX7_falls 1 (some .int) :: T0) B.pre
  have hT : ∀ w ∈ T0, w.before _ s = true := fun w h => hts w (List.mem_cons_of_mem _ h)
  have hown : s.vm.findClass RX7 = some m.cls := findClass_of_methodNamed B.named
  have hlocks := B.notSynchronized
  subst hsz
  have hD := hD0.self (sz := s.heap.size)
  generalize hAe : va_A (wX cA xa ka ra na ia ua va ca za pa qa X K R P L P2 L2 Tn Ti Tu Tv C Z q0 q1 q2 q3 q4 q5) s.heap.size = A at hD ⊢
  have hA : ∀ q : Nat, s.heap.size ≤ q → A q := fun q h => by rw [← hAe]; exact Or.inr h
  have hS : va_S A s.heap s.heap [] := va_S.rf
  have hl := lv_entry ([.ref (xa 0)]) (n := 1) (Nat.le_of_ble_eq_true rfl)
  rw [lg_entry_eq]
  generalize (lg_sl ([.ref (xa 0)]) ++ List.replicate (1 - (lg_sl ([.ref (xa 0)])).length) Slot.unset).toArray = ls at hl ⊢
  have hl : lv_has ls 1 [(0, .ref (xa 0))] := hl
  have F : tF p s m ([.ref (xa 0)] : List Value).toArray meth c G cA A RX7 cX7_falls 1 (some .int) := ⟨hx, hb, hr, hml, hT, hown, hlocks, hK, hN, hA⟩
  obtain ⟨H, hH⟩ : ∃ z, z = s.heap := ⟨_, rfl⟩
  rw [← hH] at hP
  have hS : va_S A s.heap H [] := by rw [hH]; exact hS
  suffices hgo : G_X7_falls p l e s m below meth c G cA A xa ka ra na ia ua va ca za pa qa X K R P P2 L2 Tn Ti Tv C Z q0 q1 q3 q4 q5 r0 L' Tu' q2' H [] (F0 m 0 ls []) by rw [hH] at hgo; exact hgo
  generalize ([] : List Loc) = locs at hS ⊢
  unfold f_X7_falls at h
  refine lv_aload_n hx hb dX7_falls_0 rfl (lv_at hl 0 rfl) ?_
  refine va_get (D := G) (ci := 7) (v := .ref (na 0)) (C := RX7) (T := TX7) (N := 12) hx hb hT ku_7 hown hK hP 0 rfl rfl 2 (by decide) (hT _ kw_2_0) (fun _ h9 => h9) rfl dX7_falls_1 ?_
  refine va_get (D := G) (ci := 6) (v := .int (Tn 0 0)) (C := RX6) (T := TX6) (N := 20) hx hb hT ku_6 hown hK hP 53 rfl rfl 0 (by decide) (hT _ kw_40_5) (fun _ h9 => h9) rfl dX7_falls_4 ?_
  refine lv_bipush (v := 20) hx hb dX7_falls_7 (by decide) ?_
  refine lv_icmp_le (tgt := 14) hx hb dX7_falls_9 (by decide) (fun c1 => ?_) (fun c1 => ?_)
  · have h := tx_pos c1 h
    refine lv_aload_n hx hb dX7_falls_14 rfl (lv_at hl 0 rfl) ?_
    obtain ⟨⟨Tu_2, q2_3⟩, hc4, h⟩ := tx_bd h
    replace h := tx_let (y := Tu_2) rfl h
    replace h := tx_let (y := q2_3) rfl h
    refine tw_cv tw_all hP hD hS hA (va_runV (As := []) (rest := []) ⟨hx, hb, hml, hown, hT⟩ (c_X7_startTrial l G cA H.size xa ka ra na ia ua va ca za pa qa X K R P L P2 L2 Tn Ti Tu Tv C Z q0 q1 q2 q3 q4 q5  Tu_2 q2_3 hc4) (cwV 0 hT (tq_gV kw_46_17 kw_46_18 kw_46_19 kw_1_2 kw_46_20) rfl rfl rfl (by decide +kernel) ⟨Nat.le_of_ble_eq_true rfl, Nat.le_of_ble_eq_true rfl⟩) ⟨(tw_pre tw_all hP hD hK hN).1, va_recv hK hP (ci := 7) (q0 := 0) rfl rfl, (tw_pre tw_all hP hD hK hN).2⟩ rfl rfl hl.1 rfl (lv_room (Nat.le_of_ble_eq_true rfl)) dX7_falls_15 ⟨Nat.le_of_ble_eq_true rfl, Nat.le_of_ble_eq_true rfl⟩) (fun _ H locs z5 hP hD hS => ?_)
    rw [List.append_nil] at hP hD
    have hP : va_P G vwCl (wX cA xa ka ra na ia ua va ca za pa qa X K R P L P2 L2 Tn Ti Tu_2 Tv C Z q0 q1 q2_3 q3 q4 q5) H := hP
    have hD : va_D A (wX cA xa ka ra na ia ua va ca za pa qa X K R P L P2 L2 Tn Ti Tu_2 Tv C Z q0 q1 q2_3 q3 q4 q5) := hD
    refine lv_aload_n hx hb dX7_falls_18 rfl (lv_at hl 0 rfl) ?_
    refine va_get (D := G) (ci := 7) (v := .ref (ua 0)) (C := RX7) (T := TX7) (N := 12) hx hb hT ku_7 hown hK hP 0 rfl rfl 5 (by decide) (hT _ kw_2_3) (fun _ h9 => h9) rfl dX7_falls_19 ?_
    refine lv_aload_n hx hb dX7_falls_22 rfl (lv_at hl 0 rfl) ?_
    refine va_get (D := G) (ci := 7) (v := .ref q4) (C := RX7) (T := TX7) (N := 12) hx hb hT ku_7 hown hK hP 0 rfl rfl 1 (by decide) (hT _ kw_1_20) (fun _ h9 => h9) rfl dX7_falls_23 ?_
    obtain ⟨g6, h⟩ := tx_ck h
    have eg6 := of_decide_eq_true g6
    subst eg6
    refine va_get (D := G) (ci := 2) (v := .ref (pa 18)) (C := RX2) (T := TX2) (N := 19) hx hb hT ku_2 hown hK hP 9 rfl rfl 17 (by decide) (hT _ kw_32_23) (fun _ h9 => h9) rfl dX7_falls_26 ?_
    refine lv_aload_n hx hb dX7_falls_29 rfl (lv_at hl 0 rfl) ?_
    refine va_get (D := G) (ci := 7) (v := .ref (na 0)) (C := RX7) (T := TX7) (N := 12) hx hb hT ku_7 hown hK hP 0 rfl rfl 2 (by decide) (hT _ kw_2_0) (fun _ h9 => h9) rfl dX7_falls_30 ?_
    refine va_get (D := G) (ci := 6) (v := .int (Tn 0 0)) (C := RX6) (T := TX6) (N := 20) hx hb hT ku_6 hown hK hP 53 rfl rfl 0 (by decide) (hT _ kw_40_5) (fun _ h9 => h9) rfl dX7_falls_33 ?_
    obtain ⟨g7, h⟩ := tx_ck h
    refine va_iald (i := (Tn 0 0)) hx hb hK hP 20 0 rfl rfl (tx_in g7) dX7_falls_36 ?_
    obtain ⟨g8, h⟩ := tx_ck h
    have eg8 := of_decide_eq_true g8
    subst eg8
    obtain ⟨⟨r9, Tu_10, L_11⟩, hc12, h⟩ := tx_bd h
    replace h := tx_let (y := r9) rfl h
    replace h := tx_let (y := Tu_10) rfl h
    replace h := tx_let (y := L_11) rfl h
    refine tw_ci pX_ua hP hD hS hA (va_runV (As := [.int (P 18 (Tn 0 0).toNatClampNeg)]) (rest := []) ⟨hx, hb, hml, hown, hT⟩ (c_X6_takeDown l G cA H.size ua pa Tu_2 P L (P 18 (Tn 0 0).toNatClampNeg)  r9 Tu_10 L_11 hc12) (cwV 1 hT (tq_gV kw_46_23 kw_40_13 kw_40_14 kw_1_23 kw_40_15) rfl rfl rfl (by decide +kernel) ⟨Nat.le_of_ble_eq_true rfl, Nat.le_of_ble_eq_true rfl⟩) ⟨(tw_pre pX_ua hP hD hK hN).1, va_recv hK hP (ci := 6) (q0 := 77) rfl rfl, (tw_pre pX_ua hP hD hK hN).2⟩ rfl rfl hl.1 rfl (lv_room (Nat.le_of_ble_eq_true rfl)) dX7_falls_37 ⟨Nat.le_of_ble_eq_true rfl, Nat.le_of_ble_eq_true rfl⟩) (fun _ _ H locs z13 hP hD hS => ?_)
    subst z13
    replace hP := tw_P pX_ua.symm hP
    replace hD := tw_D pX_ua.symm hD
    have hP : va_P G vwCl (wX cA xa ka ra na ia ua va ca za pa qa X K R P L_11 P2 L2 Tn Ti Tu_10 Tv C Z q0 q1 (pa 0) q3 (pa 0) q5) H := hP
    have hD : va_D A (wX cA xa ka ra na ia ua va ca za pa qa X K R P L_11 P2 L2 Tn Ti Tu_10 Tv C Z q0 q1 (pa 0) q3 (pa 0) q5) := hD
    refine lv_pop hx hb dX7_falls_40 rfl ?_
    refine lv_aload_n hx hb dX7_falls_41 rfl (lv_at hl 0 rfl) ?_
    refine va_get (D := G) (ci := 7) (v := .ref (ua 0)) (C := RX7) (T := TX7) (N := 12) hx hb hT ku_7 hown hK hP 0 rfl rfl 5 (by decide) (hT _ kw_2_3) (fun _ h9 => h9) rfl dX7_falls_42 ?_
    obtain ⟨Tu_14, hc15, h⟩ := tx_bd h
    refine tw_cv pX_ua hP hD hS hA (va_runV (As := []) (rest := []) ⟨hx, hb, hml, hown, hT⟩ (c_X6_getIn l G cA H.size ua pa Tu_10 P L_11  Tu_14 hc15) (cwV 0 hT (tq_gV kw_47_4 kw_41_13 kw_41_14 kw_1_23 kw_41_15) rfl rfl rfl (by decide +kernel) ⟨Nat.le_of_ble_eq_true rfl, Nat.le_of_ble_eq_true rfl⟩) ⟨(tw_pre pX_ua hP hD hK hN).1, va_recv hK hP (ci := 6) (q0 := 77) rfl rfl, (tw_pre pX_ua hP hD hK hN).2⟩ rfl rfl hl.1 rfl (lv_room (Nat.le_of_ble_eq_true rfl)) dX7_falls_45 ⟨Nat.le_of_ble_eq_true rfl, Nat.le_of_ble_eq_true rfl⟩) (fun _ H locs z16 hP hD hS => ?_)
    replace hP := tw_P pX_ua.symm hP
    replace hD := tw_D pX_ua.symm hD
    have hP : va_P G vwCl (wX cA xa ka ra na ia ua va ca za pa qa X K R P L_11 P2 L2 Tn Ti Tu_14 Tv C Z q0 q1 (pa 0) q3 (pa 0) q5) H := hP
    have hD : va_D A (wX cA xa ka ra na ia ua va ca za pa qa X K R P L_11 P2 L2 Tn Ti Tu_14 Tv C Z q0 q1 (pa 0) q3 (pa 0) q5) := hD
    refine lv_aload_n hx hb dX7_falls_48 rfl (lv_at hl 0 rfl) ?_
    refine va_get (D := G) (ci := 7) (v := .ref (ua 0)) (C := RX7) (T := TX7) (N := 12) hx hb hT ku_7 hown hK hP 0 rfl rfl 5 (by decide) (hT _ kw_2_3) (fun _ h9 => h9) rfl dX7_falls_49 ?_
    obtain ⟨⟨r17, Tu_18, L_19⟩, hc20, h⟩ := tx_bd h
    replace h := tx_let (y := r17) rfl h
    replace h := tx_let (y := Tu_18) rfl h
    replace h := tx_let (y := L_19) rfl h
    refine tw_ci pX_ua hP hD hS hA (va_runV (As := []) (rest := []) ⟨hx, hb, hml, hown, hT⟩ (c_X6_fallOff l G cA H.size ua pa Tu_14 P L_11  r17 Tu_18 L_19 hc20) (cwV 0 hT (tq_gV kw_52_23 kw_42_8 kw_42_9 kw_1_23 kw_42_10) rfl rfl rfl (by decide +kernel) ⟨Nat.le_of_ble_eq_true rfl, Nat.le_of_ble_eq_true rfl⟩) ⟨(tw_pre pX_ua hP hD hK hN).1, va_recv hK hP (ci := 6) (q0 := 77) rfl rfl, (tw_pre pX_ua hP hD hK hN).2⟩ rfl rfl hl.1 rfl (lv_room (Nat.le_of_ble_eq_true rfl)) dX7_falls_52 ⟨Nat.le_of_ble_eq_true rfl, Nat.le_of_ble_eq_true rfl⟩) (fun _ _ H locs z21 hP hD hS => ?_)
    subst z21
    replace hP := tw_P pX_ua.symm hP
    replace hD := tw_D pX_ua.symm hD
    have hP : va_P G vwCl (wX cA xa ka ra na ia ua va ca za pa qa X K R P L_19 P2 L2 Tn Ti Tu_18 Tv C Z q0 q1 (pa 0) q3 (pa 0) q5) H := hP
    have hD : va_D A (wX cA xa ka ra na ia ua va ca za pa qa X K R P L_19 P2 L2 Tn Ti Tu_18 Tv C Z q0 q1 (pa 0) q3 (pa 0) q5) := hD
    obtain ⟨rfl, rfl, rfl, rfl⟩ := tx_4 h
    exact W.iret hx hb hr (fun t ht hW => ⟨⟨_, (), rfl, rfl, by rw [ht]; exact hP, hD⟩, hS.F ht⟩) hS.2.2 dX7_falls_55
  · have h := tx_neg c1 h
    refine lv_iconst (v := 0) hx hb dX7_falls_12 (by decide) ?_
    obtain ⟨rfl, rfl, rfl, rfl⟩ := tx_4 h
    exact W.iret hx hb hr (fun t ht hW => ⟨⟨_, (), rfl, rfl, by rw [ht]; exact hP, hD⟩, hS.F ht⟩) hS.2.2 dX7_falls_13
abbrev G_X7_fault (p : Program) (l : Launch) (e : Env) (s : State) (m : MethodId) (below : List Frame) (meth : Method) (c : Code) (G : va_G) (cA : Nat → ClassId) (A : Nat → Prop) (xa : Nat → Nat) (ka : Nat → Nat) (ra : Nat → Nat) (na : Nat → Nat) (ia : Nat → Nat) (ua : Nat → Nat) (va : Nat → Nat) (ca : Nat → Nat) (za : Nat → Nat) (pa : Nat → Nat) (qa : Nat → Nat) (X : Tr) (K : Tr) (R : Tr) (P : Tr) (L : Lo) (P2 : Tr) (L2 : Lo) (Tn : Tr) (Ti : Tr) (Tu : Tr) (Tv : Tr) (C : Tr) (Z : Tr) (q0 : Nat) (q1 : Nat) (q2 : Nat) (q3 : Nat) (q4 : Nat) (q5 : Nat) (x1 : Int32) (r0 : Int32) (H : Heap) (locs : List Loc) (g : JFrame) : Prop := W p l e (headSpec (.code yX7_fault cX7_fault 2 (some .int) :: T0) ({ frames := 0, cells := 0, slots := 0, locals := 0 } : Room)).room s m ([.ref (xa 0), .int x1] : List Value).toArray below meth c H locs 0 0 (MQ below (tqQi G cA (fun (r : Int32) (_ : Unit) => r = r0) (fun (_ : Unit) => wX cA xa ka ra na ia ua va ca za pa qa X K R P L P2 L2 Tn Ti Tu Tv C Z q0 q1 q2 q3 q4 q5) A) ([.ref (xa 0), .int x1] : List Value).toArray s 0 0 A) g
set_option maxHeartbeats 4000000 in
set_option maxRecDepth 100000 in
theorem c_X7_fault (l : Launch) (G : va_G) (cA : Nat → ClassId) (sz : Nat) (xa : Nat → Nat) (ka : Nat → Nat) (ra : Nat → Nat) (na : Nat → Nat) (ia : Nat → Nat) (ua : Nat → Nat) (va : Nat → Nat) (ca : Nat → Nat) (za : Nat → Nat) (pa : Nat → Nat) (qa : Nat → Nat) (X : Tr) (K : Tr) (R : Tr) (P : Tr) (L : Lo) (P2 : Tr) (L2 : Lo) (Tn : Tr) (Ti : Tr) (Tu : Tr) (Tv : Tr) (C : Tr) (Z : Tr) (q0 : Nat) (q1 : Nat) (q2 : Nat) (q3 : Nat) (q4 : Nat) (q5 : Nat) (x1 : Int32)  (r0 : Int32) (h : f_X7_fault pa qa R x1 = some r0) : Met l yX7_fault (.code yX7_fault cX7_fault 2 (some .int) :: T0) ({ frames := 0, cells := 0, slots := 0, locals := 0 } : Room) (tqP G cA [.ref (xa 0), .int x1] (wX cA xa ka ra na ia ua va ca za pa qa X K R P L P2 L2 Tn Ti Tu Tv C Z q0 q1 q2 q3 q4 q5) sz) (tqQi G cA (fun (r : Int32) (_ : Unit) => r = r0) (fun (_ : Unit) => wX cA xa ka ra na ia ua va ca za pa qa X K R P L P2 L2 Tn Ti Tu Tv C Z q0 q1 q2 q3 q4 q5) (va_A (wX cA xa ka ra na ia ua va ca za pa qa X K R P L P2 L2 Tn Ti Tu Tv C Z q0 q1 q2 q3 q4 q5) sz)) 0 0 (va_A (wX cA xa ka ra na ia ua va ca za pa qa X K R P L P2 L2 Tn Ti Tu Tv C Z q0 q1 q2 q3 q4 q5) sz) := by
  refine Met.ofW (cc := cX7_fault) (maxL := 2) (ret := (some .int)) (by decide) rfl ?_
  intro p e s m args below meth c s₁ B hml hv
  obtain ⟨rfl, hsz, hP, hK, hD0, hN⟩ := hv
  have hx := B.exec
  have hb := B.bytes
  have hr := B.returns
  have hts := atoms_spec (ws := .code yX7_fault cX7_fault 2 (some .int) :: T0) B.pre
  have hT : ∀ w ∈ T0, w.before _ s = true := fun w h => hts w (List.mem_cons_of_mem _ h)
  have hown : s.vm.findClass RX7 = some m.cls := findClass_of_methodNamed B.named
  have hlocks := B.notSynchronized
  subst hsz
  have hD := hD0.self (sz := s.heap.size)
  generalize hAe : va_A (wX cA xa ka ra na ia ua va ca za pa qa X K R P L P2 L2 Tn Ti Tu Tv C Z q0 q1 q2 q3 q4 q5) s.heap.size = A at hD ⊢
  have hA : ∀ q : Nat, s.heap.size ≤ q → A q := fun q h => by rw [← hAe]; exact Or.inr h
  have hS : va_S A s.heap s.heap [] := va_S.rf
  have hl := lv_entry ([.ref (xa 0), .int x1]) (n := 2) (Nat.le_of_ble_eq_true rfl)
  rw [lg_entry_eq]
  generalize (lg_sl ([.ref (xa 0), .int x1]) ++ List.replicate (2 - (lg_sl ([.ref (xa 0), .int x1])).length) Slot.unset).toArray = ls at hl ⊢
  have hl : lv_has ls 2 [(0, .ref (xa 0)), (1, .int x1)] := hl
  have F : tF p s m ([.ref (xa 0), .int x1] : List Value).toArray meth c G cA A RX7 cX7_fault 2 (some .int) := ⟨hx, hb, hr, hml, hT, hown, hlocks, hK, hN, hA⟩
  obtain ⟨H, hH⟩ : ∃ z, z = s.heap := ⟨_, rfl⟩
  rw [← hH] at hP
  have hS : va_S A s.heap H [] := by rw [hH]; exact hS
  suffices hgo : G_X7_fault p l e s m below meth c G cA A xa ka ra na ia ua va ca za pa qa X K R P L P2 L2 Tn Ti Tu Tv C Z q0 q1 q2 q3 q4 q5 x1 r0 H [] (F0 m 0 ls []) by rw [hH] at hgo; exact hgo
  generalize ([] : List Loc) = locs at hS ⊢
  unfold f_X7_fault at h
  refine lv_iload_n hx hb dX7_fault_0 rfl (lv_at hl 1 rfl) ?_
  refine lv_if_ne (tgt := 12) hx hb dX7_fault_1 (by decide) (fun c1 => ?_) (fun c1 => ?_)
  · have h := tx_neg c1 h
    refine lv_iload_n hx hb dX7_fault_12 rfl (lv_at hl 1 rfl) ?_
    refine lv_iconst (v := 1) hx hb dX7_fault_13 (by decide) ?_
    refine lv_icmp_ne (tgt := 27) hx hb dX7_fault_14 (by decide) (fun c2 => ?_) (fun c2 => ?_)
    · have h := tx_neg c2 h
      refine lv_iconst (v := (-1)) hx hb dX7_fault_27 (by decide) ?_
      obtain rfl := tx_1 h
      exact W.iret hx hb hr (fun t ht hW => ⟨⟨_, (), rfl, rfl, by rw [ht]; exact hP, hD⟩, hS.F ht⟩) hS.2.2 dX7_fault_28
    · have h := tx_pos c2 h
      refine lv_aload_n hx hb dX7_fault_17 rfl (lv_at hl 0 rfl) ?_
      refine va_get (D := G) (ci := 7) (v := .ref (ra 0)) (C := RX7) (T := TX7) (N := 12) hx hb hT ku_7 hown hK hP 0 rfl rfl 0 (by decide) (hT _ kw_1_16) (fun _ h9 => h9) rfl dX7_fault_18 ?_
      refine va_get (D := G) (ci := 3) (v := .int (R 0 2)) (C := RX3) (T := TX3) (N := 10) hx hb hT ku_3 hown hK hP 7 rfl rfl 2 (by decide) (hT _ kw_27_18) (fun _ h9 => h9) rfl dX7_fault_21 ?_
      refine lv_goto (tgt := 28) hx hb dX7_fault_24 (by decide) ?_
      obtain rfl := tx_1 h
      exact W.iret hx hb hr (fun t ht hW => ⟨⟨_, (), rfl, rfl, by rw [ht]; exact hP, hD⟩, hS.F ht⟩) hS.2.2 dX7_fault_28
  · have h := tx_pos c1 h
    refine lv_aload_n hx hb dX7_fault_4 rfl (lv_at hl 0 rfl) ?_
    refine va_get (D := G) (ci := 7) (v := .ref (ra 0)) (C := RX7) (T := TX7) (N := 12) hx hb hT ku_7 hown hK hP 0 rfl rfl 0 (by decide) (hT _ kw_1_16) (fun _ h9 => h9) rfl dX7_fault_5 ?_
    refine va_get (D := G) (ci := 3) (v := .int (R 0 1)) (C := RX3) (T := TX3) (N := 10) hx hb hT ku_3 hown hK hP 7 rfl rfl 1 (by decide) (hT _ kw_27_17) (fun _ h9 => h9) rfl dX7_fault_8 ?_
    obtain rfl := tx_1 h
    exact W.iret hx hb hr (fun t ht hW => ⟨⟨_, (), rfl, rfl, by rw [ht]; exact hP, hD⟩, hS.F ht⟩) hS.2.2 dX7_fault_11
abbrev G_X5_append_x (p : Program) (l : Launch) (e : Env) (s : State) (m : MethodId) (below : List Frame) (meth : Method) (c : Code) (G : va_G) (cA : Nat → ClassId) (A : Nat → Prop) (xa : Nat → Nat) (ka : Nat → Nat) (ra : Nat → Nat) (na : Nat → Nat) (ia : Nat → Nat) (ua : Nat → Nat) (va : Nat → Nat) (ca : Nat → Nat) (za : Nat → Nat) (pa : Nat → Nat) (qa : Nat → Nat) (X : Tr) (R : Tr) (P : Tr) (L : Lo) (P2 : Tr) (L2 : Lo) (Tn : Tr) (Ti : Tr) (Tu : Tr) (Tv : Tr) (C : Tr) (Z : Tr) (q0 : Nat) (q1 : Nat) (q2 : Nat) (q3 : Nat) (q4 : Nat) (q5 : Nat) (x1 : Int32) (K' : Tr) (H : Heap) (locs : List Loc) (g : JFrame) : Prop := W p l e (headSpec (.code yX5_append cX5_append 3 none :: T0) ({ frames := 0, cells := 0, slots := 0, locals := 0 } : Room)).room s m ([.ref (ka 0), .int x1] : List Value).toArray below meth c H locs 0 0 (MQ below (tqQv G cA (fun (_ : Unit) => True) (fun (_ : Unit) => wX cA xa ka ra na ia ua va ca za pa qa X (K') R P L P2 L2 Tn Ti Tu Tv C Z q0 q1 q2 q3 q4 q5) A) ([.ref (ka 0), .int x1] : List Value).toArray s 0 0 A) g
set_option maxHeartbeats 4000000 in
set_option maxRecDepth 100000 in
theorem w_X5_append_x_L3 {p : Program} {l : Launch} {e : Env} {s : State} {m : MethodId} {below : List Frame} {meth : Method} {c : Code} {G : va_G} {cA : Nat → ClassId} {A : Nat → Prop} {xa : Nat → Nat} {ka : Nat → Nat} {ra : Nat → Nat} {na : Nat → Nat} {ia : Nat → Nat} {ua : Nat → Nat} {va : Nat → Nat} {ca : Nat → Nat} {za : Nat → Nat} {pa : Nat → Nat} {qa : Nat → Nat} {X : Tr} {R : Tr} {P : Tr} {L : Lo} {P2 : Tr} {L2 : Lo} {Tn : Tr} {Ti : Tr} {Tu : Tr} {Tv : Tr} {C : Tr} {Z : Tr} {q0 : Nat} {q1 : Nat} {q2 : Nat} {q3 : Nat} {q4 : Nat} {q5 : Nat} {x1₀ : Int32} {K' : Tr} {x1 : Int32} (F : tF p s m ([.ref (ka 0), .int x1₀] : List Value).toArray meth c G cA A RX5 cX5_append 3 none)    (N : Nat) : ∀ (x2 : Int32) (K : Tr) (H : Heap) (locs : List Loc) (ls : Array Slot), lpF (fun _ _ => none) (fB_X5_append_x_L3 pa qa x1) N x2 K = some K' → va_P G vwCl (wX cA xa ka ra na ia ua va ca za pa qa X K R P L P2 L2 Tn Ti Tu Tv C Z q0 q1 q2 q3 q4 q5) H → va_D A (wX cA xa ka ra na ia ua va ca za pa qa X K R P L P2 L2 Tn Ti Tu Tv C Z q0 q1 q2 q3 q4 q5) → va_S A s.heap H locs → lv_has ls 3 [(0, .ref (ka 0)), (1, .int x1), (2, .int x2)] → G_X5_append_x p l e s m below meth c G cA A xa ka ra na ia ua va ca za pa qa X R P L P2 L2 Tn Ti Tu Tv C Z q0 q1 q2 q3 q4 q5 x1₀ K' H locs (F0 m 3 ls []) := by
  obtain ⟨hx, hb, hr, hml, hT, hown, hlocks, hK, hN, hA⟩ := id F
  induction N with
  | zero =>
    intro x2 K H locs ls h
    have h : (none : Option (Tr)) = some K' := h
    cases h
  | succ N hk3 =>
    intro x2 K H locs ls h hP hD hS hl
    have h : fB_X5_append_x_L3 pa qa x1 (lpF (fun _ _ => none) (fB_X5_append_x_L3 pa qa x1) N) x2 K = some K' := h
    generalize hk3e : lpF (fun _ _ => none) (fB_X5_append_x_L3 pa qa x1) N = k3 at h hk3
    unfold fB_X5_append_x_L3 at h
    refine lv_iload_n hx hb dX5_append_3 rfl (lv_at hl 2 rfl) ?_
    refine lv_if_lt (tgt := 46) hx hb dX5_append_4 (by decide) (fun c1 => ?_) (fun c1 => ?_)
    · have h := tx_pos c1 h
      obtain rfl := tx_1 h
      exact W.vret hx hb hr (fun t ht hW => ⟨⟨(), rfl, trivial, by rw [ht]; exact hP, hD⟩, hS.F ht⟩) hS.2.2 dX5_append_46
    · have h := tx_neg c1 h
      refine lv_aload_n hx hb dX5_append_7 rfl (lv_at hl 0 rfl) ?_
      refine va_get (D := G) (ci := 5) (v := .int (K 0 0)) (C := RX5) (T := TX5) (N := 8) hx hb hT ku_5 hown hK hP 4 rfl rfl 0 (by decide) (hT _ kw_13_19) (fun _ h9 => h9) rfl dX5_append_8 ?_
      refine lv_sipush (v := 700) hx hb dX5_append_11 (by decide) ?_
      refine lv_icmp_ge (tgt := 46) hx hb dX5_append_14 (by decide) (fun c2 => ?_) (fun c2 => ?_)
      · have h := tx_pos c2 h
        obtain rfl := tx_1 h
        exact W.vret hx hb hr (fun t ht hW => ⟨⟨(), rfl, trivial, by rw [ht]; exact hP, hD⟩, hS.F ht⟩) hS.2.2 dX5_append_46
      · have h := tx_neg c2 h
        refine lv_aload_n hx hb dX5_append_17 rfl (lv_at hl 0 rfl) ?_
        refine va_get (D := G) (ci := 5) (v := .ref (ka 5)) (C := RX5) (T := TX5) (N := 8) hx hb hT ku_5 hown hK hP 4 rfl rfl 4 (by decide) (hT _ kw_3_11) (fun _ h9 => h9) rfl dX5_append_18 ?_
        refine lv_aload_n hx hb dX5_append_21 rfl (lv_at hl 0 rfl) ?_
        refine va_get (D := G) (ci := 5) (v := .int (K 0 0)) (C := RX5) (T := TX5) (N := 8) hx hb hT ku_5 hown hK hP 4 rfl rfl 0 (by decide) (hT _ kw_13_19) (fun _ h9 => h9) rfl dX5_append_22 ?_
        refine lv_iload_n hx hb dX5_append_25 rfl (lv_at hl 1 rfl) ?_
        refine lv_iload_n hx hb dX5_append_26 rfl (lv_at hl 2 rfl) ?_
        refine lv_iushr hx hb dX5_append_27 rfl ?_
        refine lv_i2b hx hb dX5_append_28 rfl ?_
        obtain ⟨g3, h⟩ := tx_ck h
        refine va_bast (i := (K 0 0)) hx hb hK hP hD hS 5 3 rfl rfl (tx_in g3) dX5_append_29 (fun H locs hP hD hS => ?_)
        obtain ⟨K_4, eK_4, h⟩ := tx_lt h
        rw [sX_ka_a4, eK_4] at hP hD
        refine lv_aload_n hx hb dX5_append_30 rfl (lv_at hl 0 rfl) ?_
        refine lv_dup hx hb dX5_append_31 rfl ?_
        refine va_get (D := G) (ci := 5) (v := .int (K_4 0 0)) (C := RX5) (T := TX5) (N := 8) hx hb hT ku_5 hown hK hP 4 rfl rfl 0 (by decide) (hT _ kw_13_19) (fun _ h9 => h9) rfl dX5_append_32 ?_
        refine lv_iconst (v := 1) hx hb dX5_append_35 (by decide) ?_
        refine lv_iadd hx hb dX5_append_36 ?_
        refine va_put (D := G) (ci := 5) (v := .int ((K_4 0 0) + 1)) (ty := .int) (C := RX5) (T := TX5) (N := 8) hx hb hT ku_5 tyX5 tyX5_ok nmX5 hown hK hP hD hS 4 rfl rfl 0 (by decide) (hT _ kw_13_19) (fun _ h9 => h9) rfl (by decide +kernel) rfl rfl (Nat.le_of_ble_eq_true rfl) dX5_append_37 (fun H locs hP hD hS => ?_)
        obtain ⟨K_5, eK_5, h⟩ := tx_lt h
        rw [sX_ka_f0, eK_5] at hP hD
        obtain ⟨y6, ey6, h⟩ := tx_lt h
        refine lv_iinc (v := y6) (lv' := [(2, .int y6), (0, .ref (ka 0)), (1, .int x1)]) hx hb dX5_append_40 hl (k := 2) rfl ey6 (by decide) rfl (fun ls hl => ?_)
        refine lv_goto (tgt := 3) hx hb dX5_append_43 (by decide) ?_
        exact hk3 y6 K_5 H locs ls h hP hD hS (lv_sub hl [1, 2, 0] rfl)
set_option maxHeartbeats 4000000 in
set_option maxRecDepth 100000 in
theorem c_X5_append_x (l : Launch) (G : va_G) (cA : Nat → ClassId) (sz : Nat) (xa : Nat → Nat) (ka : Nat → Nat) (ra : Nat → Nat) (na : Nat → Nat) (ia : Nat → Nat) (ua : Nat → Nat) (va : Nat → Nat) (ca : Nat → Nat) (za : Nat → Nat) (pa : Nat → Nat) (qa : Nat → Nat) (X : Tr) (K : Tr) (R : Tr) (P : Tr) (L : Lo) (P2 : Tr) (L2 : Lo) (Tn : Tr) (Ti : Tr) (Tu : Tr) (Tv : Tr) (C : Tr) (Z : Tr) (q0 : Nat) (q1 : Nat) (q2 : Nat) (q3 : Nat) (q4 : Nat) (q5 : Nat) (x1 : Int32)  (K' : Tr) (h : f_X5_append_x pa qa K x1 = some K') : Met l yX5_append (.code yX5_append cX5_append 3 none :: T0) ({ frames := 0, cells := 0, slots := 0, locals := 0 } : Room) (tqP G cA [.ref (ka 0), .int x1] (wX cA xa ka ra na ia ua va ca za pa qa X K R P L P2 L2 Tn Ti Tu Tv C Z q0 q1 q2 q3 q4 q5) sz) (tqQv G cA (fun (_ : Unit) => True) (fun (_ : Unit) => wX cA xa ka ra na ia ua va ca za pa qa X (K') R P L P2 L2 Tn Ti Tu Tv C Z q0 q1 q2 q3 q4 q5) (va_A (wX cA xa ka ra na ia ua va ca za pa qa X K R P L P2 L2 Tn Ti Tu Tv C Z q0 q1 q2 q3 q4 q5) sz)) 0 0 (va_A (wX cA xa ka ra na ia ua va ca za pa qa X K R P L P2 L2 Tn Ti Tu Tv C Z q0 q1 q2 q3 q4 q5) sz) := by
  refine Met.ofW (cc := cX5_append) (maxL := 3) (ret := none) (by decide) rfl ?_
  intro p e s m args below meth c s₁ B hml hv
  obtain ⟨rfl, hsz, hP, hK, hD0, hN⟩ := hv
  have hx := B.exec
  have hb := B.bytes
  have hr := B.returns
  have hts := atoms_spec (ws := .code yX5_append cX5_append 3 none :: T0) B.pre
  have hT : ∀ w ∈ T0, w.before _ s = true := fun w h => hts w (List.mem_cons_of_mem _ h)
  have hown : s.vm.findClass RX5 = some m.cls := findClass_of_methodNamed B.named
  have hlocks := B.notSynchronized
  subst hsz
  have hD := hD0.self (sz := s.heap.size)
  generalize hAe : va_A (wX cA xa ka ra na ia ua va ca za pa qa X K R P L P2 L2 Tn Ti Tu Tv C Z q0 q1 q2 q3 q4 q5) s.heap.size = A at hD ⊢
  have hA : ∀ q : Nat, s.heap.size ≤ q → A q := fun q h => by rw [← hAe]; exact Or.inr h
  have hS : va_S A s.heap s.heap [] := va_S.rf
  have hl := lv_entry ([.ref (ka 0), .int x1]) (n := 3) (Nat.le_of_ble_eq_true rfl)
  rw [lg_entry_eq]
  generalize (lg_sl ([.ref (ka 0), .int x1]) ++ List.replicate (3 - (lg_sl ([.ref (ka 0), .int x1])).length) Slot.unset).toArray = ls at hl ⊢
  have hl : lv_has ls 3 [(0, .ref (ka 0)), (1, .int x1)] := hl
  have F : tF p s m ([.ref (ka 0), .int x1] : List Value).toArray meth c G cA A RX5 cX5_append 3 none := ⟨hx, hb, hr, hml, hT, hown, hlocks, hK, hN, hA⟩
  obtain ⟨H, hH⟩ : ∃ z, z = s.heap := ⟨_, rfl⟩
  rw [← hH] at hP
  have hS : va_S A s.heap H [] := by rw [hH]; exact hS
  suffices hgo : G_X5_append_x p l e s m below meth c G cA A xa ka ra na ia ua va ca za pa qa X R P L P2 L2 Tn Ti Tu Tv C Z q0 q1 q2 q3 q4 q5 x1 K' H [] (F0 m 0 ls []) by rw [hH] at hgo; exact hgo
  generalize ([] : List Loc) = locs at hS ⊢
  unfold f_X5_append_x at h
  refine lv_bipush (v := 24) hx hb dX5_append_0 (by decide) ?_
  refine lv_istore_n (lv' := [(2, .int 24), (0, .ref (ka 0)), (1, .int x1)]) hx hb dX5_append_2 rfl hl (by decide) rfl (fun ls hl => ?_)
  exact w_X5_append_x_L3 F 2000 24 K H locs ls h hP hD hS (lv_sub hl [1, 2, 0] rfl)
abbrev G_X7_feed (p : Program) (l : Launch) (e : Env) (s : State) (m : MethodId) (below : List Frame) (meth : Method) (c : Code) (G : va_G) (cA : Nat → ClassId) (A : Nat → Prop) (xa : Nat → Nat) (ka : Nat → Nat) (ra : Nat → Nat) (na : Nat → Nat) (ia : Nat → Nat) (ua : Nat → Nat) (va : Nat → Nat) (ca : Nat → Nat) (za : Nat → Nat) (pa : Nat → Nat) (qa : Nat → Nat) (X : Tr) (R : Tr) (P : Tr) (L : Lo) (P2 : Tr) (L2 : Lo) (Tn : Tr) (Ti : Tr) (Tu : Tr) (Tv : Tr) (C : Tr) (Z : Tr) (q0 : Nat) (q1 : Nat) (q2 : Nat) (q3 : Nat) (q4 : Nat) (q5 : Nat) (x1 : Int32) (x2 : Int32) (x3 : Int32) (x4 : Int32) (x5 : Int32) (r0 : Int32) (K' : Tr) (H : Heap) (locs : List Loc) (g : JFrame) : Prop := W p l e (headSpec (.code yX7_feed cX7_feed 7 (some .int) :: T0) ({ frames := 1, cells := 0, slots := 0, locals := 22 } : Room)).room s m ([.ref (xa 0), .int x1, .int x2, .int x3, .int x4, .int x5] : List Value).toArray below meth c H locs 0 0 (MQ below (tqQi G cA (fun (r : Int32) (_ : Unit) => r = r0) (fun (_ : Unit) => wX cA xa ka ra na ia ua va ca za pa qa X (K') R P L P2 L2 Tn Ti Tu Tv C Z q0 q1 q2 q3 q4 q5) A) ([.ref (xa 0), .int x1, .int x2, .int x3, .int x4, .int x5] : List Value).toArray s 0 0 A) g
set_option maxHeartbeats 4000000 in
set_option maxRecDepth 100000 in
theorem c_X7_feed (l : Launch) (G : va_G) (cA : Nat → ClassId) (sz : Nat) (xa : Nat → Nat) (ka : Nat → Nat) (ra : Nat → Nat) (na : Nat → Nat) (ia : Nat → Nat) (ua : Nat → Nat) (va : Nat → Nat) (ca : Nat → Nat) (za : Nat → Nat) (pa : Nat → Nat) (qa : Nat → Nat) (X : Tr) (K : Tr) (R : Tr) (P : Tr) (L : Lo) (P2 : Tr) (L2 : Lo) (Tn : Tr) (Ti : Tr) (Tu : Tr) (Tv : Tr) (C : Tr) (Z : Tr) (q0 : Nat) (q1 : Nat) (q2 : Nat) (q3 : Nat) (q4 : Nat) (q5 : Nat) (x1 : Int32) (x2 : Int32) (x3 : Int32) (x4 : Int32) (x5 : Int32)  (r0 : Int32) (K' : Tr) (h : f_X7_feed pa qa K x1 x2 x3 x4 x5 = some (r0, K')) : Met l yX7_feed (.code yX7_feed cX7_feed 7 (some .int) :: T0) ({ frames := 1, cells := 0, slots := 0, locals := 22 } : Room) (tqP G cA [.ref (xa 0), .int x1, .int x2, .int x3, .int x4, .int x5] (wX cA xa ka ra na ia ua va ca za pa qa X K R P L P2 L2 Tn Ti Tu Tv C Z q0 q1 q2 q3 q4 q5) sz) (tqQi G cA (fun (r : Int32) (_ : Unit) => r = r0) (fun (_ : Unit) => wX cA xa ka ra na ia ua va ca za pa qa X (K') R P L P2 L2 Tn Ti Tu Tv C Z q0 q1 q2 q3 q4 q5) (va_A (wX cA xa ka ra na ia ua va ca za pa qa X K R P L P2 L2 Tn Ti Tu Tv C Z q0 q1 q2 q3 q4 q5) sz)) 0 0 (va_A (wX cA xa ka ra na ia ua va ca za pa qa X K R P L P2 L2 Tn Ti Tu Tv C Z q0 q1 q2 q3 q4 q5) sz) := by
  refine Met.ofW (cc := cX7_feed) (maxL := 7) (ret := (some .int)) (by decide) rfl ?_
  intro p e s m args below meth c s₁ B hml hv
  obtain ⟨rfl, hsz, hP, hK, hD0, hN⟩ := hv
  have hx := B.exec
  have hb := B.bytes
  have hr := B.returns
  have hts := atoms_spec (ws := .code yX7_feed cX7_feed 7 (some .int) :: T0) B.pre
  have hT : ∀ w ∈ T0, w.before _ s = true := fun w h => hts w (List.mem_cons_of_mem _ h)
  have hown : s.vm.findClass RX7 = some m.cls := findClass_of_methodNamed B.named
  have hlocks := B.notSynchronized
  subst hsz
  have hD := hD0.self (sz := s.heap.size)
  generalize hAe : va_A (wX cA xa ka ra na ia ua va ca za pa qa X K R P L P2 L2 Tn Ti Tu Tv C Z q0 q1 q2 q3 q4 q5) s.heap.size = A at hD ⊢
  have hA : ∀ q : Nat, s.heap.size ≤ q → A q := fun q h => by rw [← hAe]; exact Or.inr h
  have hS : va_S A s.heap s.heap [] := va_S.rf
  have hl := lv_entry ([.ref (xa 0), .int x1, .int x2, .int x3, .int x4, .int x5]) (n := 7) (Nat.le_of_ble_eq_true rfl)
  rw [lg_entry_eq]
  generalize (lg_sl ([.ref (xa 0), .int x1, .int x2, .int x3, .int x4, .int x5]) ++ List.replicate (7 - (lg_sl ([.ref (xa 0), .int x1, .int x2, .int x3, .int x4, .int x5])).length) Slot.unset).toArray = ls at hl ⊢
  have hl : lv_has ls 7 [(0, .ref (xa 0)), (1, .int x1), (2, .int x2), (3, .int x3), (4, .int x4), (5, .int x5)] := hl
  have F : tF p s m ([.ref (xa 0), .int x1, .int x2, .int x3, .int x4, .int x5] : List Value).toArray meth c G cA A RX7 cX7_feed 7 (some .int) := ⟨hx, hb, hr, hml, hT, hown, hlocks, hK, hN, hA⟩
  obtain ⟨H, hH⟩ : ∃ z, z = s.heap := ⟨_, rfl⟩
  rw [← hH] at hP
  have hS : va_S A s.heap H [] := by rw [hH]; exact hS
  suffices hgo : G_X7_feed p l e s m below meth c G cA A xa ka ra na ia ua va ca za pa qa X R P L P2 L2 Tn Ti Tu Tv C Z q0 q1 q2 q3 q4 q5 x1 x2 x3 x4 x5 r0 K' H [] (F0 m 0 ls []) by rw [hH] at hgo; exact hgo
  generalize ([] : List Loc) = locs at hS ⊢
  unfold f_X7_feed at h
  refine lv_aload_n hx hb dX7_feed_0 rfl (lv_at hl 0 rfl) ?_
  refine va_get (D := G) (ci := 7) (v := .ref (ra 0)) (C := RX7) (T := TX7) (N := 12) hx hb hT ku_7 hown hK hP 0 rfl rfl 0 (by decide) (hT _ kw_1_16) (fun _ h9 => h9) rfl dX7_feed_1 ?_
  refine va_get (D := G) (ci := 3) (v := .ref (ka 0)) (C := RX3) (T := TX3) (N := 10) hx hb hT ku_3 hown hK hP 7 rfl rfl 0 (by decide) (hT _ kw_13_13) (fun _ h9 => h9) rfl dX7_feed_4 ?_
  refine lv_astore (lv' := [(6, .ref (ka 0)), (0, .ref (xa 0)), (1, .int x1), (2, .int x2), (3, .int x3), (4, .int x4), (5, .int x5)]) hx hb dX7_feed_7 hl (by decide) rfl (fun ls hl => ?_)
  refine lv_aload hx hb dX7_feed_9 (lv_at hl 0 rfl) ?_
  refine va_get (D := G) (ci := 5) (v := .int (K 0 0)) (C := RX5) (T := TX5) (N := 8) hx hb hT ku_5 hown hK hP 4 rfl rfl 0 (by decide) (hT _ kw_13_14) (fun _ h9 => h9) rfl dX7_feed_11 ?_
  refine lv_bipush (v := 20) hx hb dX7_feed_14 (by decide) ?_
  refine lv_iadd hx hb dX7_feed_16 ?_
  refine lv_sipush (v := 700) hx hb dX7_feed_17 (by decide) ?_
  refine lv_icmp_le (tgt := 25) hx hb dX7_feed_20 (by decide) (fun c1 => ?_) (fun c1 => ?_)
  · have h := tx_pos c1 h
    refine lv_aload hx hb dX7_feed_25 (lv_at hl 0 rfl) ?_
    refine lv_iload_n hx hb dX7_feed_27 rfl (lv_at hl 2 rfl) ?_
    obtain ⟨K_2, hc3, h⟩ := tx_bd h
    refine tw_cv tw_all hP hD hS hA (va_runV (As := [.int x1]) (rest := []) ⟨hx, hb, hml, hown, hT⟩ (c_X5_append_x l G cA H.size xa ka ra na ia ua va ca za pa qa X K R P L P2 L2 Tn Ti Tu Tv C Z q0 q1 q2 q3 q4 q5 x1  K_2 hc3) (cwV 1 hT (tq_gV kw_13_15 kw_13_16 kw_13_17 kw_2_22 kw_13_18) rfl rfl rfl (by decide +kernel) ⟨Nat.le_of_ble_eq_true rfl, Nat.le_of_ble_eq_true rfl⟩) ⟨(tw_pre tw_all hP hD hK hN).1, va_recv hK hP (ci := 5) (q0 := 4) rfl rfl, (tw_pre tw_all hP hD hK hN).2⟩ rfl rfl hl.1 rfl (lv_room (Nat.le_of_ble_eq_true rfl)) dX7_feed_28 ⟨Nat.le_of_ble_eq_true rfl, Nat.le_of_ble_eq_true rfl⟩) (fun _ H locs z4 hP hD hS => ?_)
    rw [List.append_nil] at hP hD
    have hP : va_P G vwCl (wX cA xa ka ra na ia ua va ca za pa qa X K_2 R P L P2 L2 Tn Ti Tu Tv C Z q0 q1 q2 q3 q4 q5) H := hP
    have hD : va_D A (wX cA xa ka ra na ia ua va ca za pa qa X K_2 R P L P2 L2 Tn Ti Tu Tv C Z q0 q1 q2 q3 q4 q5) := hD
    refine lv_aload hx hb dX7_feed_31 (lv_at hl 0 rfl) ?_
    refine lv_iload_n hx hb dX7_feed_33 rfl (lv_at hl 3 rfl) ?_
    obtain ⟨K_5, hc6, h⟩ := tx_bd h
    refine tw_cv tw_all hP hD hS hA (va_runV (As := [.int x2]) (rest := []) ⟨hx, hb, hml, hown, hT⟩ (c_X5_append_x l G cA H.size xa ka ra na ia ua va ca za pa qa X K_2 R P L P2 L2 Tn Ti Tu Tv C Z q0 q1 q2 q3 q4 q5 x2  K_5 hc6) (cwV 1 hT (tq_gV kw_13_15 kw_13_16 kw_13_17 kw_2_22 kw_13_18) rfl rfl rfl (by decide +kernel) ⟨Nat.le_of_ble_eq_true rfl, Nat.le_of_ble_eq_true rfl⟩) ⟨(tw_pre tw_all hP hD hK hN).1, va_recv hK hP (ci := 5) (q0 := 4) rfl rfl, (tw_pre tw_all hP hD hK hN).2⟩ rfl rfl hl.1 rfl (lv_room (Nat.le_of_ble_eq_true rfl)) dX7_feed_34 ⟨Nat.le_of_ble_eq_true rfl, Nat.le_of_ble_eq_true rfl⟩) (fun _ H locs z7 hP hD hS => ?_)
    rw [List.append_nil] at hP hD
    have hP : va_P G vwCl (wX cA xa ka ra na ia ua va ca za pa qa X K_5 R P L P2 L2 Tn Ti Tu Tv C Z q0 q1 q2 q3 q4 q5) H := hP
    have hD : va_D A (wX cA xa ka ra na ia ua va ca za pa qa X K_5 R P L P2 L2 Tn Ti Tu Tv C Z q0 q1 q2 q3 q4 q5) := hD
    refine lv_aload hx hb dX7_feed_37 (lv_at hl 0 rfl) ?_
    refine lv_iload_n hx hb dX7_feed_39 rfl (lv_at hl 4 rfl) ?_
    obtain ⟨K_8, hc9, h⟩ := tx_bd h
    refine tw_cv tw_all hP hD hS hA (va_runV (As := [.int x3]) (rest := []) ⟨hx, hb, hml, hown, hT⟩ (c_X5_append_x l G cA H.size xa ka ra na ia ua va ca za pa qa X K_5 R P L P2 L2 Tn Ti Tu Tv C Z q0 q1 q2 q3 q4 q5 x3  K_8 hc9) (cwV 1 hT (tq_gV kw_13_15 kw_13_16 kw_13_17 kw_2_22 kw_13_18) rfl rfl rfl (by decide +kernel) ⟨Nat.le_of_ble_eq_true rfl, Nat.le_of_ble_eq_true rfl⟩) ⟨(tw_pre tw_all hP hD hK hN).1, va_recv hK hP (ci := 5) (q0 := 4) rfl rfl, (tw_pre tw_all hP hD hK hN).2⟩ rfl rfl hl.1 rfl (lv_room (Nat.le_of_ble_eq_true rfl)) dX7_feed_40 ⟨Nat.le_of_ble_eq_true rfl, Nat.le_of_ble_eq_true rfl⟩) (fun _ H locs z10 hP hD hS => ?_)
    rw [List.append_nil] at hP hD
    have hP : va_P G vwCl (wX cA xa ka ra na ia ua va ca za pa qa X K_8 R P L P2 L2 Tn Ti Tu Tv C Z q0 q1 q2 q3 q4 q5) H := hP
    have hD : va_D A (wX cA xa ka ra na ia ua va ca za pa qa X K_8 R P L P2 L2 Tn Ti Tu Tv C Z q0 q1 q2 q3 q4 q5) := hD
    refine lv_aload hx hb dX7_feed_43 (lv_at hl 0 rfl) ?_
    refine lv_iload hx hb dX7_feed_45 (lv_at hl 5 rfl) ?_
    obtain ⟨K_11, hc12, h⟩ := tx_bd h
    refine tw_cv tw_all hP hD hS hA (va_runV (As := [.int x4]) (rest := []) ⟨hx, hb, hml, hown, hT⟩ (c_X5_append_x l G cA H.size xa ka ra na ia ua va ca za pa qa X K_8 R P L P2 L2 Tn Ti Tu Tv C Z q0 q1 q2 q3 q4 q5 x4  K_11 hc12) (cwV 1 hT (tq_gV kw_13_15 kw_13_16 kw_13_17 kw_2_22 kw_13_18) rfl rfl rfl (by decide +kernel) ⟨Nat.le_of_ble_eq_true rfl, Nat.le_of_ble_eq_true rfl⟩) ⟨(tw_pre tw_all hP hD hK hN).1, va_recv hK hP (ci := 5) (q0 := 4) rfl rfl, (tw_pre tw_all hP hD hK hN).2⟩ rfl rfl hl.1 rfl (lv_room (Nat.le_of_ble_eq_true rfl)) dX7_feed_47 ⟨Nat.le_of_ble_eq_true rfl, Nat.le_of_ble_eq_true rfl⟩) (fun _ H locs z13 hP hD hS => ?_)
    rw [List.append_nil] at hP hD
    have hP : va_P G vwCl (wX cA xa ka ra na ia ua va ca za pa qa X K_11 R P L P2 L2 Tn Ti Tu Tv C Z q0 q1 q2 q3 q4 q5) H := hP
    have hD : va_D A (wX cA xa ka ra na ia ua va ca za pa qa X K_11 R P L P2 L2 Tn Ti Tu Tv C Z q0 q1 q2 q3 q4 q5) := hD
    refine lv_aload hx hb dX7_feed_50 (lv_at hl 0 rfl) ?_
    refine lv_iload hx hb dX7_feed_52 (lv_at hl 6 rfl) ?_
    obtain ⟨K_14, hc15, h⟩ := tx_bd h
    refine tw_cv tw_all hP hD hS hA (va_runV (As := [.int x5]) (rest := []) ⟨hx, hb, hml, hown, hT⟩ (c_X5_append_x l G cA H.size xa ka ra na ia ua va ca za pa qa X K_11 R P L P2 L2 Tn Ti Tu Tv C Z q0 q1 q2 q3 q4 q5 x5  K_14 hc15) (cwV 1 hT (tq_gV kw_13_15 kw_13_16 kw_13_17 kw_2_22 kw_13_18) rfl rfl rfl (by decide +kernel) ⟨Nat.le_of_ble_eq_true rfl, Nat.le_of_ble_eq_true rfl⟩) ⟨(tw_pre tw_all hP hD hK hN).1, va_recv hK hP (ci := 5) (q0 := 4) rfl rfl, (tw_pre tw_all hP hD hK hN).2⟩ rfl rfl hl.1 rfl (lv_room (Nat.le_of_ble_eq_true rfl)) dX7_feed_54 ⟨Nat.le_of_ble_eq_true rfl, Nat.le_of_ble_eq_true rfl⟩) (fun _ H locs z16 hP hD hS => ?_)
    rw [List.append_nil] at hP hD
    have hP : va_P G vwCl (wX cA xa ka ra na ia ua va ca za pa qa X K_14 R P L P2 L2 Tn Ti Tu Tv C Z q0 q1 q2 q3 q4 q5) H := hP
    have hD : va_D A (wX cA xa ka ra na ia ua va ca za pa qa X K_14 R P L P2 L2 Tn Ti Tu Tv C Z q0 q1 q2 q3 q4 q5) := hD
    refine lv_aload hx hb dX7_feed_57 (lv_at hl 0 rfl) ?_
    refine va_get (D := G) (ci := 5) (v := .int (K_14 0 0)) (C := RX5) (T := TX5) (N := 8) hx hb hT ku_5 hown hK hP 4 rfl rfl 0 (by decide) (hT _ kw_13_14) (fun _ h9 => h9) rfl dX7_feed_59 ?_
    obtain ⟨rfl, rfl⟩ := tx_2 h
    exact W.iret hx hb hr (fun t ht hW => ⟨⟨_, (), rfl, rfl, by rw [ht]; exact hP, hD⟩, hS.F ht⟩) hS.2.2 dX7_feed_62
  · have h := tx_neg c1 h
    refine lv_iconst (v := (-1)) hx hb dX7_feed_23 (by decide) ?_
    obtain ⟨rfl, rfl⟩ := tx_2 h
    exact W.iret hx hb hr (fun t ht hW => ⟨⟨_, (), rfl, rfl, by rw [ht]; exact hP, hD⟩, hS.F ht⟩) hS.2.2 dX7_feed_24
