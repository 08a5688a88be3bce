abbrev G_X7_see (p : Program) (l : Launch) (e : Env) (s : State) (m : MethodId) (below : List Frame) (meth : Method) (c : Code) (G : va_G) (cA : Nat → ClassId) (A : Nat → Prop) (xa : Nat → Nat) (ka : Nat → Nat) (ra : Nat → Nat) (na : Nat → Nat) (ia : Nat → Nat) (ua : Nat → Nat) (va : Nat → Nat) (ca : Nat → Nat) (za : Nat → Nat) (pa : Nat → Nat) (qa : Nat → Nat) (X : Tr) (K : Tr) (R : Tr) (P : Tr) (L : Lo) (P2 : Tr) (L2 : Lo) (Tn : Tr) (Ti : Tr) (Tu : Tr) (Tv : Tr) (C : Tr) (q0 : Nat) (q1 : Nat) (q2 : Nat) (q3 : Nat) (q4 : Nat) (q5 : Nat) (x1 : Int32) (x2 : Int32) (x3 : Int32) (x4 : Int32) (r0 : Int32) (Z' : Tr) (H : Heap) (locs : List Loc) (g : JFrame) : Prop := W p l e (headSpec (.code yX7_see cX7_see 5 (some .int) :: T0) ({ frames := 1, cells := 0, slots := 0, locals := 24 } : Room)).room s m ([.ref (xa 0), .int x1, .int x2, .int x3, .int x4] : List Value).toArray below meth c H locs 0 0 (MQ below (tqQi G cA (fun (r : Int32) (_ : Unit) => r = r0) (fun (_ : Unit) => wX cA xa ka ra na ia ua va ca za pa qa X K R P L P2 L2 Tn Ti Tu Tv C (Z') q0 q1 q2 q3 q4 q5) A) ([.ref (xa 0), .int x1, .int x2, .int x3, .int x4] : List Value).toArray s 0 0 A) g
set_option maxHeartbeats 4000000 in
set_option maxRecDepth 100000 in
theorem w_X7_see_J45 {p : Program} {l : Launch} {e : Env} {s : State} {m : MethodId} {below : List Frame} {meth : Method} {c : Code} {G : va_G} {cA : Nat → ClassId} {A : Nat → Prop} {xa : Nat → Nat} {ka : Nat → Nat} {ra : Nat → Nat} {na : Nat → Nat} {ia : Nat → Nat} {ua : Nat → Nat} {va : Nat → Nat} {ca : Nat → Nat} {za : Nat → Nat} {pa : Nat → Nat} {qa : Nat → Nat} {X : Tr} {K : Tr} {R : Tr} {P : Tr} {L : Lo} {P2 : Tr} {L2 : Lo} {Tn : Tr} {Ti : Tr} {Tu : Tr} {Tv : Tr} {C : Tr} {q0 : Nat} {q1 : Nat} {q2 : Nat} {q3 : Nat} {q4 : Nat} {q5 : Nat} {x1₀ : Int32} {x2₀ : Int32} {x3₀ : Int32} {x4₀ : Int32} {r0 : Int32} {Z' : Tr} (F : tF p s m ([.ref (xa 0), .int x1₀, .int x2₀, .int x3₀, .int x4₀] : List Value).toArray meth c G cA A RX7 cX7_see 5 (some .int))    (s0 : Int32) (s1 : Int32) (s2 : Int32) (s3 : Int32) (Z : Tr) (H : Heap) (locs : List Loc) (ls : Array Slot) (h : fJ_X7_see_J45 pa qa P q4 s0 s1 s2 s3 Z = some (r0, Z')) (hP : va_P G vwCl (wX cA xa ka ra na ia ua va ca za pa qa X K R P L P2 L2 Tn Ti Tu Tv C Z_13 q0 q1 q2 q3 q4 q5) H) (hD : va_D A (wX cA xa ka ra na ia ua va ca za pa qa X K R P L P2 L2 Tn Ti Tu Tv C Z_13 q0 q1 q2 q3 q4 q5)) (hS : va_S A s.heap H locs) (hl : lv_has ls 5 []) : G_X7_see p l e s m below meth c G cA A xa ka ra na ia ua va ca za pa qa X K R P L P2 L2 Tn Ti Tu Tv C q0 q1 q2 q3 q4 q5 x1₀ x2₀ x3₀ x4₀ r0 Z' H locs (F0 m 45 ls []) := by
  obtain ⟨hx, hb, hr, hml, hT, hown, hlocks, hK, hN, hA⟩ := id F
  unfold fJ_X7_see_J45 at h
  obtain ⟨⟨r12, Z_13⟩, hc14, h⟩ := tx_bd h
  replace h := tx_let (y := r12) rfl h
  replace h := tx_let (y := Z_13) rfl h
  refine tw_ci tw_all hP hD hS hA (va_runV (As := [.int s3, .int s2, .int s1, .int s0]) (rest := []) ⟨hx, hb, hml, hown, hT⟩ (c_X4_add_x l G cA H.size xa ka ra na ia ua va ca za pa qa X K R P L P2 L2 Tn Ti Tu Tv C Z q0 q1 q2 q3 q4 q5 s3 s2 s1 s0  r12 Z_13 hc14) (cwV 4 hT (tq_gV kw_54_1 kw_54_2 kw_54_3 kw_2_11 kw_54_4) rfl rfl rfl (by decide +kernel) ⟨Nat.le_of_ble_eq_true rfl, Nat.le_of_ble_eq_true rfl⟩) ⟨(tw_pre tw_all hP hD hK hN).1, va_recv hK hP (ci := 4) (q0 := 103) rfl rfl, (tw_pre tw_all hP hD hK hN).2⟩ rfl rfl hl.1 rfl (lv_room (Nat.le_of_ble_eq_true rfl)) dX7_see_45 ⟨Nat.le_of_ble_eq_true rfl, Nat.le_of_ble_eq_true rfl⟩) (fun _ _ H locs z15 hP hD hS => ?_)
  subst z15
  rw [List.append_nil] at hP hD
  have hP : va_P G vwCl (wX cA xa ka ra na ia ua va ca za pa qa X K R P L P2 L2 Tn Ti Tu Tv C Z_13 q0 q1 q2 q3 q4 q5) H := hP
  have hD : va_D A (wX cA xa ka ra na ia ua va ca za pa qa X K R P L P2 L2 Tn Ti Tu Tv C Z_13 q0 q1 q2 q3 q4 q5) := hD
  obtain ⟨rfl, rfl⟩ := tx_2 h
  exact W.iret hx hb hr (fun t ht hW => ⟨⟨_, (), rfl, rfl, by rw [ht]; exact hP, hD⟩, hS.F ht⟩) hS.2.2 dX7_see_48
set_option maxHeartbeats 4000000 in
set_option maxRecDepth 100000 in
theorem c_X7_see (l : Launch) (G : va_G) (cA : Nat → ClassId) (sz : Nat) (xa : Nat → Nat) (ka : Nat → Nat) (ra : Nat → Nat) (na : Nat → Nat) (ia : Nat → Nat) (ua : Nat → Nat) (va : Nat → Nat) (ca : Nat → Nat) (za : Nat → Nat) (pa : Nat → Nat) (qa : Nat → Nat) (X : Tr) (K : Tr) (R : Tr) (P : Tr) (L : Lo) (P2 : Tr) (L2 : Lo) (Tn : Tr) (Ti : Tr) (Tu : Tr) (Tv : Tr) (C : Tr) (Z : Tr) (q0 : Nat) (q1 : Nat) (q2 : Nat) (q3 : Nat) (q4 : Nat) (q5 : Nat) (x1 : Int32) (x2 : Int32) (x3 : Int32) (x4 : Int32)  (r0 : Int32) (Z' : Tr) (h : f_X7_see pa qa P Z q4 x1 x2 x3 x4 = some (r0, Z')) : Met l yX7_see (.code yX7_see cX7_see 5 (some .int) :: T0) ({ frames := 1, cells := 0, slots := 0, locals := 24 } : Room) (tqP G cA [.ref (xa 0), .int x1, .int x2, .int x3, .int x4] (wX cA xa ka ra na ia ua va ca za pa qa X K R P L P2 L2 Tn Ti Tu Tv C Z q0 q1 q2 q3 q4 q5) sz) (tqQi G cA (fun (r : Int32) (_ : Unit) => r = r0) (fun (_ : Unit) => wX cA xa ka ra na ia ua va ca za pa qa X K R P L P2 L2 Tn Ti Tu Tv C (Z') q0 q1 q2 q3 q4 q5) (va_A (wX cA xa ka ra na ia ua va ca za pa qa X K R P L P2 L2 Tn Ti Tu Tv C Z q0 q1 q2 q3 q4 q5) sz)) 0 0 (va_A (wX cA xa ka ra na ia ua va ca za pa qa X K R P L P2 L2 Tn Ti Tu Tv C Z q0 q1 q2 q3 q4 q5) sz) := by
  refine Met.ofW (cc := cX7_see) (maxL := 5) (ret := (some .int)) (by decide) rfl ?_
  intro p e s m args below meth c s₁ B hml hv
  obtain ⟨rfl, hsz, hP, hK, hD0, hN⟩ := hv
  have hx := B.exec
  have hb := B.bytes
  have hr := B.returns
  have hts := atoms_spec (ws := .code yX7_see cX7_see 5 (some .int) :: T0) B.pre
  have hT : ∀ w ∈ T0, w.before _ s = true := fun w h => hts w (List.mem_cons_of_mem _ h)
  have hown : s.vm.findClass RX7 = some m.cls := findClass_of_methodNamed B.named
  have hlocks := B.notSynchronized
  subst hsz
  have hD := hD0.self (sz := s.heap.size)
  generalize hAe : va_A (wX cA xa ka ra na ia ua va ca za pa qa X K R P L P2 L2 Tn Ti Tu Tv C Z q0 q1 q2 q3 q4 q5) s.heap.size = A at hD ⊢
  have hA : ∀ q : Nat, s.heap.size ≤ q → A q := fun q h => by rw [← hAe]; exact Or.inr h
  have hS : va_S A s.heap s.heap [] := va_S.rf
  have hl := lv_entry ([.ref (xa 0), .int x1, .int x2, .int x3, .int x4]) (n := 5) (Nat.le_of_ble_eq_true rfl)
  rw [lg_entry_eq]
  generalize (lg_sl ([.ref (xa 0), .int x1, .int x2, .int x3, .int x4]) ++ List.replicate (5 - (lg_sl ([.ref (xa 0), .int x1, .int x2, .int x3, .int x4])).length) Slot.unset).toArray = ls at hl ⊢
  have hl : lv_has ls 5 [(0, .ref (xa 0)), (1, .int x1), (2, .int x2), (3, .int x3), (4, .int x4)] := hl
  have F : tF p s m ([.ref (xa 0), .int x1, .int x2, .int x3, .int x4] : List Value).toArray meth c G cA A RX7 cX7_see 5 (some .int) := ⟨hx, hb, hr, hml, hT, hown, hlocks, hK, hN, hA⟩
  obtain ⟨H, hH⟩ : ∃ z, z = s.heap := ⟨_, rfl⟩
  rw [← hH] at hP
  have hS : va_S A s.heap H [] := by rw [hH]; exact hS
  suffices hgo : G_X7_see p l e s m below meth c G cA A xa ka ra na ia ua va ca za pa qa X K R P L P2 L2 Tn Ti Tu Tv C q0 q1 q2 q3 q4 q5 x1 x2 x3 x4 r0 Z' H [] (F0 m 0 ls []) by rw [hH] at hgo; exact hgo
  generalize ([] : List Loc) = locs at hS ⊢
  unfold f_X7_see at h
  refine lv_iload_n hx hb dX7_see_0 rfl (lv_at hl 1 rfl) ?_
  refine lv_if_lt (tgt := 26) hx hb dX7_see_1 (by decide) (fun c1 => ?_) (fun c1 => ?_)
  · have h := tx_pos c1 h
    refine lv_iconst (v := (-1)) hx hb dX7_see_26 (by decide) ?_
    obtain ⟨rfl, rfl⟩ := tx_2 h
    exact W.iret hx hb hr (fun t ht hW => ⟨⟨_, (), rfl, rfl, by rw [ht]; exact hP, hD⟩, hS.F ht⟩) hS.2.2 dX7_see_27
  · have h := tx_neg c1 h
    refine lv_iload_n hx hb dX7_see_4 rfl (lv_at hl 1 rfl) ?_
    refine lv_bipush (v := 20) hx hb dX7_see_5 (by decide) ?_
    refine lv_icmp_ge (tgt := 26) hx hb dX7_see_7 (by decide) (fun c2 => ?_) (fun c2 => ?_)
    · have h := tx_pos c2 h
      refine lv_iconst (v := (-1)) hx hb dX7_see_26 (by decide) ?_
      obtain ⟨rfl, rfl⟩ := tx_2 h
      exact W.iret hx hb hr (fun t ht hW => ⟨⟨_, (), rfl, rfl, by rw [ht]; exact hP, hD⟩, hS.F ht⟩) hS.2.2 dX7_see_27
    · have h := tx_neg c2 h
      refine lv_aload_n hx hb dX7_see_10 rfl (lv_at hl 0 rfl) ?_
      refine lv_iload_n hx hb dX7_see_11 rfl (lv_at hl 2 rfl) ?_
      obtain ⟨r3, hc4, h⟩ := tx_bd h
      refine tw_ci tw_all hP hD hS hA (va_runV (As := [.int x2]) (rest := []) ⟨hx, hb, hml, hown, hT⟩ (c_X7_isPiece l G cA H.size xa ka ra na ia ua va ca za pa qa X K R P L P2 L2 Tn Ti Tu Tv C Z q0 q1 q2 q3 q4 q5 x2  r3 hc4) (cwV 1 hT (tq_gV kw_30_5 kw_30_6 kw_30_7 kw_1_2 kw_30_8) rfl rfl rfl (by decide +kernel) ⟨Nat.le_of_ble_eq_true rfl, Nat.le_of_ble_eq_true rfl⟩) ⟨(tw_pre tw_all hP hD hK hN).1, va_recv hK hP (ci := 7) (q0 := 0) rfl rfl, (tw_pre tw_all hP hD hK hN).2⟩ rfl rfl hl.1 rfl (lv_room (Nat.le_of_ble_eq_true rfl)) dX7_see_12 ⟨Nat.le_of_ble_eq_true rfl, Nat.le_of_ble_eq_true rfl⟩) (fun _ _ H locs z5 hP hD hS => ?_)
      subst z5
      rw [List.append_nil] at hP hD
      have hP : va_P G vwCl (wX cA xa ka ra na ia ua va ca za pa qa X K R P L P2 L2 Tn Ti Tu Tv C Z q0 q1 q2 q3 q4 q5) H := hP
      have hD : va_D A (wX cA xa ka ra na ia ua va ca za pa qa X K R P L P2 L2 Tn Ti Tu Tv C Z q0 q1 q2 q3 q4 q5) := hD
      refine lv_if_eq (tgt := 26) hx hb dX7_see_15 (by decide) (fun c6 => ?_) (fun c6 => ?_)
      · have h := tx_pos c6 h
        refine lv_iconst (v := (-1)) hx hb dX7_see_26 (by decide) ?_
        obtain ⟨rfl, rfl⟩ := tx_2 h
        exact W.iret hx hb hr (fun t ht hW => ⟨⟨_, (), rfl, rfl, by rw [ht]; exact hP, hD⟩, hS.F ht⟩) hS.2.2 dX7_see_27
      · have h := tx_neg c6 h
        refine lv_aload_n hx hb dX7_see_18 rfl (lv_at hl 0 rfl) ?_
        refine lv_iload_n hx hb dX7_see_19 rfl (lv_at hl 3 rfl) ?_
        obtain ⟨r7, hc8, h⟩ := tx_bd h
        refine tw_ci tw_all hP hD hS hA (va_runV (As := [.int x3]) (rest := []) ⟨hx, hb, hml, hown, hT⟩ (c_X7_isPlace l G cA H.size xa ka ra na ia ua va ca za pa qa X K R P L P2 L2 Tn Ti Tu Tv C Z q0 q1 q2 q3 q4 q5 x3  r7 hc8) (cwV 1 hT (tq_gV kw_31_22 kw_31_23 kw_32_0 kw_1_2 kw_32_1) rfl rfl rfl (by decide +kernel) ⟨Nat.le_of_ble_eq_true rfl, Nat.le_of_ble_eq_true rfl⟩) ⟨(tw_pre tw_all hP hD hK hN).1, va_recv hK hP (ci := 7) (q0 := 0) rfl rfl, (tw_pre tw_all hP hD hK hN).2⟩ rfl rfl hl.1 rfl (lv_room (Nat.le_of_ble_eq_true rfl)) dX7_see_20 ⟨Nat.le_of_ble_eq_true rfl, Nat.le_of_ble_eq_true rfl⟩) (fun _ _ H locs z9 hP hD hS => ?_)
        subst z9
        rw [List.append_nil] at hP hD
        have hP : va_P G vwCl (wX cA xa ka ra na ia ua va ca za pa qa X K R P L P2 L2 Tn Ti Tu Tv C Z q0 q1 q2 q3 q4 q5) H := hP
        have hD : va_D A (wX cA xa ka ra na ia ua va ca za pa qa X K R P L P2 L2 Tn Ti Tu Tv C Z q0 q1 q2 q3 q4 q5) := hD
        refine lv_if_ne (tgt := 28) hx hb dX7_see_23 (by decide) (fun c10 => ?_) (fun c10 => ?_)
        · have h := tx_neg c10 h
          refine lv_aload_n hx hb dX7_see_28 rfl (lv_at hl 0 rfl) ?_
          refine va_get (D := G) (ci := 7) (v := .ref (za 0)) (C := RX7) (T := TX7) (N := 12) hx hb hT ku_7 hown hK hP 0 rfl rfl 8 (by decide) (hT _ kw_2_12) (fun _ h9 => h9) rfl dX7_see_29 ?_
          refine lv_iload_n hx hb dX7_see_32 rfl (lv_at hl 1 rfl) ?_
          refine lv_iload_n hx hb dX7_see_33 rfl (lv_at hl 2 rfl) ?_
          refine lv_iload_n hx hb dX7_see_34 rfl (lv_at hl 3 rfl) ?_
          refine lv_iload hx hb dX7_see_35 (lv_at hl 4 rfl) ?_
          refine lv_if_eq (tgt := 44) hx hb dX7_see_37 (by decide) (fun c11 => ?_) (fun c11 => ?_)
          · have h := tx_pos c11 h
            refine lv_iconst (v := 0) hx hb dX7_see_44 (by decide) ?_
            exact w_X7_see_J45 F 0 x3 x2 x1 Z H locs ls h hP hD hS (lv_sub hl [] rfl)
          · have h := tx_neg c11 h
            refine lv_iconst (v := 1) hx hb dX7_see_40 (by decide) ?_
            refine lv_goto (tgt := 45) hx hb dX7_see_41 (by decide) ?_
            exact w_X7_see_J45 F 1 x3 x2 x1 Z H locs ls h hP hD hS (lv_sub hl [] rfl)
        · have h := tx_pos c10 h
          refine lv_iconst (v := (-1)) hx hb dX7_see_26 (by decide) ?_
          obtain ⟨rfl, rfl⟩ := tx_2 h
          exact W.iret hx hb hr (fun t ht hW => ⟨⟨_, (), rfl, rfl, by rw [ht]; exact hP, hD⟩, hS.F ht⟩) hS.2.2 dX7_see_27
abbrev G_X7_strike (p : Program) (l : Launch) (e : Env) (s : State) (m : MethodId) (below : List Frame) (meth : Method) (c : Code) (G : va_G) (cA : Nat → ClassId) (A : Nat → Prop) (xa : Nat → Nat) (ka : Nat → Nat) (ra : Nat → Nat) (na : Nat → Nat) (ia : Nat → Nat) (ua : Nat → Nat) (va : Nat → Nat) (ca : Nat → Nat) (za : Nat → Nat) (pa : Nat → Nat) (qa : Nat → Nat) (X : Tr) (K : Tr) (R : Tr) (P : Tr) (L : Lo) (P2 : Tr) (L2 : Lo) (Tn : Tr) (Ti : Tr) (Tu : Tr) (Tv : Tr) (C : Tr) (q0 : Nat) (q1 : Nat) (q2 : Nat) (q3 : Nat) (q4 : Nat) (q5 : Nat) (x1 : Int32) (r0 : Int32) (Z' : Tr) (H : Heap) (locs : List Loc) (g : JFrame) : Prop := W p l e (headSpec (.code yX7_strike cX7_strike 2 (some .int) :: T0) ({ frames := 1, cells := 0, slots := 0, locals := 24 } : Room)).room s m ([.ref (xa 0), .int x1] : List Value).toArray below meth c H locs 0 0 (MQ below (tqQi G cA (fun (r : Int32) (_ : Unit) => r = r0) (fun (_ : Unit) => wX cA xa ka ra na ia ua va ca za pa qa X K R P L P2 L2 Tn Ti Tu Tv C (Z') q0 q1 q2 q3 q4 q5) A) ([.ref (xa 0), .int x1] : List Value).toArray s 0 0 A) g
set_option maxHeartbeats 4000000 in
set_option maxRecDepth 100000 in
theorem c_X7_strike (l : Launch) (G : va_G) (cA : Nat → ClassId) (sz : Nat) (xa : Nat → Nat) (ka : Nat → Nat) (ra : Nat → Nat) (na : Nat → Nat) (ia : Nat → Nat) (ua : Nat → Nat) (va : Nat → Nat) (ca : Nat → Nat) (za : Nat → Nat) (pa : Nat → Nat) (qa : Nat → Nat) (X : Tr) (K : Tr) (R : Tr) (P : Tr) (L : Lo) (P2 : Tr) (L2 : Lo) (Tn : Tr) (Ti : Tr) (Tu : Tr) (Tv : Tr) (C : Tr) (Z : Tr) (q0 : Nat) (q1 : Nat) (q2 : Nat) (q3 : Nat) (q4 : Nat) (q5 : Nat) (x1 : Int32)  (r0 : Int32) (Z' : Tr) (h : f_X7_strike pa qa Z x1 = some (r0, Z')) : Met l yX7_strike (.code yX7_strike cX7_strike 2 (some .int) :: T0) ({ frames := 1, cells := 0, slots := 0, locals := 24 } : Room) (tqP G cA [.ref (xa 0), .int x1] (wX cA xa ka ra na ia ua va ca za pa qa X K R P L P2 L2 Tn Ti Tu Tv C Z q0 q1 q2 q3 q4 q5) sz) (tqQi G cA (fun (r : Int32) (_ : Unit) => r = r0) (fun (_ : Unit) => wX cA xa ka ra na ia ua va ca za pa qa X K R P L P2 L2 Tn Ti Tu Tv C (Z') q0 q1 q2 q3 q4 q5) (va_A (wX cA xa ka ra na ia ua va ca za pa qa X K R P L P2 L2 Tn Ti Tu Tv C Z q0 q1 q2 q3 q4 q5) sz)) 0 0 (va_A (wX cA xa ka ra na ia ua va ca za pa qa X K R P L P2 L2 Tn Ti Tu Tv C Z q0 q1 q2 q3 q4 q5) sz) := by
  refine Met.ofW (cc := cX7_strike) (maxL := 2) (ret := (some .int)) (by decide) rfl ?_
  intro p e s m args below meth c s₁ B hml hv
  obtain ⟨rfl, hsz, hP, hK, hD0, hN⟩ := hv
  have hx := B.exec
  have hb := B.bytes
  have hr := B.returns
  have hts := atoms_spec (ws := .code yX7_strike cX7_strike 2 (some .int) :: T0) B.pre
  have hT : ∀ w ∈ T0, w.before _ s = true := fun w h => hts w (List.mem_cons_of_mem _ h)
  have hown : s.vm.findClass RX7 = some m.cls := findClass_of_methodNamed B.named
  have hlocks := B.notSynchronized
  subst hsz
  have hD := hD0.self (sz := s.heap.size)
  generalize hAe : va_A (wX cA xa ka ra na ia ua va ca za pa qa X K R P L P2 L2 Tn Ti Tu Tv C Z q0 q1 q2 q3 q4 q5) s.heap.size = A at hD ⊢
  have hA : ∀ q : Nat, s.heap.size ≤ q → A q := fun q h => by rw [← hAe]; exact Or.inr h
  have hS : va_S A s.heap s.heap [] := va_S.rf
  have hl := lv_entry ([.ref (xa 0), .int x1]) (n := 2) (Nat.le_of_ble_eq_true rfl)
  rw [lg_entry_eq]
  generalize (lg_sl ([.ref (xa 0), .int x1]) ++ List.replicate (2 - (lg_sl ([.ref (xa 0), .int x1])).length) Slot.unset).toArray = ls at hl ⊢
  have hl : lv_has ls 2 [(0, .ref (xa 0)), (1, .int x1)] := hl
  have F : tF p s m ([.ref (xa 0), .int x1] : List Value).toArray meth c G cA A RX7 cX7_strike 2 (some .int) := ⟨hx, hb, hr, hml, hT, hown, hlocks, hK, hN, hA⟩
  obtain ⟨H, hH⟩ : ∃ z, z = s.heap := ⟨_, rfl⟩
  rw [← hH] at hP
  have hS : va_S A s.heap H [] := by rw [hH]; exact hS
  suffices hgo : G_X7_strike p l e s m below meth c G cA A xa ka ra na ia ua va ca za pa qa X K R P L P2 L2 Tn Ti Tu Tv C q0 q1 q2 q3 q4 q5 x1 r0 Z' H [] (F0 m 0 ls []) by rw [hH] at hgo; exact hgo
  generalize ([] : List Loc) = locs at hS ⊢
  unfold f_X7_strike at h
  refine lv_iload_n hx hb dX7_strike_0 rfl (lv_at hl 1 rfl) ?_
  refine lv_if_lt (tgt := 15) hx hb dX7_strike_1 (by decide) (fun c1 => ?_) (fun c1 => ?_)
  · have h := tx_pos c1 h
    refine lv_iconst (v := (-1)) hx hb dX7_strike_15 (by decide) ?_
    obtain ⟨rfl, rfl⟩ := tx_2 h
    exact W.iret hx hb hr (fun t ht hW => ⟨⟨_, (), rfl, rfl, by rw [ht]; exact hP, hD⟩, hS.F ht⟩) hS.2.2 dX7_strike_16
  · have h := tx_neg c1 h
    refine lv_iload_n hx hb dX7_strike_4 rfl (lv_at hl 1 rfl) ?_
    refine lv_aload_n hx hb dX7_strike_5 rfl (lv_at hl 0 rfl) ?_
    refine va_get (D := G) (ci := 7) (v := .ref (za 0)) (C := RX7) (T := TX7) (N := 12) hx hb hT ku_7 hown hK hP 0 rfl rfl 8 (by decide) (hT _ kw_2_12) (fun _ h9 => h9) rfl dX7_strike_6 ?_
    refine va_get (D := G) (ci := 4) (v := .int (Z 0 0)) (C := RX4) (T := TX4) (N := 7) hx hb hT ku_4 hown hK hP 103 rfl rfl 0 (by decide) (hT _ kw_54_17) (fun _ h9 => h9) rfl dX7_strike_9 ?_
    refine lv_icmp_lt (tgt := 17) hx hb dX7_strike_12 (by decide) (fun c2 => ?_) (fun c2 => ?_)
    · have h := tx_pos c2 h
      refine lv_aload_n hx hb dX7_strike_17 rfl (lv_at hl 0 rfl) ?_
      refine va_get (D := G) (ci := 7) (v := .ref (za 0)) (C := RX7) (T := TX7) (N := 12) hx hb hT ku_7 hown hK hP 0 rfl rfl 8 (by decide) (hT _ kw_2_12) (fun _ h9 => h9) rfl dX7_strike_18 ?_
      refine lv_iconst (v := (-1)) hx hb dX7_strike_21 (by decide) ?_
      refine lv_iload_n hx hb dX7_strike_22 rfl (lv_at hl 1 rfl) ?_
      refine lv_iconst (v := 0) hx hb dX7_strike_23 (by decide) ?_
      refine lv_iconst (v := 0) hx hb dX7_strike_24 (by decide) ?_
      obtain ⟨⟨r3, Z_4⟩, hc5, h⟩ := tx_bd h
      replace h := tx_let (y := r3) rfl h
      replace h := tx_let (y := Z_4) rfl h
      refine tw_ci tw_all hP hD hS hA (va_runV (As := [.int (-1), .int x1, .int 0, .int 0]) (rest := []) ⟨hx, hb, hml, hown, hT⟩ (c_X4_add_x l G cA H.size xa ka ra na ia ua va ca za pa qa X K R P L P2 L2 Tn Ti Tu Tv C Z q0 q1 q2 q3 q4 q5 (-1 : Int32) x1 (0 : Int32) (0 : Int32)  r3 Z_4 hc5) (cwV 4 hT (tq_gV kw_54_1 kw_54_2 kw_54_3 kw_2_11 kw_54_4) rfl rfl rfl (by decide +kernel) ⟨Nat.le_of_ble_eq_true rfl, Nat.le_of_ble_eq_true rfl⟩) ⟨(tw_pre tw_all hP hD hK hN).1, va_recv hK hP (ci := 4) (q0 := 103) rfl rfl, (tw_pre tw_all hP hD hK hN).2⟩ rfl rfl hl.1 rfl (lv_room (Nat.le_of_ble_eq_true rfl)) dX7_strike_25 ⟨Nat.le_of_ble_eq_true rfl, Nat.le_of_ble_eq_true rfl⟩) (fun _ _ H locs z6 hP hD hS => ?_)
      subst z6
      rw [List.append_nil] at hP hD
      have hP : va_P G vwCl (wX cA xa ka ra na ia ua va ca za pa qa X K R P L P2 L2 Tn Ti Tu Tv C Z_4 q0 q1 q2 q3 q4 q5) H := hP
      have hD : va_D A (wX cA xa ka ra na ia ua va ca za pa qa X K R P L P2 L2 Tn Ti Tu Tv C Z_4 q0 q1 q2 q3 q4 q5) := hD
      obtain ⟨rfl, rfl⟩ := tx_2 h
      exact W.iret hx hb hr (fun t ht hW => ⟨⟨_, (), rfl, rfl, by rw [ht]; exact hP, hD⟩, hS.F ht⟩) hS.2.2 dX7_strike_28
    · have h := tx_neg c2 h
      refine lv_iconst (v := (-1)) hx hb dX7_strike_15 (by decide) ?_
      obtain ⟨rfl, rfl⟩ := tx_2 h
      exact W.iret hx hb hr (fun t ht hW => ⟨⟨_, (), rfl, rfl, by rw [ht]; exact hP, hD⟩, hS.F ht⟩) hS.2.2 dX7_strike_16
abbrev G_X4_forget_x (p : Program) (l : Launch) (e : Env) (s : State) (m : MethodId) (below : List Frame) (meth : Method) (c : Code) (G : va_G) (cA : Nat → ClassId) (A : Nat → Prop) (xa : Nat → Nat) (ka : Nat → Nat) (ra : Nat → Nat) (na : Nat → Nat) (ia : Nat → Nat) (ua : Nat → Nat) (va : Nat → Nat) (ca : Nat → Nat) (za : Nat → Nat) (pa : Nat → Nat) (qa : Nat → Nat) (X : Tr) (K : Tr) (R : Tr) (P : Tr) (L : Lo) (P2 : Tr) (L2 : Lo) (Tn : Tr) (Ti : Tr) (Tu : Tr) (Tv : Tr) (C : Tr) (q0 : Nat) (q1 : Nat) (q2 : Nat) (q3 : Nat) (q4 : Nat) (q5 : Nat) (Z' : Tr) (H : Heap) (locs : List Loc) (g : JFrame) : Prop := W p l e (headSpec (.code yX4_forget cX4_forget 1 none :: T0) ({ frames := 0, cells := 0, slots := 0, locals := 0 } : Room)).room s m ([.ref (za 0)] : List Value).toArray below meth c H locs 0 0 (MQ below (tqQv G cA (fun (_ : Unit) => True) (fun (_ : Unit) => wX cA xa ka ra na ia ua va ca za pa qa X K R P L P2 L2 Tn Ti Tu Tv C (Z') q0 q1 q2 q3 q4 q5) A) ([.ref (za 0)] : List Value).toArray s 0 0 A) g
set_option maxHeartbeats 4000000 in
set_option maxRecDepth 100000 in
theorem c_X4_forget_x (l : Launch) (G : va_G) (cA : Nat → ClassId) (sz : Nat) (xa : Nat → Nat) (ka : Nat → Nat) (ra : Nat → Nat) (na : Nat → Nat) (ia : Nat → Nat) (ua : Nat → Nat) (va : Nat → Nat) (ca : Nat → Nat) (za : Nat → Nat) (pa : Nat → Nat) (qa : Nat → Nat) (X : Tr) (K : Tr) (R : Tr) (P : Tr) (L : Lo) (P2 : Tr) (L2 : Lo) (Tn : Tr) (Ti : Tr) (Tu : Tr) (Tv : Tr) (C : Tr) (Z : Tr) (q0 : Nat) (q1 : Nat) (q2 : Nat) (q3 : Nat) (q4 : Nat) (q5 : Nat)  (Z' : Tr) (h : f_X4_forget_x pa qa Z = some Z') : Met l yX4_forget (.code yX4_forget cX4_forget 1 none :: T0) ({ frames := 0, cells := 0, slots := 0, locals := 0 } : Room) (tqP G cA [.ref (za 0)] (wX cA xa ka ra na ia ua va ca za pa qa X K R P L P2 L2 Tn Ti Tu Tv C Z q0 q1 q2 q3 q4 q5) sz) (tqQv G cA (fun (_ : Unit) => True) (fun (_ : Unit) => wX cA xa ka ra na ia ua va ca za pa qa X K R P L P2 L2 Tn Ti Tu Tv C (Z') q0 q1 q2 q3 q4 q5) (va_A (wX cA xa ka ra na ia ua va ca za pa qa X K R P L P2 L2 Tn Ti Tu Tv C Z q0 q1 q2 q3 q4 q5) sz)) 0 0 (va_A (wX cA xa ka ra na ia ua va ca za pa qa X K R P L P2 L2 Tn Ti Tu Tv C Z q0 q1 q2 q3 q4 q5) sz) := by
  refine Met.ofW (cc := cX4_forget) (maxL := 1) (ret := none) (by decide) rfl ?_
  intro p e s m args below meth c s₁ B hml hv
  obtain ⟨rfl, hsz, hP, hK, hD0, hN⟩ := hv
  have hx := B.exec
  have hb := B.bytes
  have hr := B.returns
  have hts := atoms_spec (ws := .code yX4_forget cX4_forget 1 none :: T0) B.pre
  have hT : ∀ w ∈ T0, w.before _ s = true := fun w h => hts w (List.mem_cons_of_mem _ h)
  have hown : s.vm.findClass RX4 = some m.cls := findClass_of_methodNamed B.named
  have hlocks := B.notSynchronized
  subst hsz
  have hD := hD0.self (sz := s.heap.size)
  generalize hAe : va_A (wX cA xa ka ra na ia ua va ca za pa qa X K R P L P2 L2 Tn Ti Tu Tv C Z q0 q1 q2 q3 q4 q5) s.heap.size = A at hD ⊢
  have hA : ∀ q : Nat, s.heap.size ≤ q → A q := fun q h => by rw [← hAe]; exact Or.inr h
  have hS : va_S A s.heap s.heap [] := va_S.rf
  have hl := lv_entry ([.ref (za 0)]) (n := 1) (Nat.le_of_ble_eq_true rfl)
  rw [lg_entry_eq]
  generalize (lg_sl ([.ref (za 0)]) ++ List.replicate (1 - (lg_sl ([.ref (za 0)])).length) Slot.unset).toArray = ls at hl ⊢
  have hl : lv_has ls 1 [(0, .ref (za 0))] := hl
  have F : tF p s m ([.ref (za 0)] : List Value).toArray meth c G cA A RX4 cX4_forget 1 none := ⟨hx, hb, hr, hml, hT, hown, hlocks, hK, hN, hA⟩
  obtain ⟨H, hH⟩ : ∃ z, z = s.heap := ⟨_, rfl⟩
  rw [← hH] at hP
  have hS : va_S A s.heap H [] := by rw [hH]; exact hS
  suffices hgo : G_X4_forget_x p l e s m below meth c G cA A xa ka ra na ia ua va ca za pa qa X K R P L P2 L2 Tn Ti Tu Tv C q0 q1 q2 q3 q4 q5 Z' H [] (F0 m 0 ls []) by rw [hH] at hgo; exact hgo
  generalize ([] : List Loc) = locs at hS ⊢
  unfold f_X4_forget_x at h
  refine lv_aload_n hx hb dX4_forget_0 rfl (lv_at hl 0 rfl) ?_
  refine lv_iconst (v := 0) hx hb dX4_forget_1 (by decide) ?_
  refine va_put (D := G) (ci := 4) (v := .int 0) (ty := .int) (C := RX4) (T := TX4) (N := 7) hx hb hT ku_4 tyX4 tyX4_ok nmX4 hown hK hP hD hS 103 rfl rfl 0 (by decide) (hT _ kw_8_22) (fun _ h9 => h9) rfl (by decide +kernel) rfl rfl (Nat.le_of_ble_eq_true rfl) dX4_forget_2 (fun H locs hP hD hS => ?_)
  obtain ⟨Z_1, eZ_1, h⟩ := tx_lt h
  rw [sX_za_f0, eZ_1] at hP hD
  refine lv_aload_n hx hb dX4_forget_5 rfl (lv_at hl 0 rfl) ?_
  refine lv_iconst (v := (-1)) hx hb dX4_forget_6 (by decide) ?_
  refine va_put (D := G) (ci := 4) (v := .int (-1)) (ty := .int) (C := RX4) (T := TX4) (N := 7) hx hb hT ku_4 tyX4 tyX4_ok nmX4 hown hK hP hD hS 103 rfl rfl 1 (by decide) (hT _ kw_8_23) (fun _ h9 => h9) rfl (by decide +kernel) rfl rfl (Nat.le_of_ble_eq_true rfl) dX4_forget_7 (fun H locs hP hD hS => ?_)
  obtain ⟨Z_2, eZ_2, h⟩ := tx_lt h
  rw [sX_za_f1, eZ_2] at hP hD
  obtain rfl := tx_1 h
  exact W.vret hx hb hr (fun t ht hW => ⟨⟨(), rfl, trivial, by rw [ht]; exact hP, hD⟩, hS.F ht⟩) hS.2.2 dX4_forget_10
abbrev G_X7_text (p : Program) (l : Launch) (e : Env) (s : State) (m : MethodId) (below : List Frame) (meth : Method) (c : Code) (G : va_G) (cA : Nat → ClassId) (A : Nat → Prop) (bA : Nat) (xa : Nat → Nat) (ka : Nat → Nat) (ra : Nat → Nat) (na : Nat → Nat) (ia : Nat → Nat) (ua : Nat → Nat) (va : Nat → Nat) (ca : Nat → Nat) (za : Nat → Nat) (pa : Nat → Nat) (qa : Nat → Nat) (P : Tr) (L : Lo) (L2 : Lo) (Ti : Tr) (Tu : Tr) (Tv : Tr) (q1 : Nat) (q2 : Nat) (q3 : Nat) (x1 : Int32) (r0 : Int32) (X' : Tr) (K' : Tr) (R' : Tr) (P2' : Tr) (Tn' : Tr) (C' : Tr) (Z' : Tr) (q0' : Nat) (q4' : Nat) (q5' : Nat) (H : Heap) (locs : List Loc) (g : JFrame) : Prop := W p l e (headSpec (.code yX7_text cX7_text 4 (some .int) :: T0) ({ frames := 7, cells := 0, slots := 0, locals := 155 } : Room)).room s m ([.ref (xa 0), .int x1] : List Value).toArray below meth c H locs 0 0 (MQ below (tqQi G cA (fun (r : Int32) (_ : Unit) => r = r0) (fun (_ : Unit) => wX cA xa ka ra na ia ua va ca za pa qa (X') (K') (R') P L (P2') L2 (Tn') Ti Tu Tv (C') (Z') (q0') q1 q2 q3 (q4') (q5')) A) ([.ref (xa 0), .int x1] : List Value).toArray s 0 0 A) g
set_option maxHeartbeats 4000000 in
set_option maxRecDepth 100000 in
theorem c_X7_text (l : Launch) (G : va_G) (cA : Nat → ClassId) (sz : Nat) (bA : Nat) (xa : Nat → Nat) (ka : Nat → Nat) (ra : Nat → Nat) (na : Nat → Nat) (ia : Nat → Nat) (ua : Nat → Nat) (va : Nat → Nat) (ca : Nat → Nat) (za : Nat → Nat) (pa : Nat → Nat) (qa : Nat → Nat) (X : Tr) (K : Tr) (R : Tr) (P : Tr) (L : Lo) (P2 : Tr) (L2 : Lo) (Tn : Tr) (Ti : Tr) (Tu : Tr) (Tv : Tr) (C : Tr) (Z : Tr) (q0 : Nat) (q1 : Nat) (q2 : Nat) (q3 : Nat) (q4 : Nat) (q5 : Nat) (x1 : Int32)  (r0 : Int32) (X' : Tr) (K' : Tr) (R' : Tr) (P2' : Tr) (Tn' : Tr) (C' : Tr) (Z' : Tr) (q0' : Nat) (q4' : Nat) (q5' : Nat) (h : f_X7_text pa qa X K R P2 Tn C Z q0 q4 q5 x1 = some (r0, X', K', R', P2', Tn', C', Z', q0', q4', q5')) : Met l yX7_text (.code yX7_text cX7_text 4 (some .int) :: T0) ({ frames := 7, cells := 0, slots := 0, locals := 155 } : Room) (tqPB bA G cA [.ref (xa 0), .int x1] (wX cA xa ka ra na ia ua va ca za pa qa X K R P L P2 L2 Tn Ti Tu Tv C Z q0 q1 q2 q3 q4 q5) sz) (tqQi G cA (fun (r : Int32) (_ : Unit) => r = r0) (fun (_ : Unit) => wX cA xa ka ra na ia ua va ca za pa qa (X') (K') (R') P L (P2') L2 (Tn') Ti Tu Tv (C') (Z') (q0') q1 q2 q3 (q4') (q5')) (va_A (wX cA xa ka ra na ia ua va ca za pa qa X K R P L P2 L2 Tn Ti Tu Tv C Z q0 q1 q2 q3 q4 q5) sz)) 0 0 (va_A (wX cA xa ka ra na ia ua va ca za pa qa X K R P L P2 L2 Tn Ti Tu Tv C Z q0 q1 q2 q3 q4 q5) sz) := by
  refine Met.ofW (cc := cX7_text) (maxL := 4) (ret := (some .int)) (by decide) rfl ?_
  intro p e s m args below meth c s₁ B hml hv
  obtain ⟨rfl, hsz, hP, hK, hD0, hN, hB⟩ := hv
  have hx := B.exec
  have hb := B.bytes
  have hr := B.returns
  have hts := atoms_spec (ws := .code yX7_text cX7_text 4 (some .int) :: T0) B.pre
  have hT : ∀ w ∈ T0, w.before _ s = true := fun w h => hts w (List.mem_cons_of_mem _ h)
  have hown : s.vm.findClass RX7 = some m.cls := findClass_of_methodNamed B.named
  have hlocks := B.notSynchronized
  subst hsz
  have hD := hD0.self (sz := s.heap.size)
  generalize hAe : va_A (wX cA xa ka ra na ia ua va ca za pa qa X K R P L P2 L2 Tn Ti Tu Tv C Z q0 q1 q2 q3 q4 q5) s.heap.size = A at hD hB ⊢
  have hA : ∀ q : Nat, s.heap.size ≤ q → A q := fun q h => by rw [← hAe]; exact Or.inr h
  have hS : va_S A s.heap s.heap [] := va_S.rf
  have hl := lv_entry ([.ref (xa 0), .int x1]) (n := 4) (Nat.le_of_ble_eq_true rfl)
  rw [lg_entry_eq]
  generalize (lg_sl ([.ref (xa 0), .int x1]) ++ List.replicate (4 - (lg_sl ([.ref (xa 0), .int x1])).length) Slot.unset).toArray = ls at hl ⊢
  have hl : lv_has ls 4 [(0, .ref (xa 0)), (1, .int x1)] := hl
  have F : tF p s m ([.ref (xa 0), .int x1] : List Value).toArray meth c G cA A RX7 cX7_text 4 (some .int) := ⟨hx, hb, hr, hml, hT, hown, hlocks, hK, hN, hA⟩
  obtain ⟨H, hH⟩ : ∃ z, z = s.heap := ⟨_, rfl⟩
  rw [← hH] at hP
  have hS : va_S A s.heap H [] := by rw [hH]; exact hS
  suffices hgo : G_X7_text p l e s m below meth c G cA A bA xa ka ra na ia ua va ca za pa qa P L L2 Ti Tu Tv q1 q2 q3 x1 r0 X' K' R' P2' Tn' C' Z' q0' q4' q5' H [] (F0 m 0 ls []) by rw [hH] at hgo; exact hgo
  generalize ([] : List Loc) = locs at hS ⊢
  unfold f_X7_text at h
  refine lv_iload_n hx hb dX7_text_0 rfl (lv_at hl 1 rfl) ?_
  refine lv_if_lt (tgt := 18) hx hb dX7_text_1 (by decide) (fun c1 => ?_) (fun c1 => ?_)
  · have h := tx_pos c1 h
    refine lv_bipush (v := (-2)) hx hb dX7_text_18 (by decide) ?_
    obtain ⟨rfl, rfl, rfl, rfl, rfl, rfl, rfl, rfl, rfl, rfl, rfl⟩ := tx_11 h
    exact W.iret hx hb hr (fun t ht hW => ⟨⟨_, (), rfl, rfl, by rw [ht]; exact hP, hD⟩, hS.F ht⟩) hS.2.2 dX7_text_20
  · have h := tx_neg c1 h
    refine lv_iload_n hx hb dX7_text_4 rfl (lv_at hl 1 rfl) ?_
    refine lv_aload_n hx hb dX7_text_5 rfl (lv_at hl 0 rfl) ?_
    refine va_get (D := G) (ci := 7) (v := .ref (ra 0)) (C := RX7) (T := TX7) (N := 12) hx hb hT ku_7 hown hK hP 0 rfl rfl 0 (by decide) (hT _ kw_1_16) (fun _ h9 => h9) rfl dX7_text_6 ?_
    refine va_get (D := G) (ci := 3) (v := .ref (ka 0)) (C := RX3) (T := TX3) (N := 10) hx hb hT ku_3 hown hK hP 7 rfl rfl 0 (by decide) (hT _ kw_13_13) (fun _ h9 => h9) rfl dX7_text_9 ?_
    refine va_get (D := G) (ci := 5) (v := .int (K 0 0)) (C := RX5) (T := TX5) (N := 8) hx hb hT ku_5 hown hK hP 4 rfl rfl 0 (by decide) (hT _ kw_13_14) (fun _ h9 => h9) rfl dX7_text_12 ?_
    refine lv_icmp_le (tgt := 21) hx hb dX7_text_15 (by decide) (fun c2 => ?_) (fun c2 => ?_)
    · have h := tx_pos c2 h
      refine lv_aload_n hx hb dX7_text_21 rfl (lv_at hl 0 rfl) ?_
      refine va_get (D := G) (ci := 7) (v := .ref (ra 0)) (C := RX7) (T := TX7) (N := 12) hx hb hT ku_7 hown hK hP 0 rfl rfl 0 (by decide) (hT _ kw_1_16) (fun _ h9 => h9) rfl dX7_text_22 ?_
      refine lv_iload_n hx hb dX7_text_25 rfl (lv_at hl 1 rfl) ?_
      obtain ⟨g3, h⟩ := tx_ck h
      have eg3 := of_decide_eq_true g3
      subst eg3
      obtain ⟨⟨r4, K_5, R_6, P2_7⟩, hc8, h⟩ := tx_bd h
      replace h := tx_let (y := r4) rfl h
      replace h := tx_let (y := K_5) rfl h
      replace h := tx_let (y := R_6) rfl h
      replace h := tx_let (y := P2_7) rfl h
      refine tw_ci pX_r hP hD hS hA (va_runV (As := [.int x1]) (rest := []) ⟨hx, hb, hml, hown, hT⟩ (c_X3_readText l G cA H.size bA ka ra qa K R P2 L2 x1  r4 K_5 R_6 P2_7 hc8) (cwV 1 hT (tq_gV kw_14_9 kw_14_10 kw_14_11 kw_1_15 kw_14_12) rfl rfl rfl (by decide +kernel) ⟨Nat.le_of_ble_eq_true rfl, Nat.le_of_ble_eq_true rfl⟩) ⟨(tw_preB pX_r hP hD hK hN hS hA hB).1, va_recv hK hP (ci := 3) (q0 := 7) rfl rfl, (tw_preB pX_r hP hD hK hN hS hA hB).2⟩ rfl rfl hl.1 rfl (lv_room (Nat.le_of_ble_eq_true rfl)) dX7_text_26 ⟨Nat.le_of_ble_eq_true rfl, Nat.le_of_ble_eq_true rfl⟩) (fun _ _ H locs z9 hP hD hS => ?_)
      subst z9
      replace hP := tw_P pX_r.symm hP
      replace hD := tw_D pX_r.symm hD
      have hP : va_P G vwCl (wX cA xa ka ra na ia ua va ca za pa qa X K_5 R_6 P L P2_7 L2 Tn Ti Tu Tv C Z q0 q1 q2 q3 q4 (qa 0)) H := hP
      have hD : va_D A (wX cA xa ka ra na ia ua va ca za pa qa X K_5 R_6 P L P2_7 L2 Tn Ti Tu Tv C Z q0 q1 q2 q3 q4 (qa 0)) := hD
      refine lv_istore_n (lv' := [(2, .int r4), (0, .ref (xa 0)), (1, .int x1)]) hx hb dX7_text_29 rfl hl (by decide) rfl (fun ls hl => ?_)
      refine lv_aload_n hx hb dX7_text_30 rfl (lv_at hl 1 rfl) ?_
      refine va_get (D := G) (ci := 7) (v := .ref (ra 0)) (C := RX7) (T := TX7) (N := 12) hx hb hT ku_7 hown hK hP 0 rfl rfl 0 (by decide) (hT _ kw_1_16) (fun _ h9 => h9) rfl dX7_text_31 ?_
      refine va_get (D := G) (ci := 3) (v := .ref (ka 0)) (C := RX3) (T := TX3) (N := 10) hx hb hT ku_3 hown hK hP 7 rfl rfl 0 (by decide) (hT _ kw_13_13) (fun _ h9 => h9) rfl dX7_text_34 ?_
      refine lv_iconst (v := 0) hx hb dX7_text_37 (by decide) ?_
      refine va_put (D := G) (ci := 5) (v := .int 0) (ty := .int) (C := RX5) (T := TX5) (N := 8) hx hb hT ku_5 tyX5 tyX5_ok nmX5 hown hK hP hD hS 4 rfl rfl 0 (by decide) (hT _ kw_13_14) (fun _ h9 => h9) rfl (by decide +kernel) rfl rfl (Nat.le_of_ble_eq_true rfl) dX7_text_38 (fun H locs hP hD hS => ?_)
      obtain ⟨K_10, eK_10, h⟩ := tx_lt h
      rw [sX_ka_f0, eK_10] at hP hD
      refine lv_iload_n hx hb dX7_text_41 rfl (lv_at hl 0 rfl) ?_
      refine lv_if_ne (tgt := 47) hx hb dX7_text_42 (by decide) (fun c11 => ?_) (fun c11 => ?_)
      · have h := tx_neg c11 h
        refine lv_aload_n hx hb dX7_text_47 rfl (lv_at hl 1 rfl) ?_
        refine va_get (D := G) (ci := 7) (v := .ref q4) (C := RX7) (T := TX7) (N := 12) hx hb hT ku_7 hown hK hP 0 rfl rfl 1 (by decide) (hT _ kw_1_20) (fun _ h9 => h9) rfl dX7_text_48 ?_
        refine lv_astore_n (lv' := [(3, .ref q4), (2, .int r4), (0, .ref (xa 0)), (1, .int x1)]) hx hb dX7_text_51 rfl hl (by decide) rfl (fun ls hl => ?_)
        refine lv_aload_n hx hb dX7_text_52 rfl (lv_at hl 2 rfl) ?_
        refine lv_aload_n hx hb dX7_text_53 rfl (lv_at hl 2 rfl) ?_
        refine va_get (D := G) (ci := 7) (v := .ref (ra 0)) (C := RX7) (T := TX7) (N := 12) hx hb hT ku_7 hown hK hP 0 rfl rfl 0 (by decide) (hT _ kw_1_16) (fun _ h9 => h9) rfl dX7_text_54 ?_
        refine va_get (D := G) (ci := 3) (v := .ref (qa 0)) (C := RX3) (T := TX3) (N := 10) hx hb hT ku_3 hown hK hP 7 rfl rfl 4 (by decide) (hT _ kw_14_6) (fun _ h9 => h9) rfl dX7_text_57 ?_
        refine va_put (D := G) (ci := 7) (v := .ref (qa 0)) (ty := (.object "RackTrain$Plan")) (C := RX7) (T := TX7) (N := 12) hx hb hT ku_7 tyX7 tyX7_ok nmX7 hown hK hP hD hS 0 rfl rfl 1 (by decide) (hT _ kw_1_20) (fun _ h9 => h9) rfl (by decide +kernel) rfl rfl (Nat.le_of_ble_eq_true rfl) dX7_text_60 (fun H locs hP hD hS => ?_)
        rw [sX_xa_r1] at hP hD
        refine lv_aload_n hx hb dX7_text_63 rfl (lv_at hl 2 rfl) ?_
        refine va_get (D := G) (ci := 7) (v := .ref (ra 0)) (C := RX7) (T := TX7) (N := 12) hx hb hT ku_7 hown hK hP 0 rfl rfl 0 (by decide) (hT _ kw_1_16) (fun _ h9 => h9) rfl dX7_text_64 ?_
        refine lv_aload_n hx hb dX7_text_67 rfl (lv_at hl 0 rfl) ?_
        refine va_put (D := G) (ci := 3) (v := .ref q4) (ty := (.object "RackTrain$Plan")) (C := RX3) (T := TX3) (N := 10) hx hb hT ku_3 tyX3 tyX3_ok nmX3 hown hK hP hD hS 7 rfl rfl 4 (by decide) (hT _ kw_14_6) (fun _ h9 => h9) rfl (by decide +kernel) rfl rfl (Nat.le_of_ble_eq_true rfl) dX7_text_68 (fun H locs hP hD hS => ?_)
        rw [sX_ra_r4] at hP hD
        refine lv_aload_n hx hb dX7_text_71 rfl (lv_at hl 2 rfl) ?_
        refine va_get (D := G) (ci := 7) (v := .ref (na 0)) (C := RX7) (T := TX7) (N := 12) hx hb hT ku_7 hown hK hP 0 rfl rfl 2 (by decide) (hT _ kw_2_0) (fun _ h9 => h9) rfl dX7_text_72 ?_
        refine lv_aload_n hx hb dX7_text_75 rfl (lv_at hl 2 rfl) ?_
        refine va_get (D := G) (ci := 7) (v := .ref (qa 0)) (C := RX7) (T := TX7) (N := 12) hx hb hT ku_7 hown hK hP 0 rfl rfl 1 (by decide) (hT _ kw_1_20) (fun _ h9 => h9) rfl dX7_text_76 ?_
        obtain ⟨⟨Tn_12, q0_13⟩, hc14, h⟩ := tx_bd h
        replace h := tx_let (y := Tn_12) rfl h
        replace h := tx_let (y := q0_13) rfl h
        refine tw_cv pX_na_qa hP hD hS hA (va_runV (As := [.ref (qa 0)]) (rest := []) ⟨hx, hb, hml, hown, hT⟩ (c_X6_begin l G cA H.size na qa Tn P2_7 q0  Tn_12 q0_13 hc14) (cwV 1 hT (tq_gV kw_22_2 kw_7_22 kw_7_23 kw_1_23 kw_8_0) rfl rfl rfl (by decide +kernel) ⟨Nat.le_of_ble_eq_true rfl, Nat.le_of_ble_eq_true rfl⟩) ⟨(tw_pre pX_na_qa hP hD hK hN).1, va_recv hK hP (ci := 6) (q0 := 53) rfl rfl, (tw_pre pX_na_qa hP hD hK hN).2⟩ rfl rfl hl.1 rfl (lv_room (Nat.le_of_ble_eq_true rfl)) dX7_text_79 ⟨Nat.le_of_ble_eq_true rfl, Nat.le_of_ble_eq_true rfl⟩) (fun _ H locs z15 hP hD hS => ?_)
        replace hP := tw_P pX_na_qa.symm hP
        replace hD := tw_D pX_na_qa.symm hD
        have hP : va_P G vwCl (wX cA xa ka ra na ia ua va ca za pa qa X K_10 R_6 P L P2_7 L2 Tn_12 Ti Tu Tv C Z q0_13 q1 q2 q3 (qa 0) q4) H := hP
        have hD : va_D A (wX cA xa ka ra na ia ua va ca za pa qa X K_10 R_6 P L P2_7 L2 Tn_12 Ti Tu Tv C Z q0_13 q1 q2 q3 (qa 0) q4) := hD
        refine lv_aload_n hx hb dX7_text_82 rfl (lv_at hl 2 rfl) ?_
        refine lv_iconst (v := 0) hx hb dX7_text_83 (by decide) ?_
        refine va_put (D := G) (ci := 7) (v := .int 0) (ty := .boolean) (C := RX7) (T := TX7) (N := 12) hx hb hT ku_7 tyX7 tyX7_ok nmX7 hown hK hP hD hS 0 rfl rfl 4 (by decide) (hT _ kw_2_2) (fun _ h9 => h9) rfl (by decide +kernel) rfl rfl (Nat.le_of_ble_eq_true rfl) dX7_text_84 (fun H locs hP hD hS => ?_)
        obtain ⟨X_16, eX_16, h⟩ := tx_lt h
        rw [sX_xa_f4, eX_16] at hP hD
        refine lv_aload_n hx hb dX7_text_87 rfl (lv_at hl 2 rfl) ?_
        refine va_get (D := G) (ci := 7) (v := .ref (ca 0)) (C := RX7) (T := TX7) (N := 12) hx hb hT ku_7 hown hK hP 0 rfl rfl 7 (by decide) (hT _ kw_2_8) (fun _ h9 => h9) rfl dX7_text_88 ?_
        refine lv_iconst (v := 0) hx hb dX7_text_91 (by decide) ?_
        refine va_put (D := G) (ci := 0) (v := .int 0) (ty := .int) (C := RX0) (T := TX0) (N := 3) hx hb hT ku_0 tyX0 tyX0_ok nmX0 hown hK hP hD hS 101 rfl rfl 0 (by decide) (hT _ kw_14_7) (fun _ h9 => h9) rfl (by decide +kernel) rfl rfl (Nat.le_of_ble_eq_true rfl) dX7_text_92 (fun H locs hP hD hS => ?_)
        obtain ⟨C_17, eC_17, h⟩ := tx_lt h
        rw [sX_ca_f0, eC_17] at hP hD
        refine lv_aload_n hx hb dX7_text_95 rfl (lv_at hl 2 rfl) ?_
        refine va_get (D := G) (ci := 7) (v := .ref (za 0)) (C := RX7) (T := TX7) (N := 12) hx hb hT ku_7 hown hK hP 0 rfl rfl 8 (by decide) (hT _ kw_2_12) (fun _ h9 => h9) rfl dX7_text_96 ?_
        obtain ⟨Z_18, hc19, h⟩ := tx_bd h
        refine tw_cv tw_all hP hD hS hA (va_runV (As := []) (rest := []) ⟨hx, hb, hml, hown, hT⟩ (c_X4_forget_x l G cA H.size xa ka ra na ia ua va ca za pa qa X_16 K_10 R_6 P L P2_7 L2 Tn_12 Ti Tu Tv C_17 Z q0_13 q1 q2 q3 (qa 0) q4  Z_18 hc19) (cwV 0 hT (tq_gV kw_22_3 kw_22_4 kw_22_5 kw_2_11 kw_22_6) rfl rfl rfl (by decide +kernel) ⟨Nat.le_of_ble_eq_true rfl, Nat.le_of_ble_eq_true rfl⟩) ⟨(tw_pre tw_all hP hD hK hN).1, va_recv hK hP (ci := 4) (q0 := 103) rfl rfl, (tw_pre tw_all hP hD hK hN).2⟩ rfl rfl hl.1 rfl (lv_room (Nat.le_of_ble_eq_true rfl)) dX7_text_99 ⟨Nat.le_of_ble_eq_true rfl, Nat.le_of_ble_eq_true rfl⟩) (fun _ H locs z20 hP hD hS => ?_)
        rw [List.append_nil] at hP hD
        have hP : va_P G vwCl (wX cA xa ka ra na ia ua va ca za pa qa X_16 K_10 R_6 P L P2_7 L2 Tn_12 Ti Tu Tv C_17 Z_18 q0_13 q1 q2 q3 (qa 0) q4) H := hP
        have hD : va_D A (wX cA xa ka ra na ia ua va ca za pa qa X_16 K_10 R_6 P L P2_7 L2 Tn_12 Ti Tu Tv C_17 Z_18 q0_13 q1 q2 q3 (qa 0) q4) := hD
        refine lv_aload_n hx hb dX7_text_102 rfl (lv_at hl 2 rfl) ?_
        refine va_get (D := G) (ci := 7) (v := .ref (ra 0)) (C := RX7) (T := TX7) (N := 12) hx hb hT ku_7 hown hK hP 0 rfl rfl 0 (by decide) (hT _ kw_1_16) (fun _ h9 => h9) rfl dX7_text_103 ?_
        refine va_get (D := G) (ci := 3) (v := .int (R_6 0 3)) (C := RX3) (T := TX3) (N := 10) hx hb hT ku_3 hown hK hP 7 rfl rfl 3 (by decide) (hT _ kw_14_8) (fun _ h9 => h9) rfl dX7_text_106 ?_
        obtain ⟨rfl, rfl, rfl, rfl, rfl, rfl, rfl, rfl, rfl, rfl, rfl⟩ := tx_11 h
        exact W.iret hx hb hr (fun t ht hW => ⟨⟨_, (), rfl, rfl, by rw [ht]; exact hP, hD⟩, hS.F ht⟩) hS.2.2 dX7_text_109
      · have h := tx_pos c11 h
        refine lv_iconst (v := (-1)) hx hb dX7_text_45 (by decide) ?_
        obtain ⟨rfl, rfl, rfl, rfl, rfl, rfl, rfl, rfl, rfl, rfl, rfl⟩ := tx_11 h
        exact W.iret hx hb hr (fun t ht hW => ⟨⟨_, (), rfl, rfl, by rw [ht]; exact hP, hD⟩, hS.F ht⟩) hS.2.2 dX7_text_46
    · have h := tx_neg c2 h
      refine lv_bipush (v := (-2)) hx hb dX7_text_18 (by decide) ?_
      obtain ⟨rfl, rfl, rfl, rfl, rfl, rfl, rfl, rfl, rfl, rfl, rfl⟩ := tx_11 h
      exact W.iret hx hb hr (fun t ht hW => ⟨⟨_, (), rfl, rfl, by rw [ht]; exact hP, hD⟩, hS.F ht⟩) hS.2.2 dX7_text_20
abbrev G_X7_tried (p : Program) (l : Launch) (e : Env) (s : State) (m : MethodId) (below : List Frame) (meth : Method) (c : Code) (G : va_G) (cA : Nat → ClassId) (A : Nat → Prop) (xa : Nat → Nat) (ka : Nat → Nat) (ra : Nat → Nat) (na : Nat → Nat) (ia : Nat → Nat) (ua : Nat → Nat) (va : Nat → Nat) (ca : Nat → Nat) (za : Nat → Nat) (pa : Nat → Nat) (qa : Nat → Nat) (X : Tr) (K : Tr) (R : Tr) (P : Tr) (P2 : Tr) (L2 : Lo) (Tn : Tr) (Ti : Tr) (Tv : Tr) (C : Tr) (Z : Tr) (q0 : Nat) (q1 : Nat) (q3 : Nat) (q4 : Nat) (q5 : Nat) (x1 : Int32) (x2 : Int32) (r0 : Int32) (L' : Lo) (Tu' : Tr) (q2' : Nat) (H : Heap) (locs : List Loc) (g : JFrame) : Prop := W p l e (headSpec (.code yX7_tried cX7_tried 3 (some .int) :: T0) ({ frames := 7, cells := 0, slots := 0, locals := 173 } : Room)).room s m ([.ref (xa 0), .int x1, .int x2] : List Value).toArray below meth c H locs 0 0 (MQ below (tqQi G cA (fun (r : Int32) (_ : Unit) => r = r0) (fun (_ : Unit) => wX cA xa ka ra na ia ua va ca za pa qa X K R P (L') P2 L2 Tn Ti (Tu') Tv C Z q0 q1 (q2') q3 q4 q5) A) ([.ref (xa 0), .int x1, .int x2] : List Value).toArray s 0 0 A) g
set_option maxHeartbeats 4000000 in
set_option maxRecDepth 100000 in
theorem w_X7_tried_J119 {p : Program} {l : Launch} {e : Env} {s : State} {m : MethodId} {below : List Frame} {meth : Method} {c : Code} {G : va_G} {cA : Nat → ClassId} {A : Nat → Prop} {xa : Nat → Nat} {ka : Nat → Nat} {ra : Nat → Nat} {na : Nat → Nat} {ia : Nat → Nat} {ua : Nat → Nat} {va : Nat → Nat} {ca : Nat → Nat} {za : Nat → Nat} {pa : Nat → Nat} {qa : Nat → Nat} {X : Tr} {K : Tr} {R : Tr} {P : Tr} {P2 : Tr} {L2 : Lo} {Tn : Tr} {Ti : Tr} {Tv : Tr} {C : Tr} {Z : Tr} {q0 : Nat} {q1 : Nat} {q3 : Nat} {q4 : Nat} {q5 : Nat} {x1₀ : Int32} {x2₀ : Int32} {r0 : Int32} {L' : Lo} {Tu' : Tr} {q2' : Nat} (F : tF p s m ([.ref (xa 0), .int x1₀, .int x2₀] : List Value).toArray meth c G cA A RX7 cX7_tried 3 (some .int))    (L : Lo) (Tu : Tr) (q2 : Nat) (H : Heap) (locs : List Loc) (ls : Array Slot) (h : fJ_X7_tried_J119 pa qa P Tn q0 q4 L Tu q2 = some (r0, L', Tu', q2')) (hP : va_P G vwCl (wX cA xa ka ra na ia ua va ca za pa qa X K R P L_12 P2 L2 Tn Ti Tu_13 Tv C Z q0 q1 q2 q3 q4 q5) H) (hD : va_D A (wX cA xa ka ra na ia ua va ca za pa qa X K R P L_12 P2 L2 Tn Ti Tu_13 Tv C Z q0 q1 q2 q3 q4 q5)) (hS : va_S A s.heap H locs) (hl : lv_has ls 3 [(0, .ref (xa 0))]) : G_X7_tried p l e s m below meth c G cA A xa ka ra na ia ua va ca za pa qa X K R P P2 L2 Tn Ti Tv C Z q0 q1 q3 q4 q5 x1₀ x2₀ r0 L' Tu' q2' H locs (F0 m 119 ls []) := by
  obtain ⟨hx, hb, hr, hml, hT, hown, hlocks, hK, hN, hA⟩ := id F
  unfold fJ_X7_tried_J119 at h
  refine lv_aload_n hx hb dX7_tried_119 rfl (lv_at hl 0 rfl) ?_
  obtain ⟨⟨r11, L_12, Tu_13⟩, hc14, h⟩ := tx_bd h
  replace h := tx_let (y := r11) rfl h
  replace h := tx_let (y := L_12) rfl h
  replace h := tx_let (y := Tu_13) rfl h
  refine tw_ci tw_all hP hD hS hA (va_runV (As := []) (rest := []) ⟨hx, hb, hml, hown, hT⟩ (c_X7_liftsOfTrial l G cA H.size xa ka ra na ia ua va ca za pa qa X K R P L P2 L2 Tn Ti Tu Tv C Z q0 q1 q2 q3 q4 q5  r11 L_12 Tu_13 hc14) (cwV 0 hT (tq_gV kw_49_5 kw_49_6 kw_49_7 kw_1_2 kw_49_8) rfl rfl rfl (by decide +kernel) ⟨Nat.le_of_ble_eq_true rfl, Nat.le_of_ble_eq_true rfl⟩) ⟨(tw_pre tw_all hP hD hK hN).1, va_recv hK hP (ci := 7) (q0 := 0) rfl rfl, (tw_pre tw_all hP hD hK hN).2⟩ rfl rfl hl.1 rfl (lv_room (Nat.le_of_ble_eq_true rfl)) dX7_tried_120 ⟨Nat.le_of_ble_eq_true rfl, Nat.le_of_ble_eq_true rfl⟩) (fun _ _ H locs z15 hP hD hS => ?_)
  subst z15
  rw [List.append_nil] at hP hD
  have hP : va_P G vwCl (wX cA xa ka ra na ia ua va ca za pa qa X K R P L_12 P2 L2 Tn Ti Tu_13 Tv C Z q0 q1 q2 q3 q4 q5) H := hP
  have hD : va_D A (wX cA xa ka ra na ia ua va ca za pa qa X K R P L_12 P2 L2 Tn Ti Tu_13 Tv C Z q0 q1 q2 q3 q4 q5) := hD
  obtain ⟨rfl, rfl, rfl, rfl⟩ := tx_4 h
  exact W.iret hx hb hr (fun t ht hW => ⟨⟨_, (), rfl, rfl, by rw [ht]; exact hP, hD⟩, hS.F ht⟩) hS.2.2 dX7_tried_123
set_option maxHeartbeats 4000000 in
set_option maxRecDepth 100000 in
theorem w_X7_tried_J31 {p : Program} {l : Launch} {e : Env} {s : State} {m : MethodId} {below : List Frame} {meth : Method} {c : Code} {G : va_G} {cA : Nat → ClassId} {A : Nat → Prop} {xa : Nat → Nat} {ka : Nat → Nat} {ra : Nat → Nat} {na : Nat → Nat} {ia : Nat → Nat} {ua : Nat → Nat} {va : Nat → Nat} {ca : Nat → Nat} {za : Nat → Nat} {pa : Nat → Nat} {qa : Nat → Nat} {X : Tr} {K : Tr} {R : Tr} {P : Tr} {P2 : Tr} {L2 : Lo} {Tn : Tr} {Ti : Tr} {Tv : Tr} {C : Tr} {Z : Tr} {q0 : Nat} {q1 : Nat} {q3 : Nat} {q4 : Nat} {q5 : Nat} {x1₀ : Int32} {x2₀ : Int32} {r0 : Int32} {L' : Lo} {Tu' : Tr} {q2' : Nat} (F : tF p s m ([.ref (xa 0), .int x1₀, .int x2₀] : List Value).toArray meth c G cA A RX7 cX7_tried 3 (some .int))    (x1 : Int32) (x2 : Int32) (L : Lo) (Tu : Tr) (q2 : Nat) (H : Heap) (locs : List Loc) (ls : Array Slot) (h : fJ_X7_tried_J31 pa qa P Tn q0 q4 x1 x2 L Tu q2 = some (r0, L', Tu', q2')) (hP : va_P G vwCl (wX cA xa ka ra na ia ua va ca za pa qa X K R P L P2 L2 Tn Ti Tu_5 Tv C Z q0 q1 q2_6 q3 q4 q5) H) (hD : va_D A (wX cA xa ka ra na ia ua va ca za pa qa X K R P L P2 L2 Tn Ti Tu_5 Tv C Z q0 q1 q2_6 q3 q4 q5)) (hS : va_S A s.heap H locs) (hl : lv_has ls 3 [(0, .ref (xa 0)), (1, .int x1), (2, .int x2)]) : G_X7_tried p l e s m below meth c G cA A xa ka ra na ia ua va ca za pa qa X K R P P2 L2 Tn Ti Tv C Z q0 q1 q3 q4 q5 x1₀ x2₀ r0 L' Tu' q2' H locs (F0 m 31 ls []) := by
  obtain ⟨hx, hb, hr, hml, hT, hown, hlocks, hK, hN, hA⟩ := id F
  unfold fJ_X7_tried_J31 at h
  refine lv_aload_n hx hb dX7_tried_31 rfl (lv_at hl 0 rfl) ?_
  obtain ⟨⟨Tu_5, q2_6⟩, hc7, h⟩ := tx_bd h
  replace h := tx_let (y := Tu_5) rfl h
  replace h := tx_let (y := q2_6) rfl h
  refine tw_cv tw_all hP hD hS hA (va_runV (As := []) (rest := []) ⟨hx, hb, hml, hown, hT⟩ (c_X7_startTrial l G cA H.size xa ka ra na ia ua va ca za pa qa X K R P L P2 L2 Tn Ti Tu Tv C Z q0 q1 q2 q3 q4 q5  Tu_5 q2_6 hc7) (cwV 0 hT (tq_gV kw_46_17 kw_46_18 kw_46_19 kw_1_2 kw_46_20) rfl rfl rfl (by decide +kernel) ⟨Nat.le_of_ble_eq_true rfl, Nat.le_of_ble_eq_true rfl⟩) ⟨(tw_pre tw_all hP hD hK hN).1, va_recv hK hP (ci := 7) (q0 := 0) rfl rfl, (tw_pre tw_all hP hD hK hN).2⟩ rfl rfl hl.1 rfl (lv_room (Nat.le_of_ble_eq_true rfl)) dX7_tried_32 ⟨Nat.le_of_ble_eq_true rfl, Nat.le_of_ble_eq_true rfl⟩) (fun _ H locs z8 hP hD hS => ?_)
  rw [List.append_nil] at hP hD
  have hP : va_P G vwCl (wX cA xa ka ra na ia ua va ca za pa qa X K R P L P2 L2 Tn Ti Tu_5 Tv C Z q0 q1 q2_6 q3 q4 q5) H := hP
  have hD : va_D A (wX cA xa ka ra na ia ua va ca za pa qa X K R P L P2 L2 Tn Ti Tu_5 Tv C Z q0 q1 q2_6 q3 q4 q5) := hD
  refine lv_iload_n hx hb dX7_tried_35 rfl (lv_at hl 1 rfl) ?_
  by_cases c9 : x1 = 0
  · have h := tx_pos c9 h
    refine lv_tableIn (off := 32) (tgt := 119) hx hb dX7_tried_36 (by rw [c9]; decide) (by rw [c9]; decide) (by rw [c9]; decide) (by decide) ?_
    refine lv_aload_n hx hb dX7_tried_68 rfl (lv_at hl 0 rfl) ?_
    refine va_get (D := G) (ci := 7) (v := .ref (ua 0)) (C := RX7) (T := TX7) (N := 12) hx hb hT ku_7 hown hK hP 0 rfl rfl 5 (by decide) (hT _ kw_2_3) (fun _ h9 => h9) rfl dX7_tried_69 ?_
    refine lv_iconst (v := 0) hx hb dX7_tried_72 (by decide) ?_
    refine va_put (D := G) (ci := 6) (v := .int 0) (ty := .boolean) (C := RX6) (T := TX6) (N := 20) hx hb hT ku_6 tyX6 tyX6_ok nmX6 hown hK hP hD hS 77 rfl rfl 6 (by decide) (hT _ kw_46_21) (fun _ h9 => h9) rfl (by decide +kernel) rfl rfl (Nat.le_of_ble_eq_true rfl) dX7_tried_73 (fun H locs hP hD hS => ?_)
    obtain ⟨Tu_10, eTu_10, h⟩ := tx_lt h
    rw [sX_ua_f6, eTu_10] at hP hD
    refine lv_goto (tgt := 119) hx hb dX7_tried_76 (by decide) ?_
    exact w_X7_tried_J119 F L Tu_10 q2_6 H locs ls h hP hD hS (lv_sub hl [0] rfl)
  · have h := tx_neg c9 h
    by_cases c16 : x1 = 1
    · have h := tx_pos c16 h
      refine lv_tableIn (off := 43) (tgt := 119) hx hb dX7_tried_36 (by rw [c16]; decide) (by rw [c16]; decide) (by rw [c16]; decide) (by decide) ?_
      refine lv_aload_n hx hb dX7_tried_79 rfl (lv_at hl 0 rfl) ?_
      refine va_get (D := G) (ci := 7) (v := .ref (ua 0)) (C := RX7) (T := TX7) (N := 12) hx hb hT ku_7 hown hK hP 0 rfl rfl 5 (by decide) (hT _ kw_2_3) (fun _ h9 => h9) rfl dX7_tried_80 ?_
      refine lv_iconst (v := 0) hx hb dX7_tried_83 (by decide) ?_
      refine va_put (D := G) (ci := 6) (v := .int 0) (ty := .boolean) (C := RX6) (T := TX6) (N := 20) hx hb hT ku_6 tyX6 tyX6_ok nmX6 hown hK hP hD hS 77 rfl rfl 7 (by decide) (hT _ kw_46_22) (fun _ h9 => h9) rfl (by decide +kernel) rfl rfl (Nat.le_of_ble_eq_true rfl) dX7_tried_84 (fun H locs hP hD hS => ?_)
      obtain ⟨Tu_17, eTu_17, h⟩ := tx_lt h
      rw [sX_ua_f7, eTu_17] at hP hD
      refine lv_goto (tgt := 119) hx hb dX7_tried_87 (by decide) ?_
      exact w_X7_tried_J119 F L Tu_17 q2_6 H locs ls h hP hD hS (lv_sub hl [0] rfl)
    · have h := tx_neg c16 h
      by_cases c18 : x1 = 2
      · have h := tx_pos c18 h
        refine lv_tableIn (off := 54) (tgt := 119) hx hb dX7_tried_36 (by rw [c18]; decide) (by rw [c18]; decide) (by rw [c18]; decide) (by decide) ?_
        refine lv_aload_n hx hb dX7_tried_90 rfl (lv_at hl 0 rfl) ?_
        refine va_get (D := G) (ci := 7) (v := .ref (ua 0)) (C := RX7) (T := TX7) (N := 12) hx hb hT ku_7 hown hK hP 0 rfl rfl 5 (by decide) (hT _ kw_2_3) (fun _ h9 => h9) rfl dX7_tried_91 ?_
        refine lv_iload_n hx hb dX7_tried_94 rfl (lv_at hl 2 rfl) ?_
        obtain ⟨g19, h⟩ := tx_ck h
        have eg19 := of_decide_eq_true g19
        subst eg19
        obtain ⟨Tu_20, hc21, h⟩ := tx_bd h
        refine tw_cv pX_ua hP hD hS hA (va_runV (As := [.int x2]) (rest := []) ⟨hx, hb, hml, hown, hT⟩ (c_X6_sendAway l G cA H.size ua pa Tu_5 P L x2  Tu_20 hc21) (cwV 1 hT (tq_gV kw_57_12 kw_57_13 kw_57_14 kw_1_23 kw_57_15) rfl rfl rfl (by decide +kernel) ⟨Nat.le_of_ble_eq_true rfl, Nat.le_of_ble_eq_true rfl⟩) ⟨(tw_pre pX_ua hP hD hK hN).1, va_recv hK hP (ci := 6) (q0 := 77) rfl rfl, (tw_pre pX_ua hP hD hK hN).2⟩ rfl rfl hl.1 rfl (lv_room (Nat.le_of_ble_eq_true rfl)) dX7_tried_95 ⟨Nat.le_of_ble_eq_true rfl, Nat.le_of_ble_eq_true rfl⟩) (fun _ H locs z22 hP hD hS => ?_)
        replace hP := tw_P pX_ua.symm hP
        replace hD := tw_D pX_ua.symm hD
        have hP : va_P G vwCl (wX cA xa ka ra na ia ua va ca za pa qa X K R P L P2 L2 Tn Ti Tu_20 Tv C Z q0 q1 (pa 0) q3 q4 q5) H := hP
        have hD : va_D A (wX cA xa ka ra na ia ua va ca za pa qa X K R P L P2 L2 Tn Ti Tu_20 Tv C Z q0 q1 (pa 0) q3 q4 q5) := hD
        refine lv_goto (tgt := 119) hx hb dX7_tried_98 (by decide) ?_
        exact w_X7_tried_J119 F L Tu_20 (pa 0) H locs ls h hP hD hS (lv_sub hl [0] rfl)
      · have h := tx_neg c18 h
        by_cases c23 : x1 = 3
        · have h := tx_pos c23 h
          refine lv_tableIn (off := 65) (tgt := 119) hx hb dX7_tried_36 (by rw [c23]; decide) (by rw [c23]; decide) (by rw [c23]; decide) (by decide) ?_
          refine lv_aload_n hx hb dX7_tried_101 rfl (lv_at hl 0 rfl) ?_
          refine va_get (D := G) (ci := 7) (v := .ref (ua 0)) (C := RX7) (T := TX7) (N := 12) hx hb hT ku_7 hown hK hP 0 rfl rfl 5 (by decide) (hT _ kw_2_3) (fun _ h9 => h9) rfl dX7_tried_102 ?_
          obtain ⟨g24, h⟩ := tx_ck h
          have eg24 := of_decide_eq_true g24
          subst eg24
          obtain ⟨Tu_25, hc26, h⟩ := tx_bd h
          refine tw_cv pX_ua hP hD hS hA (va_runV (As := []) (rest := []) ⟨hx, hb, hml, hown, hT⟩ (c_X6_strengthenAll l G cA H.size ua pa Tu_5 P L  Tu_25 hc26) (cwV 0 hT (tq_gV kw_57_16 kw_57_17 kw_57_18 kw_1_23 kw_57_19) rfl rfl rfl (by decide +kernel) ⟨Nat.le_of_ble_eq_true rfl, Nat.le_of_ble_eq_true rfl⟩) ⟨(tw_pre pX_ua hP hD hK hN).1, va_recv hK hP (ci := 6) (q0 := 77) rfl rfl, (tw_pre pX_ua hP hD hK hN).2⟩ rfl rfl hl.1 rfl (lv_room (Nat.le_of_ble_eq_true rfl)) dX7_tried_105 ⟨Nat.le_of_ble_eq_true rfl, Nat.le_of_ble_eq_true rfl⟩) (fun _ H locs z27 hP hD hS => ?_)
          replace hP := tw_P pX_ua.symm hP
          replace hD := tw_D pX_ua.symm hD
          have hP : va_P G vwCl (wX cA xa ka ra na ia ua va ca za pa qa X K R P L P2 L2 Tn Ti Tu_25 Tv C Z q0 q1 (pa 0) q3 q4 q5) H := hP
          have hD : va_D A (wX cA xa ka ra na ia ua va ca za pa qa X K R P L P2 L2 Tn Ti Tu_25 Tv C Z q0 q1 (pa 0) q3 q4 q5) := hD
          refine lv_goto (tgt := 119) hx hb dX7_tried_108 (by decide) ?_
          exact w_X7_tried_J119 F L Tu_25 (pa 0) H locs ls h hP hD hS (lv_sub hl [0] rfl)
        · have h := tx_neg c23 h
          have kc9 := tq_eqn (a := x1.toInt) (b := 0) rfl (by decide) c9
          have kc16 := tq_eqn (a := x1.toInt) (b := 1) rfl (by decide) c16
          have kc18 := tq_eqn (a := x1.toInt) (b := 2) rfl (by decide) c18
          have kc23 := tq_eqn (a := x1.toInt) (b := 3) rfl (by decide) c23
          refine lv_tableOut (tgt := 111) hx hb dX7_tried_36 (by omega) (by decide) ?_
          refine lv_aload_n hx hb dX7_tried_111 rfl (lv_at hl 0 rfl) ?_
          refine va_get (D := G) (ci := 7) (v := .ref (ua 0)) (C := RX7) (T := TX7) (N := 12) hx hb hT ku_7 hown hK hP 0 rfl rfl 5 (by decide) (hT _ kw_2_3) (fun _ h9 => h9) rfl dX7_tried_112 ?_
          refine lv_iconst (v := 0) hx hb dX7_tried_115 (by decide) ?_
          refine va_put (D := G) (ci := 6) (v := .int 0) (ty := .int) (C := RX6) (T := TX6) (N := 20) hx hb hT ku_6 tyX6 tyX6_ok nmX6 hown hK hP hD hS 77 rfl rfl 4 (by decide) (hT _ kw_57_11) (fun _ h9 => h9) rfl (by decide +kernel) rfl rfl (Nat.le_of_ble_eq_true rfl) dX7_tried_116 (fun H locs hP hD hS => ?_)
          obtain ⟨Tu_28, eTu_28, h⟩ := tx_lt h
          rw [sX_ua_f4, eTu_28] at hP hD
          exact w_X7_tried_J119 F L Tu_28 q2_6 H locs ls h hP hD hS (lv_sub hl [0] rfl)
set_option maxHeartbeats 4000000 in
set_option maxRecDepth 100000 in
theorem c_X7_tried (l : Launch) (G : va_G) (cA : Nat → ClassId) (sz : Nat) (xa : Nat → Nat) (ka : Nat → Nat) (ra : Nat → Nat) (na : Nat → Nat) (ia : Nat → Nat) (ua : Nat → Nat) (va : Nat → Nat) (ca : Nat → Nat) (za : Nat → Nat) (pa : Nat → Nat) (qa : Nat → Nat) (X : Tr) (K : Tr) (R : Tr) (P : Tr) (L : Lo) (P2 : Tr) (L2 : Lo) (Tn : Tr) (Ti : Tr) (Tu : Tr) (Tv : Tr) (C : Tr) (Z : Tr) (q0 : Nat) (q1 : Nat) (q2 : Nat) (q3 : Nat) (q4 : Nat) (q5 : Nat) (x1 : Int32) (x2 : Int32)  (r0 : Int32) (L' : Lo) (Tu' : Tr) (q2' : Nat) (h : f_X7_tried pa qa P L Tn Tu q0 q2 q4 x1 x2 = some (r0, L', Tu', q2')) : Met l yX7_tried (.code yX7_tried cX7_tried 3 (some .int) :: T0) ({ frames := 7, cells := 0, slots := 0, locals := 173 } : Room) (tqP G cA [.ref (xa 0), .int x1, .int x2] (wX cA xa ka ra na ia ua va ca za pa qa X K R P L P2 L2 Tn Ti Tu Tv C Z q0 q1 q2 q3 q4 q5) sz) (tqQi G cA (fun (r : Int32) (_ : Unit) => r = r0) (fun (_ : Unit) => wX cA xa ka ra na ia ua va ca za pa qa X K R P (L') P2 L2 Tn Ti (Tu') Tv C Z q0 q1 (q2') q3 q4 q5) (va_A (wX cA xa ka ra na ia ua va ca za pa qa X K R P L P2 L2 Tn Ti Tu Tv C Z q0 q1 q2 q3 q4 q5) sz)) 0 0 (va_A (wX cA xa ka ra na ia ua va ca za pa qa X K R P L P2 L2 Tn Ti Tu Tv C Z q0 q1 q2 q3 q4 q5) sz) := by
  refine Met.ofW (cc := cX7_tried) (maxL := 3) (ret := (some .int)) (by decide) rfl ?_
  intro p e s m args below meth c s₁ B hml hv
  obtain ⟨rfl, hsz, hP, hK, hD0, hN⟩ := hv
  have hx := B.exec
  have hb := B.bytes
  have hr := B.returns
  have hts := atoms_spec (ws := .code yX7_tried cX7_tried 3 (some .int) :: T0) B.pre
  have hT : ∀ w ∈ T0, w.before _ s = true := fun w h => hts w (List.mem_cons_of_mem _ h)
  have hown : s.vm.findClass RX7 = some m.cls := findClass_of_methodNamed B.named
  have hlocks := B.notSynchronized
  subst hsz
  have hD := hD0.self (sz := s.heap.size)
  generalize hAe : va_A (wX cA xa ka ra na ia ua va ca za pa qa X K R P L P2 L2 Tn Ti Tu Tv C Z q0 q1 q2 q3 q4 q5) s.heap.size = A at hD ⊢
  have hA : ∀ q : Nat, s.heap.size ≤ q → A q := fun q h => by rw [← hAe]; exact Or.inr h
  have hS : va_S A s.heap s.heap [] := va_S.rf
  have hl := lv_entry ([.ref (xa 0), .int x1, .int x2]) (n := 3) (Nat.le_of_ble_eq_true rfl)
  rw [lg_entry_eq]
  generalize (lg_sl ([.ref (xa 0), .int x1, .int x2]) ++ List.replicate (3 - (lg_sl ([.ref (xa 0), .int x1, .int x2])).length) Slot.unset).toArray = ls at hl ⊢
  have hl : lv_has ls 3 [(0, .ref (xa 0)), (1, .int x1), (2, .int x2)] := hl
  have F : tF p s m ([.ref (xa 0), .int x1, .int x2] : List Value).toArray meth c G cA A RX7 cX7_tried 3 (some .int) := ⟨hx, hb, hr, hml, hT, hown, hlocks, hK, hN, hA⟩
  obtain ⟨H, hH⟩ : ∃ z, z = s.heap := ⟨_, rfl⟩
  rw [← hH] at hP
  have hS : va_S A s.heap H [] := by rw [hH]; exact hS
  suffices hgo : G_X7_tried p l e s m below meth c G cA A xa ka ra na ia ua va ca za pa qa X K R P P2 L2 Tn Ti Tv C Z q0 q1 q3 q4 q5 x1 x2 r0 L' Tu' q2' H [] (F0 m 0 ls []) by rw [hH] at hgo; exact hgo
  generalize ([] : List Loc) = locs at hS ⊢
  unfold f_X7_tried at h
  refine lv_iload_n hx hb dX7_tried_0 rfl (lv_at hl 1 rfl) ?_
  refine lv_if_lt (tgt := 29) hx hb dX7_tried_1 (by decide) (fun c1 => ?_) (fun c1 => ?_)
  · have h := tx_pos c1 h
    refine lv_iconst (v := (-1)) hx hb dX7_tried_29 (by decide) ?_
    obtain ⟨rfl, rfl, rfl, rfl⟩ := tx_4 h
    exact W.iret hx hb hr (fun t ht hW => ⟨⟨_, (), rfl, rfl, by rw [ht]; exact hP, hD⟩, hS.F ht⟩) hS.2.2 dX7_tried_30
  · have h := tx_neg c1 h
    refine lv_iload_n hx hb dX7_tried_4 rfl (lv_at hl 1 rfl) ?_
    refine lv_iconst (v := 4) hx hb dX7_tried_5 (by decide) ?_
    refine lv_icmp_gt (tgt := 29) hx hb dX7_tried_6 (by decide) (fun c2 => ?_) (fun c2 => ?_)
    · have h := tx_pos c2 h
      refine lv_iconst (v := (-1)) hx hb dX7_tried_29 (by decide) ?_
      obtain ⟨rfl, rfl, rfl, rfl⟩ := tx_4 h
      exact W.iret hx hb hr (fun t ht hW => ⟨⟨_, (), rfl, rfl, by rw [ht]; exact hP, hD⟩, hS.F ht⟩) hS.2.2 dX7_tried_30
    · have h := tx_neg c2 h
      refine lv_iload_n hx hb dX7_tried_9 rfl (lv_at hl 1 rfl) ?_
      refine lv_iconst (v := 2) hx hb dX7_tried_10 (by decide) ?_
      refine lv_icmp_ne (tgt := 25) hx hb dX7_tried_11 (by decide) (fun c3 => ?_) (fun c3 => ?_)
      · have h := tx_neg c3 h
        refine lv_iload_n hx hb dX7_tried_25 rfl (lv_at hl 2 rfl) ?_
        refine lv_if_eq (tgt := 31) hx hb dX7_tried_26 (by decide) (fun c4 => ?_) (fun c4 => ?_)
        · have h := tx_pos c4 h
          exact w_X7_tried_J31 F x1 x2 L Tu q2 H locs ls h hP hD hS (lv_sub hl [0, 1, 2] rfl)
        · have h := tx_neg c4 h
          refine lv_iconst (v := (-1)) hx hb dX7_tried_29 (by decide) ?_
          obtain ⟨rfl, rfl, rfl, rfl⟩ := tx_4 h
          exact W.iret hx hb hr (fun t ht hW => ⟨⟨_, (), rfl, rfl, by rw [ht]; exact hP, hD⟩, hS.F ht⟩) hS.2.2 dX7_tried_30
      · have h := tx_pos c3 h
        refine lv_aload_n hx hb dX7_tried_14 rfl (lv_at hl 0 rfl) ?_
        refine lv_iload_n hx hb dX7_tried_15 rfl (lv_at hl 2 rfl) ?_
        obtain ⟨r30, hc31, h⟩ := tx_bd h
        refine tw_ci tw_all hP hD hS hA (va_runV (As := [.int x2]) (rest := []) ⟨hx, hb, hml, hown, hT⟩ (c_X7_isPerson l G cA H.size xa ka ra na ia ua va ca za pa qa X K R P L P2 L2 Tn Ti Tu Tv C Z q0 q1 q2 q3 q4 q5 x2  r30 hc31) (cwV 1 hT (tq_gV kw_29_3 kw_29_4 kw_29_5 kw_1_2 kw_29_6) rfl rfl rfl (by decide +kernel) ⟨Nat.le_of_ble_eq_true rfl, Nat.le_of_ble_eq_true rfl⟩) ⟨(tw_pre tw_all hP hD hK hN).1, va_recv hK hP (ci := 7) (q0 := 0) rfl rfl, (tw_pre tw_all hP hD hK hN).2⟩ rfl rfl hl.1 rfl (lv_room (Nat.le_of_ble_eq_true rfl)) dX7_tried_16 ⟨Nat.le_of_ble_eq_true rfl, Nat.le_of_ble_eq_true rfl⟩) (fun _ _ H locs z32 hP hD hS => ?_)
        subst z32
        rw [List.append_nil] at hP hD
        have hP : va_P G vwCl (wX cA xa ka ra na ia ua va ca za pa qa X K R P L P2 L2 Tn Ti Tu Tv C Z q0 q1 q2 q3 q4 q5) H := hP
        have hD : va_D A (wX cA xa ka ra na ia ua va ca za pa qa X K R P L P2 L2 Tn Ti Tu Tv C Z q0 q1 q2 q3 q4 q5) := hD
        refine lv_if_ne (tgt := 31) hx hb dX7_tried_19 (by decide) (fun c33 => ?_) (fun c33 => ?_)
        · have h := tx_neg c33 h
          exact w_X7_tried_J31 F x1 x2 L Tu q2 H locs ls h hP hD hS (lv_sub hl [0, 1, 2] rfl)
        · have h := tx_pos c33 h
          refine lv_goto (tgt := 29) hx hb dX7_tried_22 (by decide) ?_
          refine lv_iconst (v := (-1)) hx hb dX7_tried_29 (by decide) ?_
          obtain ⟨rfl, rfl, rfl, rfl⟩ := tx_4 h
          exact W.iret hx hb hr (fun t ht hW => ⟨⟨_, (), rfl, rfl, by rw [ht]; exact hP, hD⟩, hS.F ht⟩) hS.2.2 dX7_tried_30
abbrev G_X0_saveRow_x_va16 (p : Program) (l : Launch) (e : Env) (s : State) (m : MethodId) (below : List Frame) (meth : Method) (c : Code) (G : va_G) (cA : Nat → ClassId) (A : Nat → Prop) (xa : Nat → Nat) (ka : Nat → Nat) (ra : Nat → Nat) (na : Nat → Nat) (ia : Nat → Nat) (ua : Nat → Nat) (va : Nat → Nat) (ca : Nat → Nat) (za : Nat → Nat) (pa : Nat → Nat) (qa : Nat → Nat) (X : Tr) (K : Tr) (R : Tr) (P : Tr) (L : Lo) (P2 : Tr) (L2 : Lo) (Tn : Tr) (Ti : Tr) (Tu : Tr) (Tv : Tr) (Z : Tr) (q0 : Nat) (q1 : Nat) (q2 : Nat) (q3 : Nat) (q4 : Nat) (q5 : Nat) (x2 : Int32) (r0 : Int32) (C' : Tr) (H : Heap) (locs : List Loc) (g : JFrame) : Prop := W p l e (headSpec (.code yX0_saveRow cX0_saveRow 3 (some .int) :: T0) ({ frames := 1, cells := 0, slots := 0, locals := 40 } : Room)).room s m ([.ref (ca 0), .ref (va 16), .int x2] : List Value).toArray below meth c H locs 0 0 (MQ below (tqQi G cA (fun (r : Int32) (_ : Unit) => r = r0) (fun (_ : Unit) => wX cA xa ka ra na ia ua va ca za pa qa X K R P L P2 L2 Tn Ti Tu Tv (C') Z q0 q1 q2 q3 q4 q5) A) ([.ref (ca 0), .ref (va 16), .int x2] : List Value).toArray s 0 0 A) g
set_option maxHeartbeats 4000000 in
set_option maxRecDepth 100000 in
theorem c_X0_saveRow_x_va16 (l : Launch) (G : va_G) (cA : Nat → ClassId) (sz : Nat) (xa : Nat → Nat) (ka : Nat → Nat) (ra : Nat → Nat) (na : Nat → Nat) (ia : Nat → Nat) (ua : Nat → Nat) (va : Nat → Nat) (ca : Nat → Nat) (za : Nat → Nat) (pa : Nat → Nat) (qa : Nat → Nat) (X : Tr) (K : Tr) (R : Tr) (P : Tr) (L : Lo) (P2 : Tr) (L2 : Lo) (Tn : Tr) (Ti : Tr) (Tu : Tr) (Tv : Tr) (C : Tr) (Z : Tr) (q0 : Nat) (q1 : Nat) (q2 : Nat) (q3 : Nat) (q4 : Nat) (q5 : Nat) (x2 : Int32)  (r0 : Int32) (C' : Tr) (h : f_X0_saveRow_x_va16 pa qa Tv C x2 = some (r0, C')) : Met l yX0_saveRow (.code yX0_saveRow cX0_saveRow 3 (some .int) :: T0) ({ frames := 1, cells := 0, slots := 0, locals := 40 } : Room) (tqP G cA [.ref (ca 0), .ref (va 16), .int x2] (wX cA xa ka ra na ia ua va ca za pa qa X K R P L P2 L2 Tn Ti Tu Tv C Z q0 q1 q2 q3 q4 q5) sz) (tqQi G cA (fun (r : Int32) (_ : Unit) => r = r0) (fun (_ : Unit) => wX cA xa ka ra na ia ua va ca za pa qa X K R P L P2 L2 Tn Ti Tu Tv (C') Z q0 q1 q2 q3 q4 q5) (va_A (wX cA xa ka ra na ia ua va ca za pa qa X K R P L P2 L2 Tn Ti Tu Tv C Z q0 q1 q2 q3 q4 q5) sz)) 0 0 (va_A (wX cA xa ka ra na ia ua va ca za pa qa X K R P L P2 L2 Tn Ti Tu Tv C Z q0 q1 q2 q3 q4 q5) sz) := by
  refine Met.ofW (cc := cX0_saveRow) (maxL := 3) (ret := (some .int)) (by decide) rfl ?_
  intro p e s m args below meth c s₁ B hml hv
  obtain ⟨rfl, hsz, hP, hK, hD0, hN⟩ := hv
  have hx := B.exec
  have hb := B.bytes
  have hr := B.returns
  have hts := atoms_spec (ws := .code yX0_saveRow cX0_saveRow 3 (some .int) :: T0) B.pre
  have hT : ∀ w ∈ T0, w.before _ s = true := fun w h => hts w (List.mem_cons_of_mem _ h)
  have hown : s.vm.findClass RX0 = some m.cls := findClass_of_methodNamed B.named
  have hlocks := B.notSynchronized
  subst hsz
  have hD := hD0.self (sz := s.heap.size)
  generalize hAe : va_A (wX cA xa ka ra na ia ua va ca za pa qa X K R P L P2 L2 Tn Ti Tu Tv C Z q0 q1 q2 q3 q4 q5) s.heap.size = A at hD ⊢
  have hA : ∀ q : Nat, s.heap.size ≤ q → A q := fun q h => by rw [← hAe]; exact Or.inr h
  have hS : va_S A s.heap s.heap [] := va_S.rf
  have hl := lv_entry ([.ref (ca 0), .ref (va 16), .int x2]) (n := 3) (Nat.le_of_ble_eq_true rfl)
  rw [lg_entry_eq]
  generalize (lg_sl ([.ref (ca 0), .ref (va 16), .int x2]) ++ List.replicate (3 - (lg_sl ([.ref (ca 0), .ref (va 16), .int x2])).length) Slot.unset).toArray = ls at hl ⊢
  have hl : lv_has ls 3 [(0, .ref (ca 0)), (1, .ref (va 16)), (2, .int x2)] := hl
  have F : tF p s m ([.ref (ca 0), .ref (va 16), .int x2] : List Value).toArray meth c G cA A RX0 cX0_saveRow 3 (some .int) := ⟨hx, hb, hr, hml, hT, hown, hlocks, hK, hN, hA⟩
  obtain ⟨H, hH⟩ : ∃ z, z = s.heap := ⟨_, rfl⟩
  rw [← hH] at hP
  have hS : va_S A s.heap H [] := by rw [hH]; exact hS
  suffices hgo : G_X0_saveRow_x_va16 p l e s m below meth c G cA A xa ka ra na ia ua va ca za pa qa X K R P L P2 L2 Tn Ti Tu Tv Z q0 q1 q2 q3 q4 q5 x2 r0 C' H [] (F0 m 0 ls []) by rw [hH] at hgo; exact hgo
  generalize ([] : List Loc) = locs at hS ⊢
  unfold f_X0_saveRow_x_va16 at h
  refine lv_aload_n hx hb dX0_saveRow_0 rfl (lv_at hl 1 rfl) ?_
  refine lv_iconst (v := 0) hx hb dX0_saveRow_1 (by decide) ?_
  refine lv_aload_n hx hb dX0_saveRow_2 rfl (lv_at hl 0 rfl) ?_
  refine va_get (D := G) (ci := 0) (v := .ref (ca 3)) (C := RX0) (T := TX0) (N := 3) hx hb hT ku_0 hown hK hP 101 rfl rfl 2 (by decide) (hT _ kw_8_18) (fun _ h9 => h9) rfl dX0_saveRow_3 ?_
  refine lv_iload_n hx hb dX0_saveRow_6 rfl (lv_at hl 2 rfl) ?_
  refine lv_aload_n hx hb dX0_saveRow_7 rfl (lv_at hl 1 rfl) ?_
  refine va_alen (v := 50) hx hb hK hP 97 0 rfl rfl (by decide) dX0_saveRow_8 ?_
  obtain ⟨g1, h⟩ := tx_ck h
  refine va_copyi (ty := .int) (sp := 0) (dp := x2) (n := 50) hx hb (hml.trans hl.1.symm) hown (hT _ kw_36_14) (hT _ kw_36_15) (hT _ kw_36_16) (hT _ kw_36_17) hK hP hD hS 97 102 0 0 rfl rfl rfl rfl rfl (tx_cp g1).1 (tx_cp g1).2.1 (tx_cp g1).2.2.1 (tx_cp g1).2.2.2.1 (tx_cp g1).2.2.2.2 (fun _ _ => rfl) (Nat.le_of_ble_eq_true rfl) (by decide) dX0_saveRow_9 (fun H locs hP hD hS => ?_)
  try rw [show (0 : Int32).toNatClampNeg = 0 from rfl] at hP hD
  try rw [show (50 : Int32).toNatClampNeg = 50 from rfl] at hP hD
  obtain ⟨C_2, eC_2, h⟩ := tx_lt h
  rw [sX_ca_c2, eC_2] at hP hD
  refine lv_iload_n hx hb dX0_saveRow_12 rfl (lv_at hl 2 rfl) ?_
  refine lv_aload_n hx hb dX0_saveRow_13 rfl (lv_at hl 1 rfl) ?_
  refine va_alen (v := 50) hx hb hK hP 97 0 rfl rfl (by decide) dX0_saveRow_14 ?_
  refine lv_iadd hx hb dX0_saveRow_15 ?_
  obtain ⟨rfl, rfl⟩ := tx_2 h
  exact W.iret hx hb hr (fun t ht hW => ⟨⟨_, (), rfl, rfl, by rw [ht]; exact hP, hD⟩, hS.F ht⟩) hS.2.2 dX0_saveRow_16
abbrev G_X0_saveRow_x_va17 (p : Program) (l : Launch) (e : Env) (s : State) (m : MethodId) (below : List Frame) (meth : Method) (c : Code) (G : va_G) (cA : Nat → ClassId) (A : Nat → Prop) (xa : Nat → Nat) (ka : Nat → Nat) (ra : Nat → Nat) (na : Nat → Nat) (ia : Nat → Nat) (ua : Nat → Nat) (va : Nat → Nat) (ca : Nat → Nat) (za : Nat → Nat) (pa : Nat → Nat) (qa : Nat → Nat) (X : Tr) (K : Tr) (R : Tr) (P : Tr) (L : Lo) (P2 : Tr) (L2 : Lo) (Tn : Tr) (Ti : Tr) (Tu : Tr) (Tv : Tr) (Z : Tr) (q0 : Nat) (q1 : Nat) (q2 : Nat) (q3 : Nat) (q4 : Nat) (q5 : Nat) (x2 : Int32) (r0 : Int32) (C' : Tr) (H : Heap) (locs : List Loc) (g : JFrame) : Prop := W p l e (headSpec (.code yX0_saveRow cX0_saveRow 3 (some .int) :: T0) ({ frames := 1, cells := 0, slots := 0, locals := 40 } : Room)).room s m ([.ref (ca 0), .ref (va 17), .int x2] : List Value).toArray below meth c H locs 0 0 (MQ below (tqQi G cA (fun (r : Int32) (_ : Unit) => r = r0) (fun (_ : Unit) => wX cA xa ka ra na ia ua va ca za pa qa X K R P L P2 L2 Tn Ti Tu Tv (C') Z q0 q1 q2 q3 q4 q5) A) ([.ref (ca 0), .ref (va 17), .int x2] : List Value).toArray s 0 0 A) g
set_option maxHeartbeats 4000000 in
set_option maxRecDepth 100000 in
theorem c_X0_saveRow_x_va17 (l : Launch) (G : va_G) (cA : Nat → ClassId) (sz : Nat) (xa : Nat → Nat) (ka : Nat → Nat) (ra : Nat → Nat) (na : Nat → Nat) (ia : Nat → Nat) (ua : Nat → Nat) (va : Nat → Nat) (ca : Nat → Nat) (za : Nat → Nat) (pa : Nat → Nat) (qa : Nat → Nat) (X : Tr) (K : Tr) (R : Tr) (P : Tr) (L : Lo) (P2 : Tr) (L2 : Lo) (Tn : Tr) (Ti : Tr) (Tu : Tr) (Tv : Tr) (C : Tr) (Z : Tr) (q0 : Nat) (q1 : Nat) (q2 : Nat) (q3 : Nat) (q4 : Nat) (q5 : Nat) (x2 : Int32)  (r0 : Int32) (C' : Tr) (h : f_X0_saveRow_x_va17 pa qa Tv C x2 = some (r0, C')) : Met l yX0_saveRow (.code yX0_saveRow cX0_saveRow 3 (some .int) :: T0) ({ frames := 1, cells := 0, slots := 0, locals := 40 } : Room) (tqP G cA [.ref (ca 0), .ref (va 17), .int x2] (wX cA xa ka ra na ia ua va ca za pa qa X K R P L P2 L2 Tn Ti Tu Tv C Z q0 q1 q2 q3 q4 q5) sz) (tqQi G cA (fun (r : Int32) (_ : Unit) => r = r0) (fun (_ : Unit) => wX cA xa ka ra na ia ua va ca za pa qa X K R P L P2 L2 Tn Ti Tu Tv (C') Z q0 q1 q2 q3 q4 q5) (va_A (wX cA xa ka ra na ia ua va ca za pa qa X K R P L P2 L2 Tn Ti Tu Tv C Z q0 q1 q2 q3 q4 q5) sz)) 0 0 (va_A (wX cA xa ka ra na ia ua va ca za pa qa X K R P L P2 L2 Tn Ti Tu Tv C Z q0 q1 q2 q3 q4 q5) sz) := by
  refine Met.ofW (cc := cX0_saveRow) (maxL := 3) (ret := (some .int)) (by decide) rfl ?_
  intro p e s m args below meth c s₁ B hml hv
  obtain ⟨rfl, hsz, hP, hK, hD0, hN⟩ := hv
  have hx := B.exec
  have hb := B.bytes
  have hr := B.returns
  have hts := atoms_spec (ws := .code yX0_saveRow cX0_saveRow 3 (some .int) :: T0) B.pre
  have hT : ∀ w ∈ T0, w.before _ s = true := fun w h => hts w (List.mem_cons_of_mem _ h)
  have hown : s.vm.findClass RX0 = some m.cls := findClass_of_methodNamed B.named
  have hlocks := B.notSynchronized
  subst hsz
  have hD := hD0.self (sz := s.heap.size)
  generalize hAe : va_A (wX cA xa ka ra na ia ua va ca za pa qa X K R P L P2 L2 Tn Ti Tu Tv C Z q0 q1 q2 q3 q4 q5) s.heap.size = A at hD ⊢
  have hA : ∀ q : Nat, s.heap.size ≤ q → A q := fun q h => by rw [← hAe]; exact Or.inr h
  have hS : va_S A s.heap s.heap [] := va_S.rf
  have hl := lv_entry ([.ref (ca 0), .ref (va 17), .int x2]) (n := 3) (Nat.le_of_ble_eq_true rfl)
  rw [lg_entry_eq]
  generalize (lg_sl ([.ref (ca 0), .ref (va 17), .int x2]) ++ List.replicate (3 - (lg_sl ([.ref (ca 0), .ref (va 17), .int x2])).length) Slot.unset).toArray = ls at hl ⊢
  have hl : lv_has ls 3 [(0, .ref (ca 0)), (1, .ref (va 17)), (2, .int x2)] := hl
  have F : tF p s m ([.ref (ca 0), .ref (va 17), .int x2] : List Value).toArray meth c G cA A RX0 cX0_saveRow 3 (some .int) := ⟨hx, hb, hr, hml, hT, hown, hlocks, hK, hN, hA⟩
  obtain ⟨H, hH⟩ : ∃ z, z = s.heap := ⟨_, rfl⟩
  rw [← hH] at hP
  have hS : va_S A s.heap H [] := by rw [hH]; exact hS
  suffices hgo : G_X0_saveRow_x_va17 p l e s m below meth c G cA A xa ka ra na ia ua va ca za pa qa X K R P L P2 L2 Tn Ti Tu Tv Z q0 q1 q2 q3 q4 q5 x2 r0 C' H [] (F0 m 0 ls []) by rw [hH] at hgo; exact hgo
  generalize ([] : List Loc) = locs at hS ⊢
  unfold f_X0_saveRow_x_va17 at h
  refine lv_aload_n hx hb dX0_saveRow_0 rfl (lv_at hl 1 rfl) ?_
  refine lv_iconst (v := 0) hx hb dX0_saveRow_1 (by decide) ?_
  refine lv_aload_n hx hb dX0_saveRow_2 rfl (lv_at hl 0 rfl) ?_
  refine va_get (D := G) (ci := 0) (v := .ref (ca 3)) (C := RX0) (T := TX0) (N := 3) hx hb hT ku_0 hown hK hP 101 rfl rfl 2 (by decide) (hT _ kw_8_18) (fun _ h9 => h9) rfl dX0_saveRow_3 ?_
  refine lv_iload_n hx hb dX0_saveRow_6 rfl (lv_at hl 2 rfl) ?_
  refine lv_aload_n hx hb dX0_saveRow_7 rfl (lv_at hl 1 rfl) ?_
  refine va_alen (v := 5) hx hb hK hP 98 0 rfl rfl (by decide) dX0_saveRow_8 ?_
  obtain ⟨g1, h⟩ := tx_ck h
  refine va_copyi (ty := .int) (sp := 0) (dp := x2) (n := 5) hx hb (hml.trans hl.1.symm) hown (hT _ kw_36_14) (hT _ kw_36_15) (hT _ kw_36_16) (hT _ kw_36_17) hK hP hD hS 98 102 0 0 rfl rfl rfl rfl rfl (tx_cp g1).1 (tx_cp g1).2.1 (tx_cp g1).2.2.1 (tx_cp g1).2.2.2.1 (tx_cp g1).2.2.2.2 (fun _ _ => rfl) (Nat.le_of_ble_eq_true rfl) (by decide) dX0_saveRow_9 (fun H locs hP hD hS => ?_)
  try rw [show (0 : Int32).toNatClampNeg = 0 from rfl] at hP hD
  try rw [show (5 : Int32).toNatClampNeg = 5 from rfl] at hP hD
  obtain ⟨C_2, eC_2, h⟩ := tx_lt h
  rw [sX_ca_c2, eC_2] at hP hD
  refine lv_iload_n hx hb dX0_saveRow_12 rfl (lv_at hl 2 rfl) ?_
  refine lv_aload_n hx hb dX0_saveRow_13 rfl (lv_at hl 1 rfl) ?_
  refine va_alen (v := 5) hx hb hK hP 98 0 rfl rfl (by decide) dX0_saveRow_14 ?_
  refine lv_iadd hx hb dX0_saveRow_15 ?_
  obtain ⟨rfl, rfl⟩ := tx_2 h
  exact W.iret hx hb hr (fun t ht hW => ⟨⟨_, (), rfl, rfl, by rw [ht]; exact hP, hD⟩, hS.F ht⟩) hS.2.2 dX0_saveRow_16
abbrev G_X0_saveRow_x_va18 (p : Program) (l : Launch) (e : Env) (s : State) (m : MethodId) (below : List Frame) (meth : Method) (c : Code) (G : va_G) (cA : Nat → ClassId) (A : Nat → Prop) (xa : Nat → Nat) (ka : Nat → Nat) (ra : Nat → Nat) (na : Nat → Nat) (ia : Nat → Nat) (ua : Nat → Nat) (va : Nat → Nat) (ca : Nat → Nat) (za : Nat → Nat) (pa : Nat → Nat) (qa : Nat → Nat) (X : Tr) (K : Tr) (R : Tr) (P : Tr) (L : Lo) (P2 : Tr) (L2 : Lo) (Tn : Tr) (Ti : Tr) (Tu : Tr) (Tv : Tr) (Z : Tr) (q0 : Nat) (q1 : Nat) (q2 : Nat) (q3 : Nat) (q4 : Nat) (q5 : Nat) (x2 : Int32) (r0 : Int32) (C' : Tr) (H : Heap) (locs : List Loc) (g : JFrame) : Prop := W p l e (headSpec (.code yX0_saveRow cX0_saveRow 3 (some .int) :: T0) ({ frames := 1, cells := 0, slots := 0, locals := 40 } : Room)).room s m ([.ref (ca 0), .ref (va 18), .int x2] : List Value).toArray below meth c H locs 0 0 (MQ below (tqQi G cA (fun (r : Int32) (_ : Unit) => r = r0) (fun (_ : Unit) => wX cA xa ka ra na ia ua va ca za pa qa X K R P L P2 L2 Tn Ti Tu Tv (C') Z q0 q1 q2 q3 q4 q5) A) ([.ref (ca 0), .ref (va 18), .int x2] : List Value).toArray s 0 0 A) g
set_option maxHeartbeats 4000000 in
set_option maxRecDepth 100000 in
theorem c_X0_saveRow_x_va18 (l : Launch) (G : va_G) (cA : Nat → ClassId) (sz : Nat) (xa : Nat → Nat) (ka : Nat → Nat) (ra : Nat → Nat) (na : Nat → Nat) (ia : Nat → Nat) (ua : Nat → Nat) (va : Nat → Nat) (ca : Nat → Nat) (za : Nat → Nat) (pa : Nat → Nat) (qa : Nat → Nat) (X : Tr) (K : Tr) (R : Tr) (P : Tr) (L : Lo) (P2 : Tr) (L2 : Lo) (Tn : Tr) (Ti : Tr) (Tu : Tr) (Tv : Tr) (C : Tr) (Z : Tr) (q0 : Nat) (q1 : Nat) (q2 : Nat) (q3 : Nat) (q4 : Nat) (q5 : Nat) (x2 : Int32)  (r0 : Int32) (C' : Tr) (h : f_X0_saveRow_x_va18 pa qa Tv C x2 = some (r0, C')) : Met l yX0_saveRow (.code yX0_saveRow cX0_saveRow 3 (some .int) :: T0) ({ frames := 1, cells := 0, slots := 0, locals := 40 } : Room) (tqP G cA [.ref (ca 0), .ref (va 18), .int x2] (wX cA xa ka ra na ia ua va ca za pa qa X K R P L P2 L2 Tn Ti Tu Tv C Z q0 q1 q2 q3 q4 q5) sz) (tqQi G cA (fun (r : Int32) (_ : Unit) => r = r0) (fun (_ : Unit) => wX cA xa ka ra na ia ua va ca za pa qa X K R P L P2 L2 Tn Ti Tu Tv (C') Z q0 q1 q2 q3 q4 q5) (va_A (wX cA xa ka ra na ia ua va ca za pa qa X K R P L P2 L2 Tn Ti Tu Tv C Z q0 q1 q2 q3 q4 q5) sz)) 0 0 (va_A (wX cA xa ka ra na ia ua va ca za pa qa X K R P L P2 L2 Tn Ti Tu Tv C Z q0 q1 q2 q3 q4 q5) sz) := by
  refine Met.ofW (cc := cX0_saveRow) (maxL := 3) (ret := (some .int)) (by decide) rfl ?_
  intro p e s m args below meth c s₁ B hml hv
  obtain ⟨rfl, hsz, hP, hK, hD0, hN⟩ := hv
  have hx := B.exec
  have hb := B.bytes
  have hr := B.returns
  have hts := atoms_spec (ws := .code yX0_saveRow cX0_saveRow 3 (some .int) :: T0) B.pre
  have hT : ∀ w ∈ T0, w.before _ s = true := fun w h => hts w (List.mem_cons_of_mem _ h)
  have hown : s.vm.findClass RX0 = some m.cls := findClass_of_methodNamed B.named
  have hlocks := B.notSynchronized
  subst hsz
  have hD := hD0.self (sz := s.heap.size)
  generalize hAe : va_A (wX cA xa ka ra na ia ua va ca za pa qa X K R P L P2 L2 Tn Ti Tu Tv C Z q0 q1 q2 q3 q4 q5) s.heap.size = A at hD ⊢
  have hA : ∀ q : Nat, s.heap.size ≤ q → A q := fun q h => by rw [← hAe]; exact Or.inr h
  have hS : va_S A s.heap s.heap [] := va_S.rf
  have hl := lv_entry ([.ref (ca 0), .ref (va 18), .int x2]) (n := 3) (Nat.le_of_ble_eq_true rfl)
  rw [lg_entry_eq]
  generalize (lg_sl ([.ref (ca 0), .ref (va 18), .int x2]) ++ List.replicate (3 - (lg_sl ([.ref (ca 0), .ref (va 18), .int x2])).length) Slot.unset).toArray = ls at hl ⊢
  have hl : lv_has ls 3 [(0, .ref (ca 0)), (1, .ref (va 18)), (2, .int x2)] := hl
  have F : tF p s m ([.ref (ca 0), .ref (va 18), .int x2] : List Value).toArray meth c G cA A RX0 cX0_saveRow 3 (some .int) := ⟨hx, hb, hr, hml, hT, hown, hlocks, hK, hN, hA⟩
  obtain ⟨H, hH⟩ : ∃ z, z = s.heap := ⟨_, rfl⟩
  rw [← hH] at hP
  have hS : va_S A s.heap H [] := by rw [hH]; exact hS
  suffices hgo : G_X0_saveRow_x_va18 p l e s m below meth c G cA A xa ka ra na ia ua va ca za pa qa X K R P L P2 L2 Tn Ti Tu Tv Z q0 q1 q2 q3 q4 q5 x2 r0 C' H [] (F0 m 0 ls []) by rw [hH] at hgo; exact hgo
  generalize ([] : List Loc) = locs at hS ⊢
  unfold f_X0_saveRow_x_va18 at h
  refine lv_aload_n hx hb dX0_saveRow_0 rfl (lv_at hl 1 rfl) ?_
  refine lv_iconst (v := 0) hx hb dX0_saveRow_1 (by decide) ?_
  refine lv_aload_n hx hb dX0_saveRow_2 rfl (lv_at hl 0 rfl) ?_
  refine va_get (D := G) (ci := 0) (v := .ref (ca 3)) (C := RX0) (T := TX0) (N := 3) hx hb hT ku_0 hown hK hP 101 rfl rfl 2 (by decide) (hT _ kw_8_18) (fun _ h9 => h9) rfl dX0_saveRow_3 ?_
  refine lv_iload_n hx hb dX0_saveRow_6 rfl (lv_at hl 2 rfl) ?_
  refine lv_aload_n hx hb dX0_saveRow_7 rfl (lv_at hl 1 rfl) ?_
  refine va_alen (v := 5) hx hb hK hP 99 0 rfl rfl (by decide) dX0_saveRow_8 ?_
  obtain ⟨g1, h⟩ := tx_ck h
  refine va_copyi (ty := .int) (sp := 0) (dp := x2) (n := 5) hx hb (hml.trans hl.1.symm) hown (hT _ kw_36_14) (hT _ kw_36_15) (hT _ kw_36_16) (hT _ kw_36_17) hK hP hD hS 99 102 0 0 rfl rfl rfl rfl rfl (tx_cp g1).1 (tx_cp g1).2.1 (tx_cp g1).2.2.1 (tx_cp g1).2.2.2.1 (tx_cp g1).2.2.2.2 (fun _ _ => rfl) (Nat.le_of_ble_eq_true rfl) (by decide) dX0_saveRow_9 (fun H locs hP hD hS => ?_)
  try rw [show (0 : Int32).toNatClampNeg = 0 from rfl] at hP hD
  try rw [show (5 : Int32).toNatClampNeg = 5 from rfl] at hP hD
  obtain ⟨C_2, eC_2, h⟩ := tx_lt h
  rw [sX_ca_c2, eC_2] at hP hD
  refine lv_iload_n hx hb dX0_saveRow_12 rfl (lv_at hl 2 rfl) ?_
  refine lv_aload_n hx hb dX0_saveRow_13 rfl (lv_at hl 1 rfl) ?_
  refine va_alen (v := 5) hx hb hK hP 99 0 rfl rfl (by decide) dX0_saveRow_14 ?_
  refine lv_iadd hx hb dX0_saveRow_15 ?_
  obtain ⟨rfl, rfl⟩ := tx_2 h
  exact W.iret hx hb hr (fun t ht hW => ⟨⟨_, (), rfl, rfl, by rw [ht]; exact hP, hD⟩, hS.F ht⟩) hS.2.2 dX0_saveRow_16
abbrev G_X0_saveRow_x_va15 (p : Program) (l : Launch) (e : Env) (s : State) (m : MethodId) (below : List Frame) (meth : Method) (c : Code) (G : va_G) (cA : Nat → ClassId) (A : Nat → Prop) (xa : Nat → Nat) (ka : Nat → Nat) (ra : Nat → Nat) (na : Nat → Nat) (ia : Nat → Nat) (ua : Nat → Nat) (va : Nat → Nat) (ca : Nat → Nat) (za : Nat → Nat) (pa : Nat → Nat) (qa : Nat → Nat) (X : Tr) (K : Tr) (R : Tr) (P : Tr) (L : Lo) (P2 : Tr) (L2 : Lo) (Tn : Tr) (Ti : Tr) (Tu : Tr) (Tv : Tr) (Z : Tr) (q0 : Nat) (q1 : Nat) (q2 : Nat) (q3 : Nat) (q4 : Nat) (q5 : Nat) (x2 : Int32) (r0 : Int32) (C' : Tr) (H : Heap) (locs : List Loc) (g : JFrame) : Prop := W p l e (headSpec (.code yX0_saveRow cX0_saveRow 3 (some .int) :: T0) ({ frames := 1, cells := 0, slots := 0, locals := 40 } : Room)).room s m ([.ref (ca 0), .ref (va 15), .int x2] : List Value).toArray below meth c H locs 0 0 (MQ below (tqQi G cA (fun (r : Int32) (_ : Unit) => r = r0) (fun (_ : Unit) => wX cA xa ka ra na ia ua va ca za pa qa X K R P L P2 L2 Tn Ti Tu Tv (C') Z q0 q1 q2 q3 q4 q5) A) ([.ref (ca 0), .ref (va 15), .int x2] : List Value).toArray s 0 0 A) g
set_option maxHeartbeats 4000000 in
set_option maxRecDepth 100000 in
theorem c_X0_saveRow_x_va15 (l : Launch) (G : va_G) (cA : Nat → ClassId) (sz : Nat) (xa : Nat → Nat) (ka : Nat → Nat) (ra : Nat → Nat) (na : Nat → Nat) (ia : Nat → Nat) (ua : Nat → Nat) (va : Nat → Nat) (ca : Nat → Nat) (za : Nat → Nat) (pa : Nat → Nat) (qa : Nat → Nat) (X : Tr) (K : Tr) (R : Tr) (P : Tr) (L : Lo) (P2 : Tr) (L2 : Lo) (Tn : Tr) (Ti : Tr) (Tu : Tr) (Tv : Tr) (C : Tr) (Z : Tr) (q0 : Nat) (q1 : Nat) (q2 : Nat) (q3 : Nat) (q4 : Nat) (q5 : Nat) (x2 : Int32)  (r0 : Int32) (C' : Tr) (h : f_X0_saveRow_x_va15 pa qa Tv C x2 = some (r0, C')) : Met l yX0_saveRow (.code yX0_saveRow cX0_saveRow 3 (some .int) :: T0) ({ frames := 1, cells := 0, slots := 0, locals := 40 } : Room) (tqP G cA [.ref (ca 0), .ref (va 15), .int x2] (wX cA xa ka ra na ia ua va ca za pa qa X K R P L P2 L2 Tn Ti Tu Tv C Z q0 q1 q2 q3 q4 q5) sz) (tqQi G cA (fun (r : Int32) (_ : Unit) => r = r0) (fun (_ : Unit) => wX cA xa ka ra na ia ua va ca za pa qa X K R P L P2 L2 Tn Ti Tu Tv (C') Z q0 q1 q2 q3 q4 q5) (va_A (wX cA xa ka ra na ia ua va ca za pa qa X K R P L P2 L2 Tn Ti Tu Tv C Z q0 q1 q2 q3 q4 q5) sz)) 0 0 (va_A (wX cA xa ka ra na ia ua va ca za pa qa X K R P L P2 L2 Tn Ti Tu Tv C Z q0 q1 q2 q3 q4 q5) sz) := by
  refine Met.ofW (cc := cX0_saveRow) (maxL := 3) (ret := (some .int)) (by decide) rfl ?_
  intro p e s m args below meth c s₁ B hml hv
  obtain ⟨rfl, hsz, hP, hK, hD0, hN⟩ := hv
  have hx := B.exec
  have hb := B.bytes
  have hr := B.returns
  have hts := atoms_spec (ws := .code yX0_saveRow cX0_saveRow 3 (some .int) :: T0) B.pre
  have hT : ∀ w ∈ T0, w.before _ s = true := fun w h => hts w (List.mem_cons_of_mem _ h)
  have hown : s.vm.findClass RX0 = some m.cls := findClass_of_methodNamed B.named
  have hlocks := B.notSynchronized
  subst hsz
  have hD := hD0.self (sz := s.heap.size)
  generalize hAe : va_A (wX cA xa ka ra na ia ua va ca za pa qa X K R P L P2 L2 Tn Ti Tu Tv C Z q0 q1 q2 q3 q4 q5) s.heap.size = A at hD ⊢
  have hA : ∀ q : Nat, s.heap.size ≤ q → A q := fun q h => by rw [← hAe]; exact Or.inr h
  have hS : va_S A s.heap s.heap [] := va_S.rf
  have hl := lv_entry ([.ref (ca 0), .ref (va 15), .int x2]) (n := 3) (Nat.le_of_ble_eq_true rfl)
  rw [lg_entry_eq]
  generalize (lg_sl ([.ref (ca 0), .ref (va 15), .int x2]) ++ List.replicate (3 - (lg_sl ([.ref (ca 0), .ref (va 15), .int x2])).length) Slot.unset).toArray = ls at hl ⊢
  have hl : lv_has ls 3 [(0, .ref (ca 0)), (1, .ref (va 15)), (2, .int x2)] := hl
  have F : tF p s m ([.ref (ca 0), .ref (va 15), .int x2] : List Value).toArray meth c G cA A RX0 cX0_saveRow 3 (some .int) := ⟨hx, hb, hr, hml, hT, hown, hlocks, hK, hN, hA⟩
  obtain ⟨H, hH⟩ : ∃ z, z = s.heap := ⟨_, rfl⟩
  rw [← hH] at hP
  have hS : va_S A s.heap H [] := by rw [hH]; exact hS
  suffices hgo : G_X0_saveRow_x_va15 p l e s m below meth c G cA A xa ka ra na ia ua va ca za pa qa X K R P L P2 L2 Tn Ti Tu Tv Z q0 q1 q2 q3 q4 q5 x2 r0 C' H [] (F0 m 0 ls []) by rw [hH] at hgo; exact hgo
  generalize ([] : List Loc) = locs at hS ⊢
  unfold f_X0_saveRow_x_va15 at h
  refine lv_aload_n hx hb dX0_saveRow_0 rfl (lv_at hl 1 rfl) ?_
  refine lv_iconst (v := 0) hx hb dX0_saveRow_1 (by decide) ?_
  refine lv_aload_n hx hb dX0_saveRow_2 rfl (lv_at hl 0 rfl) ?_
  refine va_get (D := G) (ci := 0) (v := .ref (ca 3)) (C := RX0) (T := TX0) (N := 3) hx hb hT ku_0 hown hK hP 101 rfl rfl 2 (by decide) (hT _ kw_8_18) (fun _ h9 => h9) rfl dX0_saveRow_3 ?_
  refine lv_iload_n hx hb dX0_saveRow_6 rfl (lv_at hl 2 rfl) ?_
  refine lv_aload_n hx hb dX0_saveRow_7 rfl (lv_at hl 1 rfl) ?_
  refine va_alen (v := 10) hx hb hK hP 96 0 rfl rfl (by decide) dX0_saveRow_8 ?_
  obtain ⟨g1, h⟩ := tx_ck h
  refine va_copyi (ty := .int) (sp := 0) (dp := x2) (n := 10) hx hb (hml.trans hl.1.symm) hown (hT _ kw_36_14) (hT _ kw_36_15) (hT _ kw_36_16) (hT _ kw_36_17) hK hP hD hS 96 102 0 0 rfl rfl rfl rfl rfl (tx_cp g1).1 (tx_cp g1).2.1 (tx_cp g1).2.2.1 (tx_cp g1).2.2.2.1 (tx_cp g1).2.2.2.2 (fun _ _ => rfl) (Nat.le_of_ble_eq_true rfl) (by decide) dX0_saveRow_9 (fun H locs hP hD hS => ?_)
  try rw [show (0 : Int32).toNatClampNeg = 0 from rfl] at hP hD
  try rw [show (10 : Int32).toNatClampNeg = 10 from rfl] at hP hD
  obtain ⟨C_2, eC_2, h⟩ := tx_lt h
  rw [sX_ca_c2, eC_2] at hP hD
  refine lv_iload_n hx hb dX0_saveRow_12 rfl (lv_at hl 2 rfl) ?_
  refine lv_aload_n hx hb dX0_saveRow_13 rfl (lv_at hl 1 rfl) ?_
  refine va_alen (v := 10) hx hb hK hP 96 0 rfl rfl (by decide) dX0_saveRow_14 ?_
  refine lv_iadd hx hb dX0_saveRow_15 ?_
  obtain ⟨rfl, rfl⟩ := tx_2 h
  exact W.iret hx hb hr (fun t ht hW => ⟨⟨_, (), rfl, rfl, by rw [ht]; exact hP, hD⟩, hS.F ht⟩) hS.2.2 dX0_saveRow_16
abbrev G_X0_saveRow_x_va10 (p : Program) (l : Launch) (e : Env) (s : State) (m : MethodId) (below : List Frame) (meth : Method) (c : Code) (G : va_G) (cA : Nat → ClassId) (A : Nat → Prop) (xa : Nat → Nat) (ka : Nat → Nat) (ra : Nat → Nat) (na : Nat → Nat) (ia : Nat → Nat) (ua : Nat → Nat) (va : Nat → Nat) (ca : Nat → Nat) (za : Nat → Nat) (pa : Nat → Nat) (qa : Nat → Nat) (X : Tr) (K : Tr) (R : Tr) (P : Tr) (L : Lo) (P2 : Tr) (L2 : Lo) (Tn : Tr) (Ti : Tr) (Tu : Tr) (Tv : Tr) (Z : Tr) (q0 : Nat) (q1 : Nat) (q2 : Nat) (q3 : Nat) (q4 : Nat) (q5 : Nat) (x2 : Int32) (r0 : Int32) (C' : Tr) (H : Heap) (locs : List Loc) (g : JFrame) : Prop := W p l e (headSpec (.code yX0_saveRow cX0_saveRow 3 (some .int) :: T0) ({ frames := 1, cells := 0, slots := 0, locals := 40 } : Room)).room s m ([.ref (ca 0), .ref (va 10), .int x2] : List Value).toArray below meth c H locs 0 0 (MQ below (tqQi G cA (fun (r : Int32) (_ : Unit) => r = r0) (fun (_ : Unit) => wX cA xa ka ra na ia ua va ca za pa qa X K R P L P2 L2 Tn Ti Tu Tv (C') Z q0 q1 q2 q3 q4 q5) A) ([.ref (ca 0), .ref (va 10), .int x2] : List Value).toArray s 0 0 A) g
set_option maxHeartbeats 4000000 in
set_option maxRecDepth 100000 in
theorem c_X0_saveRow_x_va10 (l : Launch) (G : va_G) (cA : Nat → ClassId) (sz : Nat) (xa : Nat → Nat) (ka : Nat → Nat) (ra : Nat → Nat) (na : Nat → Nat) (ia : Nat → Nat) (ua : Nat → Nat) (va : Nat → Nat) (ca : Nat → Nat) (za : Nat → Nat) (pa : Nat → Nat) (qa : Nat → Nat) (X : Tr) (K : Tr) (R : Tr) (P : Tr) (L : Lo) (P2 : Tr) (L2 : Lo) (Tn : Tr) (Ti : Tr) (Tu : Tr) (Tv : Tr) (C : Tr) (Z : Tr) (q0 : Nat) (q1 : Nat) (q2 : Nat) (q3 : Nat) (q4 : Nat) (q5 : Nat) (x2 : Int32)  (r0 : Int32) (C' : Tr) (h : f_X0_saveRow_x_va10 pa qa Tv C x2 = some (r0, C')) : Met l yX0_saveRow (.code yX0_saveRow cX0_saveRow 3 (some .int) :: T0) ({ frames := 1, cells := 0, slots := 0, locals := 40 } : Room) (tqP G cA [.ref (ca 0), .ref (va 10), .int x2] (wX cA xa ka ra na ia ua va ca za pa qa X K R P L P2 L2 Tn Ti Tu Tv C Z q0 q1 q2 q3 q4 q5) sz) (tqQi G cA (fun (r : Int32) (_ : Unit) => r = r0) (fun (_ : Unit) => wX cA xa ka ra na ia ua va ca za pa qa X K R P L P2 L2 Tn Ti Tu Tv (C') Z q0 q1 q2 q3 q4 q5) (va_A (wX cA xa ka ra na ia ua va ca za pa qa X K R P L P2 L2 Tn Ti Tu Tv C Z q0 q1 q2 q3 q4 q5) sz)) 0 0 (va_A (wX cA xa ka ra na ia ua va ca za pa qa X K R P L P2 L2 Tn Ti Tu Tv C Z q0 q1 q2 q3 q4 q5) sz) := by
  refine Met.ofW (cc := cX0_saveRow) (maxL := 3) (ret := (some .int)) (by decide) rfl ?_
  intro p e s m args below meth c s₁ B hml hv
  obtain ⟨rfl, hsz, hP, hK, hD0, hN⟩ := hv
  have hx := B.exec
  have hb := B.bytes
  have hr := B.returns
  have hts := atoms_spec (ws := .code yX0_saveRow cX0_saveRow 3 (some .int) :: T0) B.pre
  have hT : ∀ w ∈ T0, w.before _ s = true := fun w h => hts w (List.mem_cons_of_mem _ h)
  have hown : s.vm.findClass RX0 = some m.cls := findClass_of_methodNamed B.named
  have hlocks := B.notSynchronized
  subst hsz
  have hD := hD0.self (sz := s.heap.size)
  generalize hAe : va_A (wX cA xa ka ra na ia ua va ca za pa qa X K R P L P2 L2 Tn Ti Tu Tv C Z q0 q1 q2 q3 q4 q5) s.heap.size = A at hD ⊢
  have hA : ∀ q : Nat, s.heap.size ≤ q → A q := fun q h => by rw [← hAe]; exact Or.inr h
  have hS : va_S A s.heap s.heap [] := va_S.rf
  have hl := lv_entry ([.ref (ca 0), .ref (va 10), .int x2]) (n := 3) (Nat.le_of_ble_eq_true rfl)
  rw [lg_entry_eq]
  generalize (lg_sl ([.ref (ca 0), .ref (va 10), .int x2]) ++ List.replicate (3 - (lg_sl ([.ref (ca 0), .ref (va 10), .int x2])).length) Slot.unset).toArray = ls at hl ⊢
  have hl : lv_has ls 3 [(0, .ref (ca 0)), (1, .ref (va 10)), (2, .int x2)] := hl
  have F : tF p s m ([.ref (ca 0), .ref (va 10), .int x2] : List Value).toArray meth c G cA A RX0 cX0_saveRow 3 (some .int) := ⟨hx, hb, hr, hml, hT, hown, hlocks, hK, hN, hA⟩
  obtain ⟨H, hH⟩ : ∃ z, z = s.heap := ⟨_, rfl⟩
  rw [← hH] at hP
  have hS : va_S A s.heap H [] := by rw [hH]; exact hS
  suffices hgo : G_X0_saveRow_x_va10 p l e s m below meth c G cA A xa ka ra na ia ua va ca za pa qa X K R P L P2 L2 Tn Ti Tu Tv Z q0 q1 q2 q3 q4 q5 x2 r0 C' H [] (F0 m 0 ls []) by rw [hH] at hgo; exact hgo
  generalize ([] : List Loc) = locs at hS ⊢
  unfold f_X0_saveRow_x_va10 at h
  refine lv_aload_n hx hb dX0_saveRow_0 rfl (lv_at hl 1 rfl) ?_
  refine lv_iconst (v := 0) hx hb dX0_saveRow_1 (by decide) ?_
  refine lv_aload_n hx hb dX0_saveRow_2 rfl (lv_at hl 0 rfl) ?_
  refine va_get (D := G) (ci := 0) (v := .ref (ca 3)) (C := RX0) (T := TX0) (N := 3) hx hb hT ku_0 hown hK hP 101 rfl rfl 2 (by decide) (hT _ kw_8_18) (fun _ h9 => h9) rfl dX0_saveRow_3 ?_
  refine lv_iload_n hx hb dX0_saveRow_6 rfl (lv_at hl 2 rfl) ?_
  refine lv_aload_n hx hb dX0_saveRow_7 rfl (lv_at hl 1 rfl) ?_
  refine va_alen (v := 6) hx hb hK hP 91 0 rfl rfl (by decide) dX0_saveRow_8 ?_
  obtain ⟨g1, h⟩ := tx_ck h
  refine va_copyi (ty := .int) (sp := 0) (dp := x2) (n := 6) hx hb (hml.trans hl.1.symm) hown (hT _ kw_36_14) (hT _ kw_36_15) (hT _ kw_36_16) (hT _ kw_36_17) hK hP hD hS 91 102 0 0 rfl rfl rfl rfl rfl (tx_cp g1).1 (tx_cp g1).2.1 (tx_cp g1).2.2.1 (tx_cp g1).2.2.2.1 (tx_cp g1).2.2.2.2 (fun _ _ => rfl) (Nat.le_of_ble_eq_true rfl) (by decide) dX0_saveRow_9 (fun H locs hP hD hS => ?_)
  try rw [show (0 : Int32).toNatClampNeg = 0 from rfl] at hP hD
  try rw [show (6 : Int32).toNatClampNeg = 6 from rfl] at hP hD
  obtain ⟨C_2, eC_2, h⟩ := tx_lt h
  rw [sX_ca_c2, eC_2] at hP hD
  refine lv_iload_n hx hb dX0_saveRow_12 rfl (lv_at hl 2 rfl) ?_
  refine lv_aload_n hx hb dX0_saveRow_13 rfl (lv_at hl 1 rfl) ?_
  refine va_alen (v := 6) hx hb hK hP 91 0 rfl rfl (by decide) dX0_saveRow_14 ?_
  refine lv_iadd hx hb dX0_saveRow_15 ?_
  obtain ⟨rfl, rfl⟩ := tx_2 h
  exact W.iret hx hb hr (fun t ht hW => ⟨⟨_, (), rfl, rfl, by rw [ht]; exact hP, hD⟩, hS.F ht⟩) hS.2.2 dX0_saveRow_16
abbrev G_X0_save_x_va0 (p : Program) (l : Launch) (e : Env) (s : State) (m : MethodId) (below : List Frame) (meth : Method) (c : Code) (G : va_G) (cA : Nat → ClassId) (A : Nat → Prop) (xa : Nat → Nat) (ka : Nat → Nat) (ra : Nat → Nat) (na : Nat → Nat) (ia : Nat → Nat) (ua : Nat → Nat) (va : Nat → Nat) (ca : Nat → Nat) (za : Nat → Nat) (pa : Nat → Nat) (qa : Nat → Nat) (X : Tr) (K : Tr) (R : Tr) (P : Tr) (L : Lo) (P2 : Tr) (L2 : Lo) (Tn : Tr) (Ti : Tr) (Tu : Tr) (Tv : Tr) (Z : Tr) (q0 : Nat) (q1 : Nat) (q2 : Nat) (q3 : Nat) (q4 : Nat) (q5 : Nat) (C' : Tr) (H : Heap) (locs : List Loc) (g : JFrame) : Prop := W p l e (headSpec (.code yX0_save cX0_save 3 none :: T0) ({ frames := 2, cells := 0, slots := 0, locals := 62 } : Room)).room s m ([.ref (ca 0), .ref (va 0)] : List Value).toArray below meth c H locs 0 0 (MQ below (tqQv G cA (fun (_ : Unit) => True) (fun (_ : Unit) => wX cA xa ka ra na ia ua va ca za pa qa X K R P L P2 L2 Tn Ti Tu Tv (C') Z q0 q1 q2 q3 q4 q5) A) ([.ref (ca 0), .ref (va 0)] : List Value).toArray s 0 0 A) g
set_option maxHeartbeats 4000000 in
set_option maxRecDepth 100000 in
theorem w_X0_save_x_va0_J92 {p : Program} {l : Launch} {e : Env} {s : State} {m : MethodId} {below : List Frame} {meth : Method} {c : Code} {G : va_G} {cA : Nat → ClassId} {A : Nat → Prop} {xa : Nat → Nat} {ka : Nat → Nat} {ra : Nat → Nat} {na : Nat → Nat} {ia : Nat → Nat} {ua : Nat → Nat} {va : Nat → Nat} {ca : Nat → Nat} {za : Nat → Nat} {pa : Nat → Nat} {qa : Nat → Nat} {X : Tr} {K : Tr} {R : Tr} {P : Tr} {L : Lo} {P2 : Tr} {L2 : Lo} {Tn : Tr} {Ti : Tr} {Tu : Tr} {Tv : Tr} {Z : Tr} {q0 : Nat} {q1 : Nat} {q2 : Nat} {q3 : Nat} {q4 : Nat} {q5 : Nat} {C' : Tr} (F : tF p s m ([.ref (ca 0), .ref (va 0)] : List Value).toArray meth c G cA A RX0 cX0_save 3 none)    (s0 : Int32) (C : Tr) (H : Heap) (locs : List Loc) (ls : Array Slot) (h : fJ_X0_save_x_va0_J92 pa qa Tv s0 C = some C') (hP : va_P G vwCl (wX cA xa ka ra na ia ua va ca za pa qa X K R P L P2 L2 Tn Ti Tu Tv C_24 Z q0 q1 q2 q3 q4 q5) H) (hD : va_D A (wX cA xa ka ra na ia ua va ca za pa qa X K R P L P2 L2 Tn Ti Tu Tv C_24 Z q0 q1 q2 q3 q4 q5)) (hS : va_S A s.heap H locs) (hl : lv_has ls 3 []) : G_X0_save_x_va0 p l e s m below meth c G cA A xa ka ra na ia ua va ca za pa qa X K R P L P2 L2 Tn Ti Tu Tv Z q0 q1 q2 q3 q4 q5 C' H locs (F0 m 92 ls []) := by
  obtain ⟨hx, hb, hr, hml, hT, hown, hlocks, hK, hN, hA⟩ := id F
  unfold fJ_X0_save_x_va0_J92 at h
  refine va_put (D := G) (ci := 0) (v := .int s0) (ty := .int) (C := RX0) (T := TX0) (N := 3) hx hb hT ku_0 tyX0 tyX0_ok nmX0 hown hK hP hD hS 101 rfl rfl 0 (by decide) (hT _ kw_8_16) (fun _ h9 => h9) rfl (by decide +kernel) rfl rfl (Nat.le_of_ble_eq_true rfl) dX0_save_92 (fun H locs hP hD hS => ?_)
  obtain ⟨C_24, eC_24, h⟩ := tx_lt h
  rw [sX_ca_f0, eC_24] at hP hD
  obtain rfl := tx_1 h
  exact W.vret hx hb hr (fun t ht hW => ⟨⟨(), rfl, trivial, by rw [ht]; exact hP, hD⟩, hS.F ht⟩) hS.2.2 dX0_save_95
set_option maxHeartbeats 4000000 in
set_option maxRecDepth 100000 in
theorem c_X0_save_x_va0 (l : Launch) (G : va_G) (cA : Nat → ClassId) (sz : Nat) (xa : Nat → Nat) (ka : Nat → Nat) (ra : Nat → Nat) (na : Nat → Nat) (ia : Nat → Nat) (ua : Nat → Nat) (va : Nat → Nat) (ca : Nat → Nat) (za : Nat → Nat) (pa : Nat → Nat) (qa : Nat → Nat) (X : Tr) (K : Tr) (R : Tr) (P : Tr) (L : Lo) (P2 : Tr) (L2 : Lo) (Tn : Tr) (Ti : Tr) (Tu : Tr) (Tv : Tr) (C : Tr) (Z : Tr) (q0 : Nat) (q1 : Nat) (q2 : Nat) (q3 : Nat) (q4 : Nat) (q5 : Nat)  (C' : Tr) (h : f_X0_save_x_va0 pa qa Tv C = some C') : Met l yX0_save (.code yX0_save cX0_save 3 none :: T0) ({ frames := 2, cells := 0, slots := 0, locals := 62 } : Room) (tqP G cA [.ref (ca 0), .ref (va 0)] (wX cA xa ka ra na ia ua va ca za pa qa X K R P L P2 L2 Tn Ti Tu Tv C Z q0 q1 q2 q3 q4 q5) sz) (tqQv G cA (fun (_ : Unit) => True) (fun (_ : Unit) => wX cA xa ka ra na ia ua va ca za pa qa X K R P L P2 L2 Tn Ti Tu Tv (C') Z q0 q1 q2 q3 q4 q5) (va_A (wX cA xa ka ra na ia ua va ca za pa qa X K R P L P2 L2 Tn Ti Tu Tv C Z q0 q1 q2 q3 q4 q5) sz)) 0 0 (va_A (wX cA xa ka ra na ia ua va ca za pa qa X K R P L P2 L2 Tn Ti Tu Tv C Z q0 q1 q2 q3 q4 q5) sz) := by
  refine Met.ofW (cc := cX0_save) (maxL := 3) (ret := none) (by decide) rfl ?_
  intro p e s m args below meth c s₁ B hml hv
  obtain ⟨rfl, hsz, hP, hK, hD0, hN⟩ := hv
  have hx := B.exec
  have hb := B.bytes
  have hr := B.returns
  have hts := atoms_spec (ws := .code yX0_save cX0_save 3 none :: T0) B.pre
  have hT : ∀ w ∈ T0, w.before _ s = true := fun w h => hts w (List.mem_cons_of_mem _ h)
  have hown : s.vm.findClass RX0 = some m.cls := findClass_of_methodNamed B.named
  have hlocks := B.notSynchronized
  subst hsz
  have hD := hD0.self (sz := s.heap.size)
  generalize hAe : va_A (wX cA xa ka ra na ia ua va ca za pa qa X K R P L P2 L2 Tn Ti Tu Tv C Z q0 q1 q2 q3 q4 q5) s.heap.size = A at hD ⊢
  have hA : ∀ q : Nat, s.heap.size ≤ q → A q := fun q h => by rw [← hAe]; exact Or.inr h
  have hS : va_S A s.heap s.heap [] := va_S.rf
  have hl := lv_entry ([.ref (ca 0), .ref (va 0)]) (n := 3) (Nat.le_of_ble_eq_true rfl)
  rw [lg_entry_eq]
  generalize (lg_sl ([.ref (ca 0), .ref (va 0)]) ++ List.replicate (3 - (lg_sl ([.ref (ca 0), .ref (va 0)])).length) Slot.unset).toArray = ls at hl ⊢
  have hl : lv_has ls 3 [(0, .ref (ca 0)), (1, .ref (va 0))] := hl
  have F : tF p s m ([.ref (ca 0), .ref (va 0)] : List Value).toArray meth c G cA A RX0 cX0_save 3 none := ⟨hx, hb, hr, hml, hT, hown, hlocks, hK, hN, hA⟩
  obtain ⟨H, hH⟩ : ∃ z, z = s.heap := ⟨_, rfl⟩
  rw [← hH] at hP
  have hS : va_S A s.heap H [] := by rw [hH]; exact hS
  suffices hgo : G_X0_save_x_va0 p l e s m below meth c G cA A xa ka ra na ia ua va ca za pa qa X K R P L P2 L2 Tn Ti Tu Tv Z q0 q1 q2 q3 q4 q5 C' H [] (F0 m 0 ls []) by rw [hH] at hgo; exact hgo
  generalize ([] : List Loc) = locs at hS ⊢
  unfold f_X0_save_x_va0 at h
  refine lv_aload_n hx hb dX0_save_0 rfl (lv_at hl 0 rfl) ?_
  refine va_get (D := G) (ci := 0) (v := .int (C 0 1)) (C := RX0) (T := TX0) (N := 3) hx hb hT ku_0 hown hK hP 101 rfl rfl 1 (by decide) (hT _ kw_8_17) (fun _ h9 => h9) rfl dX0_save_1 ?_
  refine lv_bipush (v := 76) hx hb dX0_save_4 (by decide) ?_
  refine lv_imul hx hb dX0_save_6 ?_
  refine lv_topi (fun y1 ey1 => ?_)
  have h := tx_let ey1 h
  refine lv_istore_n (lv' := [(2, .int y1), (0, .ref (ca 0)), (1, .ref (va 0))]) hx hb dX0_save_7 rfl hl (by decide) rfl (fun ls hl => ?_)
  refine lv_aload_n hx hb dX0_save_8 rfl (lv_at hl 1 rfl) ?_
  refine lv_aload_n hx hb dX0_save_9 rfl (lv_at hl 2 rfl) ?_
  refine va_get (D := G) (ci := 6) (v := .ref (va 16)) (C := RX6) (T := TX6) (N := 20) hx hb hT ku_6 hown hK hP 89 rfl rfl 15 (by decide) (hT _ kw_36_5) (fun _ h9 => h9) rfl dX0_save_10 ?_
  refine lv_iload_n hx hb dX0_save_13 rfl (lv_at hl 0 rfl) ?_
  obtain ⟨⟨r2, C_3⟩, hc4, h⟩ := tx_bd h
  replace h := tx_let (y := r2) rfl h
  replace h := tx_let (y := C_3) rfl h
  refine tw_ci tw_all hP hD hS hA (va_runV (As := [.ref (va 16), .int y1]) (rest := []) ⟨hx, hb, hml, hown, hT⟩ (c_X0_saveRow_x_va16 l G cA H.size xa ka ra na ia ua va ca za pa qa X K R P L P2 L2 Tn Ti Tu Tv C Z q0 q1 q2 q3 q4 q5 y1  r2 C_3 hc4) (cwV 2 hT (tq_gV kw_36_10 kw_36_11 kw_36_12 kw_2_7 kw_36_13) rfl rfl rfl (by decide +kernel) ⟨Nat.le_of_ble_eq_true rfl, Nat.le_of_ble_eq_true rfl⟩) ⟨(tw_pre tw_all hP hD hK hN).1, va_recv hK hP (ci := 0) (q0 := 101) rfl rfl, (tw_pre tw_all hP hD hK hN).2⟩ rfl rfl hl.1 rfl (lv_room (Nat.le_of_ble_eq_true rfl)) dX0_save_14 ⟨Nat.le_of_ble_eq_true rfl, Nat.le_of_ble_eq_true rfl⟩) (fun _ _ H locs z5 hP hD hS => ?_)
  subst z5
  rw [List.append_nil] at hP hD
  have hP : va_P G vwCl (wX cA xa ka ra na ia ua va ca za pa qa X K R P L P2 L2 Tn Ti Tu Tv C_3 Z q0 q1 q2 q3 q4 q5) H := hP
  have hD : va_D A (wX cA xa ka ra na ia ua va ca za pa qa X K R P L P2 L2 Tn Ti Tu Tv C_3 Z q0 q1 q2 q3 q4 q5) := hD
  refine lv_istore_n (lv' := [(2, .int r2), (0, .ref (ca 0)), (1, .ref (va 0))]) hx hb dX0_save_17 rfl hl (by decide) rfl (fun ls hl => ?_)
  refine lv_aload_n hx hb dX0_save_18 rfl (lv_at hl 1 rfl) ?_
  refine lv_aload_n hx hb dX0_save_19 rfl (lv_at hl 2 rfl) ?_
  refine va_get (D := G) (ci := 6) (v := .ref (va 17)) (C := RX6) (T := TX6) (N := 20) hx hb hT ku_6 hown hK hP 89 rfl rfl 16 (by decide) (hT _ kw_36_6) (fun _ h9 => h9) rfl dX0_save_20 ?_
  refine lv_iload_n hx hb dX0_save_23 rfl (lv_at hl 0 rfl) ?_
  obtain ⟨⟨r6, C_7⟩, hc8, h⟩ := tx_bd h
  replace h := tx_let (y := r6) rfl h
  replace h := tx_let (y := C_7) rfl h
  refine tw_ci tw_all hP hD hS hA (va_runV (As := [.ref (va 17), .int r2]) (rest := []) ⟨hx, hb, hml, hown, hT⟩ (c_X0_saveRow_x_va17 l G cA H.size xa ka ra na ia ua va ca za pa qa X K R P L P2 L2 Tn Ti Tu Tv C_3 Z q0 q1 q2 q3 q4 q5 r2  r6 C_7 hc8) (cwV 2 hT (tq_gV kw_36_10 kw_36_11 kw_36_12 kw_2_7 kw_36_13) rfl rfl rfl (by decide +kernel) ⟨Nat.le_of_ble_eq_true rfl, Nat.le_of_ble_eq_true rfl⟩) ⟨(tw_pre tw_all hP hD hK hN).1, va_recv hK hP (ci := 0) (q0 := 101) rfl rfl, (tw_pre tw_all hP hD hK hN).2⟩ rfl rfl hl.1 rfl (lv_room (Nat.le_of_ble_eq_true rfl)) dX0_save_24 ⟨Nat.le_of_ble_eq_true rfl, Nat.le_of_ble_eq_true rfl⟩) (fun _ _ H locs z9 hP hD hS => ?_)
  subst z9
  rw [List.append_nil] at hP hD
  have hP : va_P G vwCl (wX cA xa ka ra na ia ua va ca za pa qa X K R P L P2 L2 Tn Ti Tu Tv C_7 Z q0 q1 q2 q3 q4 q5) H := hP
  have hD : va_D A (wX cA xa ka ra na ia ua va ca za pa qa X K R P L P2 L2 Tn Ti Tu Tv C_7 Z q0 q1 q2 q3 q4 q5) := hD
  refine lv_istore_n (lv' := [(2, .int r6), (0, .ref (ca 0)), (1, .ref (va 0))]) hx hb dX0_save_27 rfl hl (by decide) rfl (fun ls hl => ?_)
  refine lv_aload_n hx hb dX0_save_28 rfl (lv_at hl 1 rfl) ?_
  refine lv_aload_n hx hb dX0_save_29 rfl (lv_at hl 2 rfl) ?_
  refine va_get (D := G) (ci := 6) (v := .ref (va 18)) (C := RX6) (T := TX6) (N := 20) hx hb hT ku_6 hown hK hP 89 rfl rfl 17 (by decide) (hT _ kw_36_7) (fun _ h9 => h9) rfl dX0_save_30 ?_
  refine lv_iload_n hx hb dX0_save_33 rfl (lv_at hl 0 rfl) ?_
  obtain ⟨⟨r10, C_11⟩, hc12, h⟩ := tx_bd h
  replace h := tx_let (y := r10) rfl h
  replace h := tx_let (y := C_11) rfl h
  refine tw_ci tw_all hP hD hS hA (va_runV (As := [.ref (va 18), .int r6]) (rest := []) ⟨hx, hb, hml, hown, hT⟩ (c_X0_saveRow_x_va18 l G cA H.size xa ka ra na ia ua va ca za pa qa X K R P L P2 L2 Tn Ti Tu Tv C_7 Z q0 q1 q2 q3 q4 q5 r6  r10 C_11 hc12) (cwV 2 hT (tq_gV kw_36_10 kw_36_11 kw_36_12 kw_2_7 kw_36_13) rfl rfl rfl (by decide +kernel) ⟨Nat.le_of_ble_eq_true rfl, Nat.le_of_ble_eq_true rfl⟩) ⟨(tw_pre tw_all hP hD hK hN).1, va_recv hK hP (ci := 0) (q0 := 101) rfl rfl, (tw_pre tw_all hP hD hK hN).2⟩ rfl rfl hl.1 rfl (lv_room (Nat.le_of_ble_eq_true rfl)) dX0_save_34 ⟨Nat.le_of_ble_eq_true rfl, Nat.le_of_ble_eq_true rfl⟩) (fun _ _ H locs z13 hP hD hS => ?_)
  subst z13
  rw [List.append_nil] at hP hD
  have hP : va_P G vwCl (wX cA xa ka ra na ia ua va ca za pa qa X K R P L P2 L2 Tn Ti Tu Tv C_11 Z q0 q1 q2 q3 q4 q5) H := hP
  have hD : va_D A (wX cA xa ka ra na ia ua va ca za pa qa X K R P L P2 L2 Tn Ti Tu Tv C_11 Z q0 q1 q2 q3 q4 q5) := hD
  refine lv_istore_n (lv' := [(2, .int r10), (0, .ref (ca 0)), (1, .ref (va 0))]) hx hb dX0_save_37 rfl hl (by decide) rfl (fun ls hl => ?_)
  refine lv_aload_n hx hb dX0_save_38 rfl (lv_at hl 1 rfl) ?_
  refine lv_aload_n hx hb dX0_save_39 rfl (lv_at hl 2 rfl) ?_
  refine va_get (D := G) (ci := 6) (v := .ref (va 15)) (C := RX6) (T := TX6) (N := 20) hx hb hT ku_6 hown hK hP 89 rfl rfl 14 (by decide) (hT _ kw_36_8) (fun _ h9 => h9) rfl dX0_save_40 ?_
  refine lv_iload_n hx hb dX0_save_43 rfl (lv_at hl 0 rfl) ?_
  obtain ⟨⟨r14, C_15⟩, hc16, h⟩ := tx_bd h
  replace h := tx_let (y := r14) rfl h
  replace h := tx_let (y := C_15) rfl h
  refine tw_ci tw_all hP hD hS hA (va_runV (As := [.ref (va 15), .int r10]) (rest := []) ⟨hx, hb, hml, hown, hT⟩ (c_X0_saveRow_x_va15 l G cA H.size xa ka ra na ia ua va ca za pa qa X K R P L P2 L2 Tn Ti Tu Tv C_11 Z q0 q1 q2 q3 q4 q5 r10  r14 C_15 hc16) (cwV 2 hT (tq_gV kw_36_10 kw_36_11 kw_36_12 kw_2_7 kw_36_13) rfl rfl rfl (by decide +kernel) ⟨Nat.le_of_ble_eq_true rfl, Nat.le_of_ble_eq_true rfl⟩) ⟨(tw_pre tw_all hP hD hK hN).1, va_recv hK hP (ci := 0) (q0 := 101) rfl rfl, (tw_pre tw_all hP hD hK hN).2⟩ rfl rfl hl.1 rfl (lv_room (Nat.le_of_ble_eq_true rfl)) dX0_save_44 ⟨Nat.le_of_ble_eq_true rfl, Nat.le_of_ble_eq_true rfl⟩) (fun _ _ H locs z17 hP hD hS => ?_)
  subst z17
  rw [List.append_nil] at hP hD
  have hP : va_P G vwCl (wX cA xa ka ra na ia ua va ca za pa qa X K R P L P2 L2 Tn Ti Tu Tv C_15 Z q0 q1 q2 q3 q4 q5) H := hP
  have hD : va_D A (wX cA xa ka ra na ia ua va ca za pa qa X K R P L P2 L2 Tn Ti Tu Tv C_15 Z q0 q1 q2 q3 q4 q5) := hD
  refine lv_istore_n (lv' := [(2, .int r14), (0, .ref (ca 0)), (1, .ref (va 0))]) hx hb dX0_save_47 rfl hl (by decide) rfl (fun ls hl => ?_)
  refine lv_aload_n hx hb dX0_save_48 rfl (lv_at hl 1 rfl) ?_
  refine lv_aload_n hx hb dX0_save_49 rfl (lv_at hl 2 rfl) ?_
  refine va_get (D := G) (ci := 6) (v := .ref (va 10)) (C := RX6) (T := TX6) (N := 20) hx hb hT ku_6 hown hK hP 89 rfl rfl 9 (by decide) (hT _ kw_36_9) (fun _ h9 => h9) rfl dX0_save_50 ?_
  refine lv_iload_n hx hb dX0_save_53 rfl (lv_at hl 0 rfl) ?_
  obtain ⟨⟨r18, C_19⟩, hc20, h⟩ := tx_bd h
  replace h := tx_let (y := r18) rfl h
  replace h := tx_let (y := C_19) rfl h
  refine tw_ci tw_all hP hD hS hA (va_runV (As := [.ref (va 10), .int r14]) (rest := []) ⟨hx, hb, hml, hown, hT⟩ (c_X0_saveRow_x_va10 l G cA H.size xa ka ra na ia ua va ca za pa qa X K R P L P2 L2 Tn Ti Tu Tv C_15 Z q0 q1 q2 q3 q4 q5 r14  r18 C_19 hc20) (cwV 2 hT (tq_gV kw_36_10 kw_36_11 kw_36_12 kw_2_7 kw_36_13) rfl rfl rfl (by decide +kernel) ⟨Nat.le_of_ble_eq_true rfl, Nat.le_of_ble_eq_true rfl⟩) ⟨(tw_pre tw_all hP hD hK hN).1, va_recv hK hP (ci := 0) (q0 := 101) rfl rfl, (tw_pre tw_all hP hD hK hN).2⟩ rfl rfl hl.1 rfl (lv_room (Nat.le_of_ble_eq_true rfl)) dX0_save_54 ⟨Nat.le_of_ble_eq_true rfl, Nat.le_of_ble_eq_true rfl⟩) (fun _ _ H locs z21 hP hD hS => ?_)
  subst z21
  rw [List.append_nil] at hP hD
  have hP : va_P G vwCl (wX cA xa ka ra na ia ua va ca za pa qa X K R P L P2 L2 Tn Ti Tu Tv C_19 Z q0 q1 q2 q3 q4 q5) H := hP
  have hD : va_D A (wX cA xa ka ra na ia ua va ca za pa qa X K R P L P2 L2 Tn Ti Tu Tv C_19 Z q0 q1 q2 q3 q4 q5) := hD
  refine lv_pop hx hb dX0_save_57 rfl ?_
  refine lv_aload_n hx hb dX0_save_58 rfl (lv_at hl 1 rfl) ?_
  refine lv_aload_n hx hb dX0_save_59 rfl (lv_at hl 1 rfl) ?_
  refine va_get (D := G) (ci := 0) (v := .int (C_19 0 1)) (C := RX0) (T := TX0) (N := 3) hx hb hT ku_0 hown hK hP 101 rfl rfl 1 (by decide) (hT _ kw_8_17) (fun _ h9 => h9) rfl dX0_save_60 ?_
  refine lv_iconst (v := 1) hx hb dX0_save_63 (by decide) ?_
  refine lv_iadd hx hb dX0_save_64 ?_
  refine lv_bipush (v := 20) hx hb dX0_save_65 (by decide) ?_
  refine lv_irem hx hb dX0_save_67 (by decide) ?_
  refine va_put (D := G) (ci := 0) (v := .int (((C_19 0 1) + 1) - ((C_19 0 1) + 1) / 20 * 20)) (ty := .int) (C := RX0) (T := TX0) (N := 3) hx hb hT ku_0 tyX0 tyX0_ok nmX0 hown hK hP hD hS 101 rfl rfl 1 (by decide) (hT _ kw_8_17) (fun _ h9 => h9) rfl (by decide +kernel) rfl rfl (Nat.le_of_ble_eq_true rfl) dX0_save_68 (fun H locs hP hD hS => ?_)
  obtain ⟨C_22, eC_22, h⟩ := tx_lt h
  rw [sX_ca_f1, eC_22] at hP hD
  refine lv_aload_n hx hb dX0_save_71 rfl (lv_at hl 1 rfl) ?_
  refine lv_aload_n hx hb dX0_save_72 rfl (lv_at hl 1 rfl) ?_
  refine va_get (D := G) (ci := 0) (v := .int (C_22 0 0)) (C := RX0) (T := TX0) (N := 3) hx hb hT ku_0 hown hK hP 101 rfl rfl 0 (by decide) (hT _ kw_8_16) (fun _ h9 => h9) rfl dX0_save_73 ?_
  refine lv_bipush (v := 20) hx hb dX0_save_76 (by decide) ?_
  refine lv_icmp_ne (tgt := 86) hx hb dX0_save_78 (by decide) (fun c23 => ?_) (fun c23 => ?_)
  · have h := tx_neg c23 h
    refine lv_aload_n hx hb dX0_save_86 rfl (lv_at hl 1 rfl) ?_
    refine va_get (D := G) (ci := 0) (v := .int (C_22 0 0)) (C := RX0) (T := TX0) (N := 3) hx hb hT ku_0 hown hK hP 101 rfl rfl 0 (by decide) (hT _ kw_8_16) (fun _ h9 => h9) rfl dX0_save_87 ?_
    refine lv_iconst (v := 1) hx hb dX0_save_90 (by decide) ?_
    refine lv_iadd hx hb dX0_save_91 ?_
    exact w_X0_save_x_va0_J92 F ((C_22 0 0) + 1) C_22 H locs ls h hP hD hS (lv_sub hl [] rfl)
  · have h := tx_pos c23 h
    refine lv_bipush (v := 20) hx hb dX0_save_81 (by decide) ?_
    refine lv_goto (tgt := 92) hx hb dX0_save_83 (by decide) ?_
    exact w_X0_save_x_va0_J92 F 20 C_22 H locs ls h hP hD hS (lv_sub hl [] rfl)
abbrev G_X7_turn (p : Program) (l : Launch) (e : Env) (s : State) (m : MethodId) (below : List Frame) (meth : Method) (c : Code) (G : va_G) (cA : Nat → ClassId) (A : Nat → Prop) (xa : Nat → Nat) (ka : Nat → Nat) (ra : Nat → Nat) (na : Nat → Nat) (ia : Nat → Nat) (ua : Nat → Nat) (va : Nat → Nat) (ca : Nat → Nat) (za : Nat → Nat) (pa : Nat → Nat) (qa : Nat → Nat) (X : Tr) (K : Tr) (R : Tr) (P : Tr) (L : Lo) (P2 : Tr) (L2 : Lo) (Ti : Tr) (Tu : Tr) (Z : Tr) (q0 : Nat) (q1 : Nat) (q2 : Nat) (q4 : Nat) (q5 : Nat) (x1 : Int32) (r0 : Int32) (Tn' : Tr) (Tv' : Tr) (C' : Tr) (q3' : Nat) (H : Heap) (locs : List Loc) (g : JFrame) : Prop := W p l e (headSpec (.code yX7_turn cX7_turn 3 (some .int) :: T0) ({ frames := 3, cells := 0, slots := 0, locals := 84 } : Room)).room s m ([.ref (xa 0), .int x1] : List Value).toArray below meth c H locs 0 0 (MQ below (tqQi G cA (fun (r : Int32) (_ : Unit) => r = r0) (fun (_ : Unit) => wX cA xa ka ra na ia ua va ca za pa qa X K R P L P2 L2 (Tn') Ti Tu (Tv') (C') Z q0 q1 q2 (q3') q4 q5) A) ([.ref (xa 0), .int x1] : List Value).toArray s 0 0 A) g
set_option maxHeartbeats 4000000 in
set_option maxRecDepth 100000 in
theorem c_X7_turn (l : Launch) (G : va_G) (cA : Nat → ClassId) (sz : Nat) (xa : Nat → Nat) (ka : Nat → Nat) (ra : Nat → Nat) (na : Nat → Nat) (ia : Nat → Nat) (ua : Nat → Nat) (va : Nat → Nat) (ca : Nat → Nat) (za : Nat → Nat) (pa : Nat → Nat) (qa : Nat → Nat) (X : Tr) (K : Tr) (R : Tr) (P : Tr) (L : Lo) (P2 : Tr) (L2 : Lo) (Tn : Tr) (Ti : Tr) (Tu : Tr) (Tv : Tr) (C : Tr) (Z : Tr) (q0 : Nat) (q1 : Nat) (q2 : Nat) (q3 : Nat) (q4 : Nat) (q5 : Nat) (x1 : Int32)  (r0 : Int32) (Tn' : Tr) (Tv' : Tr) (C' : Tr) (q3' : Nat) (h : f_X7_turn pa qa P Tn Tv C q0 q3 q4 x1 = some (r0, Tn', Tv', C', q3')) : Met l yX7_turn (.code yX7_turn cX7_turn 3 (some .int) :: T0) ({ frames := 3, cells := 0, slots := 0, locals := 84 } : Room) (tqP G cA [.ref (xa 0), .int x1] (wX cA xa ka ra na ia ua va ca za pa qa X K R P L P2 L2 Tn Ti Tu Tv C Z q0 q1 q2 q3 q4 q5) sz) (tqQi G cA (fun (r : Int32) (_ : Unit) => r = r0) (fun (_ : Unit) => wX cA xa ka ra na ia ua va ca za pa qa X K R P L P2 L2 (Tn') Ti Tu (Tv') (C') Z q0 q1 q2 (q3') q4 q5) (va_A (wX cA xa ka ra na ia ua va ca za pa qa X K R P L P2 L2 Tn Ti Tu Tv C Z q0 q1 q2 q3 q4 q5) sz)) 0 0 (va_A (wX cA xa ka ra na ia ua va ca za pa qa X K R P L P2 L2 Tn Ti Tu Tv C Z q0 q1 q2 q3 q4 q5) sz) := by
  refine Met.ofW (cc := cX7_turn) (maxL := 3) (ret := (some .int)) (by decide) rfl ?_
  intro p e s m args below meth c s₁ B hml hv
  obtain ⟨rfl, hsz, hP, hK, hD0, hN⟩ := hv
  have hx := B.exec
  have hb := B.bytes
  have hr := B.returns
  have hts := atoms_spec (ws := .code yX7_turn cX7_turn 3 (some .int) :: T0) B.pre
  have hT : ∀ w ∈ T0, w.before _ s = true := fun w h => hts w (List.mem_cons_of_mem _ h)
  have hown : s.vm.findClass RX7 = some m.cls := findClass_of_methodNamed B.named
  have hlocks := B.notSynchronized
  subst hsz
  have hD := hD0.self (sz := s.heap.size)
  generalize hAe : va_A (wX cA xa ka ra na ia ua va ca za pa qa X K R P L P2 L2 Tn Ti Tu Tv C Z q0 q1 q2 q3 q4 q5) s.heap.size = A at hD ⊢
  have hA : ∀ q : Nat, s.heap.size ≤ q → A q := fun q h => by rw [← hAe]; exact Or.inr h
  have hS : va_S A s.heap s.heap [] := va_S.rf
  have hl := lv_entry ([.ref (xa 0), .int x1]) (n := 3) (Nat.le_of_ble_eq_true rfl)
  rw [lg_entry_eq]
  generalize (lg_sl ([.ref (xa 0), .int x1]) ++ List.replicate (3 - (lg_sl ([.ref (xa 0), .int x1])).length) Slot.unset).toArray = ls at hl ⊢
  have hl : lv_has ls 3 [(0, .ref (xa 0)), (1, .int x1)] := hl
  have F : tF p s m ([.ref (xa 0), .int x1] : List Value).toArray meth c G cA A RX7 cX7_turn 3 (some .int) := ⟨hx, hb, hr, hml, hT, hown, hlocks, hK, hN, hA⟩
  obtain ⟨H, hH⟩ : ∃ z, z = s.heap := ⟨_, rfl⟩
  rw [← hH] at hP
  have hS : va_S A s.heap H [] := by rw [hH]; exact hS
  suffices hgo : G_X7_turn p l e s m below meth c G cA A xa ka ra na ia ua va ca za pa qa X K R P L P2 L2 Ti Tu Z q0 q1 q2 q4 q5 x1 r0 Tn' Tv' C' q3' H [] (F0 m 0 ls []) by rw [hH] at hgo; exact hgo
  generalize ([] : List Loc) = locs at hS ⊢
  unfold f_X7_turn at h
  refine lv_aload_n hx hb dX7_turn_0 rfl (lv_at hl 0 rfl) ?_
  refine lv_iload_n hx hb dX7_turn_1 rfl (lv_at hl 1 rfl) ?_
  obtain ⟨r1, hc2, h⟩ := tx_bd h
  refine tw_ci tw_all hP hD hS hA (va_runV (As := [.int x1]) (rest := []) ⟨hx, hb, hml, hown, hT⟩ (c_X7_isPlace l G cA H.size xa ka ra na ia ua va ca za pa qa X K R P L P2 L2 Tn Ti Tu Tv C Z q0 q1 q2 q3 q4 q5 x1  r1 hc2) (cwV 1 hT (tq_gV kw_31_22 kw_31_23 kw_32_0 kw_1_2 kw_32_1) rfl rfl rfl (by decide +kernel) ⟨Nat.le_of_ble_eq_true rfl, Nat.le_of_ble_eq_true rfl⟩) ⟨(tw_pre tw_all hP hD hK hN).1, va_recv hK hP (ci := 7) (q0 := 0) rfl rfl, (tw_pre tw_all hP hD hK hN).2⟩ rfl rfl hl.1 rfl (lv_room (Nat.le_of_ble_eq_true rfl)) dX7_turn_2 ⟨Nat.le_of_ble_eq_true rfl, Nat.le_of_ble_eq_true rfl⟩) (fun _ _ H locs z3 hP hD hS => ?_)
  subst z3
  rw [List.append_nil] at hP hD
  have hP : va_P G vwCl (wX cA xa ka ra na ia ua va ca za pa qa X K R P L P2 L2 Tn Ti Tu Tv C Z q0 q1 q2 q3 q4 q5) H := hP
  have hD : va_D A (wX cA xa ka ra na ia ua va ca za pa qa X K R P L P2 L2 Tn Ti Tu Tv C Z q0 q1 q2 q3 q4 q5) := hD
  refine lv_if_ne (tgt := 10) hx hb dX7_turn_5 (by decide) (fun c4 => ?_) (fun c4 => ?_)
  · have h := tx_neg c4 h
    refine lv_aload_n hx hb dX7_turn_10 rfl (lv_at hl 0 rfl) ?_
    refine va_get (D := G) (ci := 7) (v := .ref (va 0)) (C := RX7) (T := TX7) (N := 12) hx hb hT ku_7 hown hK hP 0 rfl rfl 6 (by decide) (hT _ kw_2_4) (fun _ h9 => h9) rfl dX7_turn_11 ?_
    refine lv_aload_n hx hb dX7_turn_14 rfl (lv_at hl 0 rfl) ?_
    refine va_get (D := G) (ci := 7) (v := .ref (na 0)) (C := RX7) (T := TX7) (N := 12) hx hb hT ku_7 hown hK hP 0 rfl rfl 2 (by decide) (hT _ kw_2_0) (fun _ h9 => h9) rfl dX7_turn_15 ?_
    obtain ⟨⟨Tv_5, q3_6⟩, hc7, h⟩ := tx_bd h
    replace h := tx_let (y := Tv_5) rfl h
    replace h := tx_let (y := q3_6) rfl h
    refine tw_cv pX_va_na hP hD hS hA (va_runV (As := [.ref (na 0)]) (rest := []) ⟨hx, hb, hml, hown, hT⟩ (c_X6_copy l G cA H.size va na Tv Tn q3 q0  Tv_5 q3_6 hc7) (cwV 1 hT (tq_gV kw_38_6 kw_38_7 kw_38_8 kw_1_23 kw_38_9) rfl rfl rfl (by decide +kernel) ⟨Nat.le_of_ble_eq_true rfl, Nat.le_of_ble_eq_true rfl⟩) ⟨(tw_pre pX_va_na hP hD hK hN).1, va_recv hK hP (ci := 6) (q0 := 89) rfl rfl, (tw_pre pX_va_na hP hD hK hN).2⟩ rfl rfl hl.1 rfl (lv_room (Nat.le_of_ble_eq_true rfl)) dX7_turn_18 ⟨Nat.le_of_ble_eq_true rfl, Nat.le_of_ble_eq_true rfl⟩) (fun _ H locs z8 hP hD hS => ?_)
    replace hP := tw_P pX_va_na.symm hP
    replace hD := tw_D pX_va_na.symm hD
    have hP : va_P G vwCl (wX cA xa ka ra na ia ua va ca za pa qa X K R P L P2 L2 Tn Ti Tu Tv_5 C Z q0 q1 q2 q3_6 q4 q5) H := hP
    have hD : va_D A (wX cA xa ka ra na ia ua va ca za pa qa X K R P L P2 L2 Tn Ti Tu Tv_5 C Z q0 q1 q2 q3_6 q4 q5) := hD
    refine lv_aload_n hx hb dX7_turn_21 rfl (lv_at hl 0 rfl) ?_
    refine va_get (D := G) (ci := 7) (v := .ref (na 0)) (C := RX7) (T := TX7) (N := 12) hx hb hT ku_7 hown hK hP 0 rfl rfl 2 (by decide) (hT _ kw_2_0) (fun _ h9 => h9) rfl dX7_turn_22 ?_
    refine lv_iload_n hx hb dX7_turn_25 rfl (lv_at hl 1 rfl) ?_
    obtain ⟨g9, h⟩ := tx_ck h
    have eg9 := of_decide_eq_true g9
    subst eg9
    obtain ⟨⟨r10, Tn_11⟩, hc12, h⟩ := tx_bd h
    replace h := tx_let (y := r10) rfl h
    replace h := tx_let (y := Tn_11) rfl h
    refine tw_ci pX_na hP hD hS hA (va_runV (As := [.int x1]) (rest := []) ⟨hx, hb, hml, hown, hT⟩ (c_X6_turnOver l G cA H.size na pa Tn P L x1  r10 Tn_11 hc12) (cwV 1 hT (tq_gV kw_38_11 kw_38_12 kw_38_13 kw_1_23 kw_38_14) rfl rfl rfl (by decide +kernel) ⟨Nat.le_of_ble_eq_true rfl, Nat.le_of_ble_eq_true rfl⟩) ⟨(tw_pre pX_na hP hD hK hN).1, va_recv hK hP (ci := 6) (q0 := 53) rfl rfl, (tw_pre pX_na hP hD hK hN).2⟩ rfl rfl hl.1 rfl (lv_room (Nat.le_of_ble_eq_true rfl)) dX7_turn_26 ⟨Nat.le_of_ble_eq_true rfl, Nat.le_of_ble_eq_true rfl⟩) (fun _ _ H locs z13 hP hD hS => ?_)
    subst z13
    replace hP := tw_P pX_na.symm hP
    replace hD := tw_D pX_na.symm hD
    have hP : va_P G vwCl (wX cA xa ka ra na ia ua va ca za pa qa X K R P L P2 L2 Tn_11 Ti Tu Tv_5 C Z (pa 0) q1 q2 q3_6 q4 q5) H := hP
    have hD : va_D A (wX cA xa ka ra na ia ua va ca za pa qa X K R P L P2 L2 Tn_11 Ti Tu Tv_5 C Z (pa 0) q1 q2 q3_6 q4 q5) := hD
    refine lv_istore_n (lv' := [(2, .int r10), (0, .ref (xa 0)), (1, .int x1)]) hx hb dX7_turn_29 rfl hl (by decide) rfl (fun ls hl => ?_)
    refine lv_iload_n hx hb dX7_turn_30 rfl (lv_at hl 0 rfl) ?_
    refine lv_if_le (tgt := 45) hx hb dX7_turn_31 (by decide) (fun c14 => ?_) (fun c14 => ?_)
    · have h := tx_pos c14 h
      refine lv_iload_n hx hb dX7_turn_45 rfl (lv_at hl 0 rfl) ?_
      obtain ⟨rfl, rfl, rfl, rfl, rfl⟩ := tx_5 h
      exact W.iret hx hb hr (fun t ht hW => ⟨⟨_, (), rfl, rfl, by rw [ht]; exact hP, hD⟩, hS.F ht⟩) hS.2.2 dX7_turn_46
    · have h := tx_neg c14 h
      refine lv_aload_n hx hb dX7_turn_34 rfl (lv_at hl 1 rfl) ?_
      refine va_get (D := G) (ci := 7) (v := .ref (ca 0)) (C := RX7) (T := TX7) (N := 12) hx hb hT ku_7 hown hK hP 0 rfl rfl 7 (by decide) (hT _ kw_2_8) (fun _ h9 => h9) rfl dX7_turn_35 ?_
      refine lv_aload_n hx hb dX7_turn_38 rfl (lv_at hl 1 rfl) ?_
      refine va_get (D := G) (ci := 7) (v := .ref (va 0)) (C := RX7) (T := TX7) (N := 12) hx hb hT ku_7 hown hK hP 0 rfl rfl 6 (by decide) (hT _ kw_2_4) (fun _ h9 => h9) rfl dX7_turn_39 ?_
      obtain ⟨C_15, hc16, h⟩ := tx_bd h
      refine tw_cv tw_all hP hD hS hA (va_runV (As := [.ref (va 0)]) (rest := []) ⟨hx, hb, hml, hown, hT⟩ (c_X0_save_x_va0 l G cA H.size xa ka ra na ia ua va ca za pa qa X K R P L P2 L2 Tn_11 Ti Tu Tv_5 C Z (pa 0) q1 q2 q3_6 q4 q5  C_15 hc16) (cwV 1 hT (tq_gV kw_36_1 kw_36_2 kw_36_3 kw_2_7 kw_36_4) rfl rfl rfl (by decide +kernel) ⟨Nat.le_of_ble_eq_true rfl, Nat.le_of_ble_eq_true rfl⟩) ⟨(tw_pre tw_all hP hD hK hN).1, va_recv hK hP (ci := 0) (q0 := 101) rfl rfl, (tw_pre tw_all hP hD hK hN).2⟩ rfl rfl hl.1 rfl (lv_room (Nat.le_of_ble_eq_true rfl)) dX7_turn_42 ⟨Nat.le_of_ble_eq_true rfl, Nat.le_of_ble_eq_true rfl⟩) (fun _ H locs z17 hP hD hS => ?_)
      rw [List.append_nil] at hP hD
      have hP : va_P G vwCl (wX cA xa ka ra na ia ua va ca za pa qa X K R P L P2 L2 Tn_11 Ti Tu Tv_5 C_15 Z (pa 0) q1 q2 q3_6 q4 q5) H := hP
      have hD : va_D A (wX cA xa ka ra na ia ua va ca za pa qa X K R P L P2 L2 Tn_11 Ti Tu Tv_5 C_15 Z (pa 0) q1 q2 q3_6 q4 q5) := hD
      refine lv_iload_n hx hb dX7_turn_45 rfl (lv_at hl 0 rfl) ?_
      obtain ⟨rfl, rfl, rfl, rfl, rfl⟩ := tx_5 h
      exact W.iret hx hb hr (fun t ht hW => ⟨⟨_, (), rfl, rfl, by rw [ht]; exact hP, hD⟩, hS.F ht⟩) hS.2.2 dX7_turn_46
  · have h := tx_pos c4 h
    refine lv_iconst (v := (-1)) hx hb dX7_turn_8 (by decide) ?_
    obtain ⟨rfl, rfl, rfl, rfl, rfl⟩ := tx_5 h
    exact W.iret hx hb hr (fun t ht hW => ⟨⟨_, (), rfl, rfl, by rw [ht]; exact hP, hD⟩, hS.F ht⟩) hS.2.2 dX7_turn_9
abbrev G_X0_bringRow_x_na16 (p : Program) (l : Launch) (e : Env) (s : State) (m : MethodId) (below : List Frame) (meth : Method) (c : Code) (G : va_G) (cA : Nat → ClassId) (A : Nat → Prop) (xa : Nat → Nat) (ka : Nat → Nat) (ra : Nat → Nat) (na : Nat → Nat) (ia : Nat → Nat) (ua : Nat → Nat) (va : Nat → Nat) (ca : Nat → Nat) (za : Nat → Nat) (pa : Nat → Nat) (qa : Nat → Nat) (X : Tr) (K : Tr) (R : Tr) (P : Tr) (L : Lo) (P2 : Tr) (L2 : Lo) (Ti : Tr) (Tu : Tr) (Tv : Tr) (C : Tr) (Z : Tr) (q0 : Nat) (q1 : Nat) (q2 : Nat) (q3 : Nat) (q4 : Nat) (q5 : Nat) (x2 : Int32) (r0 : Int32) (Tn' : Tr) (H : Heap) (locs : List Loc) (g : JFrame) : Prop := W p l e (headSpec (.code yX0_bringRow cX0_bringRow 3 (some .int) :: T0) ({ frames := 1, cells := 0, slots := 0, locals := 40 } : Room)).room s m ([.ref (ca 0), .ref (na 16), .int x2] : List Value).toArray below meth c H locs 0 0 (MQ below (tqQi G cA (fun (r : Int32) (_ : Unit) => r = r0) (fun (_ : Unit) => wX cA xa ka ra na ia ua va ca za pa qa X K R P L P2 L2 (Tn') Ti Tu Tv C Z q0 q1 q2 q3 q4 q5) A) ([.ref (ca 0), .ref (na 16), .int x2] : List Value).toArray s 0 0 A) g
set_option maxHeartbeats 4000000 in
set_option maxRecDepth 100000 in
theorem c_X0_bringRow_x_na16 (l : Launch) (G : va_G) (cA : Nat → ClassId) (sz : Nat) (xa : Nat → Nat) (ka : Nat → Nat) (ra : Nat → Nat) (na : Nat → Nat) (ia : Nat → Nat) (ua : Nat → Nat) (va : Nat → Nat) (ca : Nat → Nat) (za : Nat → Nat) (pa : Nat → Nat) (qa : Nat → Nat) (X : Tr) (K : Tr) (R : Tr) (P : Tr) (L : Lo) (P2 : Tr) (L2 : Lo) (Tn : Tr) (Ti : Tr) (Tu : Tr) (Tv : Tr) (C : Tr) (Z : Tr) (q0 : Nat) (q1 : Nat) (q2 : Nat) (q3 : Nat) (q4 : Nat) (q5 : Nat) (x2 : Int32)  (r0 : Int32) (Tn' : Tr) (h : f_X0_bringRow_x_na16 pa qa Tn C x2 = some (r0, Tn')) : Met l yX0_bringRow (.code yX0_bringRow cX0_bringRow 3 (some .int) :: T0) ({ frames := 1, cells := 0, slots := 0, locals := 40 } : Room) (tqP G cA [.ref (ca 0), .ref (na 16), .int x2] (wX cA xa ka ra na ia ua va ca za pa qa X K R P L P2 L2 Tn Ti Tu Tv C Z q0 q1 q2 q3 q4 q5) sz) (tqQi G cA (fun (r : Int32) (_ : Unit) => r = r0) (fun (_ : Unit) => wX cA xa ka ra na ia ua va ca za pa qa X K R P L P2 L2 (Tn') Ti Tu Tv C Z q0 q1 q2 q3 q4 q5) (va_A (wX cA xa ka ra na ia ua va ca za pa qa X K R P L P2 L2 Tn Ti Tu Tv C Z q0 q1 q2 q3 q4 q5) sz)) 0 0 (va_A (wX cA xa ka ra na ia ua va ca za pa qa X K R P L P2 L2 Tn Ti Tu Tv C Z q0 q1 q2 q3 q4 q5) sz) := by
  refine Met.ofW (cc := cX0_bringRow) (maxL := 3) (ret := (some .int)) (by decide) rfl ?_
  intro p e s m args below meth c s₁ B hml hv
  obtain ⟨rfl, hsz, hP, hK, hD0, hN⟩ := hv
  have hx := B.exec
  have hb := B.bytes
  have hr := B.returns
  have hts := atoms_spec (ws := .code yX0_bringRow cX0_bringRow 3 (some .int) :: T0) B.pre
  have hT : ∀ w ∈ T0, w.before _ s = true := fun w h => hts w (List.mem_cons_of_mem _ h)
  have hown : s.vm.findClass RX0 = some m.cls := findClass_of_methodNamed B.named
  have hlocks := B.notSynchronized
  subst hsz
  have hD := hD0.self (sz := s.heap.size)
  generalize hAe : va_A (wX cA xa ka ra na ia ua va ca za pa qa X K R P L P2 L2 Tn Ti Tu Tv C Z q0 q1 q2 q3 q4 q5) s.heap.size = A at hD ⊢
  have hA : ∀ q : Nat, s.heap.size ≤ q → A q := fun q h => by rw [← hAe]; exact Or.inr h
  have hS : va_S A s.heap s.heap [] := va_S.rf
  have hl := lv_entry ([.ref (ca 0), .ref (na 16), .int x2]) (n := 3) (Nat.le_of_ble_eq_true rfl)
  rw [lg_entry_eq]
  generalize (lg_sl ([.ref (ca 0), .ref (na 16), .int x2]) ++ List.replicate (3 - (lg_sl ([.ref (ca 0), .ref (na 16), .int x2])).length) Slot.unset).toArray = ls at hl ⊢
  have hl : lv_has ls 3 [(0, .ref (ca 0)), (1, .ref (na 16)), (2, .int x2)] := hl
  have F : tF p s m ([.ref (ca 0), .ref (na 16), .int x2] : List Value).toArray meth c G cA A RX0 cX0_bringRow 3 (some .int) := ⟨hx, hb, hr, hml, hT, hown, hlocks, hK, hN, hA⟩
  obtain ⟨H, hH⟩ : ∃ z, z = s.heap := ⟨_, rfl⟩
  rw [← hH] at hP
  have hS : va_S A s.heap H [] := by rw [hH]; exact hS
  suffices hgo : G_X0_bringRow_x_na16 p l e s m below meth c G cA A xa ka ra na ia ua va ca za pa qa X K R P L P2 L2 Ti Tu Tv C Z q0 q1 q2 q3 q4 q5 x2 r0 Tn' H [] (F0 m 0 ls []) by rw [hH] at hgo; exact hgo
  generalize ([] : List Loc) = locs at hS ⊢
  unfold f_X0_bringRow_x_na16 at h
  refine lv_aload_n hx hb dX0_bringRow_0 rfl (lv_at hl 0 rfl) ?_
  refine va_get (D := G) (ci := 0) (v := .ref (ca 3)) (C := RX0) (T := TX0) (N := 3) hx hb hT ku_0 hown hK hP 101 rfl rfl 2 (by decide) (hT _ kw_8_18) (fun _ h9 => h9) rfl dX0_bringRow_1 ?_
  refine lv_iload_n hx hb dX0_bringRow_4 rfl (lv_at hl 2 rfl) ?_
  refine lv_aload_n hx hb dX0_bringRow_5 rfl (lv_at hl 1 rfl) ?_
  refine lv_iconst (v := 0) hx hb dX0_bringRow_6 (by decide) ?_
  refine lv_aload_n hx hb dX0_bringRow_7 rfl (lv_at hl 1 rfl) ?_
  refine va_alen (v := 50) hx hb hK hP 61 0 rfl rfl (by decide) dX0_bringRow_8 ?_
  obtain ⟨g1, h⟩ := tx_ck h
  refine va_copyi (ty := .int) (sp := x2) (dp := 0) (n := 50) hx hb (hml.trans hl.1.symm) hown (hT _ kw_36_14) (hT _ kw_36_15) (hT _ kw_36_16) (hT _ kw_36_17) hK hP hD hS 102 61 0 0 rfl rfl rfl rfl rfl (tx_cp g1).1 (tx_cp g1).2.1 (tx_cp g1).2.2.1 (tx_cp g1).2.2.2.1 (tx_cp g1).2.2.2.2 (fun _ _ => rfl) (Nat.le_of_ble_eq_true rfl) (by decide) dX0_bringRow_9 (fun H locs hP hD hS => ?_)
  try rw [show (0 : Int32).toNatClampNeg = 0 from rfl] at hP hD
  try rw [show (50 : Int32).toNatClampNeg = 50 from rfl] at hP hD
  obtain ⟨Tn_2, eTn_2, h⟩ := tx_lt h
  rw [sX_na_c15, eTn_2] at hP hD
  refine lv_iload_n hx hb dX0_bringRow_12 rfl (lv_at hl 2 rfl) ?_
  refine lv_aload_n hx hb dX0_bringRow_13 rfl (lv_at hl 1 rfl) ?_
  refine va_alen (v := 50) hx hb hK hP 61 0 rfl rfl (by decide) dX0_bringRow_14 ?_
  refine lv_iadd hx hb dX0_bringRow_15 ?_
  obtain ⟨rfl, rfl⟩ := tx_2 h
  exact W.iret hx hb hr (fun t ht hW => ⟨⟨_, (), rfl, rfl, by rw [ht]; exact hP, hD⟩, hS.F ht⟩) hS.2.2 dX0_bringRow_16
abbrev G_X0_bringRow_x_na17 (p : Program) (l : Launch) (e : Env) (s : State) (m : MethodId) (below : List Frame) (meth : Method) (c : Code) (G : va_G) (cA : Nat → ClassId) (A : Nat → Prop) (xa : Nat → Nat) (ka : Nat → Nat) (ra : Nat → Nat) (na : Nat → Nat) (ia : Nat → Nat) (ua : Nat → Nat) (va : Nat → Nat) (ca : Nat → Nat) (za : Nat → Nat) (pa : Nat → Nat) (qa : Nat → Nat) (X : Tr) (K : Tr) (R : Tr) (P : Tr) (L : Lo) (P2 : Tr) (L2 : Lo) (Ti : Tr) (Tu : Tr) (Tv : Tr) (C : Tr) (Z : Tr) (q0 : Nat) (q1 : Nat) (q2 : Nat) (q3 : Nat) (q4 : Nat) (q5 : Nat) (x2 : Int32) (r0 : Int32) (Tn' : Tr) (H : Heap) (locs : List Loc) (g : JFrame) : Prop := W p l e (headSpec (.code yX0_bringRow cX0_bringRow 3 (some .int) :: T0) ({ frames := 1, cells := 0, slots := 0, locals := 40 } : Room)).room s m ([.ref (ca 0), .ref (na 17), .int x2] : List Value).toArray below meth c H locs 0 0 (MQ below (tqQi G cA (fun (r : Int32) (_ : Unit) => r = r0) (fun (_ : Unit) => wX cA xa ka ra na ia ua va ca za pa qa X K R P L P2 L2 (Tn') Ti Tu Tv C Z q0 q1 q2 q3 q4 q5) A) ([.ref (ca 0), .ref (na 17), .int x2] : List Value).toArray s 0 0 A) g
set_option maxHeartbeats 4000000 in
set_option maxRecDepth 100000 in
theorem c_X0_bringRow_x_na17 (l : Launch) (G : va_G) (cA : Nat → ClassId) (sz : Nat) (xa : Nat → Nat) (ka : Nat → Nat) (ra : Nat → Nat) (na : Nat → Nat) (ia : Nat → Nat) (ua : Nat → Nat) (va : Nat → Nat) (ca : Nat → Nat) (za : Nat → Nat) (pa : Nat → Nat) (qa : Nat → Nat) (X : Tr) (K : Tr) (R : Tr) (P : Tr) (L : Lo) (P2 : Tr) (L2 : Lo) (Tn : Tr) (Ti : Tr) (Tu : Tr) (Tv : Tr) (C : Tr) (Z : Tr) (q0 : Nat) (q1 : Nat) (q2 : Nat) (q3 : Nat) (q4 : Nat) (q5 : Nat) (x2 : Int32)  (r0 : Int32) (Tn' : Tr) (h : f_X0_bringRow_x_na17 pa qa Tn C x2 = some (r0, Tn')) : Met l yX0_bringRow (.code yX0_bringRow cX0_bringRow 3 (some .int) :: T0) ({ frames := 1, cells := 0, slots := 0, locals := 40 } : Room) (tqP G cA [.ref (ca 0), .ref (na 17), .int x2] (wX cA xa ka ra na ia ua va ca za pa qa X K R P L P2 L2 Tn Ti Tu Tv C Z q0 q1 q2 q3 q4 q5) sz) (tqQi G cA (fun (r : Int32) (_ : Unit) => r = r0) (fun (_ : Unit) => wX cA xa ka ra na ia ua va ca za pa qa X K R P L P2 L2 (Tn') Ti Tu Tv C Z q0 q1 q2 q3 q4 q5) (va_A (wX cA xa ka ra na ia ua va ca za pa qa X K R P L P2 L2 Tn Ti Tu Tv C Z q0 q1 q2 q3 q4 q5) sz)) 0 0 (va_A (wX cA xa ka ra na ia ua va ca za pa qa X K R P L P2 L2 Tn Ti Tu Tv C Z q0 q1 q2 q3 q4 q5) sz) := by
  refine Met.ofW (cc := cX0_bringRow) (maxL := 3) (ret := (some .int)) (by decide) rfl ?_
  intro p e s m args below meth c s₁ B hml hv
  obtain ⟨rfl, hsz, hP, hK, hD0, hN⟩ := hv
  have hx := B.exec
  have hb := B.bytes
  have hr := B.returns
  have hts := atoms_spec (ws := .code yX0_bringRow cX0_bringRow 3 (some .int) :: T0) B.pre
  have hT : ∀ w ∈ T0, w.before _ s = true := fun w h => hts w (List.mem_cons_of_mem _ h)
  have hown : s.vm.findClass RX0 = some m.cls := findClass_of_methodNamed B.named
  have hlocks := B.notSynchronized
  subst hsz
  have hD := hD0.self (sz := s.heap.size)
  generalize hAe : va_A (wX cA xa ka ra na ia ua va ca za pa qa X K R P L P2 L2 Tn Ti Tu Tv C Z q0 q1 q2 q3 q4 q5) s.heap.size = A at hD ⊢
  have hA : ∀ q : Nat, s.heap.size ≤ q → A q := fun q h => by rw [← hAe]; exact Or.inr h
  have hS : va_S A s.heap s.heap [] := va_S.rf
  have hl := lv_entry ([.ref (ca 0), .ref (na 17), .int x2]) (n := 3) (Nat.le_of_ble_eq_true rfl)
  rw [lg_entry_eq]
  generalize (lg_sl ([.ref (ca 0), .ref (na 17), .int x2]) ++ List.replicate (3 - (lg_sl ([.ref (ca 0), .ref (na 17), .int x2])).length) Slot.unset).toArray = ls at hl ⊢
  have hl : lv_has ls 3 [(0, .ref (ca 0)), (1, .ref (na 17)), (2, .int x2)] := hl
  have F : tF p s m ([.ref (ca 0), .ref (na 17), .int x2] : List Value).toArray meth c G cA A RX0 cX0_bringRow 3 (some .int) := ⟨hx, hb, hr, hml, hT, hown, hlocks, hK, hN, hA⟩
  obtain ⟨H, hH⟩ : ∃ z, z = s.heap := ⟨_, rfl⟩
  rw [← hH] at hP
  have hS : va_S A s.heap H [] := by rw [hH]; exact hS
  suffices hgo : G_X0_bringRow_x_na17 p l e s m below meth c G cA A xa ka ra na ia ua va ca za pa qa X K R P L P2 L2 Ti Tu Tv C Z q0 q1 q2 q3 q4 q5 x2 r0 Tn' H [] (F0 m 0 ls []) by rw [hH] at hgo; exact hgo
  generalize ([] : List Loc) = locs at hS ⊢
  unfold f_X0_bringRow_x_na17 at h
  refine lv_aload_n hx hb dX0_bringRow_0 rfl (lv_at hl 0 rfl) ?_
  refine va_get (D := G) (ci := 0) (v := .ref (ca 3)) (C := RX0) (T := TX0) (N := 3) hx hb hT ku_0 hown hK hP 101 rfl rfl 2 (by decide) (hT _ kw_8_18) (fun _ h9 => h9) rfl dX0_bringRow_1 ?_
  refine lv_iload_n hx hb dX0_bringRow_4 rfl (lv_at hl 2 rfl) ?_
  refine lv_aload_n hx hb dX0_bringRow_5 rfl (lv_at hl 1 rfl) ?_
  refine lv_iconst (v := 0) hx hb dX0_bringRow_6 (by decide) ?_
  refine lv_aload_n hx hb dX0_bringRow_7 rfl (lv_at hl 1 rfl) ?_
  refine va_alen (v := 5) hx hb hK hP 62 0 rfl rfl (by decide) dX0_bringRow_8 ?_
  obtain ⟨g1, h⟩ := tx_ck h
  refine va_copyi (ty := .int) (sp := x2) (dp := 0) (n := 5) hx hb (hml.trans hl.1.symm) hown (hT _ kw_36_14) (hT _ kw_36_15) (hT _ kw_36_16) (hT _ kw_36_17) hK hP hD hS 102 62 0 0 rfl rfl rfl rfl rfl (tx_cp g1).1 (tx_cp g1).2.1 (tx_cp g1).2.2.1 (tx_cp g1).2.2.2.1 (tx_cp g1).2.2.2.2 (fun _ _ => rfl) (Nat.le_of_ble_eq_true rfl) (by decide) dX0_bringRow_9 (fun H locs hP hD hS => ?_)
  try rw [show (0 : Int32).toNatClampNeg = 0 from rfl] at hP hD
  try rw [show (5 : Int32).toNatClampNeg = 5 from rfl] at hP hD
  obtain ⟨Tn_2, eTn_2, h⟩ := tx_lt h
  rw [sX_na_c16, eTn_2] at hP hD
  refine lv_iload_n hx hb dX0_bringRow_12 rfl (lv_at hl 2 rfl) ?_
  refine lv_aload_n hx hb dX0_bringRow_13 rfl (lv_at hl 1 rfl) ?_
  refine va_alen (v := 5) hx hb hK hP 62 0 rfl rfl (by decide) dX0_bringRow_14 ?_
  refine lv_iadd hx hb dX0_bringRow_15 ?_
  obtain ⟨rfl, rfl⟩ := tx_2 h
  exact W.iret hx hb hr (fun t ht hW => ⟨⟨_, (), rfl, rfl, by rw [ht]; exact hP, hD⟩, hS.F ht⟩) hS.2.2 dX0_bringRow_16
abbrev G_X0_bringRow_x_na18 (p : Program) (l : Launch) (e : Env) (s : State) (m : MethodId) (below : List Frame) (meth : Method) (c : Code) (G : va_G) (cA : Nat → ClassId) (A : Nat → Prop) (xa : Nat → Nat) (ka : Nat → Nat) (ra : Nat → Nat) (na : Nat → Nat) (ia : Nat → Nat) (ua : Nat → Nat) (va : Nat → Nat) (ca : Nat → Nat) (za : Nat → Nat) (pa : Nat → Nat) (qa : Nat → Nat) (X : Tr) (K : Tr) (R : Tr) (P : Tr) (L : Lo) (P2 : Tr) (L2 : Lo) (Ti : Tr) (Tu : Tr) (Tv : Tr) (C : Tr) (Z : Tr) (q0 : Nat) (q1 : Nat) (q2 : Nat) (q3 : Nat) (q4 : Nat) (q5 : Nat) (x2 : Int32) (r0 : Int32) (Tn' : Tr) (H : Heap) (locs : List Loc) (g : JFrame) : Prop := W p l e (headSpec (.code yX0_bringRow cX0_bringRow 3 (some .int) :: T0) ({ frames := 1, cells := 0, slots := 0, locals := 40 } : Room)).room s m ([.ref (ca 0), .ref (na 18), .int x2] : List Value).toArray below meth c H locs 0 0 (MQ below (tqQi G cA (fun (r : Int32) (_ : Unit) => r = r0) (fun (_ : Unit) => wX cA xa ka ra na ia ua va ca za pa qa X K R P L P2 L2 (Tn') Ti Tu Tv C Z q0 q1 q2 q3 q4 q5) A) ([.ref (ca 0), .ref (na 18), .int x2] : List Value).toArray s 0 0 A) g
set_option maxHeartbeats 4000000 in
set_option maxRecDepth 100000 in
theorem c_X0_bringRow_x_na18 (l : Launch) (G : va_G) (cA : Nat → ClassId) (sz : Nat) (xa : Nat → Nat) (ka : Nat → Nat) (ra : Nat → Nat) (na : Nat → Nat) (ia : Nat → Nat) (ua : Nat → Nat) (va : Nat → Nat) (ca : Nat → Nat) (za : Nat → Nat) (pa : Nat → Nat) (qa : Nat → Nat) (X : Tr) (K : Tr) (R : Tr) (P : Tr) (L : Lo) (P2 : Tr) (L2 : Lo) (Tn : Tr) (Ti : Tr) (Tu : Tr) (Tv : Tr) (C : Tr) (Z : Tr) (q0 : Nat) (q1 : Nat) (q2 : Nat) (q3 : Nat) (q4 : Nat) (q5 : Nat) (x2 : Int32)  (r0 : Int32) (Tn' : Tr) (h : f_X0_bringRow_x_na18 pa qa Tn C x2 = some (r0, Tn')) : Met l yX0_bringRow (.code yX0_bringRow cX0_bringRow 3 (some .int) :: T0) ({ frames := 1, cells := 0, slots := 0, locals := 40 } : Room) (tqP G cA [.ref (ca 0), .ref (na 18), .int x2] (wX cA xa ka ra na ia ua va ca za pa qa X K R P L P2 L2 Tn Ti Tu Tv C Z q0 q1 q2 q3 q4 q5) sz) (tqQi G cA (fun (r : Int32) (_ : Unit) => r = r0) (fun (_ : Unit) => wX cA xa ka ra na ia ua va ca za pa qa X K R P L P2 L2 (Tn') Ti Tu Tv C Z q0 q1 q2 q3 q4 q5) (va_A (wX cA xa ka ra na ia ua va ca za pa qa X K R P L P2 L2 Tn Ti Tu Tv C Z q0 q1 q2 q3 q4 q5) sz)) 0 0 (va_A (wX cA xa ka ra na ia ua va ca za pa qa X K R P L P2 L2 Tn Ti Tu Tv C Z q0 q1 q2 q3 q4 q5) sz) := by
  refine Met.ofW (cc := cX0_bringRow) (maxL := 3) (ret := (some .int)) (by decide) rfl ?_
  intro p e s m args below meth c s₁ B hml hv
  obtain ⟨rfl, hsz, hP, hK, hD0, hN⟩ := hv
  have hx := B.exec
  have hb := B.bytes
  have hr := B.returns
  have hts := atoms_spec (ws := .code yX0_bringRow cX0_bringRow 3 (some .int) :: T0) B.pre
  have hT : ∀ w ∈ T0, w.before _ s = true := fun w h => hts w (List.mem_cons_of_mem _ h)
  have hown : s.vm.findClass RX0 = some m.cls := findClass_of_methodNamed B.named
  have hlocks := B.notSynchronized
  subst hsz
  have hD := hD0.self (sz := s.heap.size)
  generalize hAe : va_A (wX cA xa ka ra na ia ua va ca za pa qa X K R P L P2 L2 Tn Ti Tu Tv C Z q0 q1 q2 q3 q4 q5) s.heap.size = A at hD ⊢
  have hA : ∀ q : Nat, s.heap.size ≤ q → A q := fun q h => by rw [← hAe]; exact Or.inr h
  have hS : va_S A s.heap s.heap [] := va_S.rf
  have hl := lv_entry ([.ref (ca 0), .ref (na 18), .int x2]) (n := 3) (Nat.le_of_ble_eq_true rfl)
  rw [lg_entry_eq]
  generalize (lg_sl ([.ref (ca 0), .ref (na 18), .int x2]) ++ List.replicate (3 - (lg_sl ([.ref (ca 0), .ref (na 18), .int x2])).length) Slot.unset).toArray = ls at hl ⊢
  have hl : lv_has ls 3 [(0, .ref (ca 0)), (1, .ref (na 18)), (2, .int x2)] := hl
  have F : tF p s m ([.ref (ca 0), .ref (na 18), .int x2] : List Value).toArray meth c G cA A RX0 cX0_bringRow 3 (some .int) := ⟨hx, hb, hr, hml, hT, hown, hlocks, hK, hN, hA⟩
  obtain ⟨H, hH⟩ : ∃ z, z = s.heap := ⟨_, rfl⟩
  rw [← hH] at hP
  have hS : va_S A s.heap H [] := by rw [hH]; exact hS
  suffices hgo : G_X0_bringRow_x_na18 p l e s m below meth c G cA A xa ka ra na ia ua va ca za pa qa X K R P L P2 L2 Ti Tu Tv C Z q0 q1 q2 q3 q4 q5 x2 r0 Tn' H [] (F0 m 0 ls []) by rw [hH] at hgo; exact hgo
  generalize ([] : List Loc) = locs at hS ⊢
  unfold f_X0_bringRow_x_na18 at h
  refine lv_aload_n hx hb dX0_bringRow_0 rfl (lv_at hl 0 rfl) ?_
  refine va_get (D := G) (ci := 0) (v := .ref (ca 3)) (C := RX0) (T := TX0) (N := 3) hx hb hT ku_0 hown hK hP 101 rfl rfl 2 (by decide) (hT _ kw_8_18) (fun _ h9 => h9) rfl dX0_bringRow_1 ?_
  refine lv_iload_n hx hb dX0_bringRow_4 rfl (lv_at hl 2 rfl) ?_
  refine lv_aload_n hx hb dX0_bringRow_5 rfl (lv_at hl 1 rfl) ?_
  refine lv_iconst (v := 0) hx hb dX0_bringRow_6 (by decide) ?_
  refine lv_aload_n hx hb dX0_bringRow_7 rfl (lv_at hl 1 rfl) ?_
  refine va_alen (v := 5) hx hb hK hP 63 0 rfl rfl (by decide) dX0_bringRow_8 ?_
  obtain ⟨g1, h⟩ := tx_ck h
  refine va_copyi (ty := .int) (sp := x2) (dp := 0) (n := 5) hx hb (hml.trans hl.1.symm) hown (hT _ kw_36_14) (hT _ kw_36_15) (hT _ kw_36_16) (hT _ kw_36_17) hK hP hD hS 102 63 0 0 rfl rfl rfl rfl rfl (tx_cp g1).1 (tx_cp g1).2.1 (tx_cp g1).2.2.1 (tx_cp g1).2.2.2.1 (tx_cp g1).2.2.2.2 (fun _ _ => rfl) (Nat.le_of_ble_eq_true rfl) (by decide) dX0_bringRow_9 (fun H locs hP hD hS => ?_)
  try rw [show (0 : Int32).toNatClampNeg = 0 from rfl] at hP hD
  try rw [show (5 : Int32).toNatClampNeg = 5 from rfl] at hP hD
  obtain ⟨Tn_2, eTn_2, h⟩ := tx_lt h
  rw [sX_na_c17, eTn_2] at hP hD
  refine lv_iload_n hx hb dX0_bringRow_12 rfl (lv_at hl 2 rfl) ?_
  refine lv_aload_n hx hb dX0_bringRow_13 rfl (lv_at hl 1 rfl) ?_
  refine va_alen (v := 5) hx hb hK hP 63 0 rfl rfl (by decide) dX0_bringRow_14 ?_
  refine lv_iadd hx hb dX0_bringRow_15 ?_
  obtain ⟨rfl, rfl⟩ := tx_2 h
  exact W.iret hx hb hr (fun t ht hW => ⟨⟨_, (), rfl, rfl, by rw [ht]; exact hP, hD⟩, hS.F ht⟩) hS.2.2 dX0_bringRow_16
abbrev G_X0_bringRow_x_na15 (p : Program) (l : Launch) (e : Env) (s : State) (m : MethodId) (below : List Frame) (meth : Method) (c : Code) (G : va_G) (cA : Nat → ClassId) (A : Nat → Prop) (xa : Nat → Nat) (ka : Nat → Nat) (ra : Nat → Nat) (na : Nat → Nat) (ia : Nat → Nat) (ua : Nat → Nat) (va : Nat → Nat) (ca : Nat → Nat) (za : Nat → Nat) (pa : Nat → Nat) (qa : Nat → Nat) (X : Tr) (K : Tr) (R : Tr) (P : Tr) (L : Lo) (P2 : Tr) (L2 : Lo) (Ti : Tr) (Tu : Tr) (Tv : Tr) (C : Tr) (Z : Tr) (q0 : Nat) (q1 : Nat) (q2 : Nat) (q3 : Nat) (q4 : Nat) (q5 : Nat) (x2 : Int32) (r0 : Int32) (Tn' : Tr) (H : Heap) (locs : List Loc) (g : JFrame) : Prop := W p l e (headSpec (.code yX0_bringRow cX0_bringRow 3 (some .int) :: T0) ({ frames := 1, cells := 0, slots := 0, locals := 40 } : Room)).room s m ([.ref (ca 0), .ref (na 15), .int x2] : List Value).toArray below meth c H locs 0 0 (MQ below (tqQi G cA (fun (r : Int32) (_ : Unit) => r = r0) (fun (_ : Unit) => wX cA xa ka ra na ia ua va ca za pa qa X K R P L P2 L2 (Tn') Ti Tu Tv C Z q0 q1 q2 q3 q4 q5) A) ([.ref (ca 0), .ref (na 15), .int x2] : List Value).toArray s 0 0 A) g
set_option maxHeartbeats 4000000 in
set_option maxRecDepth 100000 in
theorem c_X0_bringRow_x_na15 (l : Launch) (G : va_G) (cA : Nat → ClassId) (sz : Nat) (xa : Nat → Nat) (ka : Nat → Nat) (ra : Nat → Nat) (na : Nat → Nat) (ia : Nat → Nat) (ua : Nat → Nat) (va : Nat → Nat) (ca : Nat → Nat) (za : Nat → Nat) (pa : Nat → Nat) (qa : Nat → Nat) (X : Tr) (K : Tr) (R : Tr) (P : Tr) (L : Lo) (P2 : Tr) (L2 : Lo) (Tn : Tr) (Ti : Tr) (Tu : Tr) (Tv : Tr) (C : Tr) (Z : Tr) (q0 : Nat) (q1 : Nat) (q2 : Nat) (q3 : Nat) (q4 : Nat) (q5 : Nat) (x2 : Int32)  (r0 : Int32) (Tn' : Tr) (h : f_X0_bringRow_x_na15 pa qa Tn C x2 = some (r0, Tn')) : Met l yX0_bringRow (.code yX0_bringRow cX0_bringRow 3 (some .int) :: T0) ({ frames := 1, cells := 0, slots := 0, locals := 40 } : Room) (tqP G cA [.ref (ca 0), .ref (na 15), .int x2] (wX cA xa ka ra na ia ua va ca za pa qa X K R P L P2 L2 Tn Ti Tu Tv C Z q0 q1 q2 q3 q4 q5) sz) (tqQi G cA (fun (r : Int32) (_ : Unit) => r = r0) (fun (_ : Unit) => wX cA xa ka ra na ia ua va ca za pa qa X K R P L P2 L2 (Tn') Ti Tu Tv C Z q0 q1 q2 q3 q4 q5) (va_A (wX cA xa ka ra na ia ua va ca za pa qa X K R P L P2 L2 Tn Ti Tu Tv C Z q0 q1 q2 q3 q4 q5) sz)) 0 0 (va_A (wX cA xa ka ra na ia ua va ca za pa qa X K R P L P2 L2 Tn Ti Tu Tv C Z q0 q1 q2 q3 q4 q5) sz) := by
  refine Met.ofW (cc := cX0_bringRow) (maxL := 3) (ret := (some .int)) (by decide) rfl ?_
  intro p e s m args below meth c s₁ B hml hv
  obtain ⟨rfl, hsz, hP, hK, hD0, hN⟩ := hv
  have hx := B.exec
  have hb := B.bytes
  have hr := B.returns
  have hts := atoms_spec (ws := .code yX0_bringRow cX0_bringRow 3 (some .int) :: T0) B.pre
  have hT : ∀ w ∈ T0, w.before _ s = true := fun w h => hts w (List.mem_cons_of_mem _ h)
  have hown : s.vm.findClass RX0 = some m.cls := findClass_of_methodNamed B.named
  have hlocks := B.notSynchronized
  subst hsz
  have hD := hD0.self (sz := s.heap.size)
  generalize hAe : va_A (wX cA xa ka ra na ia ua va ca za pa qa X K R P L P2 L2 Tn Ti Tu Tv C Z q0 q1 q2 q3 q4 q5) s.heap.size = A at hD ⊢
  have hA : ∀ q : Nat, s.heap.size ≤ q → A q := fun q h => by rw [← hAe]; exact Or.inr h
  have hS : va_S A s.heap s.heap [] := va_S.rf
  have hl := lv_entry ([.ref (ca 0), .ref (na 15), .int x2]) (n := 3) (Nat.le_of_ble_eq_true rfl)
  rw [lg_entry_eq]
  generalize (lg_sl ([.ref (ca 0), .ref (na 15), .int x2]) ++ List.replicate (3 - (lg_sl ([.ref (ca 0), .ref (na 15), .int x2])).length) Slot.unset).toArray = ls at hl ⊢
  have hl : lv_has ls 3 [(0, .ref (ca 0)), (1, .ref (na 15)), (2, .int x2)] := hl
  have F : tF p s m ([.ref (ca 0), .ref (na 15), .int x2] : List Value).toArray meth c G cA A RX0 cX0_bringRow 3 (some .int) := ⟨hx, hb, hr, hml, hT, hown, hlocks, hK, hN, hA⟩
  obtain ⟨H, hH⟩ : ∃ z, z = s.heap := ⟨_, rfl⟩
  rw [← hH] at hP
  have hS : va_S A s.heap H [] := by rw [hH]; exact hS
  suffices hgo : G_X0_bringRow_x_na15 p l e s m below meth c G cA A xa ka ra na ia ua va ca za pa qa X K R P L P2 L2 Ti Tu Tv C Z q0 q1 q2 q3 q4 q5 x2 r0 Tn' H [] (F0 m 0 ls []) by rw [hH] at hgo; exact hgo
  generalize ([] : List Loc) = locs at hS ⊢
  unfold f_X0_bringRow_x_na15 at h
  refine lv_aload_n hx hb dX0_bringRow_0 rfl (lv_at hl 0 rfl) ?_
  refine va_get (D := G) (ci := 0) (v := .ref (ca 3)) (C := RX0) (T := TX0) (N := 3) hx hb hT ku_0 hown hK hP 101 rfl rfl 2 (by decide) (hT _ kw_8_18) (fun _ h9 => h9) rfl dX0_bringRow_1 ?_
  refine lv_iload_n hx hb dX0_bringRow_4 rfl (lv_at hl 2 rfl) ?_
  refine lv_aload_n hx hb dX0_bringRow_5 rfl (lv_at hl 1 rfl) ?_
  refine lv_iconst (v := 0) hx hb dX0_bringRow_6 (by decide) ?_
  refine lv_aload_n hx hb dX0_bringRow_7 rfl (lv_at hl 1 rfl) ?_
  refine va_alen (v := 10) hx hb hK hP 60 0 rfl rfl (by decide) dX0_bringRow_8 ?_
  obtain ⟨g1, h⟩ := tx_ck h
  refine va_copyi (ty := .int) (sp := x2) (dp := 0) (n := 10) hx hb (hml.trans hl.1.symm) hown (hT _ kw_36_14) (hT _ kw_36_15) (hT _ kw_36_16) (hT _ kw_36_17) hK hP hD hS 102 60 0 0 rfl rfl rfl rfl rfl (tx_cp g1).1 (tx_cp g1).2.1 (tx_cp g1).2.2.1 (tx_cp g1).2.2.2.1 (tx_cp g1).2.2.2.2 (fun _ _ => rfl) (Nat.le_of_ble_eq_true rfl) (by decide) dX0_bringRow_9 (fun H locs hP hD hS => ?_)
  try rw [show (0 : Int32).toNatClampNeg = 0 from rfl] at hP hD
  try rw [show (10 : Int32).toNatClampNeg = 10 from rfl] at hP hD
  obtain ⟨Tn_2, eTn_2, h⟩ := tx_lt h
  rw [sX_na_c14, eTn_2] at hP hD
  refine lv_iload_n hx hb dX0_bringRow_12 rfl (lv_at hl 2 rfl) ?_
  refine lv_aload_n hx hb dX0_bringRow_13 rfl (lv_at hl 1 rfl) ?_
  refine va_alen (v := 10) hx hb hK hP 60 0 rfl rfl (by decide) dX0_bringRow_14 ?_
  refine lv_iadd hx hb dX0_bringRow_15 ?_
  obtain ⟨rfl, rfl⟩ := tx_2 h
  exact W.iret hx hb hr (fun t ht hW => ⟨⟨_, (), rfl, rfl, by rw [ht]; exact hP, hD⟩, hS.F ht⟩) hS.2.2 dX0_bringRow_16
abbrev G_X0_bringRow_x_na10 (p : Program) (l : Launch) (e : Env) (s : State) (m : MethodId) (below : List Frame) (meth : Method) (c : Code) (G : va_G) (cA : Nat → ClassId) (A : Nat → Prop) (xa : Nat → Nat) (ka : Nat → Nat) (ra : Nat → Nat) (na : Nat → Nat) (ia : Nat → Nat) (ua : Nat → Nat) (va : Nat → Nat) (ca : Nat → Nat) (za : Nat → Nat) (pa : Nat → Nat) (qa : Nat → Nat) (X : Tr) (K : Tr) (R : Tr) (P : Tr) (L : Lo) (P2 : Tr) (L2 : Lo) (Ti : Tr) (Tu : Tr) (Tv : Tr) (C : Tr) (Z : Tr) (q0 : Nat) (q1 : Nat) (q2 : Nat) (q3 : Nat) (q4 : Nat) (q5 : Nat) (x2 : Int32) (r0 : Int32) (Tn' : Tr) (H : Heap) (locs : List Loc) (g : JFrame) : Prop := W p l e (headSpec (.code yX0_bringRow cX0_bringRow 3 (some .int) :: T0) ({ frames := 1, cells := 0, slots := 0, locals := 40 } : Room)).room s m ([.ref (ca 0), .ref (na 10), .int x2] : List Value).toArray below meth c H locs 0 0 (MQ below (tqQi G cA (fun (r : Int32) (_ : Unit) => r = r0) (fun (_ : Unit) => wX cA xa ka ra na ia ua va ca za pa qa X K R P L P2 L2 (Tn') Ti Tu Tv C Z q0 q1 q2 q3 q4 q5) A) ([.ref (ca 0), .ref (na 10), .int x2] : List Value).toArray s 0 0 A) g
set_option maxHeartbeats 4000000 in
set_option maxRecDepth 100000 in
theorem c_X0_bringRow_x_na10 (l : Launch) (G : va_G) (cA : Nat → ClassId) (sz : Nat) (xa : Nat → Nat) (ka : Nat → Nat) (ra : Nat → Nat) (na : Nat → Nat) (ia : Nat → Nat) (ua : Nat → Nat) (va : Nat → Nat) (ca : Nat → Nat) (za : Nat → Nat) (pa : Nat → Nat) (qa : Nat → Nat) (X : Tr) (K : Tr) (R : Tr) (P : Tr) (L : Lo) (P2 : Tr) (L2 : Lo) (Tn : Tr) (Ti : Tr) (Tu : Tr) (Tv : Tr) (C : Tr) (Z : Tr) (q0 : Nat) (q1 : Nat) (q2 : Nat) (q3 : Nat) (q4 : Nat) (q5 : Nat) (x2 : Int32)  (r0 : Int32) (Tn' : Tr) (h : f_X0_bringRow_x_na10 pa qa Tn C x2 = some (r0, Tn')) : Met l yX0_bringRow (.code yX0_bringRow cX0_bringRow 3 (some .int) :: T0) ({ frames := 1, cells := 0, slots := 0, locals := 40 } : Room) (tqP G cA [.ref (ca 0), .ref (na 10), .int x2] (wX cA xa ka ra na ia ua va ca za pa qa X K R P L P2 L2 Tn Ti Tu Tv C Z q0 q1 q2 q3 q4 q5) sz) (tqQi G cA (fun (r : Int32) (_ : Unit) => r = r0) (fun (_ : Unit) => wX cA xa ka ra na ia ua va ca za pa qa X K R P L P2 L2 (Tn') Ti Tu Tv C Z q0 q1 q2 q3 q4 q5) (va_A (wX cA xa ka ra na ia ua va ca za pa qa X K R P L P2 L2 Tn Ti Tu Tv C Z q0 q1 q2 q3 q4 q5) sz)) 0 0 (va_A (wX cA xa ka ra na ia ua va ca za pa qa X K R P L P2 L2 Tn Ti Tu Tv C Z q0 q1 q2 q3 q4 q5) sz) := by
  refine Met.ofW (cc := cX0_bringRow) (maxL := 3) (ret := (some .int)) (by decide) rfl ?_
  intro p e s m args below meth c s₁ B hml hv
  obtain ⟨rfl, hsz, hP, hK, hD0, hN⟩ := hv
  have hx := B.exec
  have hb := B.bytes
  have hr := B.returns
  have hts := atoms_spec (ws := .code yX0_bringRow cX0_bringRow 3 (some .int) :: T0) B.pre
  have hT : ∀ w ∈ T0, w.before _ s = true := fun w h => hts w (List.mem_cons_of_mem _ h)
  have hown : s.vm.findClass RX0 = some m.cls := findClass_of_methodNamed B.named
  have hlocks := B.notSynchronized
  subst hsz
  have hD := hD0.self (sz := s.heap.size)
  generalize hAe : va_A (wX cA xa ka ra na ia ua va ca za pa qa X K R P L P2 L2 Tn Ti Tu Tv C Z q0 q1 q2 q3 q4 q5) s.heap.size = A at hD ⊢
  have hA : ∀ q : Nat, s.heap.size ≤ q → A q := fun q h => by rw [← hAe]; exact Or.inr h
  have hS : va_S A s.heap s.heap [] := va_S.rf
  have hl := lv_entry ([.ref (ca 0), .ref (na 10), .int x2]) (n := 3) (Nat.le_of_ble_eq_true rfl)
  rw [lg_entry_eq]
  generalize (lg_sl ([.ref (ca 0), .ref (na 10), .int x2]) ++ List.replicate (3 - (lg_sl ([.ref (ca 0), .ref (na 10), .int x2])).length) Slot.unset).toArray = ls at hl ⊢
  have hl : lv_has ls 3 [(0, .ref (ca 0)), (1, .ref (na 10)), (2, .int x2)] := hl
  have F : tF p s m ([.ref (ca 0), .ref (na 10), .int x2] : List Value).toArray meth c G cA A RX0 cX0_bringRow 3 (some .int) := ⟨hx, hb, hr, hml, hT, hown, hlocks, hK, hN, hA⟩
  obtain ⟨H, hH⟩ : ∃ z, z = s.heap := ⟨_, rfl⟩
  rw [← hH] at hP
  have hS : va_S A s.heap H [] := by rw [hH]; exact hS
  suffices hgo : G_X0_bringRow_x_na10 p l e s m below meth c G cA A xa ka ra na ia ua va ca za pa qa X K R P L P2 L2 Ti Tu Tv C Z q0 q1 q2 q3 q4 q5 x2 r0 Tn' H [] (F0 m 0 ls []) by rw [hH] at hgo; exact hgo
  generalize ([] : List Loc) = locs at hS ⊢
  unfold f_X0_bringRow_x_na10 at h
  refine lv_aload_n hx hb dX0_bringRow_0 rfl (lv_at hl 0 rfl) ?_
  refine va_get (D := G) (ci := 0) (v := .ref (ca 3)) (C := RX0) (T := TX0) (N := 3) hx hb hT ku_0 hown hK hP 101 rfl rfl 2 (by decide) (hT _ kw_8_18) (fun _ h9 => h9) rfl dX0_bringRow_1 ?_
  refine lv_iload_n hx hb dX0_bringRow_4 rfl (lv_at hl 2 rfl) ?_
  refine lv_aload_n hx hb dX0_bringRow_5 rfl (lv_at hl 1 rfl) ?_
  refine lv_iconst (v := 0) hx hb dX0_bringRow_6 (by decide) ?_
  refine lv_aload_n hx hb dX0_bringRow_7 rfl (lv_at hl 1 rfl) ?_
  refine va_alen (v := 6) hx hb hK hP 55 0 rfl rfl (by decide) dX0_bringRow_8 ?_
  obtain ⟨g1, h⟩ := tx_ck h
  refine va_copyi (ty := .int) (sp := x2) (dp := 0) (n := 6) hx hb (hml.trans hl.1.symm) hown (hT _ kw_36_14) (hT _ kw_36_15) (hT _ kw_36_16) (hT _ kw_36_17) hK hP hD hS 102 55 0 0 rfl rfl rfl rfl rfl (tx_cp g1).1 (tx_cp g1).2.1 (tx_cp g1).2.2.1 (tx_cp g1).2.2.2.1 (tx_cp g1).2.2.2.2 (fun _ _ => rfl) (Nat.le_of_ble_eq_true rfl) (by decide) dX0_bringRow_9 (fun H locs hP hD hS => ?_)
  try rw [show (0 : Int32).toNatClampNeg = 0 from rfl] at hP hD
  try rw [show (6 : Int32).toNatClampNeg = 6 from rfl] at hP hD
  obtain ⟨Tn_2, eTn_2, h⟩ := tx_lt h
  rw [sX_na_c9, eTn_2] at hP hD
  refine lv_iload_n hx hb dX0_bringRow_12 rfl (lv_at hl 2 rfl) ?_
  refine lv_aload_n hx hb dX0_bringRow_13 rfl (lv_at hl 1 rfl) ?_
  refine va_alen (v := 6) hx hb hK hP 55 0 rfl rfl (by decide) dX0_bringRow_14 ?_
  refine lv_iadd hx hb dX0_bringRow_15 ?_
  obtain ⟨rfl, rfl⟩ := tx_2 h
  exact W.iret hx hb hr (fun t ht hW => ⟨⟨_, (), rfl, rfl, by rw [ht]; exact hP, hD⟩, hS.F ht⟩) hS.2.2 dX0_bringRow_16
