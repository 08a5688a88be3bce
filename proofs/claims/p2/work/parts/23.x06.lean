abbrev G_X0_bringBack_x_na0 (p : Program) (l : Launch) (e : Env) (s : State) (m : MethodId) (below : List Frame) (meth : Method) (c : Code) (G : va_G) (cA : Nat → ClassId) (A : Nat → Prop) (xa : Nat → Nat) (ka : Nat → Nat) (ra : Nat → Nat) (na : Nat → Nat) (ia : Nat → Nat) (ua : Nat → Nat) (va : Nat → Nat) (ca : Nat → Nat) (za : Nat → Nat) (pa : Nat → Nat) (qa : Nat → Nat) (X : Tr) (K : Tr) (R : Tr) (P : Tr) (L : Lo) (P2 : Tr) (L2 : Lo) (Ti : Tr) (Tu : Tr) (Tv : Tr) (Z : Tr) (q0 : Nat) (q1 : Nat) (q2 : Nat) (q3 : Nat) (q4 : Nat) (q5 : Nat) (Tn' : Tr) (C' : Tr) (H : Heap) (locs : List Loc) (g : JFrame) : Prop := W p l e (headSpec (.code yX0_bringBack cX0_bringBack 3 none :: T0) ({ frames := 2, cells := 0, slots := 0, locals := 62 } : Room)).room s m ([.ref (ca 0), .ref (na 0)] : List Value).toArray below meth c H locs 0 0 (MQ below (tqQv G cA (fun (_ : Unit) => True) (fun (_ : Unit) => wX cA xa ka ra na ia ua va ca za pa qa X K R P L P2 L2 (Tn') Ti Tu Tv (C') Z q0 q1 q2 q3 q4 q5) A) ([.ref (ca 0), .ref (na 0)] : List Value).toArray s 0 0 A) g
set_option maxHeartbeats 4000000 in
set_option maxRecDepth 100000 in
theorem c_X0_bringBack_x_na0 (l : Launch) (G : va_G) (cA : Nat → ClassId) (sz : Nat) (xa : Nat → Nat) (ka : Nat → Nat) (ra : Nat → Nat) (na : Nat → Nat) (ia : Nat → Nat) (ua : Nat → Nat) (va : Nat → Nat) (ca : Nat → Nat) (za : Nat → Nat) (pa : Nat → Nat) (qa : Nat → Nat) (X : Tr) (K : Tr) (R : Tr) (P : Tr) (L : Lo) (P2 : Tr) (L2 : Lo) (Tn : Tr) (Ti : Tr) (Tu : Tr) (Tv : Tr) (C : Tr) (Z : Tr) (q0 : Nat) (q1 : Nat) (q2 : Nat) (q3 : Nat) (q4 : Nat) (q5 : Nat)  (Tn' : Tr) (C' : Tr) (h : f_X0_bringBack_x_na0 pa qa Tn C = some (Tn', C')) : Met l yX0_bringBack (.code yX0_bringBack cX0_bringBack 3 none :: T0) ({ frames := 2, cells := 0, slots := 0, locals := 62 } : Room) (tqP G cA [.ref (ca 0), .ref (na 0)] (wX cA xa ka ra na ia ua va ca za pa qa X K R P L P2 L2 Tn Ti Tu Tv C Z q0 q1 q2 q3 q4 q5) sz) (tqQv G cA (fun (_ : Unit) => True) (fun (_ : Unit) => wX cA xa ka ra na ia ua va ca za pa qa X K R P L P2 L2 (Tn') Ti Tu Tv (C') Z q0 q1 q2 q3 q4 q5) (va_A (wX cA xa ka ra na ia ua va ca za pa qa X K R P L P2 L2 Tn Ti Tu Tv C Z q0 q1 q2 q3 q4 q5) sz)) 0 0 (va_A (wX cA xa ka ra na ia ua va ca za pa qa X K R P L P2 L2 Tn Ti Tu Tv C Z q0 q1 q2 q3 q4 q5) sz) := by
  refine Met.ofW (cc := cX0_bringBack) (maxL := 3) (ret := none) (by decide) rfl ?_
  intro p e s m args below meth c s₁ B hml hv
  obtain ⟨rfl, hsz, hP, hK, hD0, hN⟩ := hv
  have hx := B.exec
  have hb := B.bytes
  have hr := B.returns
  have hts := atoms_spec (ws := .code yX0_bringBack cX0_bringBack 3 none :: T0) B.pre
  have hT : ∀ w ∈ T0, w.before _ s = true := fun w h => hts w (List.mem_cons_of_mem _ h)
  have hown : s.vm.findClass RX0 = some m.cls := findClass_of_methodNamed B.named
  have hlocks := B.notSynchronized
  subst hsz
  have hD := hD0.self (sz := s.heap.size)
  generalize hAe : va_A (wX cA xa ka ra na ia ua va ca za pa qa X K R P L P2 L2 Tn Ti Tu Tv C Z q0 q1 q2 q3 q4 q5) s.heap.size = A at hD ⊢
  have hA : ∀ q : Nat, s.heap.size ≤ q → A q := fun q h => by rw [← hAe]; exact Or.inr h
  have hS : va_S A s.heap s.heap [] := va_S.rf
  have hl := lv_entry ([.ref (ca 0), .ref (na 0)]) (n := 3) (Nat.le_of_ble_eq_true rfl)
  rw [lg_entry_eq]
  generalize (lg_sl ([.ref (ca 0), .ref (na 0)]) ++ List.replicate (3 - (lg_sl ([.ref (ca 0), .ref (na 0)])).length) Slot.unset).toArray = ls at hl ⊢
  have hl : lv_has ls 3 [(0, .ref (ca 0)), (1, .ref (na 0))] := hl
  have F : tF p s m ([.ref (ca 0), .ref (na 0)] : List Value).toArray meth c G cA A RX0 cX0_bringBack 3 none := ⟨hx, hb, hr, hml, hT, hown, hlocks, hK, hN, hA⟩
  obtain ⟨H, hH⟩ : ∃ z, z = s.heap := ⟨_, rfl⟩
  rw [← hH] at hP
  have hS : va_S A s.heap H [] := by rw [hH]; exact hS
  suffices hgo : G_X0_bringBack_x_na0 p l e s m below meth c G cA A xa ka ra na ia ua va ca za pa qa X K R P L P2 L2 Ti Tu Tv Z q0 q1 q2 q3 q4 q5 Tn' C' H [] (F0 m 0 ls []) by rw [hH] at hgo; exact hgo
  generalize ([] : List Loc) = locs at hS ⊢
  unfold f_X0_bringBack_x_na0 at h
  refine lv_aload_n hx hb dX0_bringBack_0 rfl (lv_at hl 0 rfl) ?_
  refine va_get (D := G) (ci := 0) (v := .int (C 0 0)) (C := RX0) (T := TX0) (N := 3) hx hb hT ku_0 hown hK hP 101 rfl rfl 0 (by decide) (hT _ kw_8_16) (fun _ h9 => h9) rfl dX0_bringBack_1 ?_
  refine lv_if_ne (tgt := 8) hx hb dX0_bringBack_4 (by decide) (fun c1 => ?_) (fun c1 => ?_)
  · have h := tx_neg c1 h
    refine lv_aload_n hx hb dX0_bringBack_8 rfl (lv_at hl 0 rfl) ?_
    refine lv_aload_n hx hb dX0_bringBack_9 rfl (lv_at hl 0 rfl) ?_
    refine va_get (D := G) (ci := 0) (v := .int (C 0 1)) (C := RX0) (T := TX0) (N := 3) hx hb hT ku_0 hown hK hP 101 rfl rfl 1 (by decide) (hT _ kw_8_17) (fun _ h9 => h9) rfl dX0_bringBack_10 ?_
    refine lv_bipush (v := 20) hx hb dX0_bringBack_13 (by decide) ?_
    refine lv_iadd hx hb dX0_bringBack_15 ?_
    refine lv_iconst (v := 1) hx hb dX0_bringBack_16 (by decide) ?_
    refine lv_isub hx hb dX0_bringBack_17 ?_
    refine lv_bipush (v := 20) hx hb dX0_bringBack_18 (by decide) ?_
    refine lv_irem hx hb dX0_bringBack_20 (by decide) ?_
    refine va_put (D := G) (ci := 0) (v := .int ((((C 0 1) + 20) - 1) - (((C 0 1) + 20) - 1) / 20 * 20)) (ty := .int) (C := RX0) (T := TX0) (N := 3) hx hb hT ku_0 tyX0 tyX0_ok nmX0 hown hK hP hD hS 101 rfl rfl 1 (by decide) (hT _ kw_8_17) (fun _ h9 => h9) rfl (by decide +kernel) rfl rfl (Nat.le_of_ble_eq_true rfl) dX0_bringBack_21 (fun H locs hP hD hS => ?_)
    obtain ⟨C_2, eC_2, h⟩ := tx_lt h
    rw [sX_ca_f1, eC_2] at hP hD
    refine lv_aload_n hx hb dX0_bringBack_24 rfl (lv_at hl 0 rfl) ?_
    refine lv_dup hx hb dX0_bringBack_25 rfl ?_
    refine va_get (D := G) (ci := 0) (v := .int (C_2 0 0)) (C := RX0) (T := TX0) (N := 3) hx hb hT ku_0 hown hK hP 101 rfl rfl 0 (by decide) (hT _ kw_8_16) (fun _ h9 => h9) rfl dX0_bringBack_26 ?_
    refine lv_iconst (v := 1) hx hb dX0_bringBack_29 (by decide) ?_
    refine lv_isub hx hb dX0_bringBack_30 ?_
    refine va_put (D := G) (ci := 0) (v := .int ((C_2 0 0) - 1)) (ty := .int) (C := RX0) (T := TX0) (N := 3) hx hb hT ku_0 tyX0 tyX0_ok nmX0 hown hK hP hD hS 101 rfl rfl 0 (by decide) (hT _ kw_8_16) (fun _ h9 => h9) rfl (by decide +kernel) rfl rfl (Nat.le_of_ble_eq_true rfl) dX0_bringBack_31 (fun H locs hP hD hS => ?_)
    obtain ⟨C_3, eC_3, h⟩ := tx_lt h
    rw [sX_ca_f0, eC_3] at hP hD
    refine lv_aload_n hx hb dX0_bringBack_34 rfl (lv_at hl 0 rfl) ?_
    refine va_get (D := G) (ci := 0) (v := .int (C_3 0 1)) (C := RX0) (T := TX0) (N := 3) hx hb hT ku_0 hown hK hP 101 rfl rfl 1 (by decide) (hT _ kw_8_17) (fun _ h9 => h9) rfl dX0_bringBack_35 ?_
    refine lv_bipush (v := 76) hx hb dX0_bringBack_38 (by decide) ?_
    refine lv_imul hx hb dX0_bringBack_40 ?_
    refine lv_topi (fun y4 ey4 => ?_)
    have h := tx_let ey4 h
    refine lv_istore_n (lv' := [(2, .int y4), (0, .ref (ca 0)), (1, .ref (na 0))]) hx hb dX0_bringBack_41 rfl hl (by decide) rfl (fun ls hl => ?_)
    refine lv_aload_n hx hb dX0_bringBack_42 rfl (lv_at hl 1 rfl) ?_
    refine lv_aload_n hx hb dX0_bringBack_43 rfl (lv_at hl 2 rfl) ?_
    refine va_get (D := G) (ci := 6) (v := .ref (na 16)) (C := RX6) (T := TX6) (N := 20) hx hb hT ku_6 hown hK hP 53 rfl rfl 15 (by decide) (hT _ kw_36_5) (fun _ h9 => h9) rfl dX0_bringBack_44 ?_
    refine lv_iload_n hx hb dX0_bringBack_47 rfl (lv_at hl 0 rfl) ?_
    obtain ⟨⟨r5, Tn_6⟩, hc7, h⟩ := tx_bd h
    replace h := tx_let (y := r5) rfl h
    replace h := tx_let (y := Tn_6) rfl h
    refine tw_ci tw_all hP hD hS hA (va_runV (As := [.ref (na 16), .int y4]) (rest := []) ⟨hx, hb, hml, hown, hT⟩ (c_X0_bringRow_x_na16 l G cA H.size xa ka ra na ia ua va ca za pa qa X K R P L P2 L2 Tn Ti Tu Tv C_3 Z q0 q1 q2 q3 q4 q5 y4  r5 Tn_6 hc7) (cwV 2 hT (tq_gV kw_58_8 kw_58_9 kw_58_10 kw_2_7 kw_58_11) rfl rfl rfl (by decide +kernel) ⟨Nat.le_of_ble_eq_true rfl, Nat.le_of_ble_eq_true rfl⟩) ⟨(tw_pre tw_all hP hD hK hN).1, va_recv hK hP (ci := 0) (q0 := 101) rfl rfl, (tw_pre tw_all hP hD hK hN).2⟩ rfl rfl hl.1 rfl (lv_room (Nat.le_of_ble_eq_true rfl)) dX0_bringBack_48 ⟨Nat.le_of_ble_eq_true rfl, Nat.le_of_ble_eq_true rfl⟩) (fun _ _ H locs z8 hP hD hS => ?_)
    subst z8
    rw [List.append_nil] at hP hD
    have hP : va_P G vwCl (wX cA xa ka ra na ia ua va ca za pa qa X K R P L P2 L2 Tn_6 Ti Tu Tv C_3 Z q0 q1 q2 q3 q4 q5) H := hP
    have hD : va_D A (wX cA xa ka ra na ia ua va ca za pa qa X K R P L P2 L2 Tn_6 Ti Tu Tv C_3 Z q0 q1 q2 q3 q4 q5) := hD
    refine lv_istore_n (lv' := [(2, .int r5), (0, .ref (ca 0)), (1, .ref (na 0))]) hx hb dX0_bringBack_51 rfl hl (by decide) rfl (fun ls hl => ?_)
    refine lv_aload_n hx hb dX0_bringBack_52 rfl (lv_at hl 1 rfl) ?_
    refine lv_aload_n hx hb dX0_bringBack_53 rfl (lv_at hl 2 rfl) ?_
    refine va_get (D := G) (ci := 6) (v := .ref (na 17)) (C := RX6) (T := TX6) (N := 20) hx hb hT ku_6 hown hK hP 53 rfl rfl 16 (by decide) (hT _ kw_36_6) (fun _ h9 => h9) rfl dX0_bringBack_54 ?_
    refine lv_iload_n hx hb dX0_bringBack_57 rfl (lv_at hl 0 rfl) ?_
    obtain ⟨⟨r9, Tn_10⟩, hc11, h⟩ := tx_bd h
    replace h := tx_let (y := r9) rfl h
    replace h := tx_let (y := Tn_10) rfl h
    refine tw_ci tw_all hP hD hS hA (va_runV (As := [.ref (na 17), .int r5]) (rest := []) ⟨hx, hb, hml, hown, hT⟩ (c_X0_bringRow_x_na17 l G cA H.size xa ka ra na ia ua va ca za pa qa X K R P L P2 L2 Tn_6 Ti Tu Tv C_3 Z q0 q1 q2 q3 q4 q5 r5  r9 Tn_10 hc11) (cwV 2 hT (tq_gV kw_58_8 kw_58_9 kw_58_10 kw_2_7 kw_58_11) rfl rfl rfl (by decide +kernel) ⟨Nat.le_of_ble_eq_true rfl, Nat.le_of_ble_eq_true rfl⟩) ⟨(tw_pre tw_all hP hD hK hN).1, va_recv hK hP (ci := 0) (q0 := 101) rfl rfl, (tw_pre tw_all hP hD hK hN).2⟩ rfl rfl hl.1 rfl (lv_room (Nat.le_of_ble_eq_true rfl)) dX0_bringBack_58 ⟨Nat.le_of_ble_eq_true rfl, Nat.le_of_ble_eq_true rfl⟩) (fun _ _ H locs z12 hP hD hS => ?_)
    subst z12
    rw [List.append_nil] at hP hD
    have hP : va_P G vwCl (wX cA xa ka ra na ia ua va ca za pa qa X K R P L P2 L2 Tn_10 Ti Tu Tv C_3 Z q0 q1 q2 q3 q4 q5) H := hP
    have hD : va_D A (wX cA xa ka ra na ia ua va ca za pa qa X K R P L P2 L2 Tn_10 Ti Tu Tv C_3 Z q0 q1 q2 q3 q4 q5) := hD
    refine lv_istore_n (lv' := [(2, .int r9), (0, .ref (ca 0)), (1, .ref (na 0))]) hx hb dX0_bringBack_61 rfl hl (by decide) rfl (fun ls hl => ?_)
    refine lv_aload_n hx hb dX0_bringBack_62 rfl (lv_at hl 1 rfl) ?_
    refine lv_aload_n hx hb dX0_bringBack_63 rfl (lv_at hl 2 rfl) ?_
    refine va_get (D := G) (ci := 6) (v := .ref (na 18)) (C := RX6) (T := TX6) (N := 20) hx hb hT ku_6 hown hK hP 53 rfl rfl 17 (by decide) (hT _ kw_36_7) (fun _ h9 => h9) rfl dX0_bringBack_64 ?_
    refine lv_iload_n hx hb dX0_bringBack_67 rfl (lv_at hl 0 rfl) ?_
    obtain ⟨⟨r13, Tn_14⟩, hc15, h⟩ := tx_bd h
    replace h := tx_let (y := r13) rfl h
    replace h := tx_let (y := Tn_14) rfl h
    refine tw_ci tw_all hP hD hS hA (va_runV (As := [.ref (na 18), .int r9]) (rest := []) ⟨hx, hb, hml, hown, hT⟩ (c_X0_bringRow_x_na18 l G cA H.size xa ka ra na ia ua va ca za pa qa X K R P L P2 L2 Tn_10 Ti Tu Tv C_3 Z q0 q1 q2 q3 q4 q5 r9  r13 Tn_14 hc15) (cwV 2 hT (tq_gV kw_58_8 kw_58_9 kw_58_10 kw_2_7 kw_58_11) rfl rfl rfl (by decide +kernel) ⟨Nat.le_of_ble_eq_true rfl, Nat.le_of_ble_eq_true rfl⟩) ⟨(tw_pre tw_all hP hD hK hN).1, va_recv hK hP (ci := 0) (q0 := 101) rfl rfl, (tw_pre tw_all hP hD hK hN).2⟩ rfl rfl hl.1 rfl (lv_room (Nat.le_of_ble_eq_true rfl)) dX0_bringBack_68 ⟨Nat.le_of_ble_eq_true rfl, Nat.le_of_ble_eq_true rfl⟩) (fun _ _ H locs z16 hP hD hS => ?_)
    subst z16
    rw [List.append_nil] at hP hD
    have hP : va_P G vwCl (wX cA xa ka ra na ia ua va ca za pa qa X K R P L P2 L2 Tn_14 Ti Tu Tv C_3 Z q0 q1 q2 q3 q4 q5) H := hP
    have hD : va_D A (wX cA xa ka ra na ia ua va ca za pa qa X K R P L P2 L2 Tn_14 Ti Tu Tv C_3 Z q0 q1 q2 q3 q4 q5) := hD
    refine lv_istore_n (lv' := [(2, .int r13), (0, .ref (ca 0)), (1, .ref (na 0))]) hx hb dX0_bringBack_71 rfl hl (by decide) rfl (fun ls hl => ?_)
    refine lv_aload_n hx hb dX0_bringBack_72 rfl (lv_at hl 1 rfl) ?_
    refine lv_aload_n hx hb dX0_bringBack_73 rfl (lv_at hl 2 rfl) ?_
    refine va_get (D := G) (ci := 6) (v := .ref (na 15)) (C := RX6) (T := TX6) (N := 20) hx hb hT ku_6 hown hK hP 53 rfl rfl 14 (by decide) (hT _ kw_36_8) (fun _ h9 => h9) rfl dX0_bringBack_74 ?_
    refine lv_iload_n hx hb dX0_bringBack_77 rfl (lv_at hl 0 rfl) ?_
    obtain ⟨⟨r17, Tn_18⟩, hc19, h⟩ := tx_bd h
    replace h := tx_let (y := r17) rfl h
    replace h := tx_let (y := Tn_18) rfl h
    refine tw_ci tw_all hP hD hS hA (va_runV (As := [.ref (na 15), .int r13]) (rest := []) ⟨hx, hb, hml, hown, hT⟩ (c_X0_bringRow_x_na15 l G cA H.size xa ka ra na ia ua va ca za pa qa X K R P L P2 L2 Tn_14 Ti Tu Tv C_3 Z q0 q1 q2 q3 q4 q5 r13  r17 Tn_18 hc19) (cwV 2 hT (tq_gV kw_58_8 kw_58_9 kw_58_10 kw_2_7 kw_58_11) rfl rfl rfl (by decide +kernel) ⟨Nat.le_of_ble_eq_true rfl, Nat.le_of_ble_eq_true rfl⟩) ⟨(tw_pre tw_all hP hD hK hN).1, va_recv hK hP (ci := 0) (q0 := 101) rfl rfl, (tw_pre tw_all hP hD hK hN).2⟩ rfl rfl hl.1 rfl (lv_room (Nat.le_of_ble_eq_true rfl)) dX0_bringBack_78 ⟨Nat.le_of_ble_eq_true rfl, Nat.le_of_ble_eq_true rfl⟩) (fun _ _ H locs z20 hP hD hS => ?_)
    subst z20
    rw [List.append_nil] at hP hD
    have hP : va_P G vwCl (wX cA xa ka ra na ia ua va ca za pa qa X K R P L P2 L2 Tn_18 Ti Tu Tv C_3 Z q0 q1 q2 q3 q4 q5) H := hP
    have hD : va_D A (wX cA xa ka ra na ia ua va ca za pa qa X K R P L P2 L2 Tn_18 Ti Tu Tv C_3 Z q0 q1 q2 q3 q4 q5) := hD
    refine lv_istore_n (lv' := [(2, .int r17), (0, .ref (ca 0)), (1, .ref (na 0))]) hx hb dX0_bringBack_81 rfl hl (by decide) rfl (fun ls hl => ?_)
    refine lv_aload_n hx hb dX0_bringBack_82 rfl (lv_at hl 1 rfl) ?_
    refine lv_aload_n hx hb dX0_bringBack_83 rfl (lv_at hl 2 rfl) ?_
    refine va_get (D := G) (ci := 6) (v := .ref (na 10)) (C := RX6) (T := TX6) (N := 20) hx hb hT ku_6 hown hK hP 53 rfl rfl 9 (by decide) (hT _ kw_36_9) (fun _ h9 => h9) rfl dX0_bringBack_84 ?_
    refine lv_iload_n hx hb dX0_bringBack_87 rfl (lv_at hl 0 rfl) ?_
    obtain ⟨⟨r21, Tn_22⟩, hc23, h⟩ := tx_bd h
    replace h := tx_let (y := r21) rfl h
    replace h := tx_let (y := Tn_22) rfl h
    refine tw_ci tw_all hP hD hS hA (va_runV (As := [.ref (na 10), .int r17]) (rest := []) ⟨hx, hb, hml, hown, hT⟩ (c_X0_bringRow_x_na10 l G cA H.size xa ka ra na ia ua va ca za pa qa X K R P L P2 L2 Tn_18 Ti Tu Tv C_3 Z q0 q1 q2 q3 q4 q5 r17  r21 Tn_22 hc23) (cwV 2 hT (tq_gV kw_58_8 kw_58_9 kw_58_10 kw_2_7 kw_58_11) rfl rfl rfl (by decide +kernel) ⟨Nat.le_of_ble_eq_true rfl, Nat.le_of_ble_eq_true rfl⟩) ⟨(tw_pre tw_all hP hD hK hN).1, va_recv hK hP (ci := 0) (q0 := 101) rfl rfl, (tw_pre tw_all hP hD hK hN).2⟩ rfl rfl hl.1 rfl (lv_room (Nat.le_of_ble_eq_true rfl)) dX0_bringBack_88 ⟨Nat.le_of_ble_eq_true rfl, Nat.le_of_ble_eq_true rfl⟩) (fun _ _ H locs z24 hP hD hS => ?_)
    subst z24
    rw [List.append_nil] at hP hD
    have hP : va_P G vwCl (wX cA xa ka ra na ia ua va ca za pa qa X K R P L P2 L2 Tn_22 Ti Tu Tv C_3 Z q0 q1 q2 q3 q4 q5) H := hP
    have hD : va_D A (wX cA xa ka ra na ia ua va ca za pa qa X K R P L P2 L2 Tn_22 Ti Tu Tv C_3 Z q0 q1 q2 q3 q4 q5) := hD
    refine lv_pop hx hb dX0_bringBack_91 rfl ?_
    obtain ⟨rfl, rfl⟩ := tx_2 h
    exact W.vret hx hb hr (fun t ht hW => ⟨⟨(), rfl, trivial, by rw [ht]; exact hP, hD⟩, hS.F ht⟩) hS.2.2 dX0_bringBack_92
  · have h := tx_pos c1 h
    obtain ⟨rfl, rfl⟩ := tx_2 h
    exact W.vret hx hb hr (fun t ht hW => ⟨⟨(), rfl, trivial, by rw [ht]; exact hP, hD⟩, hS.F ht⟩) hS.2.2 dX0_bringBack_7
abbrev G_X7_undo (p : Program) (l : Launch) (e : Env) (s : State) (m : MethodId) (below : List Frame) (meth : Method) (c : Code) (G : va_G) (cA : Nat → ClassId) (A : Nat → Prop) (xa : Nat → Nat) (ka : Nat → Nat) (ra : Nat → Nat) (na : Nat → Nat) (ia : Nat → Nat) (ua : Nat → Nat) (va : Nat → Nat) (ca : Nat → Nat) (za : Nat → Nat) (pa : Nat → Nat) (qa : Nat → Nat) (X : Tr) (K : Tr) (R : Tr) (P : Tr) (L : Lo) (P2 : Tr) (L2 : Lo) (Ti : Tr) (Tu : Tr) (Tv : Tr) (Z : Tr) (q0 : Nat) (q1 : Nat) (q2 : Nat) (q3 : Nat) (q4 : Nat) (q5 : Nat) (r0 : Int32) (Tn' : Tr) (C' : Tr) (H : Heap) (locs : List Loc) (g : JFrame) : Prop := W p l e (headSpec (.code yX7_undo cX7_undo 1 (some .int) :: T0) ({ frames := 3, cells := 0, slots := 0, locals := 84 } : Room)).room s m ([.ref (xa 0)] : List Value).toArray below meth c H locs 0 0 (MQ below (tqQi G cA (fun (r : Int32) (_ : Unit) => r = r0) (fun (_ : Unit) => wX cA xa ka ra na ia ua va ca za pa qa X K R P L P2 L2 (Tn') Ti Tu Tv (C') Z q0 q1 q2 q3 q4 q5) A) ([.ref (xa 0)] : List Value).toArray s 0 0 A) g
set_option maxHeartbeats 4000000 in
set_option maxRecDepth 100000 in
theorem c_X7_undo (l : Launch) (G : va_G) (cA : Nat → ClassId) (sz : Nat) (xa : Nat → Nat) (ka : Nat → Nat) (ra : Nat → Nat) (na : Nat → Nat) (ia : Nat → Nat) (ua : Nat → Nat) (va : Nat → Nat) (ca : Nat → Nat) (za : Nat → Nat) (pa : Nat → Nat) (qa : Nat → Nat) (X : Tr) (K : Tr) (R : Tr) (P : Tr) (L : Lo) (P2 : Tr) (L2 : Lo) (Tn : Tr) (Ti : Tr) (Tu : Tr) (Tv : Tr) (C : Tr) (Z : Tr) (q0 : Nat) (q1 : Nat) (q2 : Nat) (q3 : Nat) (q4 : Nat) (q5 : Nat)  (r0 : Int32) (Tn' : Tr) (C' : Tr) (h : f_X7_undo pa qa Tn C = some (r0, Tn', C')) : Met l yX7_undo (.code yX7_undo cX7_undo 1 (some .int) :: T0) ({ frames := 3, cells := 0, slots := 0, locals := 84 } : Room) (tqP G cA [.ref (xa 0)] (wX cA xa ka ra na ia ua va ca za pa qa X K R P L P2 L2 Tn Ti Tu Tv C Z q0 q1 q2 q3 q4 q5) sz) (tqQi G cA (fun (r : Int32) (_ : Unit) => r = r0) (fun (_ : Unit) => wX cA xa ka ra na ia ua va ca za pa qa X K R P L P2 L2 (Tn') Ti Tu Tv (C') Z q0 q1 q2 q3 q4 q5) (va_A (wX cA xa ka ra na ia ua va ca za pa qa X K R P L P2 L2 Tn Ti Tu Tv C Z q0 q1 q2 q3 q4 q5) sz)) 0 0 (va_A (wX cA xa ka ra na ia ua va ca za pa qa X K R P L P2 L2 Tn Ti Tu Tv C Z q0 q1 q2 q3 q4 q5) sz) := by
  refine Met.ofW (cc := cX7_undo) (maxL := 1) (ret := (some .int)) (by decide) rfl ?_
  intro p e s m args below meth c s₁ B hml hv
  obtain ⟨rfl, hsz, hP, hK, hD0, hN⟩ := hv
  have hx := B.exec
  have hb := B.bytes
  have hr := B.returns
  have hts := atoms_spec (ws := .code yX7_undo cX7_undo 1 (some .int) :: T0) B.pre
  have hT : ∀ w ∈ T0, w.before _ s = true := fun w h => hts w (List.mem_cons_of_mem _ h)
  have hown : s.vm.findClass RX7 = some m.cls := findClass_of_methodNamed B.named
  have hlocks := B.notSynchronized
  subst hsz
  have hD := hD0.self (sz := s.heap.size)
  generalize hAe : va_A (wX cA xa ka ra na ia ua va ca za pa qa X K R P L P2 L2 Tn Ti Tu Tv C Z q0 q1 q2 q3 q4 q5) s.heap.size = A at hD ⊢
  have hA : ∀ q : Nat, s.heap.size ≤ q → A q := fun q h => by rw [← hAe]; exact Or.inr h
  have hS : va_S A s.heap s.heap [] := va_S.rf
  have hl := lv_entry ([.ref (xa 0)]) (n := 1) (Nat.le_of_ble_eq_true rfl)
  rw [lg_entry_eq]
  generalize (lg_sl ([.ref (xa 0)]) ++ List.replicate (1 - (lg_sl ([.ref (xa 0)])).length) Slot.unset).toArray = ls at hl ⊢
  have hl : lv_has ls 1 [(0, .ref (xa 0))] := hl
  have F : tF p s m ([.ref (xa 0)] : List Value).toArray meth c G cA A RX7 cX7_undo 1 (some .int) := ⟨hx, hb, hr, hml, hT, hown, hlocks, hK, hN, hA⟩
  obtain ⟨H, hH⟩ : ∃ z, z = s.heap := ⟨_, rfl⟩
  rw [← hH] at hP
  have hS : va_S A s.heap H [] := by rw [hH]; exact hS
  suffices hgo : G_X7_undo p l e s m below meth c G cA A xa ka ra na ia ua va ca za pa qa X K R P L P2 L2 Ti Tu Tv Z q0 q1 q2 q3 q4 q5 r0 Tn' C' H [] (F0 m 0 ls []) by rw [hH] at hgo; exact hgo
  generalize ([] : List Loc) = locs at hS ⊢
  unfold f_X7_undo at h
  refine lv_aload_n hx hb dX7_undo_0 rfl (lv_at hl 0 rfl) ?_
  refine va_get (D := G) (ci := 7) (v := .ref (ca 0)) (C := RX7) (T := TX7) (N := 12) hx hb hT ku_7 hown hK hP 0 rfl rfl 7 (by decide) (hT _ kw_2_8) (fun _ h9 => h9) rfl dX7_undo_1 ?_
  refine va_get (D := G) (ci := 0) (v := .int (C 0 0)) (C := RX0) (T := TX0) (N := 3) hx hb hT ku_0 hown hK hP 101 rfl rfl 0 (by decide) (hT _ kw_14_7) (fun _ h9 => h9) rfl dX7_undo_4 ?_
  refine lv_if_ne (tgt := 12) hx hb dX7_undo_7 (by decide) (fun c1 => ?_) (fun c1 => ?_)
  · have h := tx_neg c1 h
    refine lv_aload_n hx hb dX7_undo_12 rfl (lv_at hl 0 rfl) ?_
    refine va_get (D := G) (ci := 7) (v := .ref (ca 0)) (C := RX7) (T := TX7) (N := 12) hx hb hT ku_7 hown hK hP 0 rfl rfl 7 (by decide) (hT _ kw_2_8) (fun _ h9 => h9) rfl dX7_undo_13 ?_
    refine lv_aload_n hx hb dX7_undo_16 rfl (lv_at hl 0 rfl) ?_
    refine va_get (D := G) (ci := 7) (v := .ref (na 0)) (C := RX7) (T := TX7) (N := 12) hx hb hT ku_7 hown hK hP 0 rfl rfl 2 (by decide) (hT _ kw_2_0) (fun _ h9 => h9) rfl dX7_undo_17 ?_
    obtain ⟨⟨Tn_2, C_3⟩, hc4, h⟩ := tx_bd h
    replace h := tx_let (y := Tn_2) rfl h
    replace h := tx_let (y := C_3) rfl h
    refine tw_cv tw_all hP hD hS hA (va_runV (As := [.ref (na 0)]) (rest := []) ⟨hx, hb, hml, hown, hT⟩ (c_X0_bringBack_x_na0 l G cA H.size xa ka ra na ia ua va ca za pa qa X K R P L P2 L2 Tn Ti Tu Tv C Z q0 q1 q2 q3 q4 q5  Tn_2 C_3 hc4) (cwV 1 hT (tq_gV kw_58_4 kw_58_5 kw_58_6 kw_2_7 kw_58_7) rfl rfl rfl (by decide +kernel) ⟨Nat.le_of_ble_eq_true rfl, Nat.le_of_ble_eq_true rfl⟩) ⟨(tw_pre tw_all hP hD hK hN).1, va_recv hK hP (ci := 0) (q0 := 101) rfl rfl, (tw_pre tw_all hP hD hK hN).2⟩ rfl rfl hl.1 rfl (lv_room (Nat.le_of_ble_eq_true rfl)) dX7_undo_20 ⟨Nat.le_of_ble_eq_true rfl, Nat.le_of_ble_eq_true rfl⟩) (fun _ H locs z5 hP hD hS => ?_)
    rw [List.append_nil] at hP hD
    have hP : va_P G vwCl (wX cA xa ka ra na ia ua va ca za pa qa X K R P L P2 L2 Tn_2 Ti Tu Tv C_3 Z q0 q1 q2 q3 q4 q5) H := hP
    have hD : va_D A (wX cA xa ka ra na ia ua va ca za pa qa X K R P L P2 L2 Tn_2 Ti Tu Tv C_3 Z q0 q1 q2 q3 q4 q5) := hD
    refine lv_aload_n hx hb dX7_undo_23 rfl (lv_at hl 0 rfl) ?_
    refine va_get (D := G) (ci := 7) (v := .ref (ca 0)) (C := RX7) (T := TX7) (N := 12) hx hb hT ku_7 hown hK hP 0 rfl rfl 7 (by decide) (hT _ kw_2_8) (fun _ h9 => h9) rfl dX7_undo_24 ?_
    refine va_get (D := G) (ci := 0) (v := .int (C_3 0 0)) (C := RX0) (T := TX0) (N := 3) hx hb hT ku_0 hown hK hP 101 rfl rfl 0 (by decide) (hT _ kw_14_7) (fun _ h9 => h9) rfl dX7_undo_27 ?_
    obtain ⟨rfl, rfl, rfl⟩ := tx_3 h
    exact W.iret hx hb hr (fun t ht hW => ⟨⟨_, (), rfl, rfl, by rw [ht]; exact hP, hD⟩, hS.F ht⟩) hS.2.2 dX7_undo_30
  · have h := tx_pos c1 h
    refine lv_iconst (v := (-1)) hx hb dX7_undo_10 (by decide) ?_
    obtain ⟨rfl, rfl, rfl⟩ := tx_3 h
    exact W.iret hx hb hr (fun t ht hW => ⟨⟨_, (), rfl, rfl, by rw [ht]; exact hP, hD⟩, hS.F ht⟩) hS.2.2 dX7_undo_11
abbrev G_X7_waits (p : Program) (l : Launch) (e : Env) (s : State) (m : MethodId) (below : List Frame) (meth : Method) (c : Code) (G : va_G) (cA : Nat → ClassId) (A : Nat → Prop) (xa : Nat → Nat) (ka : Nat → Nat) (ra : Nat → Nat) (na : Nat → Nat) (ia : Nat → Nat) (ua : Nat → Nat) (va : Nat → Nat) (ca : Nat → Nat) (za : Nat → Nat) (pa : Nat → Nat) (qa : Nat → Nat) (X : Tr) (K : Tr) (R : Tr) (P : Tr) (L : Lo) (P2 : Tr) (L2 : Lo) (Tn : Tr) (Ti : Tr) (Tu : Tr) (Tv : Tr) (C : Tr) (Z : Tr) (q0 : Nat) (q1 : Nat) (q2 : Nat) (q3 : Nat) (q4 : Nat) (q5 : Nat) (x1 : Int32) (r0 : Int32) (H : Heap) (locs : List Loc) (g : JFrame) : Prop := W p l e (headSpec (.code yX7_waits cX7_waits 2 (some .int) :: T0) ({ frames := 0, cells := 0, slots := 0, locals := 0 } : Room)).room s m ([.ref (xa 0), .int x1] : List Value).toArray below meth c H locs 0 0 (MQ below (tqQi G cA (fun (r : Int32) (_ : Unit) => r = r0) (fun (_ : Unit) => wX cA xa ka ra na ia ua va ca za pa qa X K R P L P2 L2 Tn Ti Tu Tv C Z q0 q1 q2 q3 q4 q5) A) ([.ref (xa 0), .int x1] : List Value).toArray s 0 0 A) g
set_option maxHeartbeats 4000000 in
set_option maxRecDepth 100000 in
theorem c_X7_waits (l : Launch) (G : va_G) (cA : Nat → ClassId) (sz : Nat) (xa : Nat → Nat) (ka : Nat → Nat) (ra : Nat → Nat) (na : Nat → Nat) (ia : Nat → Nat) (ua : Nat → Nat) (va : Nat → Nat) (ca : Nat → Nat) (za : Nat → Nat) (pa : Nat → Nat) (qa : Nat → Nat) (X : Tr) (K : Tr) (R : Tr) (P : Tr) (L : Lo) (P2 : Tr) (L2 : Lo) (Tn : Tr) (Ti : Tr) (Tu : Tr) (Tv : Tr) (C : Tr) (Z : Tr) (q0 : Nat) (q1 : Nat) (q2 : Nat) (q3 : Nat) (q4 : Nat) (q5 : Nat) (x1 : Int32)  (r0 : Int32) (h : f_X7_waits pa qa P q4 x1 = some r0) : Met l yX7_waits (.code yX7_waits cX7_waits 2 (some .int) :: T0) ({ frames := 0, cells := 0, slots := 0, locals := 0 } : Room) (tqP G cA [.ref (xa 0), .int x1] (wX cA xa ka ra na ia ua va ca za pa qa X K R P L P2 L2 Tn Ti Tu Tv C Z q0 q1 q2 q3 q4 q5) sz) (tqQi G cA (fun (r : Int32) (_ : Unit) => r = r0) (fun (_ : Unit) => wX cA xa ka ra na ia ua va ca za pa qa X K R P L P2 L2 Tn Ti Tu Tv C Z q0 q1 q2 q3 q4 q5) (va_A (wX cA xa ka ra na ia ua va ca za pa qa X K R P L P2 L2 Tn Ti Tu Tv C Z q0 q1 q2 q3 q4 q5) sz)) 0 0 (va_A (wX cA xa ka ra na ia ua va ca za pa qa X K R P L P2 L2 Tn Ti Tu Tv C Z q0 q1 q2 q3 q4 q5) sz) := by
  refine Met.ofW (cc := cX7_waits) (maxL := 2) (ret := (some .int)) (by decide) rfl ?_
  intro p e s m args below meth c s₁ B hml hv
  obtain ⟨rfl, hsz, hP, hK, hD0, hN⟩ := hv
  have hx := B.exec
  have hb := B.bytes
  have hr := B.returns
  have hts := atoms_spec (ws := .code yX7_waits cX7_waits 2 (some .int) :: T0) B.pre
  have hT : ∀ w ∈ T0, w.before _ s = true := fun w h => hts w (List.mem_cons_of_mem _ h)
  have hown : s.vm.findClass RX7 = some m.cls := findClass_of_methodNamed B.named
  have hlocks := B.notSynchronized
  subst hsz
  have hD := hD0.self (sz := s.heap.size)
  generalize hAe : va_A (wX cA xa ka ra na ia ua va ca za pa qa X K R P L P2 L2 Tn Ti Tu Tv C Z q0 q1 q2 q3 q4 q5) s.heap.size = A at hD ⊢
  have hA : ∀ q : Nat, s.heap.size ≤ q → A q := fun q h => by rw [← hAe]; exact Or.inr h
  have hS : va_S A s.heap s.heap [] := va_S.rf
  have hl := lv_entry ([.ref (xa 0), .int x1]) (n := 2) (Nat.le_of_ble_eq_true rfl)
  rw [lg_entry_eq]
  generalize (lg_sl ([.ref (xa 0), .int x1]) ++ List.replicate (2 - (lg_sl ([.ref (xa 0), .int x1])).length) Slot.unset).toArray = ls at hl ⊢
  have hl : lv_has ls 2 [(0, .ref (xa 0)), (1, .int x1)] := hl
  have F : tF p s m ([.ref (xa 0), .int x1] : List Value).toArray meth c G cA A RX7 cX7_waits 2 (some .int) := ⟨hx, hb, hr, hml, hT, hown, hlocks, hK, hN, hA⟩
  obtain ⟨H, hH⟩ : ∃ z, z = s.heap := ⟨_, rfl⟩
  rw [← hH] at hP
  have hS : va_S A s.heap H [] := by rw [hH]; exact hS
  suffices hgo : G_X7_waits p l e s m below meth c G cA A xa ka ra na ia ua va ca za pa qa X K R P L P2 L2 Tn Ti Tu Tv C Z q0 q1 q2 q3 q4 q5 x1 r0 H [] (F0 m 0 ls []) by rw [hH] at hgo; exact hgo
  generalize ([] : List Loc) = locs at hS ⊢
  unfold f_X7_waits at h
  refine lv_iload_n hx hb dX7_waits_0 rfl (lv_at hl 1 rfl) ?_
  refine lv_if_lt (tgt := 10) hx hb dX7_waits_1 (by decide) (fun c1 => ?_) (fun c1 => ?_)
  · have h := tx_pos c1 h
    refine lv_iconst (v := (-1)) hx hb dX7_waits_10 (by decide) ?_
    refine lv_goto (tgt := 23) hx hb dX7_waits_11 (by decide) ?_
    obtain rfl := tx_1 h
    exact W.iret hx hb hr (fun t ht hW => ⟨⟨_, (), rfl, rfl, by rw [ht]; exact hP, hD⟩, hS.F ht⟩) hS.2.2 dX7_waits_23
  · have h := tx_neg c1 h
    refine lv_iload_n hx hb dX7_waits_4 rfl (lv_at hl 1 rfl) ?_
    refine lv_bipush (v := 20) hx hb dX7_waits_5 (by decide) ?_
    refine lv_icmp_le (tgt := 14) hx hb dX7_waits_7 (by decide) (fun c2 => ?_) (fun c2 => ?_)
    · have h := tx_pos c2 h
      refine lv_aload_n hx hb dX7_waits_14 rfl (lv_at hl 0 rfl) ?_
      refine va_get (D := G) (ci := 7) (v := .ref q4) (C := RX7) (T := TX7) (N := 12) hx hb hT ku_7 hown hK hP 0 rfl rfl 1 (by decide) (hT _ kw_1_20) (fun _ h9 => h9) rfl dX7_waits_15 ?_
      obtain ⟨g3, h⟩ := tx_ck h
      have eg3 := of_decide_eq_true g3
      subst eg3
      refine va_get (D := G) (ci := 2) (v := .ref (pa 18)) (C := RX2) (T := TX2) (N := 19) hx hb hT ku_2 hown hK hP 9 rfl rfl 17 (by decide) (hT _ kw_32_23) (fun _ h9 => h9) rfl dX7_waits_18 ?_
      refine lv_iload_n hx hb dX7_waits_21 rfl (lv_at hl 1 rfl) ?_
      obtain ⟨g4, h⟩ := tx_ck h
      refine va_iald (i := x1) hx hb hK hP 20 0 rfl rfl (tx_in g4) dX7_waits_22 ?_
      obtain rfl := tx_1 h
      exact W.iret hx hb hr (fun t ht hW => ⟨⟨_, (), rfl, rfl, by rw [ht]; exact hP, hD⟩, hS.F ht⟩) hS.2.2 dX7_waits_23
    · have h := tx_neg c2 h
      refine lv_iconst (v := (-1)) hx hb dX7_waits_10 (by decide) ?_
      refine lv_goto (tgt := 23) hx hb dX7_waits_11 (by decide) ?_
      obtain rfl := tx_1 h
      exact W.iret hx hb hr (fun t ht hW => ⟨⟨_, (), rfl, rfl, by rw [ht]; exact hP, hD⟩, hS.F ht⟩) hS.2.2 dX7_waits_23
abbrev G_X7_when (p : Program) (l : Launch) (e : Env) (s : State) (m : MethodId) (below : List Frame) (meth : Method) (c : Code) (G : va_G) (cA : Nat → ClassId) (A : Nat → Prop) (xa : Nat → Nat) (ka : Nat → Nat) (ra : Nat → Nat) (na : Nat → Nat) (ia : Nat → Nat) (ua : Nat → Nat) (va : Nat → Nat) (ca : Nat → Nat) (za : Nat → Nat) (pa : Nat → Nat) (qa : Nat → Nat) (X : Tr) (K : Tr) (R : Tr) (P : Tr) (P2 : Tr) (L2 : Lo) (Tn : Tr) (Ti : Tr) (C : Tr) (Z : Tr) (q0 : Nat) (q1 : Nat) (q4 : Nat) (q5 : Nat) (x1 : Int32) (x2 : Int32) (r0 : Int32) (L' : Lo) (Tu' : Tr) (Tv' : Tr) (q2' : Nat) (q3' : Nat) (H : Heap) (locs : List Loc) (g : JFrame) : Prop := W p l e (headSpec (.code yX7_when cX7_when 8 (some .int) :: T0) ({ frames := 7, cells := 0, slots := 0, locals := 173 } : Room)).room s m ([.ref (xa 0), .int x1, .int x2] : List Value).toArray below meth c H locs 0 0 (MQ below (tqQi G cA (fun (r : Int32) (_ : Unit) => r = r0) (fun (_ : Unit) => wX cA xa ka ra na ia ua va ca za pa qa X K R P (L') P2 L2 Tn Ti (Tu') (Tv') C Z q0 q1 (q2') (q3') q4 q5) A) ([.ref (xa 0), .int x1, .int x2] : List Value).toArray s 0 0 A) g
set_option maxHeartbeats 4000000 in
set_option maxRecDepth 100000 in
theorem w_X7_when_J132 {p : Program} {l : Launch} {e : Env} {s : State} {m : MethodId} {below : List Frame} {meth : Method} {c : Code} {G : va_G} {cA : Nat → ClassId} {A : Nat → Prop} {xa : Nat → Nat} {ka : Nat → Nat} {ra : Nat → Nat} {na : Nat → Nat} {ia : Nat → Nat} {ua : Nat → Nat} {va : Nat → Nat} {ca : Nat → Nat} {za : Nat → Nat} {pa : Nat → Nat} {qa : Nat → Nat} {X : Tr} {K : Tr} {R : Tr} {P : Tr} {P2 : Tr} {L2 : Lo} {Tn : Tr} {Ti : Tr} {C : Tr} {Z : Tr} {q0 : Nat} {q1 : Nat} {q4 : Nat} {q5 : Nat} {x1₀ : Int32} {x2₀ : Int32} {r0 : Int32} {L' : Lo} {Tu' : Tr} {Tv' : Tr} {q2' : Nat} {q3' : Nat} {q3 : Nat} {x1 : Int32} {x2 : Int32} (F : tF p s m ([.ref (xa 0), .int x1₀, .int x2₀] : List Value).toArray meth c G cA A RX7 cX7_when 8 (some .int))  (k55 : Int32 → Int32 → Int32 → Lo → Tr → Tr → Nat → Option (Int32 × Lo × Tr × Tr × Nat × Nat)) (hk55 : ∀ (x4 : Int32) (x5 : Int32) (x6 : Int32) (L : Lo) (Tu : Tr) (Tv : Tr) (q2 : Nat) (H : Heap) (locs : List Loc) (ls : Array Slot), k55 x4 x5 x6 L Tu Tv q2 = some (r0, L', Tu', Tv', q2', q3') → va_P G vwCl (wX cA xa ka ra na ia ua va ca za pa qa X K R P L P2 L2 Tn Ti Tu Tv C Z q0 q1 q2 q3 q4 q5) H → va_D A (wX cA xa ka ra na ia ua va ca za pa qa X K R P L P2 L2 Tn Ti Tu Tv C Z q0 q1 q2 q3 q4 q5) → va_S A s.heap H locs → lv_has ls 8 [(0, .ref (xa 0)), (1, .int x1), (2, .int x2), (4, .int x4), (5, .int x5), (6, .int x6)] → G_X7_when p l e s m below meth c G cA A xa ka ra na ia ua va ca za pa qa X K R P P2 L2 Tn Ti C Z q0 q1 q4 q5 x1₀ x2₀ r0 L' Tu' Tv' q2' q3' H locs (F0 m 55 ls [])) (x4 : Int32) (x5 : Int32) (x6 : Int32) (L : Lo) (Tu : Tr) (Tv : Tr) (q2 : Nat) (H : Heap) (locs : List Loc) (ls : Array Slot) (h : fJ_X7_when_J132 k55 pa qa P Tn q0 q3 q4 x1 x2 x4 x5 x6 L Tu Tv q2 = some (r0, L', Tu', Tv', q2', q3')) (hP : va_P G vwCl (wX cA xa ka ra na ia ua va ca za pa qa X K R P L_40 P2 L2 Tn Ti Tu Tv_39 C Z q0 q1 q2 (pa 0) q4 q5) H) (hD : va_D A (wX cA xa ka ra na ia ua va ca za pa qa X K R P L_40 P2 L2 Tn Ti Tu Tv_39 C Z q0 q1 q2 (pa 0) q4 q5)) (hS : va_S A s.heap H locs) (hl : lv_has ls 8 [(6, .int y43), (0, .ref (xa 0)), (1, .int x1), (2, .int x2), (4, .int x4), (5, .int x5)]) : G_X7_when p l e s m below meth c G cA A xa ka ra na ia ua va ca za pa qa X K R P P2 L2 Tn Ti C Z q0 q1 q4 q5 x1₀ x2₀ r0 L' Tu' Tv' q2' q3' H locs (F0 m 132 ls []) := by
  obtain ⟨hx, hb, hr, hml, hT, hown, hlocks, hK, hN, hA⟩ := id F
  unfold fJ_X7_when_J132 at h
  refine lv_aload_n hx hb dX7_when_132 rfl (lv_at hl 0 rfl) ?_
  refine va_get (D := G) (ci := 7) (v := .ref (va 0)) (C := RX7) (T := TX7) (N := 12) hx hb hT ku_7 hown hK hP 0 rfl rfl 6 (by decide) (hT _ kw_2_4) (fun _ h9 => h9) rfl dX7_when_133 ?_
  obtain ⟨g38, h⟩ := tx_ck h
  have eg38 := of_decide_eq_true g38
  subst eg38
  obtain ⟨⟨Tv_39, L_40⟩, hc41, h⟩ := tx_bd h
  replace h := tx_let (y := Tv_39) rfl h
  replace h := tx_let (y := L_40) rfl h
  refine tw_cv pX_va hP hD hS hA (va_runV (As := []) (rest := []) ⟨hx, hb, hml, hown, hT⟩ (c_X6_passStop l G cA H.size va pa Tv P L  Tv_39 L_40 hc41) (cwV 0 hT (tq_gV kw_40_7 kw_40_8 kw_40_9 kw_1_23 kw_40_10) rfl rfl rfl (by decide +kernel) ⟨Nat.le_of_ble_eq_true rfl, Nat.le_of_ble_eq_true rfl⟩) ⟨(tw_pre pX_va hP hD hK hN).1, va_recv hK hP (ci := 6) (q0 := 89) rfl rfl, (tw_pre pX_va hP hD hK hN).2⟩ rfl rfl hl.1 rfl (lv_room (Nat.le_of_ble_eq_true rfl)) dX7_when_136 ⟨Nat.le_of_ble_eq_true rfl, Nat.le_of_ble_eq_true rfl⟩) (fun _ H locs z42 hP hD hS => ?_)
  replace hP := tw_P pX_va.symm hP
  replace hD := tw_D pX_va.symm hD
  have hP : va_P G vwCl (wX cA xa ka ra na ia ua va ca za pa qa X K R P L_40 P2 L2 Tn Ti Tu Tv_39 C Z q0 q1 q2 (pa 0) q4 q5) H := hP
  have hD : va_D A (wX cA xa ka ra na ia ua va ca za pa qa X K R P L_40 P2 L2 Tn Ti Tu Tv_39 C Z q0 q1 q2 (pa 0) q4 q5) := hD
  obtain ⟨y43, ey43, h⟩ := tx_lt h
  refine lv_iinc (v := y43) (lv' := [(6, .int y43), (0, .ref (xa 0)), (1, .int x1), (2, .int x2), (4, .int x4), (5, .int x5)]) hx hb dX7_when_139 hl (k := 5) rfl ey43 (by decide) rfl (fun ls hl => ?_)
  refine lv_goto (tgt := 55) hx hb dX7_when_142 (by decide) ?_
  exact hk55 x4 x5 y43 L_40 Tu Tv_39 q2 H locs ls h hP hD hS (lv_sub hl [1, 2, 3, 4, 5, 0] rfl)
set_option maxHeartbeats 4000000 in
set_option maxRecDepth 100000 in
theorem w_X7_when_J130 {p : Program} {l : Launch} {e : Env} {s : State} {m : MethodId} {below : List Frame} {meth : Method} {c : Code} {G : va_G} {cA : Nat → ClassId} {A : Nat → Prop} {xa : Nat → Nat} {ka : Nat → Nat} {ra : Nat → Nat} {na : Nat → Nat} {ia : Nat → Nat} {ua : Nat → Nat} {va : Nat → Nat} {ca : Nat → Nat} {za : Nat → Nat} {pa : Nat → Nat} {qa : Nat → Nat} {X : Tr} {K : Tr} {R : Tr} {P : Tr} {P2 : Tr} {L2 : Lo} {Tn : Tr} {Ti : Tr} {C : Tr} {Z : Tr} {q0 : Nat} {q1 : Nat} {q4 : Nat} {q5 : Nat} {x1₀ : Int32} {x2₀ : Int32} {r0 : Int32} {L' : Lo} {Tu' : Tr} {Tv' : Tr} {q2' : Nat} {q3' : Nat} {q3 : Nat} {x1 : Int32} {x2 : Int32} (F : tF p s m ([.ref (xa 0), .int x1₀, .int x2₀] : List Value).toArray meth c G cA A RX7 cX7_when 8 (some .int))  (k55 : Int32 → Int32 → Int32 → Lo → Tr → Tr → Nat → Option (Int32 × Lo × Tr × Tr × Nat × Nat)) (hk55 : ∀ (x4 : Int32) (x5 : Int32) (x6 : Int32) (L : Lo) (Tu : Tr) (Tv : Tr) (q2 : Nat) (H : Heap) (locs : List Loc) (ls : Array Slot), k55 x4 x5 x6 L Tu Tv q2 = some (r0, L', Tu', Tv', q2', q3') → va_P G vwCl (wX cA xa ka ra na ia ua va ca za pa qa X K R P L P2 L2 Tn Ti Tu Tv C Z q0 q1 q2 q3 q4 q5) H → va_D A (wX cA xa ka ra na ia ua va ca za pa qa X K R P L P2 L2 Tn Ti Tu Tv C Z q0 q1 q2 q3 q4 q5) → va_S A s.heap H locs → lv_has ls 8 [(0, .ref (xa 0)), (1, .int x1), (2, .int x2), (4, .int x4), (5, .int x5), (6, .int x6)] → G_X7_when p l e s m below meth c G cA A xa ka ra na ia ua va ca za pa qa X K R P P2 L2 Tn Ti C Z q0 q1 q4 q5 x1₀ x2₀ r0 L' Tu' Tv' q2' q3' H locs (F0 m 55 ls [])) (x4 : Int32) (x6 : Int32) (s0 : Int32) (L : Lo) (Tu : Tr) (Tv : Tr) (q2 : Nat) (H : Heap) (locs : List Loc) (ls : Array Slot) (h : fJ_X7_when_J130 k55 pa qa P Tn q0 q3 q4 x1 x2 x4 x6 s0 L Tu Tv q2 = some (r0, L', Tu', Tv', q2', q3')) (hP : va_P G vwCl (wX cA xa ka ra na ia ua va ca za pa qa X K R P L P2 L2 Tn Ti Tu Tv C Z q0 q1 q2 q3 q4 q5) H) (hD : va_D A (wX cA xa ka ra na ia ua va ca za pa qa X K R P L P2 L2 Tn Ti Tu Tv C Z q0 q1 q2 q3 q4 q5)) (hS : va_S A s.heap H locs) (hl : lv_has ls 8 [(5, .int s0), (0, .ref (xa 0)), (1, .int x1), (2, .int x2), (4, .int x4), (6, .int x6)]) : G_X7_when p l e s m below meth c G cA A xa ka ra na ia ua va ca za pa qa X K R P P2 L2 Tn Ti C Z q0 q1 q4 q5 x1₀ x2₀ r0 L' Tu' Tv' q2' q3' H locs (F0 m 130 ls []) := by
  obtain ⟨hx, hb, hr, hml, hT, hown, hlocks, hK, hN, hA⟩ := id F
  unfold fJ_X7_when_J130 at h
  refine lv_istore (lv' := [(5, .int s0), (0, .ref (xa 0)), (1, .int x1), (2, .int x2), (4, .int x4), (6, .int x6)]) hx hb dX7_when_130 hl (by decide) rfl (fun ls hl => ?_)
  exact w_X7_when_J132 F k55 hk55 x4 s0 x6 L Tu Tv q2 H locs ls h hP hD hS (lv_sub hl [1, 2, 3, 4, 0, 5] rfl)
set_option maxHeartbeats 4000000 in
set_option maxRecDepth 100000 in
theorem w_X7_when_L55 {p : Program} {l : Launch} {e : Env} {s : State} {m : MethodId} {below : List Frame} {meth : Method} {c : Code} {G : va_G} {cA : Nat → ClassId} {A : Nat → Prop} {xa : Nat → Nat} {ka : Nat → Nat} {ra : Nat → Nat} {na : Nat → Nat} {ia : Nat → Nat} {ua : Nat → Nat} {va : Nat → Nat} {ca : Nat → Nat} {za : Nat → Nat} {pa : Nat → Nat} {qa : Nat → Nat} {X : Tr} {K : Tr} {R : Tr} {P : Tr} {P2 : Tr} {L2 : Lo} {Tn : Tr} {Ti : Tr} {C : Tr} {Z : Tr} {q0 : Nat} {q1 : Nat} {q4 : Nat} {q5 : Nat} {x1₀ : Int32} {x2₀ : Int32} {r0 : Int32} {L' : Lo} {Tu' : Tr} {Tv' : Tr} {q2' : Nat} {q3' : Nat} {q3 : Nat} {x1 : Int32} {x2 : Int32} (F : tF p s m ([.ref (xa 0), .int x1₀, .int x2₀] : List Value).toArray meth c G cA A RX7 cX7_when 8 (some .int))    (N : Nat) : ∀ (x4 : Int32) (x5 : Int32) (x6 : Int32) (L : Lo) (Tu : Tr) (Tv : Tr) (q2 : Nat) (H : Heap) (locs : List Loc) (ls : Array Slot), lpF (fun _ _ _ _ _ _ _ => none) (fB_X7_when_L55 pa qa P Tn q0 q3 q4 x1 x2) N x4 x5 x6 L Tu Tv q2 = some (r0, L', Tu', Tv', q2', q3') → va_P G vwCl (wX cA xa ka ra na ia ua va ca za pa qa X K R P L P2 L2 Tn Ti Tu Tv C Z q0 q1 q2 q3 q4 q5) H → va_D A (wX cA xa ka ra na ia ua va ca za pa qa X K R P L P2 L2 Tn Ti Tu Tv C Z q0 q1 q2 q3 q4 q5) → va_S A s.heap H locs → lv_has ls 8 [(0, .ref (xa 0)), (1, .int x1), (2, .int x2), (4, .int x4), (5, .int x5), (6, .int x6)] → G_X7_when p l e s m below meth c G cA A xa ka ra na ia ua va ca za pa qa X K R P P2 L2 Tn Ti C Z q0 q1 q4 q5 x1₀ x2₀ r0 L' Tu' Tv' q2' q3' H locs (F0 m 55 ls []) := by
  obtain ⟨hx, hb, hr, hml, hT, hown, hlocks, hK, hN, hA⟩ := id F
  induction N with
  | zero =>
    intro x4 x5 x6 L Tu Tv q2 H locs ls h
    have h : (none : Option (Int32 × Lo × Tr × Tr × Nat × Nat)) = some (r0, L', Tu', Tv', q2', q3') := h
    cases h
  | succ N hk55 =>
    intro x4 x5 x6 L Tu Tv q2 H locs ls h hP hD hS hl
    have h : fB_X7_when_L55 pa qa P Tn q0 q3 q4 x1 x2 (lpF (fun _ _ _ _ _ _ _ => none) (fB_X7_when_L55 pa qa P Tn q0 q3 q4 x1 x2) N) x4 x5 x6 L Tu Tv q2 = some (r0, L', Tu', Tv', q2', q3') := h
    generalize hk55e : lpF (fun _ _ _ _ _ _ _ => none) (fB_X7_when_L55 pa qa P Tn q0 q3 q4 x1 x2) N = k55 at h hk55
    unfold fB_X7_when_L55 at h
    refine lv_iload hx hb dX7_when_55 (lv_at hl 5 rfl) ?_
    refine lv_bipush (v := 20) hx hb dX7_when_57 (by decide) ?_
    refine lv_icmp_ge (tgt := 145) hx hb dX7_when_59 (by decide) (fun c21 => ?_) (fun c21 => ?_)
    · have h := tx_pos c21 h
      refine lv_iload hx hb dX7_when_145 (lv_at hl 4 rfl) ?_
      obtain ⟨rfl, rfl, rfl, rfl, rfl, rfl⟩ := tx_6 h
      exact W.iret hx hb hr (fun t ht hW => ⟨⟨_, (), rfl, rfl, by rw [ht]; exact hP, hD⟩, hS.F ht⟩) hS.2.2 dX7_when_147
    · have h := tx_neg c21 h
      refine lv_aload_n hx hb dX7_when_62 rfl (lv_at hl 0 rfl) ?_
      refine va_get (D := G) (ci := 7) (v := .ref (ua 0)) (C := RX7) (T := TX7) (N := 12) hx hb hT ku_7 hown hK hP 0 rfl rfl 5 (by decide) (hT _ kw_2_3) (fun _ h9 => h9) rfl dX7_when_63 ?_
      refine lv_aload_n hx hb dX7_when_66 rfl (lv_at hl 0 rfl) ?_
      refine va_get (D := G) (ci := 7) (v := .ref (va 0)) (C := RX7) (T := TX7) (N := 12) hx hb hT ku_7 hown hK hP 0 rfl rfl 6 (by decide) (hT _ kw_2_4) (fun _ h9 => h9) rfl dX7_when_67 ?_
      obtain ⟨⟨Tu_22, q2_23⟩, hc24, h⟩ := tx_bd h
      replace h := tx_let (y := Tu_22) rfl h
      replace h := tx_let (y := q2_23) rfl h
      refine tw_cv pX_ua_va hP hD hS hA (va_runV (As := [.ref (va 0)]) (rest := []) ⟨hx, hb, hml, hown, hT⟩ (c_X6_copy l G cA H.size ua va Tu Tv q2 q3  Tu_22 q2_23 hc24) (cwV 1 hT (tq_gV kw_38_6 kw_38_7 kw_38_8 kw_1_23 kw_38_9) rfl rfl rfl (by decide +kernel) ⟨Nat.le_of_ble_eq_true rfl, Nat.le_of_ble_eq_true rfl⟩) ⟨(tw_pre pX_ua_va hP hD hK hN).1, va_recv hK hP (ci := 6) (q0 := 77) rfl rfl, (tw_pre pX_ua_va hP hD hK hN).2⟩ rfl rfl hl.1 rfl (lv_room (Nat.le_of_ble_eq_true rfl)) dX7_when_70 ⟨Nat.le_of_ble_eq_true rfl, Nat.le_of_ble_eq_true rfl⟩) (fun _ H locs z25 hP hD hS => ?_)
      replace hP := tw_P pX_ua_va.symm hP
      replace hD := tw_D pX_ua_va.symm hD
      have hP : va_P G vwCl (wX cA xa ka ra na ia ua va ca za pa qa X K R P L P2 L2 Tn Ti Tu_22 Tv C Z q0 q1 q2_23 q3 q4 q5) H := hP
      have hD : va_D A (wX cA xa ka ra na ia ua va ca za pa qa X K R P L P2 L2 Tn Ti Tu_22 Tv C Z q0 q1 q2_23 q3 q4 q5) := hD
      refine lv_aload_n hx hb dX7_when_73 rfl (lv_at hl 0 rfl) ?_
      refine va_get (D := G) (ci := 7) (v := .ref (ua 0)) (C := RX7) (T := TX7) (N := 12) hx hb hT ku_7 hown hK hP 0 rfl rfl 5 (by decide) (hT _ kw_2_3) (fun _ h9 => h9) rfl dX7_when_74 ?_
      refine lv_iload_n hx hb dX7_when_77 rfl (lv_at hl 1 rfl) ?_
      obtain ⟨g26, h⟩ := tx_ck h
      have eg26 := of_decide_eq_true g26
      subst eg26
      obtain ⟨⟨r27, Tu_28⟩, hc29, h⟩ := tx_bd h
      replace h := tx_let (y := r27) rfl h
      replace h := tx_let (y := Tu_28) rfl h
      refine tw_ci pX_ua hP hD hS hA (va_runV (As := [.int x1]) (rest := []) ⟨hx, hb, hml, hown, hT⟩ (c_X6_turnOver l G cA H.size ua pa Tu_22 P L x1  r27 Tu_28 hc29) (cwV 1 hT (tq_gV kw_38_11 kw_38_12 kw_38_13 kw_1_23 kw_38_14) rfl rfl rfl (by decide +kernel) ⟨Nat.le_of_ble_eq_true rfl, Nat.le_of_ble_eq_true rfl⟩) ⟨(tw_pre pX_ua hP hD hK hN).1, va_recv hK hP (ci := 6) (q0 := 77) rfl rfl, (tw_pre pX_ua hP hD hK hN).2⟩ rfl rfl hl.1 rfl (lv_room (Nat.le_of_ble_eq_true rfl)) dX7_when_78 ⟨Nat.le_of_ble_eq_true rfl, Nat.le_of_ble_eq_true rfl⟩) (fun _ _ H locs z30 hP hD hS => ?_)
      subst z30
      replace hP := tw_P pX_ua.symm hP
      replace hD := tw_D pX_ua.symm hD
      have hP : va_P G vwCl (wX cA xa ka ra na ia ua va ca za pa qa X K R P L P2 L2 Tn Ti Tu_28 Tv C Z q0 q1 (pa 0) q3 q4 q5) H := hP
      have hD : va_D A (wX cA xa ka ra na ia ua va ca za pa qa X K R P L P2 L2 Tn Ti Tu_28 Tv C Z q0 q1 (pa 0) q3 q4 q5) := hD
      refine lv_pop hx hb dX7_when_81 rfl ?_
      refine lv_aload_n hx hb dX7_when_82 rfl (lv_at hl 0 rfl) ?_
      obtain ⟨⟨r31, L_32, Tu_33⟩, hc34, h⟩ := tx_bd h
      replace h := tx_let (y := r31) rfl h
      replace h := tx_let (y := L_32) rfl h
      replace h := tx_let (y := Tu_33) rfl h
      refine tw_ci tw_all hP hD hS hA (va_runV (As := []) (rest := []) ⟨hx, hb, hml, hown, hT⟩ (c_X7_liftsOfTrial l G cA H.size xa ka ra na ia ua va ca za pa qa X K R P L P2 L2 Tn Ti Tu_28 Tv C Z q0 q1 (pa 0) q3 q4 q5  r31 L_32 Tu_33 hc34) (cwV 0 hT (tq_gV kw_49_5 kw_49_6 kw_49_7 kw_1_2 kw_49_8) rfl rfl rfl (by decide +kernel) ⟨Nat.le_of_ble_eq_true rfl, Nat.le_of_ble_eq_true rfl⟩) ⟨(tw_pre tw_all hP hD hK hN).1, va_recv hK hP (ci := 7) (q0 := 0) rfl rfl, (tw_pre tw_all hP hD hK hN).2⟩ rfl rfl hl.1 rfl (lv_room (Nat.le_of_ble_eq_true rfl)) dX7_when_83 ⟨Nat.le_of_ble_eq_true rfl, Nat.le_of_ble_eq_true rfl⟩) (fun _ _ H locs z35 hP hD hS => ?_)
      subst z35
      rw [List.append_nil] at hP hD
      have hP : va_P G vwCl (wX cA xa ka ra na ia ua va ca za pa qa X K R P L_32 P2 L2 Tn Ti Tu_33 Tv C Z q0 q1 (pa 0) q3 q4 q5) H := hP
      have hD : va_D A (wX cA xa ka ra na ia ua va ca za pa qa X K R P L_32 P2 L2 Tn Ti Tu_33 Tv C Z q0 q1 (pa 0) q3 q4 q5) := hD
      refine lv_istore (lv' := [(7, .int r31), (0, .ref (xa 0)), (1, .int x1), (2, .int x2), (4, .int x4), (5, .int x5), (6, .int x6)]) hx hb dX7_when_86 hl (by decide) rfl (fun ls hl => ?_)
      refine lv_iload hx hb dX7_when_88 (lv_at hl 0 rfl) ?_
      refine lv_aload_n hx hb dX7_when_90 rfl (lv_at hl 1 rfl) ?_
      refine va_get (D := G) (ci := 7) (v := .ref (va 0)) (C := RX7) (T := TX7) (N := 12) hx hb hT ku_7 hown hK hP 0 rfl rfl 6 (by decide) (hT _ kw_2_4) (fun _ h9 => h9) rfl dX7_when_91 ?_
      refine va_get (D := G) (ci := 6) (v := .ref (va 17)) (C := RX6) (T := TX6) (N := 20) hx hb hT ku_6 hown hK hP 89 rfl rfl 16 (by decide) (hT _ kw_31_21) (fun _ h9 => h9) rfl dX7_when_94 ?_
      refine lv_iload_n hx hb dX7_when_97 rfl (lv_at hl 2 rfl) ?_
      obtain ⟨g36, h⟩ := tx_ck h
      refine va_iald (i := x1) hx hb hK hP 98 0 rfl rfl (tx_in g36) dX7_when_98 ?_
      refine lv_iadd hx hb dX7_when_99 ?_
      refine lv_iload hx hb dX7_when_100 (lv_at hl 4 rfl) ?_
      refine lv_icmp_ge (tgt := 132) hx hb dX7_when_102 (by decide) (fun c37 => ?_) (fun c37 => ?_)
      · have h := tx_pos c37 h
        exact w_X7_when_J132 F k55 hk55 x4 x5 x6 L_32 Tu_33 Tv (pa 0) H locs ls h hP hD hS (lv_sub hl [1, 2, 3, 4, 5, 6] rfl)
      · have h := tx_neg c37 h
        refine lv_iload hx hb dX7_when_105 (lv_at hl 0 rfl) ?_
        refine lv_aload_n hx hb dX7_when_107 rfl (lv_at hl 1 rfl) ?_
        refine va_get (D := G) (ci := 7) (v := .ref (va 0)) (C := RX7) (T := TX7) (N := 12) hx hb hT ku_7 hown hK hP 0 rfl rfl 6 (by decide) (hT _ kw_2_4) (fun _ h9 => h9) rfl dX7_when_108 ?_
        refine va_get (D := G) (ci := 6) (v := .ref (va 17)) (C := RX6) (T := TX6) (N := 20) hx hb hT ku_6 hown hK hP 89 rfl rfl 16 (by decide) (hT _ kw_31_21) (fun _ h9 => h9) rfl dX7_when_111 ?_
        refine lv_iload_n hx hb dX7_when_114 rfl (lv_at hl 2 rfl) ?_
        refine va_iald (i := x1) hx hb hK hP 98 0 rfl rfl (tx_in g36) dX7_when_115 ?_
        refine lv_iadd hx hb dX7_when_116 ?_
        refine lv_topi (fun y44 ey44 => ?_)
        have h := tx_let ey44 h
        refine lv_istore (lv' := [(4, .int y44), (7, .int r31), (0, .ref (xa 0)), (1, .int x1), (2, .int x2), (5, .int x5), (6, .int x6)]) hx hb dX7_when_117 hl (by decide) rfl (fun ls hl => ?_)
        refine lv_iload_n hx hb dX7_when_119 rfl (lv_at hl 4 rfl) ?_
        refine lv_if_ne (tgt := 128) hx hb dX7_when_120 (by decide) (fun c45 => ?_) (fun c45 => ?_)
        · have h := tx_neg c45 h
          refine lv_iload hx hb dX7_when_128 (lv_at hl 1 rfl) ?_
          exact w_X7_when_J130 F k55 hk55 y44 x6 r31 L_32 Tu_33 Tv (pa 0) H locs ls h hP hD hS (lv_sub hl [2, 3, 4, 0, 6] rfl)
        · have h := tx_pos c45 h
          refine lv_iload hx hb dX7_when_123 (lv_at hl 6 rfl) ?_
          refine lv_goto (tgt := 130) hx hb dX7_when_125 (by decide) ?_
          exact w_X7_when_J130 F k55 hk55 y44 x6 x6 L_32 Tu_33 Tv (pa 0) H locs ls h hP hD hS (lv_sub hl [2, 3, 4, 0, 6] rfl)
set_option maxHeartbeats 4000000 in
set_option maxRecDepth 100000 in
theorem c_X7_when (l : Launch) (G : va_G) (cA : Nat → ClassId) (sz : Nat) (xa : Nat → Nat) (ka : Nat → Nat) (ra : Nat → Nat) (na : Nat → Nat) (ia : Nat → Nat) (ua : Nat → Nat) (va : Nat → Nat) (ca : Nat → Nat) (za : Nat → Nat) (pa : Nat → Nat) (qa : Nat → Nat) (X : Tr) (K : Tr) (R : Tr) (P : Tr) (L : Lo) (P2 : Tr) (L2 : Lo) (Tn : Tr) (Ti : Tr) (Tu : Tr) (Tv : Tr) (C : Tr) (Z : Tr) (q0 : Nat) (q1 : Nat) (q2 : Nat) (q3 : Nat) (q4 : Nat) (q5 : Nat) (x1 : Int32) (x2 : Int32)  (r0 : Int32) (L' : Lo) (Tu' : Tr) (Tv' : Tr) (q2' : Nat) (q3' : Nat) (h : f_X7_when pa qa P L Tn Tu Tv q0 q2 q3 q4 x1 x2 = some (r0, L', Tu', Tv', q2', q3')) : Met l yX7_when (.code yX7_when cX7_when 8 (some .int) :: T0) ({ frames := 7, cells := 0, slots := 0, locals := 173 } : Room) (tqP G cA [.ref (xa 0), .int x1, .int x2] (wX cA xa ka ra na ia ua va ca za pa qa X K R P L P2 L2 Tn Ti Tu Tv C Z q0 q1 q2 q3 q4 q5) sz) (tqQi G cA (fun (r : Int32) (_ : Unit) => r = r0) (fun (_ : Unit) => wX cA xa ka ra na ia ua va ca za pa qa X K R P (L') P2 L2 Tn Ti (Tu') (Tv') C Z q0 q1 (q2') (q3') q4 q5) (va_A (wX cA xa ka ra na ia ua va ca za pa qa X K R P L P2 L2 Tn Ti Tu Tv C Z q0 q1 q2 q3 q4 q5) sz)) 0 0 (va_A (wX cA xa ka ra na ia ua va ca za pa qa X K R P L P2 L2 Tn Ti Tu Tv C Z q0 q1 q2 q3 q4 q5) sz) := by
  refine Met.ofW (cc := cX7_when) (maxL := 8) (ret := (some .int)) (by decide) rfl ?_
  intro p e s m args below meth c s₁ B hml hv
  obtain ⟨rfl, hsz, hP, hK, hD0, hN⟩ := hv
  have hx := B.exec
  have hb := B.bytes
  have hr := B.returns
  have hts := atoms_spec (ws := .code yX7_when cX7_when 8 (some .int) :: T0) B.pre
  have hT : ∀ w ∈ T0, w.before _ s = true := fun w h => hts w (List.mem_cons_of_mem _ h)
  have hown : s.vm.findClass RX7 = some m.cls := findClass_of_methodNamed B.named
  have hlocks := B.notSynchronized
  subst hsz
  have hD := hD0.self (sz := s.heap.size)
  generalize hAe : va_A (wX cA xa ka ra na ia ua va ca za pa qa X K R P L P2 L2 Tn Ti Tu Tv C Z q0 q1 q2 q3 q4 q5) s.heap.size = A at hD ⊢
  have hA : ∀ q : Nat, s.heap.size ≤ q → A q := fun q h => by rw [← hAe]; exact Or.inr h
  have hS : va_S A s.heap s.heap [] := va_S.rf
  have hl := lv_entry ([.ref (xa 0), .int x1, .int x2]) (n := 8) (Nat.le_of_ble_eq_true rfl)
  rw [lg_entry_eq]
  generalize (lg_sl ([.ref (xa 0), .int x1, .int x2]) ++ List.replicate (8 - (lg_sl ([.ref (xa 0), .int x1, .int x2])).length) Slot.unset).toArray = ls at hl ⊢
  have hl : lv_has ls 8 [(0, .ref (xa 0)), (1, .int x1), (2, .int x2)] := hl
  have F : tF p s m ([.ref (xa 0), .int x1, .int x2] : List Value).toArray meth c G cA A RX7 cX7_when 8 (some .int) := ⟨hx, hb, hr, hml, hT, hown, hlocks, hK, hN, hA⟩
  obtain ⟨H, hH⟩ : ∃ z, z = s.heap := ⟨_, rfl⟩
  rw [← hH] at hP
  have hS : va_S A s.heap H [] := by rw [hH]; exact hS
  suffices hgo : G_X7_when p l e s m below meth c G cA A xa ka ra na ia ua va ca za pa qa X K R P P2 L2 Tn Ti C Z q0 q1 q4 q5 x1 x2 r0 L' Tu' Tv' q2' q3' H [] (F0 m 0 ls []) by rw [hH] at hgo; exact hgo
  generalize ([] : List Loc) = locs at hS ⊢
  unfold f_X7_when at h
  refine lv_aload_n hx hb dX7_when_0 rfl (lv_at hl 0 rfl) ?_
  refine lv_iload_n hx hb dX7_when_1 rfl (lv_at hl 1 rfl) ?_
  obtain ⟨r1, hc2, h⟩ := tx_bd h
  refine tw_ci tw_all hP hD hS hA (va_runV (As := [.int x1]) (rest := []) ⟨hx, hb, hml, hown, hT⟩ (c_X7_isPlace l G cA H.size xa ka ra na ia ua va ca za pa qa X K R P L P2 L2 Tn Ti Tu Tv C Z q0 q1 q2 q3 q4 q5 x1  r1 hc2) (cwV 1 hT (tq_gV kw_31_22 kw_31_23 kw_32_0 kw_1_2 kw_32_1) rfl rfl rfl (by decide +kernel) ⟨Nat.le_of_ble_eq_true rfl, Nat.le_of_ble_eq_true rfl⟩) ⟨(tw_pre tw_all hP hD hK hN).1, va_recv hK hP (ci := 7) (q0 := 0) rfl rfl, (tw_pre tw_all hP hD hK hN).2⟩ rfl rfl hl.1 rfl (lv_room (Nat.le_of_ble_eq_true rfl)) dX7_when_2 ⟨Nat.le_of_ble_eq_true rfl, Nat.le_of_ble_eq_true rfl⟩) (fun _ _ H locs z3 hP hD hS => ?_)
  subst z3
  rw [List.append_nil] at hP hD
  have hP : va_P G vwCl (wX cA xa ka ra na ia ua va ca za pa qa X K R P L P2 L2 Tn Ti Tu Tv C Z q0 q1 q2 q3 q4 q5) H := hP
  have hD : va_D A (wX cA xa ka ra na ia ua va ca za pa qa X K R P L P2 L2 Tn Ti Tu Tv C Z q0 q1 q2 q3 q4 q5) := hD
  refine lv_if_eq (tgt := 17) hx hb dX7_when_5 (by decide) (fun c4 => ?_) (fun c4 => ?_)
  · have h := tx_pos c4 h
    refine lv_iconst (v := (-1)) hx hb dX7_when_17 (by decide) ?_
    obtain ⟨rfl, rfl, rfl, rfl, rfl, rfl⟩ := tx_6 h
    exact W.iret hx hb hr (fun t ht hW => ⟨⟨_, (), rfl, rfl, by rw [ht]; exact hP, hD⟩, hS.F ht⟩) hS.2.2 dX7_when_18
  · have h := tx_neg c4 h
    refine lv_iload_n hx hb dX7_when_8 rfl (lv_at hl 2 rfl) ?_
    refine lv_if_lt (tgt := 17) hx hb dX7_when_9 (by decide) (fun c5 => ?_) (fun c5 => ?_)
    · have h := tx_pos c5 h
      refine lv_iconst (v := (-1)) hx hb dX7_when_17 (by decide) ?_
      obtain ⟨rfl, rfl, rfl, rfl, rfl, rfl⟩ := tx_6 h
      exact W.iret hx hb hr (fun t ht hW => ⟨⟨_, (), rfl, rfl, by rw [ht]; exact hP, hD⟩, hS.F ht⟩) hS.2.2 dX7_when_18
    · have h := tx_neg c5 h
      refine lv_iload_n hx hb dX7_when_12 rfl (lv_at hl 2 rfl) ?_
      refine lv_iconst (v := 1) hx hb dX7_when_13 (by decide) ?_
      refine lv_icmp_le (tgt := 19) hx hb dX7_when_14 (by decide) (fun c6 => ?_) (fun c6 => ?_)
      · have h := tx_pos c6 h
        refine lv_aload_n hx hb dX7_when_19 rfl (lv_at hl 0 rfl) ?_
        obtain ⟨⟨Tu_7, q2_8⟩, hc9, h⟩ := tx_bd h
        replace h := tx_let (y := Tu_7) rfl h
        replace h := tx_let (y := q2_8) rfl h
        refine tw_cv tw_all hP hD hS hA (va_runV (As := []) (rest := []) ⟨hx, hb, hml, hown, hT⟩ (c_X7_startTrial l G cA H.size xa ka ra na ia ua va ca za pa qa X K R P L P2 L2 Tn Ti Tu Tv C Z q0 q1 q2 q3 q4 q5  Tu_7 q2_8 hc9) (cwV 0 hT (tq_gV kw_46_17 kw_46_18 kw_46_19 kw_1_2 kw_46_20) rfl rfl rfl (by decide +kernel) ⟨Nat.le_of_ble_eq_true rfl, Nat.le_of_ble_eq_true rfl⟩) ⟨(tw_pre tw_all hP hD hK hN).1, va_recv hK hP (ci := 7) (q0 := 0) rfl rfl, (tw_pre tw_all hP hD hK hN).2⟩ rfl rfl hl.1 rfl (lv_room (Nat.le_of_ble_eq_true rfl)) dX7_when_20 ⟨Nat.le_of_ble_eq_true rfl, Nat.le_of_ble_eq_true rfl⟩) (fun _ H locs z10 hP hD hS => ?_)
        rw [List.append_nil] at hP hD
        have hP : va_P G vwCl (wX cA xa ka ra na ia ua va ca za pa qa X K R P L P2 L2 Tn Ti Tu_7 Tv C Z q0 q1 q2_8 q3 q4 q5) H := hP
        have hD : va_D A (wX cA xa ka ra na ia ua va ca za pa qa X K R P L P2 L2 Tn Ti Tu_7 Tv C Z q0 q1 q2_8 q3 q4 q5) := hD
        refine lv_aload_n hx hb dX7_when_23 rfl (lv_at hl 0 rfl) ?_
        refine va_get (D := G) (ci := 7) (v := .ref (va 0)) (C := RX7) (T := TX7) (N := 12) hx hb hT ku_7 hown hK hP 0 rfl rfl 6 (by decide) (hT _ kw_2_4) (fun _ h9 => h9) rfl dX7_when_24 ?_
        refine lv_aload_n hx hb dX7_when_27 rfl (lv_at hl 0 rfl) ?_
        refine va_get (D := G) (ci := 7) (v := .ref (ua 0)) (C := RX7) (T := TX7) (N := 12) hx hb hT ku_7 hown hK hP 0 rfl rfl 5 (by decide) (hT _ kw_2_3) (fun _ h9 => h9) rfl dX7_when_28 ?_
        obtain ⟨⟨Tv_11, q3_12⟩, hc13, h⟩ := tx_bd h
        replace h := tx_let (y := Tv_11) rfl h
        replace h := tx_let (y := q3_12) rfl h
        refine tw_cv pX_va_ua hP hD hS hA (va_runV (As := [.ref (ua 0)]) (rest := []) ⟨hx, hb, hml, hown, hT⟩ (c_X6_copy l G cA H.size va ua Tv Tu_7 q3 q2_8  Tv_11 q3_12 hc13) (cwV 1 hT (tq_gV kw_38_6 kw_38_7 kw_38_8 kw_1_23 kw_38_9) rfl rfl rfl (by decide +kernel) ⟨Nat.le_of_ble_eq_true rfl, Nat.le_of_ble_eq_true rfl⟩) ⟨(tw_pre pX_va_ua hP hD hK hN).1, va_recv hK hP (ci := 6) (q0 := 89) rfl rfl, (tw_pre pX_va_ua hP hD hK hN).2⟩ rfl rfl hl.1 rfl (lv_room (Nat.le_of_ble_eq_true rfl)) dX7_when_31 ⟨Nat.le_of_ble_eq_true rfl, Nat.le_of_ble_eq_true rfl⟩) (fun _ H locs z14 hP hD hS => ?_)
        replace hP := tw_P pX_va_ua.symm hP
        replace hD := tw_D pX_va_ua.symm hD
        have hP : va_P G vwCl (wX cA xa ka ra na ia ua va ca za pa qa X K R P L P2 L2 Tn Ti Tu_7 Tv_11 C Z q0 q1 q2_8 q3_12 q4 q5) H := hP
        have hD : va_D A (wX cA xa ka ra na ia ua va ca za pa qa X K R P L P2 L2 Tn Ti Tu_7 Tv_11 C Z q0 q1 q2_8 q3_12 q4 q5) := hD
        refine lv_aload_n hx hb dX7_when_34 rfl (lv_at hl 0 rfl) ?_
        obtain ⟨⟨r15, L_16, Tu_17⟩, hc18, h⟩ := tx_bd h
        replace h := tx_let (y := r15) rfl h
        replace h := tx_let (y := L_16) rfl h
        replace h := tx_let (y := Tu_17) rfl h
        refine tw_ci tw_all hP hD hS hA (va_runV (As := []) (rest := []) ⟨hx, hb, hml, hown, hT⟩ (c_X7_liftsOfTrial l G cA H.size xa ka ra na ia ua va ca za pa qa X K R P L P2 L2 Tn Ti Tu_7 Tv_11 C Z q0 q1 q2_8 q3_12 q4 q5  r15 L_16 Tu_17 hc18) (cwV 0 hT (tq_gV kw_49_5 kw_49_6 kw_49_7 kw_1_2 kw_49_8) rfl rfl rfl (by decide +kernel) ⟨Nat.le_of_ble_eq_true rfl, Nat.le_of_ble_eq_true rfl⟩) ⟨(tw_pre tw_all hP hD hK hN).1, va_recv hK hP (ci := 7) (q0 := 0) rfl rfl, (tw_pre tw_all hP hD hK hN).2⟩ rfl rfl hl.1 rfl (lv_room (Nat.le_of_ble_eq_true rfl)) dX7_when_35 ⟨Nat.le_of_ble_eq_true rfl, Nat.le_of_ble_eq_true rfl⟩) (fun _ _ H locs z19 hP hD hS => ?_)
        subst z19
        rw [List.append_nil] at hP hD
        have hP : va_P G vwCl (wX cA xa ka ra na ia ua va ca za pa qa X K R P L_16 P2 L2 Tn Ti Tu_17 Tv_11 C Z q0 q1 q2_8 q3_12 q4 q5) H := hP
        have hD : va_D A (wX cA xa ka ra na ia ua va ca za pa qa X K R P L_16 P2 L2 Tn Ti Tu_17 Tv_11 C Z q0 q1 q2_8 q3_12 q4 q5) := hD
        refine lv_istore_n (lv' := [(3, .int r15), (0, .ref (xa 0)), (1, .int x1), (2, .int x2)]) hx hb dX7_when_38 rfl hl (by decide) rfl (fun ls hl => ?_)
        refine lv_iload_n hx hb dX7_when_39 rfl (lv_at hl 0 rfl) ?_
        refine lv_istore (lv' := [(4, .int r15), (3, .int r15), (0, .ref (xa 0)), (1, .int x1), (2, .int x2)]) hx hb dX7_when_40 hl (by decide) rfl (fun ls hl => ?_)
        refine lv_bipush (v := (-2)) hx hb dX7_when_42 (by decide) ?_
        refine lv_istore (lv' := [(5, .int (-2)), (4, .int r15), (3, .int r15), (0, .ref (xa 0)), (1, .int x1), (2, .int x2)]) hx hb dX7_when_44 hl (by decide) rfl (fun ls hl => ?_)
        refine lv_aload_n hx hb dX7_when_46 rfl (lv_at hl 3 rfl) ?_
        refine va_get (D := G) (ci := 7) (v := .ref (na 0)) (C := RX7) (T := TX7) (N := 12) hx hb hT ku_7 hown hK hP 0 rfl rfl 2 (by decide) (hT _ kw_2_0) (fun _ h9 => h9) rfl dX7_when_47 ?_
        refine va_get (D := G) (ci := 6) (v := .int (Tn 0 0)) (C := RX6) (T := TX6) (N := 20) hx hb hT ku_6 hown hK hP 53 rfl rfl 0 (by decide) (hT _ kw_40_5) (fun _ h9 => h9) rfl dX7_when_50 ?_
        refine lv_topi (fun y20 ey20 => ?_)
        have h := tx_let ey20 h
        refine lv_istore (lv' := [(6, .int y20), (5, .int (-2)), (4, .int r15), (3, .int r15), (0, .ref (xa 0)), (1, .int x1), (2, .int x2)]) hx hb dX7_when_53 hl (by decide) rfl (fun ls hl => ?_)
        exact w_X7_when_L55 F 2000 r15 (-2) y20 L_16 Tu_17 Tv_11 q2_8 H locs ls h hP hD hS (lv_sub hl [4, 5, 6, 2, 1, 0] rfl)
      · have h := tx_neg c6 h
        refine lv_iconst (v := (-1)) hx hb dX7_when_17 (by decide) ?_
        obtain ⟨rfl, rfl, rfl, rfl, rfl, rfl⟩ := tx_6 h
        exact W.iret hx hb hr (fun t ht hW => ⟨⟨_, (), rfl, rfl, by rw [ht]; exact hP, hD⟩, hS.F ht⟩) hS.2.2 dX7_when_18
