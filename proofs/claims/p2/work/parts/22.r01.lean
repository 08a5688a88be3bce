abbrev G_X3_isFact (p : Program) (l : Launch) (e : Env) (s : State) (m : MethodId) (below : List Frame) (meth : Method) (c : Code) (G : va_G) (cA : Nat → ClassId) (A : Nat → Prop) (x0 : Int32) (r0 : Int32) (H : Heap) (locs : List Loc) (g : JFrame) : Prop := W p l e (headSpec (.code yX3_isFact cX3_isFact 1 (some .boolean) :: T0) ({ frames := 0, cells := 0, slots := 0, locals := 0 } : Room)).room s m ([.int x0] : List Value).toArray below meth c H locs 0 0 (MQ below (tqQi G cA (fun (r : Int32) (_ : Unit) => r = r0) (fun (_ : Unit) => ([] : va_W)) A) ([.int x0] : List Value).toArray s 0 0 A) g
set_option maxHeartbeats 4000000 in
set_option maxRecDepth 100000 in
theorem c_X3_isFact (l : Launch) (G : va_G) (cA : Nat → ClassId) (sz : Nat) (x0 : Int32)  (r0 : Int32) (h : f_X3_isFact x0 = some r0) : Met l yX3_isFact (.code yX3_isFact cX3_isFact 1 (some .boolean) :: T0) ({ frames := 0, cells := 0, slots := 0, locals := 0 } : Room) (tqP G cA [.int x0] (([] : va_W)) sz) (tqQi G cA (fun (r : Int32) (_ : Unit) => r = r0) (fun (_ : Unit) => ([] : va_W)) (va_A (([] : va_W)) sz)) 0 0 (va_A (([] : va_W)) sz) := by
  refine Met.ofW (cc := cX3_isFact) (maxL := 1) (ret := (some .boolean)) (by decide) rfl ?_
  intro p e s m args below meth c s₁ B hml hv
  obtain ⟨rfl, hsz, hP, hK, hD0, hN⟩ := hv
  have hx := B.exec
  have hb := B.bytes
  have hr := B.returns
  have hts := atoms_spec (ws := .code yX3_isFact cX3_isFact 1 (some .boolean) :: T0) B.pre
  have hT : ∀ w ∈ T0, w.before _ s = true := fun w h => hts w (List.mem_cons_of_mem _ h)
  have hown : s.vm.findClass RX3 = some m.cls := findClass_of_methodNamed B.named
  have hlocks := B.notSynchronized
  subst hsz
  have hD := hD0.self (sz := s.heap.size)
  generalize hAe : va_A (([] : va_W)) s.heap.size = A at hD ⊢
  have hA : ∀ q : Nat, s.heap.size ≤ q → A q := fun q h => by rw [← hAe]; exact Or.inr h
  have hS : va_S A s.heap s.heap [] := va_S.rf
  have hl := lv_entry ([.int x0]) (n := 1) (Nat.le_of_ble_eq_true rfl)
  rw [lg_entry_eq]
  generalize (lg_sl ([.int x0]) ++ List.replicate (1 - (lg_sl ([.int x0])).length) Slot.unset).toArray = ls at hl ⊢
  have hl : lv_has ls 1 [(0, .int x0)] := hl
  have F : tF p s m ([.int x0] : List Value).toArray meth c G cA A RX3 cX3_isFact 1 (some .boolean) := ⟨hx, hb, hr, hml, hT, hown, hlocks, hK, hN, hA⟩
  obtain ⟨H, hH⟩ : ∃ z, z = s.heap := ⟨_, rfl⟩
  rw [← hH] at hP
  have hS : va_S A s.heap H [] := by rw [hH]; exact hS
  suffices hgo : G_X3_isFact p l e s m below meth c G cA A x0 r0 H [] (F0 m 0 ls []) by rw [hH] at hgo; exact hgo
  generalize ([] : List Loc) = locs at hS ⊢
  unfold f_X3_isFact at h
  refine lv_iload_n hx hb dX3_isFact_0 rfl (lv_at hl 0 rfl) ?_
  refine lv_bipush (v := 22) hx hb dX3_isFact_1 (by decide) ?_
  refine lv_icmp_lt (tgt := 16) hx hb dX3_isFact_3 (by decide) (fun c1 => ?_) (fun c1 => ?_)
  · have h := tx_pos c1 h
    refine lv_iconst (v := 0) hx hb dX3_isFact_16 (by decide) ?_
    obtain rfl := tx_1 h
    exact W.zret (ty := .boolean) hx hb hr rfl (fun t ht hW => ⟨⟨_, (), rfl, rfl, by rw [ht]; exact hP, hD⟩, hS.F ht⟩) hS.2.2 dX3_isFact_17
  · have h := tx_neg c1 h
    refine lv_iload_n hx hb dX3_isFact_6 rfl (lv_at hl 0 rfl) ?_
    refine lv_bipush (v := 28) hx hb dX3_isFact_7 (by decide) ?_
    refine lv_icmp_gt (tgt := 16) hx hb dX3_isFact_9 (by decide) (fun c2 => ?_) (fun c2 => ?_)
    · have h := tx_pos c2 h
      refine lv_iconst (v := 0) hx hb dX3_isFact_16 (by decide) ?_
      obtain rfl := tx_1 h
      exact W.zret (ty := .boolean) hx hb hr rfl (fun t ht hW => ⟨⟨_, (), rfl, rfl, by rw [ht]; exact hP, hD⟩, hS.F ht⟩) hS.2.2 dX3_isFact_17
    · have h := tx_neg c2 h
      refine lv_iconst (v := 1) hx hb dX3_isFact_12 (by decide) ?_
      refine lv_goto (tgt := 17) hx hb dX3_isFact_13 (by decide) ?_
      obtain rfl := tx_1 h
      exact W.zret (ty := .boolean) hx hb hr rfl (fun t ht hW => ⟨⟨_, (), rfl, rfl, by rw [ht]; exact hP, hD⟩, hS.F ht⟩) hS.2.2 dX3_isFact_17
abbrev G_X3_readOperand (p : Program) (l : Launch) (e : Env) (s : State) (m : MethodId) (below : List Frame) (meth : Method) (c : Code) (G : va_G) (cA : Nat → ClassId) (A : Nat → Prop) (bA : Nat) (ka : Nat → Nat) (ra : Nat → Nat) (pa : Nat → Nat) (j : Nat) (K : Tr) (L : Lo) (r0 : Int32) (R' : Tr) (P' : Tr) (H : Heap) (locs : List Loc) (g : JFrame) : Prop := W p l e (headSpec (.code yX3_readOperand cX3_readOperand 4 (some .boolean) :: T0) ({ frames := 2, cells := 0, slots := 0, locals := 42 } : Room)).room s m ([.ref (ra 0), .ref (pa (30 + 3 * j))] : List Value).toArray below meth c H locs 0 0 (MQ below (tqQi G cA (fun (r : Int32) (_ : Unit) => r = r0) (fun (_ : Unit) => wRP cA ka ra pa K (R') (P') L) A) ([.ref (ra 0), .ref (pa (30 + 3 * j))] : List Value).toArray s 0 0 A) g
set_option maxHeartbeats 4000000 in
set_option maxRecDepth 100000 in
theorem w_X3_readOperand_J126 {p : Program} {l : Launch} {e : Env} {s : State} {m : MethodId} {below : List Frame} {meth : Method} {c : Code} {G : va_G} {cA : Nat → ClassId} {A : Nat → Prop} {bA : Nat} {ka : Nat → Nat} {ra : Nat → Nat} {pa : Nat → Nat} {j : Nat} {K : Tr} {L : Lo} {r0 : Int32} {R' : Tr} {P' : Tr} (F : tF p s m ([.ref (ra 0), .ref (pa (30 + 3 * j))] : List Value).toArray meth c G cA A RX3 cX3_readOperand 4 (some .boolean)) (hB : tqB bA A s s.heap) (hj : j < 3)   (s0 : Int32) (R : Tr) (P : Tr) (H : Heap) (locs : List Loc) (ls : Array Slot) (h : fJ_X3_readOperand_J126 j K s0 R P = some (r0, R', P')) (hP : va_P G vwCl (wRP cA ka ra pa K R_26 P L) H) (hD : va_D A (wRP cA ka ra pa K R_26 P L)) (hS : va_S A s.heap H locs) (hl : lv_has ls 4 [(3, .int r25), (0, .ref (ra 0)), (1, .ref (pa (30 + 3 * j)))]) : G_X3_readOperand p l e s m below meth c G cA A bA ka ra pa j K L r0 R' P' H locs (F0 m 126 ls []) := by
  obtain ⟨hx, hb, hr, hml, hT, hown, hlocks, hK, hN, hA⟩ := id F
  unfold fJ_X3_readOperand_J126 at h
  refine lv_iconst (v := 2) hx hb dX3_readOperand_126 (by decide) ?_
  obtain ⟨⟨r25, R_26⟩, hc27, h⟩ := tx_bd h
  replace h := tx_let (y := r25) rfl h
  replace h := tx_let (y := R_26) rfl h
  refine tw_ci tw_all hP hD hS hA (va_runV (As := [.int s0, .int 2]) (rest := []) ⟨hx, hb, hml, hown, hT⟩ (c_X3_expect l G cA H.size bA ka ra pa K R P L s0 (2 : Int32)  r25 R_26 hc27) (cwV 2 hT (tq_gV kw_16_18 kw_16_19 kw_16_20 kw_1_15 kw_16_21) rfl rfl rfl (by decide +kernel) ⟨Nat.le_of_ble_eq_true rfl, Nat.le_of_ble_eq_true rfl⟩) ⟨(tw_preB tw_all hP hD hK hN hS hA hB).1, va_recv hK hP (ci := 3) (q0 := 3) rfl rfl, (tw_preB tw_all hP hD hK hN hS hA hB).2⟩ rfl rfl hl.1 rfl (lv_room (Nat.le_of_ble_eq_true rfl)) dX3_readOperand_127 ⟨Nat.le_of_ble_eq_true rfl, Nat.le_of_ble_eq_true rfl⟩) (fun _ _ H locs z28 hP hD hS => ?_)
  subst z28
  rw [List.append_nil] at hP hD
  have hP : va_P G vwCl (wRP cA ka ra pa K R_26 P L) H := hP
  have hD : va_D A (wRP cA ka ra pa K R_26 P L) := hD
  refine lv_istore_n (lv' := [(3, .int r25), (0, .ref (ra 0)), (1, .ref (pa (30 + 3 * j)))]) hx hb dX3_readOperand_130 rfl hl (by decide) rfl (fun ls hl => ?_)
  refine lv_iload_n hx hb dX3_readOperand_131 rfl (lv_at hl 0 rfl) ?_
  refine lv_if_eq (tgt := 160) hx hb dX3_readOperand_132 (by decide) (fun c29 => ?_) (fun c29 => ?_)
  · have h := tx_pos c29 h
    refine lv_iconst (v := 0) hx hb dX3_readOperand_160 (by decide) ?_
    obtain ⟨rfl, rfl, rfl⟩ := tx_3 h
    exact W.zret (ty := .boolean) hx hb hr rfl (fun t ht hW => ⟨⟨_, (), rfl, rfl, by rw [ht]; exact hP, hD⟩, hS.F ht⟩) hS.2.2 dX3_readOperand_161
  · have h := tx_neg c29 h
    refine lv_aload_n hx hb dX3_readOperand_135 rfl (lv_at hl 1 rfl) ?_
    obtain ⟨⟨r30, R_31, P_32⟩, hc33, h⟩ := tx_bd h
    replace h := tx_let (y := r30) rfl h
    replace h := tx_let (y := R_31) rfl h
    replace h := tx_let (y := P_32) rfl h
    refine tw_ci tw_all hP hD hS hA (va_runV (As := []) (rest := []) ⟨hx, hb, hml, hown, hT⟩ (c_X3_countKnot l G cA H.size bA ka ra pa K R_26 P L  r30 R_31 P_32 hc33) (cwV 0 hT (tq_gV kw_20_19 kw_20_20 kw_20_21 kw_1_15 kw_20_22) rfl rfl rfl (by decide +kernel) ⟨Nat.le_of_ble_eq_true rfl, Nat.le_of_ble_eq_true rfl⟩) ⟨(tw_preB tw_all hP hD hK hN hS hA hB).1, va_recv hK hP (ci := 3) (q0 := 3) rfl rfl, (tw_preB tw_all hP hD hK hN hS hA hB).2⟩ rfl rfl hl.1 rfl (lv_room (Nat.le_of_ble_eq_true rfl)) dX3_readOperand_136 ⟨Nat.le_of_ble_eq_true rfl, Nat.le_of_ble_eq_true rfl⟩) (fun _ _ H locs z34 hP hD hS => ?_)
    subst z34
    rw [List.append_nil] at hP hD
    have hP : va_P G vwCl (wRP cA ka ra pa K R_31 P_32 L) H := hP
    have hD : va_D A (wRP cA ka ra pa K R_31 P_32 L) := hD
    refine lv_if_eq (tgt := 160) hx hb dX3_readOperand_139 (by decide) (fun c35 => ?_) (fun c35 => ?_)
    · have h := tx_pos c35 h
      refine lv_iconst (v := 0) hx hb dX3_readOperand_160 (by decide) ?_
      obtain ⟨rfl, rfl, rfl⟩ := tx_3 h
      exact W.zret (ty := .boolean) hx hb hr rfl (fun t ht hW => ⟨⟨_, (), rfl, rfl, by rw [ht]; exact hP, hD⟩, hS.F ht⟩) hS.2.2 dX3_readOperand_161
    · have h := tx_neg c35 h
      refine lv_aload_n hx hb dX3_readOperand_142 rfl (lv_at hl 2 rfl) ?_
      refine lv_aload_n hx hb dX3_readOperand_143 rfl (lv_at hl 1 rfl) ?_
      refine va_get (D := G) (ci := 3) (v := .ref (ka 0)) (C := RX3) (T := TX3) (N := 10) hx hb hT ku_3 hown hK hP 3 rfl rfl 0 (by decide) (hT _ kw_2_23) (fun _ h9 => h9) rfl dX3_readOperand_144 ?_
      refine va_get (D := G) (ci := 5) (v := .int (K 0 3)) (C := RX5) (T := TX5) (N := 8) hx hb hT ku_5 hown hK hP 0 rfl rfl 3 (by decide) (hT _ kw_17_8) (fun _ h9 => h9) rfl dX3_readOperand_147 ?_
      obtain ⟨⟨r36, P_37⟩, hc38, h⟩ := tx_bd h
      replace h := tx_let (y := r36) rfl h
      replace h := tx_let (y := P_37) rfl h
      refine tw_ci tw_all hP hD hS hA (va_runS (As := [.ref (pa (30 + 3 * j)), .int (K 0 3)]) (rest := []) ⟨hx, hb, hml, hown, hT⟩ (c_X3_put l G cA H.size bA ka ra pa j K R_31 P_32 L (K 0 3) hj r36 P_37 hc38) (va_cwS 2 hT (tq_gS kw_21_0 kw_21_1 kw_1_15 kw_21_2) rfl rfl rfl (by decide +kernel) ⟨Nat.le_of_ble_eq_true rfl, Nat.le_of_ble_eq_true rfl⟩) (tw_preB tw_all hP hD hK hN hS hA hB) rfl rfl hl.1 rfl (lv_room (Nat.le_of_ble_eq_true rfl)) dX3_readOperand_150 ⟨Nat.le_of_ble_eq_true rfl, Nat.le_of_ble_eq_true rfl⟩) (fun _ _ H locs z39 hP hD hS => ?_)
      subst z39
      rw [List.append_nil] at hP hD
      have hP : va_P G vwCl (wRP cA ka ra pa K R_31 P_37 L) H := hP
      have hD : va_D A (wRP cA ka ra pa K R_31 P_37 L) := hD
      refine lv_if_eq (tgt := 160) hx hb dX3_readOperand_153 (by decide) (fun c40 => ?_) (fun c40 => ?_)
      · have h := tx_pos c40 h
        refine lv_iconst (v := 0) hx hb dX3_readOperand_160 (by decide) ?_
        obtain ⟨rfl, rfl, rfl⟩ := tx_3 h
        exact W.zret (ty := .boolean) hx hb hr rfl (fun t ht hW => ⟨⟨_, (), rfl, rfl, by rw [ht]; exact hP, hD⟩, hS.F ht⟩) hS.2.2 dX3_readOperand_161
      · have h := tx_neg c40 h
        refine lv_iconst (v := 1) hx hb dX3_readOperand_156 (by decide) ?_
        refine lv_goto (tgt := 161) hx hb dX3_readOperand_157 (by decide) ?_
        obtain ⟨rfl, rfl, rfl⟩ := tx_3 h
        exact W.zret (ty := .boolean) hx hb hr rfl (fun t ht hW => ⟨⟨_, (), rfl, rfl, by rw [ht]; exact hP, hD⟩, hS.F ht⟩) hS.2.2 dX3_readOperand_161
set_option maxHeartbeats 4000000 in
set_option maxRecDepth 100000 in
theorem w_X3_readOperand_J73 {p : Program} {l : Launch} {e : Env} {s : State} {m : MethodId} {below : List Frame} {meth : Method} {c : Code} {G : va_G} {cA : Nat → ClassId} {A : Nat → Prop} {bA : Nat} {ka : Nat → Nat} {ra : Nat → Nat} {pa : Nat → Nat} {j : Nat} {K : Tr} {L : Lo} {r0 : Int32} {R' : Tr} {P' : Tr} (F : tF p s m ([.ref (ra 0), .ref (pa (30 + 3 * j))] : List Value).toArray meth c G cA A RX3 cX3_readOperand 4 (some .boolean)) (hB : tqB bA A s s.heap) (hj : j < 3)   (x2 : Int32) (s0 : Int32) (R : Tr) (P : Tr) (H : Heap) (locs : List Loc) (ls : Array Slot) (h : fJ_X3_readOperand_J73 j K x2 s0 R P = some (r0, R', P')) (hP : va_P G vwCl (wRP cA ka ra pa K R_47 P L) H) (hD : va_D A (wRP cA ka ra pa K R_47 P L)) (hS : va_S A s.heap H locs) (hl : lv_has ls 4 [(0, .ref (ra 0)), (2, .int x2)]) : G_X3_readOperand p l e s m below meth c G cA A bA ka ra pa j K L r0 R' P' H locs (F0 m 73 ls []) := by
  obtain ⟨hx, hb, hr, hml, hT, hown, hlocks, hK, hN, hA⟩ := id F
  unfold fJ_X3_readOperand_J73 at h
  refine lv_iconst (v := 1) hx hb dX3_readOperand_73 (by decide) ?_
  obtain ⟨⟨r46, R_47⟩, hc48, h⟩ := tx_bd h
  replace h := tx_let (y := r46) rfl h
  replace h := tx_let (y := R_47) rfl h
  refine tw_ci tw_all hP hD hS hA (va_runV (As := [.int s0, .int 1]) (rest := []) ⟨hx, hb, hml, hown, hT⟩ (c_X3_expect l G cA H.size bA ka ra pa K R P L s0 (1 : Int32)  r46 R_47 hc48) (cwV 2 hT (tq_gV kw_16_18 kw_16_19 kw_16_20 kw_1_15 kw_16_21) rfl rfl rfl (by decide +kernel) ⟨Nat.le_of_ble_eq_true rfl, Nat.le_of_ble_eq_true rfl⟩) ⟨(tw_preB tw_all hP hD hK hN hS hA hB).1, va_recv hK hP (ci := 3) (q0 := 3) rfl rfl, (tw_preB tw_all hP hD hK hN hS hA hB).2⟩ rfl rfl hl.1 rfl (lv_room (Nat.le_of_ble_eq_true rfl)) dX3_readOperand_74 ⟨Nat.le_of_ble_eq_true rfl, Nat.le_of_ble_eq_true rfl⟩) (fun _ _ H locs z49 hP hD hS => ?_)
  subst z49
  rw [List.append_nil] at hP hD
  have hP : va_P G vwCl (wRP cA ka ra pa K R_47 P L) H := hP
  have hD : va_D A (wRP cA ka ra pa K R_47 P L) := hD
  refine lv_if_eq (tgt := 99) hx hb dX3_readOperand_77 (by decide) (fun c50 => ?_) (fun c50 => ?_)
  · have h := tx_pos c50 h
    refine lv_iconst (v := 0) hx hb dX3_readOperand_99 (by decide) ?_
    obtain ⟨rfl, rfl, rfl⟩ := tx_3 h
    exact W.zret (ty := .boolean) hx hb hr rfl (fun t ht hW => ⟨⟨_, (), rfl, rfl, by rw [ht]; exact hP, hD⟩, hS.F ht⟩) hS.2.2 dX3_readOperand_100
  · have h := tx_neg c50 h
    refine lv_aload_n hx hb dX3_readOperand_80 rfl (lv_at hl 0 rfl) ?_
    obtain ⟨⟨r51, R_52, P_53⟩, hc54, h⟩ := tx_bd h
    replace h := tx_let (y := r51) rfl h
    replace h := tx_let (y := R_52) rfl h
    replace h := tx_let (y := P_53) rfl h
    refine tw_ci tw_all hP hD hS hA (va_runV (As := []) (rest := []) ⟨hx, hb, hml, hown, hT⟩ (c_X3_countKnot l G cA H.size bA ka ra pa K R_47 P L  r51 R_52 P_53 hc54) (cwV 0 hT (tq_gV kw_20_19 kw_20_20 kw_20_21 kw_1_15 kw_20_22) rfl rfl rfl (by decide +kernel) ⟨Nat.le_of_ble_eq_true rfl, Nat.le_of_ble_eq_true rfl⟩) ⟨(tw_preB tw_all hP hD hK hN hS hA hB).1, va_recv hK hP (ci := 3) (q0 := 3) rfl rfl, (tw_preB tw_all hP hD hK hN hS hA hB).2⟩ rfl rfl hl.1 rfl (lv_room (Nat.le_of_ble_eq_true rfl)) dX3_readOperand_81 ⟨Nat.le_of_ble_eq_true rfl, Nat.le_of_ble_eq_true rfl⟩) (fun _ _ H locs z55 hP hD hS => ?_)
    subst z55
    rw [List.append_nil] at hP hD
    have hP : va_P G vwCl (wRP cA ka ra pa K R_52 P_53 L) H := hP
    have hD : va_D A (wRP cA ka ra pa K R_52 P_53 L) := hD
    refine lv_if_eq (tgt := 99) hx hb dX3_readOperand_84 (by decide) (fun c56 => ?_) (fun c56 => ?_)
    · have h := tx_pos c56 h
      refine lv_iconst (v := 0) hx hb dX3_readOperand_99 (by decide) ?_
      obtain ⟨rfl, rfl, rfl⟩ := tx_3 h
      exact W.zret (ty := .boolean) hx hb hr rfl (fun t ht hW => ⟨⟨_, (), rfl, rfl, by rw [ht]; exact hP, hD⟩, hS.F ht⟩) hS.2.2 dX3_readOperand_100
    · have h := tx_neg c56 h
      refine lv_aload_n hx hb dX3_readOperand_87 rfl (lv_at hl 0 rfl) ?_
      refine lv_iload_n hx hb dX3_readOperand_88 rfl (lv_at hl 1 rfl) ?_
      obtain ⟨⟨r57, R_58⟩, hc59, h⟩ := tx_bd h
      replace h := tx_let (y := r57) rfl h
      replace h := tx_let (y := R_58) rfl h
      refine tw_ci tw_all hP hD hS hA (va_runV (As := [.int x2]) (rest := []) ⟨hx, hb, hml, hown, hT⟩ (c_X3_openSign l G cA H.size bA ka ra pa K R_52 P_53 L x2  r57 R_58 hc59) (cwV 1 hT (tq_gV kw_20_11 kw_20_12 kw_20_13 kw_1_15 kw_20_14) rfl rfl rfl (by decide +kernel) ⟨Nat.le_of_ble_eq_true rfl, Nat.le_of_ble_eq_true rfl⟩) ⟨(tw_preB tw_all hP hD hK hN hS hA hB).1, va_recv hK hP (ci := 3) (q0 := 3) rfl rfl, (tw_preB tw_all hP hD hK hN hS hA hB).2⟩ rfl rfl hl.1 rfl (lv_room (Nat.le_of_ble_eq_true rfl)) dX3_readOperand_89 ⟨Nat.le_of_ble_eq_true rfl, Nat.le_of_ble_eq_true rfl⟩) (fun _ _ H locs z60 hP hD hS => ?_)
      subst z60
      rw [List.append_nil] at hP hD
      have hP : va_P G vwCl (wRP cA ka ra pa K R_58 P_53 L) H := hP
      have hD : va_D A (wRP cA ka ra pa K R_58 P_53 L) := hD
      refine lv_if_eq (tgt := 99) hx hb dX3_readOperand_92 (by decide) (fun c61 => ?_) (fun c61 => ?_)
      · have h := tx_pos c61 h
        refine lv_iconst (v := 0) hx hb dX3_readOperand_99 (by decide) ?_
        obtain ⟨rfl, rfl, rfl⟩ := tx_3 h
        exact W.zret (ty := .boolean) hx hb hr rfl (fun t ht hW => ⟨⟨_, (), rfl, rfl, by rw [ht]; exact hP, hD⟩, hS.F ht⟩) hS.2.2 dX3_readOperand_100
      · have h := tx_neg c61 h
        refine lv_iconst (v := 1) hx hb dX3_readOperand_95 (by decide) ?_
        refine lv_goto (tgt := 100) hx hb dX3_readOperand_96 (by decide) ?_
        obtain ⟨rfl, rfl, rfl⟩ := tx_3 h
        exact W.zret (ty := .boolean) hx hb hr rfl (fun t ht hW => ⟨⟨_, (), rfl, rfl, by rw [ht]; exact hP, hD⟩, hS.F ht⟩) hS.2.2 dX3_readOperand_100
set_option maxHeartbeats 4000000 in
set_option maxRecDepth 100000 in
theorem w_X3_readOperand_J29 {p : Program} {l : Launch} {e : Env} {s : State} {m : MethodId} {below : List Frame} {meth : Method} {c : Code} {G : va_G} {cA : Nat → ClassId} {A : Nat → Prop} {bA : Nat} {ka : Nat → Nat} {ra : Nat → Nat} {pa : Nat → Nat} {j : Nat} {K : Tr} {L : Lo} {r0 : Int32} {R' : Tr} {P' : Tr} (F : tF p s m ([.ref (ra 0), .ref (pa (30 + 3 * j))] : List Value).toArray meth c G cA A RX3 cX3_readOperand 4 (some .boolean)) (hB : tqB bA A s s.heap) (hj : j < 3)   (s0 : Int32) (R : Tr) (P : Tr) (H : Heap) (locs : List Loc) (ls : Array Slot) (h : fJ_X3_readOperand_J29 j K s0 R P = some (r0, R', P')) (hP : va_P G vwCl (wRP cA ka ra pa K R_64 P L) H) (hD : va_D A (wRP cA ka ra pa K R_64 P L)) (hS : va_S A s.heap H locs) (hl : lv_has ls 4 [(0, .ref (ra 0))]) : G_X3_readOperand p l e s m below meth c G cA A bA ka ra pa j K L r0 R' P' H locs (F0 m 29 ls []) := by
  obtain ⟨hx, hb, hr, hml, hT, hown, hlocks, hK, hN, hA⟩ := id F
  unfold fJ_X3_readOperand_J29 at h
  refine lv_iconst (v := 2) hx hb dX3_readOperand_29 (by decide) ?_
  obtain ⟨⟨r63, R_64⟩, hc65, h⟩ := tx_bd h
  replace h := tx_let (y := r63) rfl h
  replace h := tx_let (y := R_64) rfl h
  refine tw_ci tw_all hP hD hS hA (va_runV (As := [.int s0, .int 2]) (rest := []) ⟨hx, hb, hml, hown, hT⟩ (c_X3_expect l G cA H.size bA ka ra pa K R P L s0 (2 : Int32)  r63 R_64 hc65) (cwV 2 hT (tq_gV kw_16_18 kw_16_19 kw_16_20 kw_1_15 kw_16_21) rfl rfl rfl (by decide +kernel) ⟨Nat.le_of_ble_eq_true rfl, Nat.le_of_ble_eq_true rfl⟩) ⟨(tw_preB tw_all hP hD hK hN hS hA hB).1, va_recv hK hP (ci := 3) (q0 := 3) rfl rfl, (tw_preB tw_all hP hD hK hN hS hA hB).2⟩ rfl rfl hl.1 rfl (lv_room (Nat.le_of_ble_eq_true rfl)) dX3_readOperand_30 ⟨Nat.le_of_ble_eq_true rfl, Nat.le_of_ble_eq_true rfl⟩) (fun _ _ H locs z66 hP hD hS => ?_)
  subst z66
  rw [List.append_nil] at hP hD
  have hP : va_P G vwCl (wRP cA ka ra pa K R_64 P L) H := hP
  have hD : va_D A (wRP cA ka ra pa K R_64 P L) := hD
  refine lv_if_eq (tgt := 47) hx hb dX3_readOperand_33 (by decide) (fun c67 => ?_) (fun c67 => ?_)
  · have h := tx_pos c67 h
    refine lv_iconst (v := 0) hx hb dX3_readOperand_47 (by decide) ?_
    obtain ⟨rfl, rfl, rfl⟩ := tx_3 h
    exact W.zret (ty := .boolean) hx hb hr rfl (fun t ht hW => ⟨⟨_, (), rfl, rfl, by rw [ht]; exact hP, hD⟩, hS.F ht⟩) hS.2.2 dX3_readOperand_48
  · have h := tx_neg c67 h
    refine lv_aload_n hx hb dX3_readOperand_36 rfl (lv_at hl 0 rfl) ?_
    obtain ⟨⟨r68, R_69⟩, hc70, h⟩ := tx_bd h
    replace h := tx_let (y := r68) rfl h
    replace h := tx_let (y := R_69) rfl h
    refine tw_ci tw_all hP hD hS hA (va_runV (As := []) (rest := []) ⟨hx, hb, hml, hown, hT⟩ (c_X3_openBracket l G cA H.size bA ka ra pa K R_64 P L  r68 R_69 hc70) (cwV 0 hT (tq_gV kw_20_7 kw_20_8 kw_20_9 kw_1_15 kw_20_10) rfl rfl rfl (by decide +kernel) ⟨Nat.le_of_ble_eq_true rfl, Nat.le_of_ble_eq_true rfl⟩) ⟨(tw_preB tw_all hP hD hK hN hS hA hB).1, va_recv hK hP (ci := 3) (q0 := 3) rfl rfl, (tw_preB tw_all hP hD hK hN hS hA hB).2⟩ rfl rfl hl.1 rfl (lv_room (Nat.le_of_ble_eq_true rfl)) dX3_readOperand_37 ⟨Nat.le_of_ble_eq_true rfl, Nat.le_of_ble_eq_true rfl⟩) (fun _ _ H locs z71 hP hD hS => ?_)
    subst z71
    rw [List.append_nil] at hP hD
    have hP : va_P G vwCl (wRP cA ka ra pa K R_69 P L) H := hP
    have hD : va_D A (wRP cA ka ra pa K R_69 P L) := hD
    refine lv_if_eq (tgt := 47) hx hb dX3_readOperand_40 (by decide) (fun c72 => ?_) (fun c72 => ?_)
    · have h := tx_pos c72 h
      refine lv_iconst (v := 0) hx hb dX3_readOperand_47 (by decide) ?_
      obtain ⟨rfl, rfl, rfl⟩ := tx_3 h
      exact W.zret (ty := .boolean) hx hb hr rfl (fun t ht hW => ⟨⟨_, (), rfl, rfl, by rw [ht]; exact hP, hD⟩, hS.F ht⟩) hS.2.2 dX3_readOperand_48
    · have h := tx_neg c72 h
      refine lv_iconst (v := 1) hx hb dX3_readOperand_43 (by decide) ?_
      refine lv_goto (tgt := 48) hx hb dX3_readOperand_44 (by decide) ?_
      obtain ⟨rfl, rfl, rfl⟩ := tx_3 h
      exact W.zret (ty := .boolean) hx hb hr rfl (fun t ht hW => ⟨⟨_, (), rfl, rfl, by rw [ht]; exact hP, hD⟩, hS.F ht⟩) hS.2.2 dX3_readOperand_48
set_option maxHeartbeats 4000000 in
set_option maxRecDepth 100000 in
theorem c_X3_readOperand (l : Launch) (G : va_G) (cA : Nat → ClassId) (sz : Nat) (bA : Nat) (ka : Nat → Nat) (ra : Nat → Nat) (pa : Nat → Nat) (j : Nat) (K : Tr) (R : Tr) (P : Tr) (L : Lo) (hj : j < 3) (r0 : Int32) (R' : Tr) (P' : Tr) (h : f_X3_readOperand j K R P = some (r0, R', P')) : Met l yX3_readOperand (.code yX3_readOperand cX3_readOperand 4 (some .boolean) :: T0) ({ frames := 2, cells := 0, slots := 0, locals := 42 } : Room) (tqPB bA G cA [.ref (ra 0), .ref (pa (30 + 3 * j))] (wRP cA ka ra pa K R P L) sz) (tqQi G cA (fun (r : Int32) (_ : Unit) => r = r0) (fun (_ : Unit) => wRP cA ka ra pa K (R') (P') L) (va_A (wRP cA ka ra pa K R P L) sz)) 0 0 (va_A (wRP cA ka ra pa K R P L) sz) := by
  refine Met.ofW (cc := cX3_readOperand) (maxL := 4) (ret := (some .boolean)) (by decide) rfl ?_
  intro p e s m args below meth c s₁ B hml hv
  obtain ⟨rfl, hsz, hP, hK, hD0, hN, hB⟩ := hv
  have hx := B.exec
  have hb := B.bytes
  have hr := B.returns
  have hts := atoms_spec (ws := .code yX3_readOperand cX3_readOperand 4 (some .boolean) :: T0) B.pre
  have hT : ∀ w ∈ T0, w.before _ s = true := fun w h => hts w (List.mem_cons_of_mem _ h)
  have hown : s.vm.findClass RX3 = some m.cls := findClass_of_methodNamed B.named
  have hlocks := B.notSynchronized
  subst hsz
  have hD := hD0.self (sz := s.heap.size)
  generalize hAe : va_A (wRP cA ka ra pa K R P L) s.heap.size = A at hD hB ⊢
  have hA : ∀ q : Nat, s.heap.size ≤ q → A q := fun q h => by rw [← hAe]; exact Or.inr h
  have hS : va_S A s.heap s.heap [] := va_S.rf
  have hl := lv_entry ([.ref (ra 0), .ref (pa (30 + 3 * j))]) (n := 4) (Nat.le_of_ble_eq_true rfl)
  rw [lg_entry_eq]
  generalize (lg_sl ([.ref (ra 0), .ref (pa (30 + 3 * j))]) ++ List.replicate (4 - (lg_sl ([.ref (ra 0), .ref (pa (30 + 3 * j))])).length) Slot.unset).toArray = ls at hl ⊢
  have hl : lv_has ls 4 [(0, .ref (ra 0)), (1, .ref (pa (30 + 3 * j)))] := hl
  have F : tF p s m ([.ref (ra 0), .ref (pa (30 + 3 * j))] : List Value).toArray meth c G cA A RX3 cX3_readOperand 4 (some .boolean) := ⟨hx, hb, hr, hml, hT, hown, hlocks, hK, hN, hA⟩
  obtain ⟨H, hH⟩ : ∃ z, z = s.heap := ⟨_, rfl⟩
  rw [← hH] at hP
  have hS : va_S A s.heap H [] := by rw [hH]; exact hS
  suffices hgo : G_X3_readOperand p l e s m below meth c G cA A bA ka ra pa j K L r0 R' P' H [] (F0 m 0 ls []) by rw [hH] at hgo; exact hgo
  generalize ([] : List Loc) = locs at hS ⊢
  unfold f_X3_readOperand at h
  refine lv_aload_n hx hb dX3_readOperand_0 rfl (lv_at hl 0 rfl) ?_
  refine va_get (D := G) (ci := 3) (v := .ref (ka 0)) (C := RX3) (T := TX3) (N := 10) hx hb hT ku_3 hown hK hP 3 rfl rfl 0 (by decide) (hT _ kw_2_23) (fun _ h9 => h9) rfl dX3_readOperand_1 ?_
  refine va_get (D := G) (ci := 5) (v := .int (K 0 1)) (C := RX5) (T := TX5) (N := 8) hx hb hT ku_5 hown hK hP 0 rfl rfl 1 (by decide) (hT _ kw_14_15) (fun _ h9 => h9) rfl dX3_readOperand_4 ?_
  refine lv_topi (fun y1 ey1 => ?_)
  have h := tx_let ey1 h
  refine lv_istore_n (lv' := [(2, .int y1), (0, .ref (ra 0)), (1, .ref (pa (30 + 3 * j)))]) hx hb dX3_readOperand_7 rfl hl (by decide) rfl (fun ls hl => ?_)
  refine lv_iload_n hx hb dX3_readOperand_8 rfl (lv_at hl 0 rfl) ?_
  refine lv_bipush (v := 39) hx hb dX3_readOperand_9 (by decide) ?_
  refine lv_icmp_ne (tgt := 49) hx hb dX3_readOperand_11 (by decide) (fun c2 => ?_) (fun c2 => ?_)
  · have h := tx_neg c2 h
    refine lv_iload_n hx hb dX3_readOperand_49 rfl (lv_at hl 0 rfl) ?_
    refine lv_bipush (v := 21) hx hb dX3_readOperand_50 (by decide) ?_
    refine lv_icmp_ne (tgt := 101) hx hb dX3_readOperand_52 (by decide) (fun c3 => ?_) (fun c3 => ?_)
    · have h := tx_neg c3 h
      refine lv_iload_n hx hb dX3_readOperand_101 rfl (lv_at hl 0 rfl) ?_
      refine lv_bipush (v := 42) hx hb dX3_readOperand_102 (by decide) ?_
      refine lv_icmp_ne (tgt := 162) hx hb dX3_readOperand_104 (by decide) (fun c4 => ?_) (fun c4 => ?_)
      · have h := tx_neg c4 h
        refine lv_aload_n hx hb dX3_readOperand_162 rfl (lv_at hl 1 rfl) ?_
        refine lv_iload_n hx hb dX3_readOperand_163 rfl (lv_at hl 0 rfl) ?_
        obtain ⟨r5, hc6, h⟩ := tx_bd h
        refine tw_ci (tw_none (ws := wRP cA ka ra pa K R P L)) hP hD hS hA (va_runS (As := [.int y1]) (rest := [.ref (ra 0)]) ⟨hx, hb, hml, hown, hT⟩ (c_X3_isFact l G cA H.size y1  r5 hc6) (va_cwS 1 hT (tq_gS kw_21_8 kw_21_9 kw_1_15 kw_21_10) rfl rfl rfl (by decide +kernel) ⟨Nat.le_of_ble_eq_true rfl, Nat.le_of_ble_eq_true rfl⟩) (tw_pre (tw_none (ws := wRP cA ka ra pa K R P L)) hP hD hK hN) rfl rfl hl.1 rfl (lv_room (Nat.le_of_ble_eq_true rfl)) dX3_readOperand_164 ⟨Nat.le_of_ble_eq_true rfl, Nat.le_of_ble_eq_true rfl⟩) (fun _ _ H locs z7 hP hD hS => ?_)
        subst z7
        have hP : va_P G vwCl (wRP cA ka ra pa K R P L) H := hP
        have hD : va_D A (wRP cA ka ra pa K R P L) := hD
        refine lv_iconst (v := 1) hx hb dX3_readOperand_167 (by decide) ?_
        obtain ⟨⟨r8, R_9⟩, hc10, h⟩ := tx_bd h
        replace h := tx_let (y := r8) rfl h
        replace h := tx_let (y := R_9) rfl h
        refine tw_ci tw_all hP hD hS hA (va_runV (As := [.int r5, .int 1]) (rest := []) ⟨hx, hb, hml, hown, hT⟩ (c_X3_expect l G cA H.size bA ka ra pa K R P L r5 (1 : Int32)  r8 R_9 hc10) (cwV 2 hT (tq_gV kw_16_18 kw_16_19 kw_16_20 kw_1_15 kw_16_21) rfl rfl rfl (by decide +kernel) ⟨Nat.le_of_ble_eq_true rfl, Nat.le_of_ble_eq_true rfl⟩) ⟨(tw_preB tw_all hP hD hK hN hS hA hB).1, va_recv hK hP (ci := 3) (q0 := 3) rfl rfl, (tw_preB tw_all hP hD hK hN hS hA hB).2⟩ rfl rfl hl.1 rfl (lv_room (Nat.le_of_ble_eq_true rfl)) dX3_readOperand_168 ⟨Nat.le_of_ble_eq_true rfl, Nat.le_of_ble_eq_true rfl⟩) (fun _ _ H locs z11 hP hD hS => ?_)
        subst z11
        rw [List.append_nil] at hP hD
        have hP : va_P G vwCl (wRP cA ka ra pa K R_9 P L) H := hP
        have hD : va_D A (wRP cA ka ra pa K R_9 P L) := hD
        refine lv_if_eq (tgt := 197) hx hb dX3_readOperand_171 (by decide) (fun c12 => ?_) (fun c12 => ?_)
        · have h := tx_pos c12 h
          refine lv_iconst (v := 0) hx hb dX3_readOperand_197 (by decide) ?_
          obtain ⟨rfl, rfl, rfl⟩ := tx_3 h
          exact W.zret (ty := .boolean) hx hb hr rfl (fun t ht hW => ⟨⟨_, (), rfl, rfl, by rw [ht]; exact hP, hD⟩, hS.F ht⟩) hS.2.2 dX3_readOperand_198
        · have h := tx_neg c12 h
          refine lv_aload_n hx hb dX3_readOperand_174 rfl (lv_at hl 1 rfl) ?_
          obtain ⟨⟨r13, R_14, P_15⟩, hc16, h⟩ := tx_bd h
          replace h := tx_let (y := r13) rfl h
          replace h := tx_let (y := R_14) rfl h
          replace h := tx_let (y := P_15) rfl h
          refine tw_ci tw_all hP hD hS hA (va_runV (As := []) (rest := []) ⟨hx, hb, hml, hown, hT⟩ (c_X3_countKnot l G cA H.size bA ka ra pa K R_9 P L  r13 R_14 P_15 hc16) (cwV 0 hT (tq_gV kw_20_19 kw_20_20 kw_20_21 kw_1_15 kw_20_22) rfl rfl rfl (by decide +kernel) ⟨Nat.le_of_ble_eq_true rfl, Nat.le_of_ble_eq_true rfl⟩) ⟨(tw_preB tw_all hP hD hK hN hS hA hB).1, va_recv hK hP (ci := 3) (q0 := 3) rfl rfl, (tw_preB tw_all hP hD hK hN hS hA hB).2⟩ rfl rfl hl.1 rfl (lv_room (Nat.le_of_ble_eq_true rfl)) dX3_readOperand_175 ⟨Nat.le_of_ble_eq_true rfl, Nat.le_of_ble_eq_true rfl⟩) (fun _ _ H locs z17 hP hD hS => ?_)
          subst z17
          rw [List.append_nil] at hP hD
          have hP : va_P G vwCl (wRP cA ka ra pa K R_14 P_15 L) H := hP
          have hD : va_D A (wRP cA ka ra pa K R_14 P_15 L) := hD
          refine lv_if_eq (tgt := 197) hx hb dX3_readOperand_178 (by decide) (fun c18 => ?_) (fun c18 => ?_)
          · have h := tx_pos c18 h
            refine lv_iconst (v := 0) hx hb dX3_readOperand_197 (by decide) ?_
            obtain ⟨rfl, rfl, rfl⟩ := tx_3 h
            exact W.zret (ty := .boolean) hx hb hr rfl (fun t ht hW => ⟨⟨_, (), rfl, rfl, by rw [ht]; exact hP, hD⟩, hS.F ht⟩) hS.2.2 dX3_readOperand_198
          · have h := tx_neg c18 h
            refine lv_aload_n hx hb dX3_readOperand_181 rfl (lv_at hl 2 rfl) ?_
            refine lv_sipush (v := 10000) hx hb dX3_readOperand_182 (by decide) ?_
            refine lv_iload_n hx hb dX3_readOperand_185 rfl (lv_at hl 0 rfl) ?_
            refine lv_iadd hx hb dX3_readOperand_186 ?_
            obtain ⟨⟨r19, P_20⟩, hc21, h⟩ := tx_bd h
            replace h := tx_let (y := r19) rfl h
            replace h := tx_let (y := P_20) rfl h
            refine tw_ci tw_all hP hD hS hA (va_runS (As := [.ref (pa (30 + 3 * j)), .int ((10000 : Int32) + y1)]) (rest := []) ⟨hx, hb, hml, hown, hT⟩ (c_X3_put l G cA H.size bA ka ra pa j K R_14 P_15 L ((10000 : Int32) + y1) hj r19 P_20 hc21) (va_cwS 2 hT (tq_gS kw_21_0 kw_21_1 kw_1_15 kw_21_2) rfl rfl rfl (by decide +kernel) ⟨Nat.le_of_ble_eq_true rfl, Nat.le_of_ble_eq_true rfl⟩) (tw_preB tw_all hP hD hK hN hS hA hB) rfl rfl hl.1 rfl (lv_room (Nat.le_of_ble_eq_true rfl)) dX3_readOperand_187 ⟨Nat.le_of_ble_eq_true rfl, Nat.le_of_ble_eq_true rfl⟩) (fun _ _ H locs z22 hP hD hS => ?_)
            subst z22
            rw [List.append_nil] at hP hD
            have hP : va_P G vwCl (wRP cA ka ra pa K R_14 P_20 L) H := hP
            have hD : va_D A (wRP cA ka ra pa K R_14 P_20 L) := hD
            refine lv_if_eq (tgt := 197) hx hb dX3_readOperand_190 (by decide) (fun c23 => ?_) (fun c23 => ?_)
            · have h := tx_pos c23 h
              refine lv_iconst (v := 0) hx hb dX3_readOperand_197 (by decide) ?_
              obtain ⟨rfl, rfl, rfl⟩ := tx_3 h
              exact W.zret (ty := .boolean) hx hb hr rfl (fun t ht hW => ⟨⟨_, (), rfl, rfl, by rw [ht]; exact hP, hD⟩, hS.F ht⟩) hS.2.2 dX3_readOperand_198
            · have h := tx_neg c23 h
              refine lv_iconst (v := 1) hx hb dX3_readOperand_193 (by decide) ?_
              refine lv_goto (tgt := 198) hx hb dX3_readOperand_194 (by decide) ?_
              obtain ⟨rfl, rfl, rfl⟩ := tx_3 h
              exact W.zret (ty := .boolean) hx hb hr rfl (fun t ht hW => ⟨⟨_, (), rfl, rfl, by rw [ht]; exact hP, hD⟩, hS.F ht⟩) hS.2.2 dX3_readOperand_198
      · have h := tx_pos c4 h
        refine lv_aload_n hx hb dX3_readOperand_107 rfl (lv_at hl 1 rfl) ?_
        refine lv_aload_n hx hb dX3_readOperand_108 rfl (lv_at hl 1 rfl) ?_
        refine va_get (D := G) (ci := 3) (v := .ref (ka 0)) (C := RX3) (T := TX3) (N := 10) hx hb hT ku_3 hown hK hP 3 rfl rfl 0 (by decide) (hT _ kw_2_23) (fun _ h9 => h9) rfl dX3_readOperand_109 ?_
        refine va_get (D := G) (ci := 5) (v := .int (K 0 3)) (C := RX5) (T := TX5) (N := 8) hx hb hT ku_5 hown hK hP 0 rfl rfl 3 (by decide) (hT _ kw_17_8) (fun _ h9 => h9) rfl dX3_readOperand_112 ?_
        refine lv_sipush (v := 10000) hx hb dX3_readOperand_115 (by decide) ?_
        refine lv_icmp_ge (tgt := 125) hx hb dX3_readOperand_118 (by decide) (fun c24 => ?_) (fun c24 => ?_)
        · have h := tx_pos c24 h
          refine lv_iconst (v := 0) hx hb dX3_readOperand_125 (by decide) ?_
          exact w_X3_readOperand_J126 F hB hj 0 R P H locs ls h hP hD hS (lv_sub hl [1, 2] rfl)
        · have h := tx_neg c24 h
          refine lv_iconst (v := 1) hx hb dX3_readOperand_121 (by decide) ?_
          refine lv_goto (tgt := 126) hx hb dX3_readOperand_122 (by decide) ?_
          exact w_X3_readOperand_J126 F hB hj 1 R P H locs ls h hP hD hS (lv_sub hl [1, 2] rfl)
    · have h := tx_pos c3 h
      refine lv_aload_n hx hb dX3_readOperand_55 rfl (lv_at hl 1 rfl) ?_
      refine lv_aload_n hx hb dX3_readOperand_56 rfl (lv_at hl 1 rfl) ?_
      obtain ⟨r41, hc42, h⟩ := tx_bd h
      refine tw_ci tw_all hP hD hS hA (va_runV (As := []) (rest := [.ref (ra 0)]) ⟨hx, hb, hml, hown, hT⟩ (c_X3_latestBinds l G cA H.size bA ka ra pa K R P L  r41 hc42) (cwV 0 hT (tq_gV kw_20_15 kw_20_16 kw_20_17 kw_1_15 kw_20_18) rfl rfl rfl (by decide +kernel) ⟨Nat.le_of_ble_eq_true rfl, Nat.le_of_ble_eq_true rfl⟩) ⟨(tw_preB tw_all hP hD hK hN hS hA hB).1, va_recv hK hP (ci := 3) (q0 := 3) rfl rfl, (tw_preB tw_all hP hD hK hN hS hA hB).2⟩ rfl rfl hl.1 rfl (lv_room (Nat.le_of_ble_eq_true rfl)) dX3_readOperand_57 ⟨Nat.le_of_ble_eq_true rfl, Nat.le_of_ble_eq_true rfl⟩) (fun _ _ H locs z43 hP hD hS => ?_)
      subst z43
      rw [List.append_nil] at hP hD
      have hP : va_P G vwCl (wRP cA ka ra pa K R P L) H := hP
      have hD : va_D A (wRP cA ka ra pa K R P L) := hD
      refine va_getsN hx hb hB.2.1 hS hown (va_tabs rfl rfl hB.2.2) (fun _ h9 => h9) dX3_readOperand_60 ?_
      refine lv_iload_n hx hb dX3_readOperand_63 rfl (lv_at hl 0 rfl) ?_
      obtain ⟨g44, h⟩ := tx_ck h
      refine va_ti hx hb hB.1 hS (tx_in g44) rfl dX3_readOperand_64 ?_
      refine lv_icmp_gt (tgt := 72) hx hb dX3_readOperand_65 (by decide) (fun c45 => ?_) (fun c45 => ?_)
      · have h := tx_pos c45 h
        refine lv_iconst (v := 0) hx hb dX3_readOperand_72 (by decide) ?_
        exact w_X3_readOperand_J73 F hB hj y1 0 R P H locs ls h hP hD hS (lv_sub hl [1, 0] rfl)
      · have h := tx_neg c45 h
        refine lv_iconst (v := 1) hx hb dX3_readOperand_68 (by decide) ?_
        refine lv_goto (tgt := 73) hx hb dX3_readOperand_69 (by decide) ?_
        exact w_X3_readOperand_J73 F hB hj y1 1 R P H locs ls h hP hD hS (lv_sub hl [1, 0] rfl)
  · have h := tx_pos c2 h
    refine lv_aload_n hx hb dX3_readOperand_14 rfl (lv_at hl 1 rfl) ?_
    refine lv_aload_n hx hb dX3_readOperand_15 rfl (lv_at hl 1 rfl) ?_
    refine va_get (D := G) (ci := 3) (v := .int (R 0 9)) (C := RX3) (T := TX3) (N := 10) hx hb hT ku_3 hown hK hP 3 rfl rfl 9 (by decide) (hT _ kw_20_2) (fun _ h9 => h9) rfl dX3_readOperand_16 ?_
    refine lv_bipush (v := 8) hx hb dX3_readOperand_19 (by decide) ?_
    refine lv_icmp_ge (tgt := 28) hx hb dX3_readOperand_21 (by decide) (fun c62 => ?_) (fun c62 => ?_)
    · have h := tx_pos c62 h
      refine lv_iconst (v := 0) hx hb dX3_readOperand_28 (by decide) ?_
      exact w_X3_readOperand_J29 F hB hj 0 R P H locs ls h hP hD hS (lv_sub hl [1] rfl)
    · have h := tx_neg c62 h
      refine lv_iconst (v := 1) hx hb dX3_readOperand_24 (by decide) ?_
      refine lv_goto (tgt := 29) hx hb dX3_readOperand_25 (by decide) ?_
      exact w_X3_readOperand_J29 F hB hj 1 R P H locs ls h hP hD hS (lv_sub hl [1] rfl)
abbrev G_X3_isJoining (p : Program) (l : Launch) (e : Env) (s : State) (m : MethodId) (below : List Frame) (meth : Method) (c : Code) (G : va_G) (cA : Nat → ClassId) (A : Nat → Prop) (x0 : Int32) (r0 : Int32) (H : Heap) (locs : List Loc) (g : JFrame) : Prop := W p l e (headSpec (.code yX3_isJoining cX3_isJoining 1 (some .boolean) :: T0) ({ frames := 0, cells := 0, slots := 0, locals := 0 } : Room)).room s m ([.int x0] : List Value).toArray below meth c H locs 0 0 (MQ below (tqQi G cA (fun (r : Int32) (_ : Unit) => r = r0) (fun (_ : Unit) => ([] : va_W)) A) ([.int x0] : List Value).toArray s 0 0 A) g
set_option maxHeartbeats 4000000 in
set_option maxRecDepth 100000 in
theorem c_X3_isJoining (l : Launch) (G : va_G) (cA : Nat → ClassId) (sz : Nat) (x0 : Int32)  (r0 : Int32) (h : f_X3_isJoining x0 = some r0) : Met l yX3_isJoining (.code yX3_isJoining cX3_isJoining 1 (some .boolean) :: T0) ({ frames := 0, cells := 0, slots := 0, locals := 0 } : Room) (tqP G cA [.int x0] (([] : va_W)) sz) (tqQi G cA (fun (r : Int32) (_ : Unit) => r = r0) (fun (_ : Unit) => ([] : va_W)) (va_A (([] : va_W)) sz)) 0 0 (va_A (([] : va_W)) sz) := by
  refine Met.ofW (cc := cX3_isJoining) (maxL := 1) (ret := (some .boolean)) (by decide) rfl ?_
  intro p e s m args below meth c s₁ B hml hv
  obtain ⟨rfl, hsz, hP, hK, hD0, hN⟩ := hv
  have hx := B.exec
  have hb := B.bytes
  have hr := B.returns
  have hts := atoms_spec (ws := .code yX3_isJoining cX3_isJoining 1 (some .boolean) :: T0) B.pre
  have hT : ∀ w ∈ T0, w.before _ s = true := fun w h => hts w (List.mem_cons_of_mem _ h)
  have hown : s.vm.findClass RX3 = some m.cls := findClass_of_methodNamed B.named
  have hlocks := B.notSynchronized
  subst hsz
  have hD := hD0.self (sz := s.heap.size)
  generalize hAe : va_A (([] : va_W)) s.heap.size = A at hD ⊢
  have hA : ∀ q : Nat, s.heap.size ≤ q → A q := fun q h => by rw [← hAe]; exact Or.inr h
  have hS : va_S A s.heap s.heap [] := va_S.rf
  have hl := lv_entry ([.int x0]) (n := 1) (Nat.le_of_ble_eq_true rfl)
  rw [lg_entry_eq]
  generalize (lg_sl ([.int x0]) ++ List.replicate (1 - (lg_sl ([.int x0])).length) Slot.unset).toArray = ls at hl ⊢
  have hl : lv_has ls 1 [(0, .int x0)] := hl
  have F : tF p s m ([.int x0] : List Value).toArray meth c G cA A RX3 cX3_isJoining 1 (some .boolean) := ⟨hx, hb, hr, hml, hT, hown, hlocks, hK, hN, hA⟩
  obtain ⟨H, hH⟩ : ∃ z, z = s.heap := ⟨_, rfl⟩
  rw [← hH] at hP
  have hS : va_S A s.heap H [] := by rw [hH]; exact hS
  suffices hgo : G_X3_isJoining p l e s m below meth c G cA A x0 r0 H [] (F0 m 0 ls []) by rw [hH] at hgo; exact hgo
  generalize ([] : List Loc) = locs at hS ⊢
  unfold f_X3_isJoining at h
  refine lv_iload_n hx hb dX3_isJoining_0 rfl (lv_at hl 0 rfl) ?_
  refine lv_bipush (v := 19) hx hb dX3_isJoining_1 (by decide) ?_
  refine lv_icmp_eq (tgt := 24) hx hb dX3_isJoining_3 (by decide) (fun c1 => ?_) (fun c1 => ?_)
  · have h := tx_pos c1 h
    refine lv_iconst (v := 1) hx hb dX3_isJoining_24 (by decide) ?_
    refine lv_goto (tgt := 29) hx hb dX3_isJoining_25 (by decide) ?_
    obtain rfl := tx_1 h
    exact W.zret (ty := .boolean) hx hb hr rfl (fun t ht hW => ⟨⟨_, (), rfl, rfl, by rw [ht]; exact hP, hD⟩, hS.F ht⟩) hS.2.2 dX3_isJoining_29
  · have h := tx_neg c1 h
    refine lv_iload_n hx hb dX3_isJoining_6 rfl (lv_at hl 0 rfl) ?_
    refine lv_bipush (v := 20) hx hb dX3_isJoining_7 (by decide) ?_
    refine lv_icmp_eq (tgt := 24) hx hb dX3_isJoining_9 (by decide) (fun c2 => ?_) (fun c2 => ?_)
    · have h := tx_pos c2 h
      refine lv_iconst (v := 1) hx hb dX3_isJoining_24 (by decide) ?_
      refine lv_goto (tgt := 29) hx hb dX3_isJoining_25 (by decide) ?_
      obtain rfl := tx_1 h
      exact W.zret (ty := .boolean) hx hb hr rfl (fun t ht hW => ⟨⟨_, (), rfl, rfl, by rw [ht]; exact hP, hD⟩, hS.F ht⟩) hS.2.2 dX3_isJoining_29
    · have h := tx_neg c2 h
      refine lv_iload_n hx hb dX3_isJoining_12 rfl (lv_at hl 0 rfl) ?_
      refine lv_bipush (v := 29) hx hb dX3_isJoining_13 (by decide) ?_
      refine lv_icmp_lt (tgt := 28) hx hb dX3_isJoining_15 (by decide) (fun c3 => ?_) (fun c3 => ?_)
      · have h := tx_pos c3 h
        refine lv_iconst (v := 0) hx hb dX3_isJoining_28 (by decide) ?_
        obtain rfl := tx_1 h
        exact W.zret (ty := .boolean) hx hb hr rfl (fun t ht hW => ⟨⟨_, (), rfl, rfl, by rw [ht]; exact hP, hD⟩, hS.F ht⟩) hS.2.2 dX3_isJoining_29
      · have h := tx_neg c3 h
        refine lv_iload_n hx hb dX3_isJoining_18 rfl (lv_at hl 0 rfl) ?_
        refine lv_bipush (v := 38) hx hb dX3_isJoining_19 (by decide) ?_
        refine lv_icmp_gt (tgt := 28) hx hb dX3_isJoining_21 (by decide) (fun c4 => ?_) (fun c4 => ?_)
        · have h := tx_pos c4 h
          refine lv_iconst (v := 0) hx hb dX3_isJoining_28 (by decide) ?_
          obtain rfl := tx_1 h
          exact W.zret (ty := .boolean) hx hb hr rfl (fun t ht hW => ⟨⟨_, (), rfl, rfl, by rw [ht]; exact hP, hD⟩, hS.F ht⟩) hS.2.2 dX3_isJoining_29
        · have h := tx_neg c4 h
          refine lv_iconst (v := 1) hx hb dX3_isJoining_24 (by decide) ?_
          refine lv_goto (tgt := 29) hx hb dX3_isJoining_25 (by decide) ?_
          obtain rfl := tx_1 h
          exact W.zret (ty := .boolean) hx hb hr rfl (fun t ht hW => ⟨⟨_, (), rfl, rfl, by rw [ht]; exact hP, hD⟩, hS.F ht⟩) hS.2.2 dX3_isJoining_29
abbrev G_X3_closeSigns (p : Program) (l : Launch) (e : Env) (s : State) (m : MethodId) (below : List Frame) (meth : Method) (c : Code) (G : va_G) (cA : Nat → ClassId) (A : Nat → Prop) (bA : Nat) (ka : Nat → Nat) (ra : Nat → Nat) (pa : Nat → Nat) (j : Nat) (K : Tr) (L : Lo) (x2 : Int32) (R' : Tr) (P' : Tr) (H : Heap) (locs : List Loc) (g : JFrame) : Prop := W p l e (headSpec (.code yX3_closeSigns cX3_closeSigns 3 none :: T0) ({ frames := 1, cells := 0, slots := 0, locals := 21 } : Room)).room s m ([.ref (ra 0), .ref (pa (30 + 3 * j)), .int x2] : List Value).toArray below meth c H locs 0 0 (MQ below (tqQv G cA (fun (_ : Unit) => True) (fun (_ : Unit) => wRP cA ka ra pa K (R') (P') L) A) ([.ref (ra 0), .ref (pa (30 + 3 * j)), .int x2] : List Value).toArray s 0 0 A) g
set_option maxHeartbeats 4000000 in
set_option maxRecDepth 100000 in
theorem w_X3_closeSigns_L0 {p : Program} {l : Launch} {e : Env} {s : State} {m : MethodId} {below : List Frame} {meth : Method} {c : Code} {G : va_G} {cA : Nat → ClassId} {A : Nat → Prop} {bA : Nat} {ka : Nat → Nat} {ra : Nat → Nat} {pa : Nat → Nat} {j : Nat} {K : Tr} {L : Lo} {x2₀ : Int32} {R' : Tr} {P' : Tr} {x2 : Int32} (F : tF p s m ([.ref (ra 0), .ref (pa (30 + 3 * j)), .int x2₀] : List Value).toArray meth c G cA A RX3 cX3_closeSigns 3 none) (hB : tqB bA A s s.heap) (hj : j < 3)   (N : Nat) : ∀ (R : Tr) (P : Tr) (H : Heap) (locs : List Loc) (ls : Array Slot), lpF (fun _ _ => none) (fB_X3_closeSigns_L0 j x2) N R P = some (R', P') → va_P G vwCl (wRP cA ka ra pa K R P L) H → va_D A (wRP cA ka ra pa K R P L) → va_S A s.heap H locs → lv_has ls 3 [(0, .ref (ra 0)), (1, .ref (pa (30 + 3 * j))), (2, .int x2)] → G_X3_closeSigns p l e s m below meth c G cA A bA ka ra pa j K L x2₀ R' P' H locs (F0 m 0 ls []) := by
  obtain ⟨hx, hb, hr, hml, hT, hown, hlocks, hK, hN, hA⟩ := id F
  induction N with
  | zero =>
    intro R P H locs ls h
    have h : (none : Option (Tr × Tr)) = some (R', P') := h
    cases h
  | succ N hk0 =>
    intro R P H locs ls h hP hD hS hl
    have h : fB_X3_closeSigns_L0 j x2 (lpF (fun _ _ => none) (fB_X3_closeSigns_L0 j x2) N) R P = some (R', P') := h
    generalize hk0e : lpF (fun _ _ => none) (fB_X3_closeSigns_L0 j x2) N = k0 at h hk0
    unfold fB_X3_closeSigns_L0 at h
    refine lv_aload_n hx hb dX3_closeSigns_0 rfl (lv_at hl 0 rfl) ?_
    refine va_get (D := G) (ci := 3) (v := .int (R 0 8)) (C := RX3) (T := TX3) (N := 10) hx hb hT ku_3 hown hK hP 3 rfl rfl 8 (by decide) (hT _ kw_20_1) (fun _ h9 => h9) rfl dX3_closeSigns_1 ?_
    refine lv_if_le (tgt := 45) hx hb dX3_closeSigns_4 (by decide) (fun c1 => ?_) (fun c1 => ?_)
    · have h := tx_pos c1 h
      obtain ⟨rfl, rfl⟩ := tx_2 h
      exact W.vret hx hb hr (fun t ht hW => ⟨⟨(), rfl, trivial, by rw [ht]; exact hP, hD⟩, hS.F ht⟩) hS.2.2 dX3_closeSigns_45
    · have h := tx_neg c1 h
      refine lv_aload_n hx hb dX3_closeSigns_7 rfl (lv_at hl 0 rfl) ?_
      obtain ⟨r2, hc3, h⟩ := tx_bd h
      refine tw_ci tw_all hP hD hS hA (va_runV (As := []) (rest := []) ⟨hx, hb, hml, hown, hT⟩ (c_X3_latestBinds l G cA H.size bA ka ra pa K R P L  r2 hc3) (cwV 0 hT (tq_gV kw_20_15 kw_20_16 kw_20_17 kw_1_15 kw_20_18) rfl rfl rfl (by decide +kernel) ⟨Nat.le_of_ble_eq_true rfl, Nat.le_of_ble_eq_true rfl⟩) ⟨(tw_preB tw_all hP hD hK hN hS hA hB).1, va_recv hK hP (ci := 3) (q0 := 3) rfl rfl, (tw_preB tw_all hP hD hK hN hS hA hB).2⟩ rfl rfl hl.1 rfl (lv_room (Nat.le_of_ble_eq_true rfl)) dX3_closeSigns_8 ⟨Nat.le_of_ble_eq_true rfl, Nat.le_of_ble_eq_true rfl⟩) (fun _ _ H locs z4 hP hD hS => ?_)
      subst z4
      rw [List.append_nil] at hP hD
      have hP : va_P G vwCl (wRP cA ka ra pa K R P L) H := hP
      have hD : va_D A (wRP cA ka ra pa K R P L) := hD
      refine lv_iload_n hx hb dX3_closeSigns_11 rfl (lv_at hl 2 rfl) ?_
      refine lv_icmp_lt (tgt := 45) hx hb dX3_closeSigns_12 (by decide) (fun c5 => ?_) (fun c5 => ?_)
      · have h := tx_pos c5 h
        obtain ⟨rfl, rfl⟩ := tx_2 h
        exact W.vret hx hb hr (fun t ht hW => ⟨⟨(), rfl, trivial, by rw [ht]; exact hP, hD⟩, hS.F ht⟩) hS.2.2 dX3_closeSigns_45
      · have h := tx_neg c5 h
        refine lv_aload_n hx hb dX3_closeSigns_15 rfl (lv_at hl 0 rfl) ?_
        refine lv_dup hx hb dX3_closeSigns_16 rfl ?_
        refine va_get (D := G) (ci := 3) (v := .int (R 0 8)) (C := RX3) (T := TX3) (N := 10) hx hb hT ku_3 hown hK hP 3 rfl rfl 8 (by decide) (hT _ kw_20_1) (fun _ h9 => h9) rfl dX3_closeSigns_17 ?_
        refine lv_iconst (v := 1) hx hb dX3_closeSigns_20 (by decide) ?_
        refine lv_isub hx hb dX3_closeSigns_21 ?_
        refine va_put (D := G) (ci := 3) (v := .int ((R 0 8) - 1)) (ty := .int) (C := RX3) (T := TX3) (N := 10) hx hb hT ku_3 tyX3 tyX3_ok nmX3 hown hK hP hD hS 3 rfl rfl 8 (by decide) (hT _ kw_20_1) (fun _ h9 => h9) rfl (by decide +kernel) rfl rfl (Nat.le_of_ble_eq_true rfl) dX3_closeSigns_22 (fun H locs hP hD hS => ?_)
        obtain ⟨R_6, eR_6, h⟩ := tx_lt h
        rw [sRP_ra_f8, eR_6] at hP hD
        refine lv_aload_n hx hb dX3_closeSigns_25 rfl (lv_at hl 1 rfl) ?_
        refine lv_sipush (v := 10000) hx hb dX3_closeSigns_26 (by decide) ?_
        refine lv_aload_n hx hb dX3_closeSigns_29 rfl (lv_at hl 0 rfl) ?_
        refine va_get (D := G) (ci := 3) (v := .ref (ra 8)) (C := RX3) (T := TX3) (N := 10) hx hb hT ku_3 hown hK hP 3 rfl rfl 7 (by decide) (hT _ kw_3_5) (fun _ h9 => h9) rfl dX3_closeSigns_30 ?_
        refine lv_aload_n hx hb dX3_closeSigns_33 rfl (lv_at hl 0 rfl) ?_
        refine va_get (D := G) (ci := 3) (v := .int (R_6 0 8)) (C := RX3) (T := TX3) (N := 10) hx hb hT ku_3 hown hK hP 3 rfl rfl 8 (by decide) (hT _ kw_20_1) (fun _ h9 => h9) rfl dX3_closeSigns_34 ?_
        obtain ⟨g7, h⟩ := tx_ck h
        refine va_iald (i := (R_6 0 8)) hx hb hK hP 4 0 rfl rfl (tx_in g7) dX3_closeSigns_37 ?_
        refine lv_iadd hx hb dX3_closeSigns_38 ?_
        obtain ⟨P_8, hc9, h⟩ := tx_bd h
        refine tw_cv tw_all hP hD hS hA (va_runV (As := [.int ((10000 : Int32) + (R_6 8 (R_6 0 8).toNatClampNeg))]) (rest := []) ⟨hx, hb, hml, hown, hT⟩ (c_X1_append l G cA H.size bA ka ra pa j K R_6 P L ((10000 : Int32) + (R_6 8 (R_6 0 8).toNatClampNeg)) hj P_8 hc9) (cwV 1 hT (tq_gV kw_21_3 kw_21_4 kw_21_5 kw_6_8 kw_21_6) rfl rfl rfl (by decide +kernel) ⟨Nat.le_of_ble_eq_true rfl, Nat.le_of_ble_eq_true rfl⟩) ⟨(tw_preB tw_all hP hD hK hN hS hA hB).1, va_recv hK hP (ci := 1) (q0 := (18 + 3 * j)) rfl (aLRP_0 hj), (tw_preB tw_all hP hD hK hN hS hA hB).2⟩ rfl rfl hl.1 rfl (lv_room (Nat.le_of_ble_eq_true rfl)) dX3_closeSigns_39 ⟨Nat.le_of_ble_eq_true rfl, Nat.le_of_ble_eq_true rfl⟩) (fun _ H locs z10 hP hD hS => ?_)
        rw [List.append_nil] at hP hD
        have hP : va_P G vwCl (wRP cA ka ra pa K R_6 P_8 L) H := hP
        have hD : va_D A (wRP cA ka ra pa K R_6 P_8 L) := hD
        refine lv_goto (tgt := 0) hx hb dX3_closeSigns_42 (by decide) ?_
        exact hk0 R_6 P_8 H locs ls h hP hD hS (lv_sub hl [0, 1, 2] rfl)
set_option maxHeartbeats 4000000 in
set_option maxRecDepth 100000 in
theorem c_X3_closeSigns (l : Launch) (G : va_G) (cA : Nat → ClassId) (sz : Nat) (bA : Nat) (ka : Nat → Nat) (ra : Nat → Nat) (pa : Nat → Nat) (j : Nat) (K : Tr) (R : Tr) (P : Tr) (L : Lo) (x2 : Int32) (hj : j < 3) (R' : Tr) (P' : Tr) (h : f_X3_closeSigns j R P x2 = some (R', P')) : Met l yX3_closeSigns (.code yX3_closeSigns cX3_closeSigns 3 none :: T0) ({ frames := 1, cells := 0, slots := 0, locals := 21 } : Room) (tqPB bA G cA [.ref (ra 0), .ref (pa (30 + 3 * j)), .int x2] (wRP cA ka ra pa K R P L) sz) (tqQv G cA (fun (_ : Unit) => True) (fun (_ : Unit) => wRP cA ka ra pa K (R') (P') L) (va_A (wRP cA ka ra pa K R P L) sz)) 0 0 (va_A (wRP cA ka ra pa K R P L) sz) := by
  refine Met.ofW (cc := cX3_closeSigns) (maxL := 3) (ret := none) (by decide) rfl ?_
  intro p e s m args below meth c s₁ B hml hv
  obtain ⟨rfl, hsz, hP, hK, hD0, hN, hB⟩ := hv
  have hx := B.exec
  have hb := B.bytes
  have hr := B.returns
  have hts := atoms_spec (ws := .code yX3_closeSigns cX3_closeSigns 3 none :: T0) B.pre
  have hT : ∀ w ∈ T0, w.before _ s = true := fun w h => hts w (List.mem_cons_of_mem _ h)
  have hown : s.vm.findClass RX3 = some m.cls := findClass_of_methodNamed B.named
  have hlocks := B.notSynchronized
  subst hsz
  have hD := hD0.self (sz := s.heap.size)
  generalize hAe : va_A (wRP cA ka ra pa K R P L) s.heap.size = A at hD hB ⊢
  have hA : ∀ q : Nat, s.heap.size ≤ q → A q := fun q h => by rw [← hAe]; exact Or.inr h
  have hS : va_S A s.heap s.heap [] := va_S.rf
  have hl := lv_entry ([.ref (ra 0), .ref (pa (30 + 3 * j)), .int x2]) (n := 3) (Nat.le_of_ble_eq_true rfl)
  rw [lg_entry_eq]
  generalize (lg_sl ([.ref (ra 0), .ref (pa (30 + 3 * j)), .int x2]) ++ List.replicate (3 - (lg_sl ([.ref (ra 0), .ref (pa (30 + 3 * j)), .int x2])).length) Slot.unset).toArray = ls at hl ⊢
  have hl : lv_has ls 3 [(0, .ref (ra 0)), (1, .ref (pa (30 + 3 * j))), (2, .int x2)] := hl
  have F : tF p s m ([.ref (ra 0), .ref (pa (30 + 3 * j)), .int x2] : List Value).toArray meth c G cA A RX3 cX3_closeSigns 3 none := ⟨hx, hb, hr, hml, hT, hown, hlocks, hK, hN, hA⟩
  obtain ⟨H, hH⟩ : ∃ z, z = s.heap := ⟨_, rfl⟩
  rw [← hH] at hP
  have hS : va_S A s.heap H [] := by rw [hH]; exact hS
  suffices hgo : G_X3_closeSigns p l e s m below meth c G cA A bA ka ra pa j K L x2 R' P' H [] (F0 m 0 ls []) by rw [hH] at hgo; exact hgo
  generalize ([] : List Loc) = locs at hS ⊢
  unfold f_X3_closeSigns at h
  exact w_X3_closeSigns_L0 F hB hj 2000 R P H locs ls h hP hD hS (lv_sub hl [0, 1, 2] rfl)
abbrev G_X3_readJoining (p : Program) (l : Launch) (e : Env) (s : State) (m : MethodId) (below : List Frame) (meth : Method) (c : Code) (G : va_G) (cA : Nat → ClassId) (A : Nat → Prop) (bA : Nat) (ka : Nat → Nat) (ra : Nat → Nat) (pa : Nat → Nat) (j : Nat) (K : Tr) (L : Lo) (r0 : Int32) (R' : Tr) (P' : Tr) (H : Heap) (locs : List Loc) (g : JFrame) : Prop := W p l e (headSpec (.code yX3_readJoining cX3_readJoining 4 (some .boolean) :: T0) ({ frames := 2, cells := 0, slots := 0, locals := 43 } : Room)).room s m ([.ref (ra 0), .ref (pa (30 + 3 * j))] : List Value).toArray below meth c H locs 0 0 (MQ below (tqQi G cA (fun (r : Int32) (_ : Unit) => r = r0) (fun (_ : Unit) => wRP cA ka ra pa K (R') (P') L) A) ([.ref (ra 0), .ref (pa (30 + 3 * j))] : List Value).toArray s 0 0 A) g
set_option maxHeartbeats 4000000 in
set_option maxRecDepth 100000 in
theorem w_X3_readJoining_J57 {p : Program} {l : Launch} {e : Env} {s : State} {m : MethodId} {below : List Frame} {meth : Method} {c : Code} {G : va_G} {cA : Nat → ClassId} {A : Nat → Prop} {bA : Nat} {ka : Nat → Nat} {ra : Nat → Nat} {pa : Nat → Nat} {j : Nat} {K : Tr} {L : Lo} {r0 : Int32} {R' : Tr} {P' : Tr} (F : tF p s m ([.ref (ra 0), .ref (pa (30 + 3 * j))] : List Value).toArray meth c G cA A RX3 cX3_readJoining 4 (some .boolean)) (hB : tqB bA A s s.heap) (hj : j < 3)   (s0 : Int32) (R : Tr) (P : Tr) (H : Heap) (locs : List Loc) (ls : Array Slot) (h : fJ_X3_readJoining_J57 j K s0 R P = some (r0, R', P')) (hP : va_P G vwCl (wRP cA ka ra pa K R_11 P L) H) (hD : va_D A (wRP cA ka ra pa K R_11 P L)) (hS : va_S A s.heap H locs) (hl : lv_has ls 4 [(0, .ref (ra 0))]) : G_X3_readJoining p l e s m below meth c G cA A bA ka ra pa j K L r0 R' P' H locs (F0 m 57 ls []) := by
  obtain ⟨hx, hb, hr, hml, hT, hown, hlocks, hK, hN, hA⟩ := id F
  unfold fJ_X3_readJoining_J57 at h
  refine lv_iconst (v := 1) hx hb dX3_readJoining_57 (by decide) ?_
  obtain ⟨⟨r10, R_11⟩, hc12, h⟩ := tx_bd h
  replace h := tx_let (y := r10) rfl h
  replace h := tx_let (y := R_11) rfl h
  refine tw_ci tw_all hP hD hS hA (va_runV (As := [.int s0, .int 1]) (rest := []) ⟨hx, hb, hml, hown, hT⟩ (c_X3_expect l G cA H.size bA ka ra pa K R P L s0 (1 : Int32)  r10 R_11 hc12) (cwV 2 hT (tq_gV kw_16_18 kw_16_19 kw_16_20 kw_1_15 kw_16_21) rfl rfl rfl (by decide +kernel) ⟨Nat.le_of_ble_eq_true rfl, Nat.le_of_ble_eq_true rfl⟩) ⟨(tw_preB tw_all hP hD hK hN hS hA hB).1, va_recv hK hP (ci := 3) (q0 := 3) rfl rfl, (tw_preB tw_all hP hD hK hN hS hA hB).2⟩ rfl rfl hl.1 rfl (lv_room (Nat.le_of_ble_eq_true rfl)) dX3_readJoining_58 ⟨Nat.le_of_ble_eq_true rfl, Nat.le_of_ble_eq_true rfl⟩) (fun _ _ H locs z13 hP hD hS => ?_)
  subst z13
  rw [List.append_nil] at hP hD
  have hP : va_P G vwCl (wRP cA ka ra pa K R_11 P L) H := hP
  have hD : va_D A (wRP cA ka ra pa K R_11 P L) := hD
  refine lv_if_eq (tgt := 89) hx hb dX3_readJoining_61 (by decide) (fun c14 => ?_) (fun c14 => ?_)
  · have h := tx_pos c14 h
    refine lv_iconst (v := 0) hx hb dX3_readJoining_89 (by decide) ?_
    obtain ⟨rfl, rfl, rfl⟩ := tx_3 h
    exact W.zret (ty := .boolean) hx hb hr rfl (fun t ht hW => ⟨⟨_, (), rfl, rfl, by rw [ht]; exact hP, hD⟩, hS.F ht⟩) hS.2.2 dX3_readJoining_90
  · have h := tx_neg c14 h
    refine lv_aload_n hx hb dX3_readJoining_64 rfl (lv_at hl 0 rfl) ?_
    obtain ⟨⟨r15, R_16, P_17⟩, hc18, h⟩ := tx_bd h
    replace h := tx_let (y := r15) rfl h
    replace h := tx_let (y := R_16) rfl h
    replace h := tx_let (y := P_17) rfl h
    refine tw_ci tw_all hP hD hS hA (va_runV (As := []) (rest := []) ⟨hx, hb, hml, hown, hT⟩ (c_X3_countKnot l G cA H.size bA ka ra pa K R_11 P L  r15 R_16 P_17 hc18) (cwV 0 hT (tq_gV kw_20_19 kw_20_20 kw_20_21 kw_1_15 kw_20_22) rfl rfl rfl (by decide +kernel) ⟨Nat.le_of_ble_eq_true rfl, Nat.le_of_ble_eq_true rfl⟩) ⟨(tw_preB tw_all hP hD hK hN hS hA hB).1, va_recv hK hP (ci := 3) (q0 := 3) rfl rfl, (tw_preB tw_all hP hD hK hN hS hA hB).2⟩ rfl rfl hl.1 rfl (lv_room (Nat.le_of_ble_eq_true rfl)) dX3_readJoining_65 ⟨Nat.le_of_ble_eq_true rfl, Nat.le_of_ble_eq_true rfl⟩) (fun _ _ H locs z19 hP hD hS => ?_)
    subst z19
    rw [List.append_nil] at hP hD
    have hP : va_P G vwCl (wRP cA ka ra pa K R_16 P_17 L) H := hP
    have hD : va_D A (wRP cA ka ra pa K R_16 P_17 L) := hD
    refine lv_if_eq (tgt := 89) hx hb dX3_readJoining_68 (by decide) (fun c20 => ?_) (fun c20 => ?_)
    · have h := tx_pos c20 h
      refine lv_iconst (v := 0) hx hb dX3_readJoining_89 (by decide) ?_
      obtain ⟨rfl, rfl, rfl⟩ := tx_3 h
      exact W.zret (ty := .boolean) hx hb hr rfl (fun t ht hW => ⟨⟨_, (), rfl, rfl, by rw [ht]; exact hP, hD⟩, hS.F ht⟩) hS.2.2 dX3_readJoining_90
    · have h := tx_neg c20 h
      refine lv_aload_n hx hb dX3_readJoining_71 rfl (lv_at hl 0 rfl) ?_
      refine lv_aload_n hx hb dX3_readJoining_72 rfl (lv_at hl 0 rfl) ?_
      refine va_get (D := G) (ci := 3) (v := .ref (ka 0)) (C := RX3) (T := TX3) (N := 10) hx hb hT ku_3 hown hK hP 3 rfl rfl 0 (by decide) (hT _ kw_2_23) (fun _ h9 => h9) rfl dX3_readJoining_73 ?_
      refine va_get (D := G) (ci := 5) (v := .int (K 0 1)) (C := RX5) (T := TX5) (N := 8) hx hb hT ku_5 hown hK hP 0 rfl rfl 1 (by decide) (hT _ kw_14_15) (fun _ h9 => h9) rfl dX3_readJoining_76 ?_
      obtain ⟨⟨r21, R_22⟩, hc23, h⟩ := tx_bd h
      replace h := tx_let (y := r21) rfl h
      replace h := tx_let (y := R_22) rfl h
      refine tw_ci tw_all hP hD hS hA (va_runV (As := [.int (K 0 1)]) (rest := []) ⟨hx, hb, hml, hown, hT⟩ (c_X3_openSign l G cA H.size bA ka ra pa K R_16 P_17 L (K 0 1)  r21 R_22 hc23) (cwV 1 hT (tq_gV kw_20_11 kw_20_12 kw_20_13 kw_1_15 kw_20_14) rfl rfl rfl (by decide +kernel) ⟨Nat.le_of_ble_eq_true rfl, Nat.le_of_ble_eq_true rfl⟩) ⟨(tw_preB tw_all hP hD hK hN hS hA hB).1, va_recv hK hP (ci := 3) (q0 := 3) rfl rfl, (tw_preB tw_all hP hD hK hN hS hA hB).2⟩ rfl rfl hl.1 rfl (lv_room (Nat.le_of_ble_eq_true rfl)) dX3_readJoining_79 ⟨Nat.le_of_ble_eq_true rfl, Nat.le_of_ble_eq_true rfl⟩) (fun _ _ H locs z24 hP hD hS => ?_)
      subst z24
      rw [List.append_nil] at hP hD
      have hP : va_P G vwCl (wRP cA ka ra pa K R_22 P_17 L) H := hP
      have hD : va_D A (wRP cA ka ra pa K R_22 P_17 L) := hD
      refine lv_if_eq (tgt := 89) hx hb dX3_readJoining_82 (by decide) (fun c25 => ?_) (fun c25 => ?_)
      · have h := tx_pos c25 h
        refine lv_iconst (v := 0) hx hb dX3_readJoining_89 (by decide) ?_
        obtain ⟨rfl, rfl, rfl⟩ := tx_3 h
        exact W.zret (ty := .boolean) hx hb hr rfl (fun t ht hW => ⟨⟨_, (), rfl, rfl, by rw [ht]; exact hP, hD⟩, hS.F ht⟩) hS.2.2 dX3_readJoining_90
      · have h := tx_neg c25 h
        refine lv_iconst (v := 1) hx hb dX3_readJoining_85 (by decide) ?_
        refine lv_goto (tgt := 90) hx hb dX3_readJoining_86 (by decide) ?_
        obtain ⟨rfl, rfl, rfl⟩ := tx_3 h
        exact W.zret (ty := .boolean) hx hb hr rfl (fun t ht hW => ⟨⟨_, (), rfl, rfl, by rw [ht]; exact hP, hD⟩, hS.F ht⟩) hS.2.2 dX3_readJoining_90
set_option maxHeartbeats 4000000 in
set_option maxRecDepth 100000 in
theorem w_X3_readJoining_J52 {p : Program} {l : Launch} {e : Env} {s : State} {m : MethodId} {below : List Frame} {meth : Method} {c : Code} {G : va_G} {cA : Nat → ClassId} {A : Nat → Prop} {bA : Nat} {ka : Nat → Nat} {ra : Nat → Nat} {pa : Nat → Nat} {j : Nat} {K : Tr} {L : Lo} {r0 : Int32} {R' : Tr} {P' : Tr} (F : tF p s m ([.ref (ra 0), .ref (pa (30 + 3 * j))] : List Value).toArray meth c G cA A RX3 cX3_readJoining 4 (some .boolean)) (hB : tqB bA A s s.heap) (hj : j < 3)   (R : Tr) (P : Tr) (H : Heap) (locs : List Loc) (ls : Array Slot) (h : fJ_X3_readJoining_J52 j K R P = some (r0, R', P')) (hP : va_P G vwCl (wRP cA ka ra pa K R P L) H) (hD : va_D A (wRP cA ka ra pa K R P L)) (hS : va_S A s.heap H locs) (hl : lv_has ls 4 [(0, .ref (ra 0))]) : G_X3_readJoining p l e s m below meth c G cA A bA ka ra pa j K L r0 R' P' H locs (F0 m 52 ls [.int 1, .ref (ra 0)]) := by
  obtain ⟨hx, hb, hr, hml, hT, hown, hlocks, hK, hN, hA⟩ := id F
  unfold fJ_X3_readJoining_J52 at h
  refine lv_iconst (v := 1) hx hb dX3_readJoining_52 (by decide) ?_
  refine lv_goto (tgt := 57) hx hb dX3_readJoining_53 (by decide) ?_
  exact w_X3_readJoining_J57 F hB hj 1 R P H locs ls h hP hD hS (lv_sub hl [0] rfl)
set_option maxHeartbeats 4000000 in
set_option maxRecDepth 100000 in
theorem w_X3_readJoining_J36 {p : Program} {l : Launch} {e : Env} {s : State} {m : MethodId} {below : List Frame} {meth : Method} {c : Code} {G : va_G} {cA : Nat → ClassId} {A : Nat → Prop} {bA : Nat} {ka : Nat → Nat} {ra : Nat → Nat} {pa : Nat → Nat} {j : Nat} {K : Tr} {L : Lo} {r0 : Int32} {R' : Tr} {P' : Tr} (F : tF p s m ([.ref (ra 0), .ref (pa (30 + 3 * j))] : List Value).toArray meth c G cA A RX3 cX3_readJoining 4 (some .boolean)) (hB : tqB bA A s s.heap) (hj : j < 3)   (x2 : Int32) (x3 : Int32) (s0 : Int32) (R : Tr) (P : Tr) (H : Heap) (locs : List Loc) (ls : Array Slot) (h : fJ_X3_readJoining_J36 j K x2 x3 s0 R P = some (r0, R', P')) (hP : va_P G vwCl (wRP cA ka ra pa K R_5 P_6 L) H) (hD : va_D A (wRP cA ka ra pa K R_5 P_6 L)) (hS : va_S A s.heap H locs) (hl : lv_has ls 4 [(0, .ref (ra 0)), (2, .int x2), (3, .int x3)]) : G_X3_readJoining p l e s m below meth c G cA A bA ka ra pa j K L r0 R' P' H locs (F0 m 36 ls [.ref (ra 0)]) := by
  obtain ⟨hx, hb, hr, hml, hT, hown, hlocks, hK, hN, hA⟩ := id F
  unfold fJ_X3_readJoining_J36 at h
  obtain ⟨⟨R_5, P_6⟩, hc7, h⟩ := tx_bd h
  replace h := tx_let (y := R_5) rfl h
  replace h := tx_let (y := P_6) rfl h
  refine tw_cv tw_all hP hD hS hA (va_runV (As := [.ref (pa (30 + 3 * j)), .int s0]) (rest := []) ⟨hx, hb, hml, hown, hT⟩ (c_X3_closeSigns l G cA H.size bA ka ra pa j K R P L s0 hj R_5 P_6 hc7) (cwV 2 hT (tq_gV kw_21_18 kw_21_19 kw_21_20 kw_1_15 kw_21_21) rfl rfl rfl (by decide +kernel) ⟨Nat.le_of_ble_eq_true rfl, Nat.le_of_ble_eq_true rfl⟩) ⟨(tw_preB tw_all hP hD hK hN hS hA hB).1, va_recv hK hP (ci := 3) (q0 := 3) rfl rfl, (tw_preB tw_all hP hD hK hN hS hA hB).2⟩ rfl rfl hl.1 rfl (lv_room (Nat.le_of_ble_eq_true rfl)) dX3_readJoining_36 ⟨Nat.le_of_ble_eq_true rfl, Nat.le_of_ble_eq_true rfl⟩) (fun _ H locs z8 hP hD hS => ?_)
  rw [List.append_nil] at hP hD
  have hP : va_P G vwCl (wRP cA ka ra pa K R_5 P_6 L) H := hP
  have hD : va_D A (wRP cA ka ra pa K R_5 P_6 L) := hD
  refine lv_aload_n hx hb dX3_readJoining_39 rfl (lv_at hl 0 rfl) ?_
  refine lv_iload_n hx hb dX3_readJoining_40 rfl (lv_at hl 2 rfl) ?_
  refine lv_if_eq (tgt := 52) hx hb dX3_readJoining_41 (by decide) (fun c9 => ?_) (fun c9 => ?_)
  · have h := tx_pos c9 h
    exact w_X3_readJoining_J52 F hB hj R_5 P_6 H locs ls h hP hD hS (lv_sub hl [0] rfl)
  · have h := tx_neg c9 h
    refine lv_aload_n hx hb dX3_readJoining_44 rfl (lv_at hl 0 rfl) ?_
    obtain ⟨r26, hc27, h⟩ := tx_bd h
    refine tw_ci tw_all hP hD hS hA (va_runV (As := []) (rest := [.ref (ra 0)]) ⟨hx, hb, hml, hown, hT⟩ (c_X3_latestBinds l G cA H.size bA ka ra pa K R_5 P_6 L  r26 hc27) (cwV 0 hT (tq_gV kw_20_15 kw_20_16 kw_20_17 kw_1_15 kw_20_18) rfl rfl rfl (by decide +kernel) ⟨Nat.le_of_ble_eq_true rfl, Nat.le_of_ble_eq_true rfl⟩) ⟨(tw_preB tw_all hP hD hK hN hS hA hB).1, va_recv hK hP (ci := 3) (q0 := 3) rfl rfl, (tw_preB tw_all hP hD hK hN hS hA hB).2⟩ rfl rfl hl.1 rfl (lv_room (Nat.le_of_ble_eq_true rfl)) dX3_readJoining_45 ⟨Nat.le_of_ble_eq_true rfl, Nat.le_of_ble_eq_true rfl⟩) (fun _ _ H locs z28 hP hD hS => ?_)
    subst z28
    rw [List.append_nil] at hP hD
    have hP : va_P G vwCl (wRP cA ka ra pa K R_5 P_6 L) H := hP
    have hD : va_D A (wRP cA ka ra pa K R_5 P_6 L) := hD
    refine lv_iload_n hx hb dX3_readJoining_48 rfl (lv_at hl 1 rfl) ?_
    refine lv_icmp_ge (tgt := 56) hx hb dX3_readJoining_49 (by decide) (fun c29 => ?_) (fun c29 => ?_)
    · have h := tx_pos c29 h
      refine lv_iconst (v := 0) hx hb dX3_readJoining_56 (by decide) ?_
      exact w_X3_readJoining_J57 F hB hj 0 R_5 P_6 H locs ls h hP hD hS (lv_sub hl [0] rfl)
    · have h := tx_neg c29 h
      exact w_X3_readJoining_J52 F hB hj R_5 P_6 H locs ls h hP hD hS (lv_sub hl [0] rfl)
set_option maxHeartbeats 4000000 in
set_option maxRecDepth 100000 in
theorem w_X3_readJoining_J22 {p : Program} {l : Launch} {e : Env} {s : State} {m : MethodId} {below : List Frame} {meth : Method} {c : Code} {G : va_G} {cA : Nat → ClassId} {A : Nat → Prop} {bA : Nat} {ka : Nat → Nat} {ra : Nat → Nat} {pa : Nat → Nat} {j : Nat} {K : Tr} {L : Lo} {r0 : Int32} {R' : Tr} {P' : Tr} (F : tF p s m ([.ref (ra 0), .ref (pa (30 + 3 * j))] : List Value).toArray meth c G cA A RX3 cX3_readJoining 4 (some .boolean)) (hB : tqB bA A s s.heap) (hj : j < 3)   (x2 : Int32) (s0 : Int32) (R : Tr) (P : Tr) (H : Heap) (locs : List Loc) (ls : Array Slot) (h : fJ_X3_readJoining_J22 j K x2 s0 R P = some (r0, R', P')) (hP : va_P G vwCl (wRP cA ka ra pa K R P L) H) (hD : va_D A (wRP cA ka ra pa K R P L)) (hS : va_S A s.heap H locs) (hl : lv_has ls 4 [(3, .int s0), (0, .ref (ra 0)), (1, .ref (pa (30 + 3 * j))), (2, .int x2)]) : G_X3_readJoining p l e s m below meth c G cA A bA ka ra pa j K L r0 R' P' H locs (F0 m 22 ls [.ref (pa (30 + 3 * j)), .ref (ra 0)]) := by
  obtain ⟨hx, hb, hr, hml, hT, hown, hlocks, hK, hN, hA⟩ := id F
  unfold fJ_X3_readJoining_J22 at h
  refine lv_istore_n (lv' := [(3, .int s0), (0, .ref (ra 0)), (1, .ref (pa (30 + 3 * j))), (2, .int x2)]) hx hb dX3_readJoining_22 rfl hl (by decide) rfl (fun ls hl => ?_)
  refine lv_aload_n hx hb dX3_readJoining_23 rfl (lv_at hl 1 rfl) ?_
  refine lv_aload_n hx hb dX3_readJoining_24 rfl (lv_at hl 2 rfl) ?_
  refine lv_iload_n hx hb dX3_readJoining_25 rfl (lv_at hl 0 rfl) ?_
  refine lv_if_eq (tgt := 35) hx hb dX3_readJoining_26 (by decide) (fun c4 => ?_) (fun c4 => ?_)
  · have h := tx_pos c4 h
    refine lv_iload_n hx hb dX3_readJoining_35 rfl (lv_at hl 3 rfl) ?_
    exact w_X3_readJoining_J36 F hB hj x2 s0 x2 R P H locs ls h hP hD hS (lv_sub hl [1, 3, 0] rfl)
  · have h := tx_neg c4 h
    refine lv_iload_n hx hb dX3_readJoining_29 rfl (lv_at hl 3 rfl) ?_
    refine lv_iconst (v := 1) hx hb dX3_readJoining_30 (by decide) ?_
    refine lv_iadd hx hb dX3_readJoining_31 ?_
    refine lv_goto (tgt := 36) hx hb dX3_readJoining_32 (by decide) ?_
    exact w_X3_readJoining_J36 F hB hj x2 s0 (x2 + 1) R P H locs ls h hP hD hS (lv_sub hl [1, 3, 0] rfl)
set_option maxHeartbeats 4000000 in
set_option maxRecDepth 100000 in
theorem c_X3_readJoining (l : Launch) (G : va_G) (cA : Nat → ClassId) (sz : Nat) (bA : Nat) (ka : Nat → Nat) (ra : Nat → Nat) (pa : Nat → Nat) (j : Nat) (K : Tr) (R : Tr) (P : Tr) (L : Lo) (hj : j < 3) (r0 : Int32) (R' : Tr) (P' : Tr) (h : f_X3_readJoining j K R P = some (r0, R', P')) : Met l yX3_readJoining (.code yX3_readJoining cX3_readJoining 4 (some .boolean) :: T0) ({ frames := 2, cells := 0, slots := 0, locals := 43 } : Room) (tqPB bA G cA [.ref (ra 0), .ref (pa (30 + 3 * j))] (wRP cA ka ra pa K R P L) sz) (tqQi G cA (fun (r : Int32) (_ : Unit) => r = r0) (fun (_ : Unit) => wRP cA ka ra pa K (R') (P') L) (va_A (wRP cA ka ra pa K R P L) sz)) 0 0 (va_A (wRP cA ka ra pa K R P L) sz) := by
  refine Met.ofW (cc := cX3_readJoining) (maxL := 4) (ret := (some .boolean)) (by decide) rfl ?_
  intro p e s m args below meth c s₁ B hml hv
  obtain ⟨rfl, hsz, hP, hK, hD0, hN, hB⟩ := hv
  have hx := B.exec
  have hb := B.bytes
  have hr := B.returns
  have hts := atoms_spec (ws := .code yX3_readJoining cX3_readJoining 4 (some .boolean) :: T0) B.pre
  have hT : ∀ w ∈ T0, w.before _ s = true := fun w h => hts w (List.mem_cons_of_mem _ h)
  have hown : s.vm.findClass RX3 = some m.cls := findClass_of_methodNamed B.named
  have hlocks := B.notSynchronized
  subst hsz
  have hD := hD0.self (sz := s.heap.size)
  generalize hAe : va_A (wRP cA ka ra pa K R P L) s.heap.size = A at hD hB ⊢
  have hA : ∀ q : Nat, s.heap.size ≤ q → A q := fun q h => by rw [← hAe]; exact Or.inr h
  have hS : va_S A s.heap s.heap [] := va_S.rf
  have hl := lv_entry ([.ref (ra 0), .ref (pa (30 + 3 * j))]) (n := 4) (Nat.le_of_ble_eq_true rfl)
  rw [lg_entry_eq]
  generalize (lg_sl ([.ref (ra 0), .ref (pa (30 + 3 * j))]) ++ List.replicate (4 - (lg_sl ([.ref (ra 0), .ref (pa (30 + 3 * j))])).length) Slot.unset).toArray = ls at hl ⊢
  have hl : lv_has ls 4 [(0, .ref (ra 0)), (1, .ref (pa (30 + 3 * j)))] := hl
  have F : tF p s m ([.ref (ra 0), .ref (pa (30 + 3 * j))] : List Value).toArray meth c G cA A RX3 cX3_readJoining 4 (some .boolean) := ⟨hx, hb, hr, hml, hT, hown, hlocks, hK, hN, hA⟩
  obtain ⟨H, hH⟩ : ∃ z, z = s.heap := ⟨_, rfl⟩
  rw [← hH] at hP
  have hS : va_S A s.heap H [] := by rw [hH]; exact hS
  suffices hgo : G_X3_readJoining p l e s m below meth c G cA A bA ka ra pa j K L r0 R' P' H [] (F0 m 0 ls []) by rw [hH] at hgo; exact hgo
  generalize ([] : List Loc) = locs at hS ⊢
  unfold f_X3_readJoining at h
  refine va_getsN hx hb hB.2.1 hS hown (va_tabs rfl rfl hB.2.2) (fun _ h9 => h9) dX3_readJoining_0 ?_
  refine lv_aload_n hx hb dX3_readJoining_3 rfl (lv_at hl 0 rfl) ?_
  refine va_get (D := G) (ci := 3) (v := .ref (ka 0)) (C := RX3) (T := TX3) (N := 10) hx hb hT ku_3 hown hK hP 3 rfl rfl 0 (by decide) (hT _ kw_2_23) (fun _ h9 => h9) rfl dX3_readJoining_4 ?_
  refine va_get (D := G) (ci := 5) (v := .int (K 0 1)) (C := RX5) (T := TX5) (N := 8) hx hb hT ku_5 hown hK hP 0 rfl rfl 1 (by decide) (hT _ kw_14_15) (fun _ h9 => h9) rfl dX3_readJoining_7 ?_
  obtain ⟨g1, h⟩ := tx_ck h
  refine va_ti hx hb hB.1 hS (tx_in g1) rfl dX3_readJoining_10 ?_
  refine lv_topi (fun y2 ey2 => ?_)
  have h := tx_let ey2 h
  refine lv_istore_n (lv' := [(2, .int y2), (0, .ref (ra 0)), (1, .ref (pa (30 + 3 * j)))]) hx hb dX3_readJoining_11 rfl hl (by decide) rfl (fun ls hl => ?_)
  refine lv_iload_n hx hb dX3_readJoining_12 rfl (lv_at hl 0 rfl) ?_
  refine lv_iconst (v := 4) hx hb dX3_readJoining_13 (by decide) ?_
  refine lv_icmp_ne (tgt := 21) hx hb dX3_readJoining_14 (by decide) (fun c3 => ?_) (fun c3 => ?_)
  · have h := tx_neg c3 h
    refine lv_iconst (v := 0) hx hb dX3_readJoining_21 (by decide) ?_
    exact w_X3_readJoining_J22 F hB hj y2 0 R P H locs ls h hP hD hS (lv_sub hl [1, 2, 0] rfl)
  · have h := tx_pos c3 h
    refine lv_iconst (v := 1) hx hb dX3_readJoining_17 (by decide) ?_
    refine lv_goto (tgt := 22) hx hb dX3_readJoining_18 (by decide) ?_
    exact w_X3_readJoining_J22 F hB hj y2 1 R P H locs ls h hP hD hS (lv_sub hl [1, 2, 0] rfl)
abbrev G_X3_closeBracket (p : Program) (l : Launch) (e : Env) (s : State) (m : MethodId) (below : List Frame) (meth : Method) (c : Code) (G : va_G) (cA : Nat → ClassId) (A : Nat → Prop) (bA : Nat) (ka : Nat → Nat) (ra : Nat → Nat) (pa : Nat → Nat) (j : Nat) (K : Tr) (L : Lo) (R' : Tr) (P' : Tr) (H : Heap) (locs : List Loc) (g : JFrame) : Prop := W p l e (headSpec (.code yX3_closeBracket cX3_closeBracket 2 none :: T0) ({ frames := 2, cells := 0, slots := 0, locals := 43 } : Room)).room s m ([.ref (ra 0), .ref (pa (30 + 3 * j))] : List Value).toArray below meth c H locs 0 0 (MQ below (tqQv G cA (fun (_ : Unit) => True) (fun (_ : Unit) => wRP cA ka ra pa K (R') (P') L) A) ([.ref (ra 0), .ref (pa (30 + 3 * j))] : List Value).toArray s 0 0 A) g
set_option maxHeartbeats 4000000 in
set_option maxRecDepth 100000 in
theorem c_X3_closeBracket (l : Launch) (G : va_G) (cA : Nat → ClassId) (sz : Nat) (bA : Nat) (ka : Nat → Nat) (ra : Nat → Nat) (pa : Nat → Nat) (j : Nat) (K : Tr) (R : Tr) (P : Tr) (L : Lo) (hj : j < 3) (R' : Tr) (P' : Tr) (h : f_X3_closeBracket j R P = some (R', P')) : Met l yX3_closeBracket (.code yX3_closeBracket cX3_closeBracket 2 none :: T0) ({ frames := 2, cells := 0, slots := 0, locals := 43 } : Room) (tqPB bA G cA [.ref (ra 0), .ref (pa (30 + 3 * j))] (wRP cA ka ra pa K R P L) sz) (tqQv G cA (fun (_ : Unit) => True) (fun (_ : Unit) => wRP cA ka ra pa K (R') (P') L) (va_A (wRP cA ka ra pa K R P L) sz)) 0 0 (va_A (wRP cA ka ra pa K R P L) sz) := by
  refine Met.ofW (cc := cX3_closeBracket) (maxL := 2) (ret := none) (by decide) rfl ?_
  intro p e s m args below meth c s₁ B hml hv
  obtain ⟨rfl, hsz, hP, hK, hD0, hN, hB⟩ := hv
  have hx := B.exec
  have hb := B.bytes
  have hr := B.returns
  have hts := atoms_spec (ws := .code yX3_closeBracket cX3_closeBracket 2 none :: T0) B.pre
  have hT : ∀ w ∈ T0, w.before _ s = true := fun w h => hts w (List.mem_cons_of_mem _ h)
  have hown : s.vm.findClass RX3 = some m.cls := findClass_of_methodNamed B.named
  have hlocks := B.notSynchronized
  subst hsz
  have hD := hD0.self (sz := s.heap.size)
  generalize hAe : va_A (wRP cA ka ra pa K R P L) s.heap.size = A at hD hB ⊢
  have hA : ∀ q : Nat, s.heap.size ≤ q → A q := fun q h => by rw [← hAe]; exact Or.inr h
  have hS : va_S A s.heap s.heap [] := va_S.rf
  have hl := lv_entry ([.ref (ra 0), .ref (pa (30 + 3 * j))]) (n := 2) (Nat.le_of_ble_eq_true rfl)
  rw [lg_entry_eq]
  generalize (lg_sl ([.ref (ra 0), .ref (pa (30 + 3 * j))]) ++ List.replicate (2 - (lg_sl ([.ref (ra 0), .ref (pa (30 + 3 * j))])).length) Slot.unset).toArray = ls at hl ⊢
  have hl : lv_has ls 2 [(0, .ref (ra 0)), (1, .ref (pa (30 + 3 * j)))] := hl
  have F : tF p s m ([.ref (ra 0), .ref (pa (30 + 3 * j))] : List Value).toArray meth c G cA A RX3 cX3_closeBracket 2 none := ⟨hx, hb, hr, hml, hT, hown, hlocks, hK, hN, hA⟩
  obtain ⟨H, hH⟩ : ∃ z, z = s.heap := ⟨_, rfl⟩
  rw [← hH] at hP
  have hS : va_S A s.heap H [] := by rw [hH]; exact hS
  suffices hgo : G_X3_closeBracket p l e s m below meth c G cA A bA ka ra pa j K L R' P' H [] (F0 m 0 ls []) by rw [hH] at hgo; exact hgo
  generalize ([] : List Loc) = locs at hS ⊢
  unfold f_X3_closeBracket at h
  refine lv_aload_n hx hb dX3_closeBracket_0 rfl (lv_at hl 0 rfl) ?_
  refine lv_aload_n hx hb dX3_closeBracket_1 rfl (lv_at hl 1 rfl) ?_
  refine lv_iconst (v := 1) hx hb dX3_closeBracket_2 (by decide) ?_
  obtain ⟨⟨R_1, P_2⟩, hc3, h⟩ := tx_bd h
  replace h := tx_let (y := R_1) rfl h
  replace h := tx_let (y := P_2) rfl h
  refine tw_cv tw_all hP hD hS hA (va_runV (As := [.ref (pa (30 + 3 * j)), .int 1]) (rest := []) ⟨hx, hb, hml, hown, hT⟩ (c_X3_closeSigns l G cA H.size bA ka ra pa j K R P L (1 : Int32) hj R_1 P_2 hc3) (cwV 2 hT (tq_gV kw_21_18 kw_21_19 kw_21_20 kw_1_15 kw_21_21) rfl rfl rfl (by decide +kernel) ⟨Nat.le_of_ble_eq_true rfl, Nat.le_of_ble_eq_true rfl⟩) ⟨(tw_preB tw_all hP hD hK hN hS hA hB).1, va_recv hK hP (ci := 3) (q0 := 3) rfl rfl, (tw_preB tw_all hP hD hK hN hS hA hB).2⟩ rfl rfl hl.1 rfl (lv_room (Nat.le_of_ble_eq_true rfl)) dX3_closeBracket_3 ⟨Nat.le_of_ble_eq_true rfl, Nat.le_of_ble_eq_true rfl⟩) (fun _ H locs z4 hP hD hS => ?_)
  rw [List.append_nil] at hP hD
  have hP : va_P G vwCl (wRP cA ka ra pa K R_1 P_2 L) H := hP
  have hD : va_D A (wRP cA ka ra pa K R_1 P_2 L) := hD
  refine lv_aload_n hx hb dX3_closeBracket_6 rfl (lv_at hl 0 rfl) ?_
  refine lv_dup hx hb dX3_closeBracket_7 rfl ?_
  refine va_get (D := G) (ci := 3) (v := .int (R_1 0 8)) (C := RX3) (T := TX3) (N := 10) hx hb hT ku_3 hown hK hP 3 rfl rfl 8 (by decide) (hT _ kw_20_1) (fun _ h9 => h9) rfl dX3_closeBracket_8 ?_
  refine lv_iconst (v := 1) hx hb dX3_closeBracket_11 (by decide) ?_
  refine lv_isub hx hb dX3_closeBracket_12 ?_
  refine va_put (D := G) (ci := 3) (v := .int ((R_1 0 8) - 1)) (ty := .int) (C := RX3) (T := TX3) (N := 10) hx hb hT ku_3 tyX3 tyX3_ok nmX3 hown hK hP hD hS 3 rfl rfl 8 (by decide) (hT _ kw_20_1) (fun _ h9 => h9) rfl (by decide +kernel) rfl rfl (Nat.le_of_ble_eq_true rfl) dX3_closeBracket_13 (fun H locs hP hD hS => ?_)
  obtain ⟨R_5, eR_5, h⟩ := tx_lt h
  rw [sRP_ra_f8, eR_5] at hP hD
  refine lv_aload_n hx hb dX3_closeBracket_16 rfl (lv_at hl 0 rfl) ?_
  refine lv_dup hx hb dX3_closeBracket_17 rfl ?_
  refine va_get (D := G) (ci := 3) (v := .int (R_5 0 9)) (C := RX3) (T := TX3) (N := 10) hx hb hT ku_3 hown hK hP 3 rfl rfl 9 (by decide) (hT _ kw_20_2) (fun _ h9 => h9) rfl dX3_closeBracket_18 ?_
  refine lv_iconst (v := 1) hx hb dX3_closeBracket_21 (by decide) ?_
  refine lv_isub hx hb dX3_closeBracket_22 ?_
  refine va_put (D := G) (ci := 3) (v := .int ((R_5 0 9) - 1)) (ty := .int) (C := RX3) (T := TX3) (N := 10) hx hb hT ku_3 tyX3 tyX3_ok nmX3 hown hK hP hD hS 3 rfl rfl 9 (by decide) (hT _ kw_20_2) (fun _ h9 => h9) rfl (by decide +kernel) rfl rfl (Nat.le_of_ble_eq_true rfl) dX3_closeBracket_23 (fun H locs hP hD hS => ?_)
  obtain ⟨R_6, eR_6, h⟩ := tx_lt h
  rw [sRP_ra_f9, eR_6] at hP hD
  obtain ⟨rfl, rfl⟩ := tx_2 h
  exact W.vret hx hb hr (fun t ht hW => ⟨⟨(), rfl, trivial, by rw [ht]; exact hP, hD⟩, hS.F ht⟩) hS.2.2 dX3_closeBracket_26
abbrev G_X3_readFormula (p : Program) (l : Launch) (e : Env) (s : State) (m : MethodId) (below : List Frame) (meth : Method) (c : Code) (G : va_G) (cA : Nat → ClassId) (A : Nat → Prop) (bA : Nat) (ka : Nat → Nat) (ra : Nat → Nat) (pa : Nat → Nat) (j : Nat) (L : Lo) (r0 : Int32) (K' : Tr) (R' : Tr) (P' : Tr) (H : Heap) (locs : List Loc) (g : JFrame) : Prop := W p l e (headSpec (.code yX3_readFormula cX3_readFormula 5 (some .boolean) :: T0) ({ frames := 3, cells := 0, slots := 0, locals := 66 } : Room)).room s m ([.ref (ra 0), .ref (pa (30 + 3 * j))] : List Value).toArray below meth c H locs 0 0 (MQ below (tqQi G cA (fun (r : Int32) (_ : Unit) => r = r0) (fun (_ : Unit) => wRP cA ka ra pa (K') (R') (P') L) A) ([.ref (ra 0), .ref (pa (30 + 3 * j))] : List Value).toArray s 0 0 A) g
set_option maxHeartbeats 4000000 in
set_option maxRecDepth 100000 in
theorem w_X3_readFormula_J173 {p : Program} {l : Launch} {e : Env} {s : State} {m : MethodId} {below : List Frame} {meth : Method} {c : Code} {G : va_G} {cA : Nat → ClassId} {A : Nat → Prop} {bA : Nat} {ka : Nat → Nat} {ra : Nat → Nat} {pa : Nat → Nat} {j : Nat} {L : Lo} {r0 : Int32} {K' : Tr} {R' : Tr} {P' : Tr} (F : tF p s m ([.ref (ra 0), .ref (pa (30 + 3 * j))] : List Value).toArray meth c G cA A RX3 cX3_readFormula 5 (some .boolean)) (hB : tqB bA A s s.heap) (hj : j < 3)   (s0 : Int32) (K : Tr) (R : Tr) (P : Tr) (H : Heap) (locs : List Loc) (ls : Array Slot) (h : fJ_X3_readFormula_J173 j s0 K R P = some (r0, K', R', P')) (hP : va_P G vwCl (wRP cA ka ra pa K R_11 P L) H) (hD : va_D A (wRP cA ka ra pa K R_11 P L)) (hS : va_S A s.heap H locs) (hl : lv_has ls 5 []) : G_X3_readFormula p l e s m below meth c G cA A bA ka ra pa j L r0 K' R' P' H locs (F0 m 173 ls []) := by
  obtain ⟨hx, hb, hr, hml, hT, hown, hlocks, hK, hN, hA⟩ := id F
  unfold fJ_X3_readFormula_J173 at h
  refine lv_iconst (v := 1) hx hb dX3_readFormula_173 (by decide) ?_
  obtain ⟨⟨r10, R_11⟩, hc12, h⟩ := tx_bd h
  replace h := tx_let (y := r10) rfl h
  replace h := tx_let (y := R_11) rfl h
  refine tw_ci tw_all hP hD hS hA (va_runV (As := [.int s0, .int 1]) (rest := []) ⟨hx, hb, hml, hown, hT⟩ (c_X3_expect l G cA H.size bA ka ra pa K R P L s0 (1 : Int32)  r10 R_11 hc12) (cwV 2 hT (tq_gV kw_16_18 kw_16_19 kw_16_20 kw_1_15 kw_16_21) rfl rfl rfl (by decide +kernel) ⟨Nat.le_of_ble_eq_true rfl, Nat.le_of_ble_eq_true rfl⟩) ⟨(tw_preB tw_all hP hD hK hN hS hA hB).1, va_recv hK hP (ci := 3) (q0 := 3) rfl rfl, (tw_preB tw_all hP hD hK hN hS hA hB).2⟩ rfl rfl hl.1 rfl (lv_room (Nat.le_of_ble_eq_true rfl)) dX3_readFormula_174 ⟨Nat.le_of_ble_eq_true rfl, Nat.le_of_ble_eq_true rfl⟩) (fun _ _ H locs z13 hP hD hS => ?_)
  subst z13
  rw [List.append_nil] at hP hD
  have hP : va_P G vwCl (wRP cA ka ra pa K R_11 P L) H := hP
  have hD : va_D A (wRP cA ka ra pa K R_11 P L) := hD
  refine lv_if_eq (tgt := 184) hx hb dX3_readFormula_177 (by decide) (fun c14 => ?_) (fun c14 => ?_)
  · have h := tx_pos c14 h
    refine lv_iconst (v := 0) hx hb dX3_readFormula_184 (by decide) ?_
    obtain ⟨rfl, rfl, rfl, rfl⟩ := tx_4 h
    exact W.zret (ty := .boolean) hx hb hr rfl (fun t ht hW => ⟨⟨_, (), rfl, rfl, by rw [ht]; exact hP, hD⟩, hS.F ht⟩) hS.2.2 dX3_readFormula_185
  · have h := tx_neg c14 h
    refine lv_iconst (v := 1) hx hb dX3_readFormula_180 (by decide) ?_
    refine lv_goto (tgt := 185) hx hb dX3_readFormula_181 (by decide) ?_
    obtain ⟨rfl, rfl, rfl, rfl⟩ := tx_4 h
    exact W.zret (ty := .boolean) hx hb hr rfl (fun t ht hW => ⟨⟨_, (), rfl, rfl, by rw [ht]; exact hP, hD⟩, hS.F ht⟩) hS.2.2 dX3_readFormula_185
set_option maxHeartbeats 4000000 in
set_option maxRecDepth 100000 in
theorem w_X3_readFormula_J147 {p : Program} {l : Launch} {e : Env} {s : State} {m : MethodId} {below : List Frame} {meth : Method} {c : Code} {G : va_G} {cA : Nat → ClassId} {A : Nat → Prop} {bA : Nat} {ka : Nat → Nat} {ra : Nat → Nat} {pa : Nat → Nat} {j : Nat} {L : Lo} {r0 : Int32} {K' : Tr} {R' : Tr} {P' : Tr} (F : tF p s m ([.ref (ra 0), .ref (pa (30 + 3 * j))] : List Value).toArray meth c G cA A RX3 cX3_readFormula 5 (some .boolean)) (hB : tqB bA A s s.heap) (hj : j < 3)   (K : Tr) (R : Tr) (P : Tr) (H : Heap) (locs : List Loc) (ls : Array Slot) (h : fJ_X3_readFormula_J147 j K R P = some (r0, K', R', P')) (hP : va_P G vwCl (wRP cA ka ra pa K R_4 P_5 L) H) (hD : va_D A (wRP cA ka ra pa K R_4 P_5 L)) (hS : va_S A s.heap H locs) (hl : lv_has ls 5 [(0, .ref (ra 0)), (1, .ref (pa (30 + 3 * j)))]) : G_X3_readFormula p l e s m below meth c G cA A bA ka ra pa j L r0 K' R' P' H locs (F0 m 147 ls []) := by
  obtain ⟨hx, hb, hr, hml, hT, hown, hlocks, hK, hN, hA⟩ := id F
  unfold fJ_X3_readFormula_J147 at h
  refine lv_aload_n hx hb dX3_readFormula_147 rfl (lv_at hl 0 rfl) ?_
  refine lv_aload_n hx hb dX3_readFormula_148 rfl (lv_at hl 1 rfl) ?_
  refine lv_iconst (v := 1) hx hb dX3_readFormula_149 (by decide) ?_
  obtain ⟨⟨R_4, P_5⟩, hc6, h⟩ := tx_bd h
  replace h := tx_let (y := R_4) rfl h
  replace h := tx_let (y := P_5) rfl h
  refine tw_cv tw_all hP hD hS hA (va_runV (As := [.ref (pa (30 + 3 * j)), .int 1]) (rest := []) ⟨hx, hb, hml, hown, hT⟩ (c_X3_closeSigns l G cA H.size bA ka ra pa j K R P L (1 : Int32) hj R_4 P_5 hc6) (cwV 2 hT (tq_gV kw_21_18 kw_21_19 kw_21_20 kw_1_15 kw_21_21) rfl rfl rfl (by decide +kernel) ⟨Nat.le_of_ble_eq_true rfl, Nat.le_of_ble_eq_true rfl⟩) ⟨(tw_preB tw_all hP hD hK hN hS hA hB).1, va_recv hK hP (ci := 3) (q0 := 3) rfl rfl, (tw_preB tw_all hP hD hK hN hS hA hB).2⟩ rfl rfl hl.1 rfl (lv_room (Nat.le_of_ble_eq_true rfl)) dX3_readFormula_150 ⟨Nat.le_of_ble_eq_true rfl, Nat.le_of_ble_eq_true rfl⟩) (fun _ H locs z7 hP hD hS => ?_)
  rw [List.append_nil] at hP hD
  have hP : va_P G vwCl (wRP cA ka ra pa K R_4 P_5 L) H := hP
  have hD : va_D A (wRP cA ka ra pa K R_4 P_5 L) := hD
  refine lv_aload_n hx hb dX3_readFormula_153 rfl (lv_at hl 0 rfl) ?_
  refine va_get (D := G) (ci := 3) (v := .int (R_4 0 1)) (C := RX3) (T := TX3) (N := 10) hx hb hT ku_3 hown hK hP 3 rfl rfl 1 (by decide) (hT _ kw_3_0) (fun _ h9 => h9) rfl dX3_readFormula_154 ?_
  refine lv_if_ne (tgt := 184) hx hb dX3_readFormula_157 (by decide) (fun c8 => ?_) (fun c8 => ?_)
  · have h := tx_neg c8 h
    refine lv_iconst (v := 0) hx hb dX3_readFormula_184 (by decide) ?_
    obtain ⟨rfl, rfl, rfl, rfl⟩ := tx_4 h
    exact W.zret (ty := .boolean) hx hb hr rfl (fun t ht hW => ⟨⟨_, (), rfl, rfl, by rw [ht]; exact hP, hD⟩, hS.F ht⟩) hS.2.2 dX3_readFormula_185
  · have h := tx_pos c8 h
    refine lv_aload_n hx hb dX3_readFormula_160 rfl (lv_at hl 0 rfl) ?_
    refine lv_aload_n hx hb dX3_readFormula_161 rfl (lv_at hl 0 rfl) ?_
    refine va_get (D := G) (ci := 3) (v := .int (R_4 0 9)) (C := RX3) (T := TX3) (N := 10) hx hb hT ku_3 hown hK hP 3 rfl rfl 9 (by decide) (hT _ kw_20_2) (fun _ h9 => h9) rfl dX3_readFormula_162 ?_
    refine lv_if_ne (tgt := 172) hx hb dX3_readFormula_165 (by decide) (fun c9 => ?_) (fun c9 => ?_)
    · have h := tx_neg c9 h
      refine lv_iconst (v := 0) hx hb dX3_readFormula_172 (by decide) ?_
      exact w_X3_readFormula_J173 F hB hj 0 K R_4 P_5 H locs ls h hP hD hS (lv_sub hl [] rfl)
    · have h := tx_pos c9 h
      refine lv_iconst (v := 1) hx hb dX3_readFormula_168 (by decide) ?_
      refine lv_goto (tgt := 173) hx hb dX3_readFormula_169 (by decide) ?_
      exact w_X3_readFormula_J173 F hB hj 1 K R_4 P_5 H locs ls h hP hD hS (lv_sub hl [] rfl)
set_option maxHeartbeats 4000000 in
set_option maxRecDepth 100000 in
theorem w_X3_readFormula_J130 {p : Program} {l : Launch} {e : Env} {s : State} {m : MethodId} {below : List Frame} {meth : Method} {c : Code} {G : va_G} {cA : Nat → ClassId} {A : Nat → Prop} {bA : Nat} {ka : Nat → Nat} {ra : Nat → Nat} {pa : Nat → Nat} {j : Nat} {L : Lo} {r0 : Int32} {K' : Tr} {R' : Tr} {P' : Tr} (F : tF p s m ([.ref (ra 0), .ref (pa (30 + 3 * j))] : List Value).toArray meth c G cA A RX3 cX3_readFormula 5 (some .boolean)) (hB : tqB bA A s s.heap) (hj : j < 3) (k17 : Int32 → Int32 → Int32 → Tr → Tr → Tr → Option (Int32 × Tr × Tr × Tr)) (hk17 : ∀ (x2 : Int32) (x3 : Int32) (x4 : Int32) (K : Tr) (R : Tr) (P : Tr) (H : Heap) (locs : List Loc) (ls : Array Slot), k17 x2 x3 x4 K R P = some (r0, K', R', P') → va_P G vwCl (wRP cA ka ra pa K R P L) H → va_D A (wRP cA ka ra pa K R P L) → va_S A s.heap H locs → lv_has ls 5 [(0, .ref (ra 0)), (1, .ref (pa (30 + 3 * j))), (2, .int x2), (3, .int x3), (4, .int x4)] → G_X3_readFormula p l e s m below meth c G cA A bA ka ra pa j L r0 K' R' P' H locs (F0 m 17 ls [])) (x2 : Int32) (x3 : Int32) (x4 : Int32) (K : Tr) (R : Tr) (P : Tr) (H : Heap) (locs : List Loc) (ls : Array Slot) (h : fJ_X3_readFormula_J130 k17 j x2 x3 x4 K R P = some (r0, K', R', P')) (hP : va_P G vwCl (wRP cA ka ra pa K R P L) H) (hD : va_D A (wRP cA ka ra pa K R P L)) (hS : va_S A s.heap H locs) (hl : lv_has ls 5 [(0, .ref (ra 0)), (1, .ref (pa (30 + 3 * j))), (2, .int x2), (3, .int x3), (4, .int x4)]) : G_X3_readFormula p l e s m below meth c G cA A bA ka ra pa j L r0 K' R' P' H locs (F0 m 130 ls []) := by
  obtain ⟨hx, hb, hr, hml, hT, hown, hlocks, hK, hN, hA⟩ := id F
  unfold fJ_X3_readFormula_J130 at h
  refine lv_iload_n hx hb dX3_readFormula_130 rfl (lv_at hl 3 rfl) ?_
  refine lv_if_eq (tgt := 141) hx hb dX3_readFormula_131 (by decide) (fun c23 => ?_) (fun c23 => ?_)
  · have h := tx_pos c23 h
    obtain ⟨y24, ey24, h⟩ := tx_lt h
    refine lv_iinc (v := y24) (lv' := [(4, .int y24), (0, .ref (ra 0)), (1, .ref (pa (30 + 3 * j))), (2, .int x2), (3, .int x3)]) hx hb dX3_readFormula_141 hl (k := 4) rfl ey24 (by decide) rfl (fun ls hl => ?_)
    refine lv_goto (tgt := 17) hx hb dX3_readFormula_144 (by decide) ?_
    exact hk17 x2 x3 y24 K R P H locs ls h hP hD hS (lv_sub hl [1, 2, 3, 4, 0] rfl)
  · have h := tx_neg c23 h
    refine lv_aload_n hx hb dX3_readFormula_134 rfl (lv_at hl 0 rfl) ?_
    refine va_get (D := G) (ci := 3) (v := .ref (ka 0)) (C := RX3) (T := TX3) (N := 10) hx hb hT ku_3 hown hK hP 3 rfl rfl 0 (by decide) (hT _ kw_2_23) (fun _ h9 => h9) rfl dX3_readFormula_135 ?_
    obtain ⟨K_25, hc26, h⟩ := tx_bd h
    refine tw_cv tw_all hP hD hS hA (va_runV (As := []) (rest := []) ⟨hx, hb, hml, hown, hT⟩ (c_X5_advance l G cA H.size bA ka ra pa K R P L  K_25 hc26) (cwV 0 hT (tq_gV kw_16_23 kw_15_0 kw_15_1 kw_2_22 kw_15_2) rfl rfl rfl (by decide +kernel) ⟨Nat.le_of_ble_eq_true rfl, Nat.le_of_ble_eq_true rfl⟩) ⟨(tw_preB tw_all hP hD hK hN hS hA hB).1, va_recv hK hP (ci := 5) (q0 := 0) rfl rfl, (tw_preB tw_all hP hD hK hN hS hA hB).2⟩ rfl rfl hl.1 rfl (lv_room (Nat.le_of_ble_eq_true rfl)) dX3_readFormula_138 ⟨Nat.le_of_ble_eq_true rfl, Nat.le_of_ble_eq_true rfl⟩) (fun _ H locs z27 hP hD hS => ?_)
    rw [List.append_nil] at hP hD
    have hP : va_P G vwCl (wRP cA ka ra pa K_25 R P L) H := hP
    have hD : va_D A (wRP cA ka ra pa K_25 R P L) := hD
    obtain ⟨y28, ey28, h⟩ := tx_lt h
    refine lv_iinc (v := y28) (lv' := [(4, .int y28), (0, .ref (ra 0)), (1, .ref (pa (30 + 3 * j))), (2, .int x2), (3, .int x3)]) hx hb dX3_readFormula_141 hl (k := 4) rfl ey28 (by decide) rfl (fun ls hl => ?_)
    refine lv_goto (tgt := 17) hx hb dX3_readFormula_144 (by decide) ?_
    exact hk17 x2 x3 y28 K_25 R P H locs ls h hP hD hS (lv_sub hl [1, 2, 3, 4, 0] rfl)
set_option maxHeartbeats 4000000 in
set_option maxRecDepth 100000 in
theorem w_X3_readFormula_J120 {p : Program} {l : Launch} {e : Env} {s : State} {m : MethodId} {below : List Frame} {meth : Method} {c : Code} {G : va_G} {cA : Nat → ClassId} {A : Nat → Prop} {bA : Nat} {ka : Nat → Nat} {ra : Nat → Nat} {pa : Nat → Nat} {j : Nat} {L : Lo} {r0 : Int32} {K' : Tr} {R' : Tr} {P' : Tr} (F : tF p s m ([.ref (ra 0), .ref (pa (30 + 3 * j))] : List Value).toArray meth c G cA A RX3 cX3_readFormula 5 (some .boolean)) (hB : tqB bA A s s.heap) (hj : j < 3) (k17 : Int32 → Int32 → Int32 → Tr → Tr → Tr → Option (Int32 × Tr × Tr × Tr)) (hk17 : ∀ (x2 : Int32) (x3 : Int32) (x4 : Int32) (K : Tr) (R : Tr) (P : Tr) (H : Heap) (locs : List Loc) (ls : Array Slot), k17 x2 x3 x4 K R P = some (r0, K', R', P') → va_P G vwCl (wRP cA ka ra pa K R P L) H → va_D A (wRP cA ka ra pa K R P L) → va_S A s.heap H locs → lv_has ls 5 [(0, .ref (ra 0)), (1, .ref (pa (30 + 3 * j))), (2, .int x2), (3, .int x3), (4, .int x4)] → G_X3_readFormula p l e s m below meth c G cA A bA ka ra pa j L r0 K' R' P' H locs (F0 m 17 ls [])) (x2 : Int32) (x4 : Int32) (s0 : Int32) (K : Tr) (R : Tr) (P : Tr) (H : Heap) (locs : List Loc) (ls : Array Slot) (h : fJ_X3_readFormula_J120 k17 j x2 x4 s0 K R P = some (r0, K', R', P')) (hP : va_P G vwCl (wRP cA ka ra pa K R P L) H) (hD : va_D A (wRP cA ka ra pa K R P L)) (hS : va_S A s.heap H locs) (hl : lv_has ls 5 [(3, .int s0), (0, .ref (ra 0)), (1, .ref (pa (30 + 3 * j))), (2, .int x2), (4, .int x4)]) : G_X3_readFormula p l e s m below meth c G cA A bA ka ra pa j L r0 K' R' P' H locs (F0 m 120 ls []) := by
  obtain ⟨hx, hb, hr, hml, hT, hown, hlocks, hK, hN, hA⟩ := id F
  unfold fJ_X3_readFormula_J120 at h
  refine lv_istore_n (lv' := [(3, .int s0), (0, .ref (ra 0)), (1, .ref (pa (30 + 3 * j))), (2, .int x2), (4, .int x4)]) hx hb dX3_readFormula_120 rfl hl (by decide) rfl (fun ls hl => ?_)
  refine lv_iload_n hx hb dX3_readFormula_121 rfl (lv_at hl 0 rfl) ?_
  refine lv_if_eq (tgt := 130) hx hb dX3_readFormula_122 (by decide) (fun c22 => ?_) (fun c22 => ?_)
  · have h := tx_pos c22 h
    exact w_X3_readFormula_J130 F hB hj k17 hk17 x2 s0 x4 K R P H locs ls h hP hD hS (lv_sub hl [1, 2, 3, 0, 4] rfl)
  · have h := tx_neg c22 h
    refine lv_aload_n hx hb dX3_readFormula_125 rfl (lv_at hl 1 rfl) ?_
    refine lv_aload_n hx hb dX3_readFormula_126 rfl (lv_at hl 2 rfl) ?_
    obtain ⟨⟨R_29, P_30⟩, hc31, h⟩ := tx_bd h
    replace h := tx_let (y := R_29) rfl h
    replace h := tx_let (y := P_30) rfl h
    refine tw_cv tw_all hP hD hS hA (va_runV (As := [.ref (pa (30 + 3 * j))]) (rest := []) ⟨hx, hb, hml, hown, hT⟩ (c_X3_closeBracket l G cA H.size bA ka ra pa j K R P L hj R_29 P_30 hc31) (cwV 1 hT (tq_gV kw_21_22 kw_21_23 kw_22_0 kw_1_15 kw_22_1) rfl rfl rfl (by decide +kernel) ⟨Nat.le_of_ble_eq_true rfl, Nat.le_of_ble_eq_true rfl⟩) ⟨(tw_preB tw_all hP hD hK hN hS hA hB).1, va_recv hK hP (ci := 3) (q0 := 3) rfl rfl, (tw_preB tw_all hP hD hK hN hS hA hB).2⟩ rfl rfl hl.1 rfl (lv_room (Nat.le_of_ble_eq_true rfl)) dX3_readFormula_127 ⟨Nat.le_of_ble_eq_true rfl, Nat.le_of_ble_eq_true rfl⟩) (fun _ H locs z32 hP hD hS => ?_)
    rw [List.append_nil] at hP hD
    have hP : va_P G vwCl (wRP cA ka ra pa K R_29 P_30 L) H := hP
    have hD : va_D A (wRP cA ka ra pa K R_29 P_30 L) := hD
    exact w_X3_readFormula_J130 F hB hj k17 hk17 x2 s0 x4 K R_29 P_30 H locs ls h hP hD hS (lv_sub hl [1, 2, 3, 0, 4] rfl)
set_option maxHeartbeats 4000000 in
set_option maxRecDepth 100000 in
theorem w_X3_readFormula_J119 {p : Program} {l : Launch} {e : Env} {s : State} {m : MethodId} {below : List Frame} {meth : Method} {c : Code} {G : va_G} {cA : Nat → ClassId} {A : Nat → Prop} {bA : Nat} {ka : Nat → Nat} {ra : Nat → Nat} {pa : Nat → Nat} {j : Nat} {L : Lo} {r0 : Int32} {K' : Tr} {R' : Tr} {P' : Tr} (F : tF p s m ([.ref (ra 0), .ref (pa (30 + 3 * j))] : List Value).toArray meth c G cA A RX3 cX3_readFormula 5 (some .boolean)) (hB : tqB bA A s s.heap) (hj : j < 3) (k17 : Int32 → Int32 → Int32 → Tr → Tr → Tr → Option (Int32 × Tr × Tr × Tr)) (hk17 : ∀ (x2 : Int32) (x3 : Int32) (x4 : Int32) (K : Tr) (R : Tr) (P : Tr) (H : Heap) (locs : List Loc) (ls : Array Slot), k17 x2 x3 x4 K R P = some (r0, K', R', P') → va_P G vwCl (wRP cA ka ra pa K R P L) H → va_D A (wRP cA ka ra pa K R P L) → va_S A s.heap H locs → lv_has ls 5 [(0, .ref (ra 0)), (1, .ref (pa (30 + 3 * j))), (2, .int x2), (3, .int x3), (4, .int x4)] → G_X3_readFormula p l e s m below meth c G cA A bA ka ra pa j L r0 K' R' P' H locs (F0 m 17 ls [])) (x2 : Int32) (x4 : Int32) (K : Tr) (R : Tr) (P : Tr) (H : Heap) (locs : List Loc) (ls : Array Slot) (h : fJ_X3_readFormula_J119 k17 j x2 x4 K R P = some (r0, K', R', P')) (hP : va_P G vwCl (wRP cA ka ra pa K R P L) H) (hD : va_D A (wRP cA ka ra pa K R P L)) (hS : va_S A s.heap H locs) (hl : lv_has ls 5 [(0, .ref (ra 0)), (1, .ref (pa (30 + 3 * j))), (2, .int x2), (4, .int x4)]) : G_X3_readFormula p l e s m below meth c G cA A bA ka ra pa j L r0 K' R' P' H locs (F0 m 119 ls [.int 0]) := by
  obtain ⟨hx, hb, hr, hml, hT, hown, hlocks, hK, hN, hA⟩ := id F
  unfold fJ_X3_readFormula_J119 at h
  refine lv_iconst (v := 0) hx hb dX3_readFormula_119 (by decide) ?_
  exact w_X3_readFormula_J120 F hB hj k17 hk17 x2 x4 0 K R P H locs ls h hP hD hS (lv_sub hl [0, 1, 2, 3] rfl)
set_option maxHeartbeats 4000000 in
set_option maxRecDepth 100000 in
theorem w_X3_readFormula_J62 {p : Program} {l : Launch} {e : Env} {s : State} {m : MethodId} {below : List Frame} {meth : Method} {c : Code} {G : va_G} {cA : Nat → ClassId} {A : Nat → Prop} {bA : Nat} {ka : Nat → Nat} {ra : Nat → Nat} {pa : Nat → Nat} {j : Nat} {L : Lo} {r0 : Int32} {K' : Tr} {R' : Tr} {P' : Tr} (F : tF p s m ([.ref (ra 0), .ref (pa (30 + 3 * j))] : List Value).toArray meth c G cA A RX3 cX3_readFormula 5 (some .boolean)) (hB : tqB bA A s s.heap) (hj : j < 3) (k17 : Int32 → Int32 → Int32 → Tr → Tr → Tr → Option (Int32 × Tr × Tr × Tr)) (hk17 : ∀ (x2 : Int32) (x3 : Int32) (x4 : Int32) (K : Tr) (R : Tr) (P : Tr) (H : Heap) (locs : List Loc) (ls : Array Slot), k17 x2 x3 x4 K R P = some (r0, K', R', P') → va_P G vwCl (wRP cA ka ra pa K R P L) H → va_D A (wRP cA ka ra pa K R P L) → va_S A s.heap H locs → lv_has ls 5 [(0, .ref (ra 0)), (1, .ref (pa (30 + 3 * j))), (2, .int x2), (3, .int x3), (4, .int x4)] → G_X3_readFormula p l e s m below meth c G cA A bA ka ra pa j L r0 K' R' P' H locs (F0 m 17 ls [])) (x4 : Int32) (s0 : Int32) (K : Tr) (R : Tr) (P : Tr) (H : Heap) (locs : List Loc) (ls : Array Slot) (h : fJ_X3_readFormula_J62 k17 j x4 s0 K R P = some (r0, K', R', P')) (hP : va_P G vwCl (wRP cA ka ra pa K R_41 P_42 L) H) (hD : va_D A (wRP cA ka ra pa K R_41 P_42 L)) (hS : va_S A s.heap H locs) (hl : lv_has ls 5 [(3, .int r40), (2, .int s0), (0, .ref (ra 0)), (1, .ref (pa (30 + 3 * j))), (4, .int x4)]) : G_X3_readFormula p l e s m below meth c G cA A bA ka ra pa j L r0 K' R' P' H locs (F0 m 62 ls []) := by
  obtain ⟨hx, hb, hr, hml, hT, hown, hlocks, hK, hN, hA⟩ := id F
  unfold fJ_X3_readFormula_J62 at h
  refine lv_istore_n (lv' := [(2, .int s0), (0, .ref (ra 0)), (1, .ref (pa (30 + 3 * j))), (4, .int x4)]) hx hb dX3_readFormula_62 rfl hl (by decide) rfl (fun ls hl => ?_)
  refine lv_aload_n hx hb dX3_readFormula_63 rfl (lv_at hl 1 rfl) ?_
  refine lv_aload_n hx hb dX3_readFormula_64 rfl (lv_at hl 2 rfl) ?_
  obtain ⟨⟨r40, R_41, P_42⟩, hc43, h⟩ := tx_bd h
  replace h := tx_let (y := r40) rfl h
  replace h := tx_let (y := R_41) rfl h
  replace h := tx_let (y := P_42) rfl h
  refine tw_ci tw_all hP hD hS hA (va_runV (As := [.ref (pa (30 + 3 * j))]) (rest := []) ⟨hx, hb, hml, hown, hT⟩ (c_X3_readOperand l G cA H.size bA ka ra pa j K R P L hj r40 R_41 P_42 hc43) (cwV 1 hT (tq_gV kw_20_3 kw_20_4 kw_20_5 kw_1_15 kw_20_6) rfl rfl rfl (by decide +kernel) ⟨Nat.le_of_ble_eq_true rfl, Nat.le_of_ble_eq_true rfl⟩) ⟨(tw_preB tw_all hP hD hK hN hS hA hB).1, va_recv hK hP (ci := 3) (q0 := 3) rfl rfl, (tw_preB tw_all hP hD hK hN hS hA hB).2⟩ rfl rfl hl.1 rfl (lv_room (Nat.le_of_ble_eq_true rfl)) dX3_readFormula_65 ⟨Nat.le_of_ble_eq_true rfl, Nat.le_of_ble_eq_true rfl⟩) (fun _ _ H locs z44 hP hD hS => ?_)
  subst z44
  rw [List.append_nil] at hP hD
  have hP : va_P G vwCl (wRP cA ka ra pa K R_41 P_42 L) H := hP
  have hD : va_D A (wRP cA ka ra pa K R_41 P_42 L) := hD
  refine lv_istore_n (lv' := [(3, .int r40), (2, .int s0), (0, .ref (ra 0)), (1, .ref (pa (30 + 3 * j))), (4, .int x4)]) hx hb dX3_readFormula_68 rfl hl (by decide) rfl (fun ls hl => ?_)
  refine lv_goto (tgt := 130) hx hb dX3_readFormula_69 (by decide) ?_
  exact w_X3_readFormula_J130 F hB hj k17 hk17 s0 r40 x4 K R_41 P_42 H locs ls h hP hD hS (lv_sub hl [2, 3, 1, 0, 4] rfl)
set_option maxHeartbeats 4000000 in
set_option maxRecDepth 100000 in
theorem w_X3_readFormula_J57 {p : Program} {l : Launch} {e : Env} {s : State} {m : MethodId} {below : List Frame} {meth : Method} {c : Code} {G : va_G} {cA : Nat → ClassId} {A : Nat → Prop} {bA : Nat} {ka : Nat → Nat} {ra : Nat → Nat} {pa : Nat → Nat} {j : Nat} {L : Lo} {r0 : Int32} {K' : Tr} {R' : Tr} {P' : Tr} (F : tF p s m ([.ref (ra 0), .ref (pa (30 + 3 * j))] : List Value).toArray meth c G cA A RX3 cX3_readFormula 5 (some .boolean)) (hB : tqB bA A s s.heap) (hj : j < 3) (k17 : Int32 → Int32 → Int32 → Tr → Tr → Tr → Option (Int32 × Tr × Tr × Tr)) (hk17 : ∀ (x2 : Int32) (x3 : Int32) (x4 : Int32) (K : Tr) (R : Tr) (P : Tr) (H : Heap) (locs : List Loc) (ls : Array Slot), k17 x2 x3 x4 K R P = some (r0, K', R', P') → va_P G vwCl (wRP cA ka ra pa K R P L) H → va_D A (wRP cA ka ra pa K R P L) → va_S A s.heap H locs → lv_has ls 5 [(0, .ref (ra 0)), (1, .ref (pa (30 + 3 * j))), (2, .int x2), (3, .int x3), (4, .int x4)] → G_X3_readFormula p l e s m below meth c G cA A bA ka ra pa j L r0 K' R' P' H locs (F0 m 17 ls [])) (x4 : Int32) (K : Tr) (R : Tr) (P : Tr) (H : Heap) (locs : List Loc) (ls : Array Slot) (h : fJ_X3_readFormula_J57 k17 j x4 K R P = some (r0, K', R', P')) (hP : va_P G vwCl (wRP cA ka ra pa K R P L) H) (hD : va_D A (wRP cA ka ra pa K R P L)) (hS : va_S A s.heap H locs) (hl : lv_has ls 5 [(0, .ref (ra 0)), (1, .ref (pa (30 + 3 * j))), (4, .int x4)]) : G_X3_readFormula p l e s m below meth c G cA A bA ka ra pa j L r0 K' R' P' H locs (F0 m 57 ls [.int 1]) := by
  obtain ⟨hx, hb, hr, hml, hT, hown, hlocks, hK, hN, hA⟩ := id F
  unfold fJ_X3_readFormula_J57 at h
  refine lv_iconst (v := 1) hx hb dX3_readFormula_57 (by decide) ?_
  refine lv_goto (tgt := 62) hx hb dX3_readFormula_58 (by decide) ?_
  exact w_X3_readFormula_J62 F hB hj k17 hk17 x4 1 K R P H locs ls h hP hD hS (lv_sub hl [0, 1, 2] rfl)
set_option maxHeartbeats 4000000 in
set_option maxRecDepth 100000 in
theorem w_X3_readFormula_L17 {p : Program} {l : Launch} {e : Env} {s : State} {m : MethodId} {below : List Frame} {meth : Method} {c : Code} {G : va_G} {cA : Nat → ClassId} {A : Nat → Prop} {bA : Nat} {ka : Nat → Nat} {ra : Nat → Nat} {pa : Nat → Nat} {j : Nat} {L : Lo} {r0 : Int32} {K' : Tr} {R' : Tr} {P' : Tr} (F : tF p s m ([.ref (ra 0), .ref (pa (30 + 3 * j))] : List Value).toArray meth c G cA A RX3 cX3_readFormula 5 (some .boolean)) (hB : tqB bA A s s.heap) (hj : j < 3)   (N : Nat) : ∀ (x2 : Int32) (x3 : Int32) (x4 : Int32) (K : Tr) (R : Tr) (P : Tr) (H : Heap) (locs : List Loc) (ls : Array Slot), lpF (fun _ _ _ _ _ _ => none) (fB_X3_readFormula_L17 j) N x2 x3 x4 K R P = some (r0, K', R', P') → va_P G vwCl (wRP cA ka ra pa K R P L) H → va_D A (wRP cA ka ra pa K R P L) → va_S A s.heap H locs → lv_has ls 5 [(0, .ref (ra 0)), (1, .ref (pa (30 + 3 * j))), (2, .int x2), (3, .int x3), (4, .int x4)] → G_X3_readFormula p l e s m below meth c G cA A bA ka ra pa j L r0 K' R' P' H locs (F0 m 17 ls []) := by
  obtain ⟨hx, hb, hr, hml, hT, hown, hlocks, hK, hN, hA⟩ := id F
  induction N with
  | zero =>
    intro x2 x3 x4 K R P H locs ls h
    have h : (none : Option (Int32 × Tr × Tr × Tr)) = some (r0, K', R', P') := h
    cases h
  | succ N hk17 =>
    intro x2 x3 x4 K R P H locs ls h hP hD hS hl
    have h : fB_X3_readFormula_L17 j (lpF (fun _ _ _ _ _ _ => none) (fB_X3_readFormula_L17 j) N) x2 x3 x4 K R P = some (r0, K', R', P') := h
    generalize hk17e : lpF (fun _ _ _ _ _ _ => none) (fB_X3_readFormula_L17 j) N = k17 at h hk17
    unfold fB_X3_readFormula_L17 at h
    refine lv_iload hx hb dX3_readFormula_17 (lv_at hl 4 rfl) ?_
    refine lv_sipush (v := 700) hx hb dX3_readFormula_19 (by decide) ?_
    refine lv_icmp_gt (tgt := 147) hx hb dX3_readFormula_22 (by decide) (fun c3 => ?_) (fun c3 => ?_)
    · have h := tx_pos c3 h
      exact w_X3_readFormula_J147 F hB hj K R P H locs ls h hP hD hS (lv_sub hl [0, 1] rfl)
    · have h := tx_neg c3 h
      refine lv_iload_n hx hb dX3_readFormula_25 rfl (lv_at hl 3 rfl) ?_
      refine lv_if_eq (tgt := 147) hx hb dX3_readFormula_26 (by decide) (fun c15 => ?_) (fun c15 => ?_)
      · have h := tx_pos c15 h
        exact w_X3_readFormula_J147 F hB hj K R P H locs ls h hP hD hS (lv_sub hl [0, 1] rfl)
      · have h := tx_neg c15 h
        refine lv_iload_n hx hb dX3_readFormula_29 rfl (lv_at hl 2 rfl) ?_
        refine lv_if_eq (tgt := 72) hx hb dX3_readFormula_30 (by decide) (fun c16 => ?_) (fun c16 => ?_)
        · have h := tx_pos c16 h
          refine lv_aload_n hx hb dX3_readFormula_72 rfl (lv_at hl 0 rfl) ?_
          refine va_get (D := G) (ci := 3) (v := .ref (ka 0)) (C := RX3) (T := TX3) (N := 10) hx hb hT ku_3 hown hK hP 3 rfl rfl 0 (by decide) (hT _ kw_2_23) (fun _ h9 => h9) rfl dX3_readFormula_73 ?_
          refine va_get (D := G) (ci := 5) (v := .int (K 0 1)) (C := RX5) (T := TX5) (N := 8) hx hb hT ku_5 hown hK hP 0 rfl rfl 1 (by decide) (hT _ kw_14_15) (fun _ h9 => h9) rfl dX3_readFormula_76 ?_
          obtain ⟨r17, hc18, h⟩ := tx_bd h
          refine tw_ci (tw_none (ws := wRP cA ka ra pa K R P L)) hP hD hS hA (va_runS (As := [.int (K 0 1)]) (rest := []) ⟨hx, hb, hml, hown, hT⟩ (c_X3_isJoining l G cA H.size (K 0 1)  r17 hc18) (va_cwS 1 hT (tq_gS kw_21_11 kw_21_12 kw_1_15 kw_21_13) rfl rfl rfl (by decide +kernel) ⟨Nat.le_of_ble_eq_true rfl, Nat.le_of_ble_eq_true rfl⟩) (tw_pre (tw_none (ws := wRP cA ka ra pa K R P L)) hP hD hK hN) rfl rfl hl.1 rfl (lv_room (Nat.le_of_ble_eq_true rfl)) dX3_readFormula_79 ⟨Nat.le_of_ble_eq_true rfl, Nat.le_of_ble_eq_true rfl⟩) (fun _ _ H locs z19 hP hD hS => ?_)
          subst z19
          have hP : va_P G vwCl (wRP cA ka ra pa K R P L) H := hP
          have hD : va_D A (wRP cA ka ra pa K R P L) := hD
          refine lv_if_eq (tgt := 96) hx hb dX3_readFormula_82 (by decide) (fun c20 => ?_) (fun c20 => ?_)
          · have h := tx_pos c20 h
            refine lv_aload_n hx hb dX3_readFormula_96 rfl (lv_at hl 0 rfl) ?_
            refine va_get (D := G) (ci := 3) (v := .ref (ka 0)) (C := RX3) (T := TX3) (N := 10) hx hb hT ku_3 hown hK hP 3 rfl rfl 0 (by decide) (hT _ kw_2_23) (fun _ h9 => h9) rfl dX3_readFormula_97 ?_
            refine va_get (D := G) (ci := 5) (v := .int (K 0 1)) (C := RX5) (T := TX5) (N := 8) hx hb hT ku_5 hown hK hP 0 rfl rfl 1 (by decide) (hT _ kw_14_15) (fun _ h9 => h9) rfl dX3_readFormula_100 ?_
            refine lv_bipush (v := 40) hx hb dX3_readFormula_103 (by decide) ?_
            refine lv_icmp_ne (tgt := 119) hx hb dX3_readFormula_105 (by decide) (fun c21 => ?_) (fun c21 => ?_)
            · have h := tx_neg c21 h
              exact w_X3_readFormula_J119 F hB hj k17 hk17 x2 x4 K R P H locs ls h hP hD hS (lv_sub hl [0, 1, 2, 4] rfl)
            · have h := tx_pos c21 h
              refine lv_aload_n hx hb dX3_readFormula_108 rfl (lv_at hl 0 rfl) ?_
              refine va_get (D := G) (ci := 3) (v := .int (R 0 9)) (C := RX3) (T := TX3) (N := 10) hx hb hT ku_3 hown hK hP 3 rfl rfl 9 (by decide) (hT _ kw_20_2) (fun _ h9 => h9) rfl dX3_readFormula_109 ?_
              refine lv_if_le (tgt := 119) hx hb dX3_readFormula_112 (by decide) (fun c33 => ?_) (fun c33 => ?_)
              · have h := tx_pos c33 h
                exact w_X3_readFormula_J119 F hB hj k17 hk17 x2 x4 K R P H locs ls h hP hD hS (lv_sub hl [0, 1, 2, 4] rfl)
              · have h := tx_neg c33 h
                refine lv_iconst (v := 1) hx hb dX3_readFormula_115 (by decide) ?_
                refine lv_goto (tgt := 120) hx hb dX3_readFormula_116 (by decide) ?_
                exact w_X3_readFormula_J120 F hB hj k17 hk17 x2 x4 1 K R P H locs ls h hP hD hS (lv_sub hl [0, 1, 2, 4] rfl)
          · have h := tx_neg c20 h
            refine lv_iconst (v := 1) hx hb dX3_readFormula_85 (by decide) ?_
            refine lv_istore_n (lv' := [(2, .int 1), (0, .ref (ra 0)), (1, .ref (pa (30 + 3 * j))), (3, .int x3), (4, .int x4)]) hx hb dX3_readFormula_86 rfl hl (by decide) rfl (fun ls hl => ?_)
            refine lv_aload_n hx hb dX3_readFormula_87 rfl (lv_at hl 1 rfl) ?_
            refine lv_aload_n hx hb dX3_readFormula_88 rfl (lv_at hl 2 rfl) ?_
            obtain ⟨⟨r34, R_35, P_36⟩, hc37, h⟩ := tx_bd h
            replace h := tx_let (y := r34) rfl h
            replace h := tx_let (y := R_35) rfl h
            replace h := tx_let (y := P_36) rfl h
            refine tw_ci tw_all hP hD hS hA (va_runV (As := [.ref (pa (30 + 3 * j))]) (rest := []) ⟨hx, hb, hml, hown, hT⟩ (c_X3_readJoining l G cA H.size bA ka ra pa j K R P L hj r34 R_35 P_36 hc37) (cwV 1 hT (tq_gV kw_21_14 kw_21_15 kw_21_16 kw_1_15 kw_21_17) rfl rfl rfl (by decide +kernel) ⟨Nat.le_of_ble_eq_true rfl, Nat.le_of_ble_eq_true rfl⟩) ⟨(tw_preB tw_all hP hD hK hN hS hA hB).1, va_recv hK hP (ci := 3) (q0 := 3) rfl rfl, (tw_preB tw_all hP hD hK hN hS hA hB).2⟩ rfl rfl hl.1 rfl (lv_room (Nat.le_of_ble_eq_true rfl)) dX3_readFormula_89 ⟨Nat.le_of_ble_eq_true rfl, Nat.le_of_ble_eq_true rfl⟩) (fun _ _ H locs z38 hP hD hS => ?_)
            subst z38
            rw [List.append_nil] at hP hD
            have hP : va_P G vwCl (wRP cA ka ra pa K R_35 P_36 L) H := hP
            have hD : va_D A (wRP cA ka ra pa K R_35 P_36 L) := hD
            refine lv_istore_n (lv' := [(3, .int r34), (2, .int 1), (0, .ref (ra 0)), (1, .ref (pa (30 + 3 * j))), (4, .int x4)]) hx hb dX3_readFormula_92 rfl hl (by decide) rfl (fun ls hl => ?_)
            refine lv_goto (tgt := 130) hx hb dX3_readFormula_93 (by decide) ?_
            exact w_X3_readFormula_J130 F hB hj k17 hk17 1 r34 x4 K R_35 P_36 H locs ls h hP hD hS (lv_sub hl [2, 3, 1, 0, 4] rfl)
        · have h := tx_neg c16 h
          refine lv_aload_n hx hb dX3_readFormula_33 rfl (lv_at hl 0 rfl) ?_
          refine va_get (D := G) (ci := 3) (v := .ref (ka 0)) (C := RX3) (T := TX3) (N := 10) hx hb hT ku_3 hown hK hP 3 rfl rfl 0 (by decide) (hT _ kw_2_23) (fun _ h9 => h9) rfl dX3_readFormula_34 ?_
          refine va_get (D := G) (ci := 5) (v := .int (K 0 1)) (C := RX5) (T := TX5) (N := 8) hx hb hT ku_5 hown hK hP 0 rfl rfl 1 (by decide) (hT _ kw_14_15) (fun _ h9 => h9) rfl dX3_readFormula_37 ?_
          refine lv_bipush (v := 39) hx hb dX3_readFormula_40 (by decide) ?_
          refine lv_icmp_eq (tgt := 57) hx hb dX3_readFormula_42 (by decide) (fun c39 => ?_) (fun c39 => ?_)
          · have h := tx_pos c39 h
            exact w_X3_readFormula_J57 F hB hj k17 hk17 x4 K R P H locs ls h hP hD hS (lv_sub hl [0, 1, 4] rfl)
          · have h := tx_neg c39 h
            refine lv_aload_n hx hb dX3_readFormula_45 rfl (lv_at hl 0 rfl) ?_
            refine va_get (D := G) (ci := 3) (v := .ref (ka 0)) (C := RX3) (T := TX3) (N := 10) hx hb hT ku_3 hown hK hP 3 rfl rfl 0 (by decide) (hT _ kw_2_23) (fun _ h9 => h9) rfl dX3_readFormula_46 ?_
            refine va_get (D := G) (ci := 5) (v := .int (K 0 1)) (C := RX5) (T := TX5) (N := 8) hx hb hT ku_5 hown hK hP 0 rfl rfl 1 (by decide) (hT _ kw_14_15) (fun _ h9 => h9) rfl dX3_readFormula_49 ?_
            refine lv_bipush (v := 21) hx hb dX3_readFormula_52 (by decide) ?_
            refine lv_icmp_ne (tgt := 61) hx hb dX3_readFormula_54 (by decide) (fun c45 => ?_) (fun c45 => ?_)
            · have h := tx_neg c45 h
              refine lv_iconst (v := 0) hx hb dX3_readFormula_61 (by decide) ?_
              exact w_X3_readFormula_J62 F hB hj k17 hk17 x4 0 K R P H locs ls h hP hD hS (lv_sub hl [0, 1, 4] rfl)
            · have h := tx_pos c45 h
              exact w_X3_readFormula_J57 F hB hj k17 hk17 x4 K R P H locs ls h hP hD hS (lv_sub hl [0, 1, 4] rfl)
set_option maxHeartbeats 4000000 in
set_option maxRecDepth 100000 in
theorem c_X3_readFormula (l : Launch) (G : va_G) (cA : Nat → ClassId) (sz : Nat) (bA : Nat) (ka : Nat → Nat) (ra : Nat → Nat) (pa : Nat → Nat) (j : Nat) (K : Tr) (R : Tr) (P : Tr) (L : Lo) (hj : j < 3) (r0 : Int32) (K' : Tr) (R' : Tr) (P' : Tr) (h : f_X3_readFormula j K R P = some (r0, K', R', P')) : Met l yX3_readFormula (.code yX3_readFormula cX3_readFormula 5 (some .boolean) :: T0) ({ frames := 3, cells := 0, slots := 0, locals := 66 } : Room) (tqPB bA G cA [.ref (ra 0), .ref (pa (30 + 3 * j))] (wRP cA ka ra pa K R P L) sz) (tqQi G cA (fun (r : Int32) (_ : Unit) => r = r0) (fun (_ : Unit) => wRP cA ka ra pa (K') (R') (P') L) (va_A (wRP cA ka ra pa K R P L) sz)) 0 0 (va_A (wRP cA ka ra pa K R P L) sz) := by
  refine Met.ofW (cc := cX3_readFormula) (maxL := 5) (ret := (some .boolean)) (by decide) rfl ?_
  intro p e s m args below meth c s₁ B hml hv
  obtain ⟨rfl, hsz, hP, hK, hD0, hN, hB⟩ := hv
  have hx := B.exec
  have hb := B.bytes
  have hr := B.returns
  have hts := atoms_spec (ws := .code yX3_readFormula cX3_readFormula 5 (some .boolean) :: T0) B.pre
  have hT : ∀ w ∈ T0, w.before _ s = true := fun w h => hts w (List.mem_cons_of_mem _ h)
  have hown : s.vm.findClass RX3 = some m.cls := findClass_of_methodNamed B.named
  have hlocks := B.notSynchronized
  subst hsz
  have hD := hD0.self (sz := s.heap.size)
  generalize hAe : va_A (wRP cA ka ra pa K R P L) s.heap.size = A at hD hB ⊢
  have hA : ∀ q : Nat, s.heap.size ≤ q → A q := fun q h => by rw [← hAe]; exact Or.inr h
  have hS : va_S A s.heap s.heap [] := va_S.rf
  have hl := lv_entry ([.ref (ra 0), .ref (pa (30 + 3 * j))]) (n := 5) (Nat.le_of_ble_eq_true rfl)
  rw [lg_entry_eq]
  generalize (lg_sl ([.ref (ra 0), .ref (pa (30 + 3 * j))]) ++ List.replicate (5 - (lg_sl ([.ref (ra 0), .ref (pa (30 + 3 * j))])).length) Slot.unset).toArray = ls at hl ⊢
  have hl : lv_has ls 5 [(0, .ref (ra 0)), (1, .ref (pa (30 + 3 * j)))] := hl
  have F : tF p s m ([.ref (ra 0), .ref (pa (30 + 3 * j))] : List Value).toArray meth c G cA A RX3 cX3_readFormula 5 (some .boolean) := ⟨hx, hb, hr, hml, hT, hown, hlocks, hK, hN, hA⟩
  obtain ⟨H, hH⟩ : ∃ z, z = s.heap := ⟨_, rfl⟩
  rw [← hH] at hP
  have hS : va_S A s.heap H [] := by rw [hH]; exact hS
  suffices hgo : G_X3_readFormula p l e s m below meth c G cA A bA ka ra pa j L r0 K' R' P' H [] (F0 m 0 ls []) by rw [hH] at hgo; exact hgo
  generalize ([] : List Loc) = locs at hS ⊢
  unfold f_X3_readFormula at h
  refine lv_aload_n hx hb dX3_readFormula_0 rfl (lv_at hl 0 rfl) ?_
  refine lv_iconst (v := 0) hx hb dX3_readFormula_1 (by decide) ?_
  refine va_put (D := G) (ci := 3) (v := .int 0) (ty := .int) (C := RX3) (T := TX3) (N := 10) hx hb hT ku_3 tyX3 tyX3_ok nmX3 hown hK hP hD hS 3 rfl rfl 8 (by decide) (hT _ kw_20_1) (fun _ h9 => h9) rfl (by decide +kernel) rfl rfl (Nat.le_of_ble_eq_true rfl) dX3_readFormula_2 (fun H locs hP hD hS => ?_)
  obtain ⟨R_1, eR_1, h⟩ := tx_lt h
  rw [sRP_ra_f8, eR_1] at hP hD
  refine lv_aload_n hx hb dX3_readFormula_5 rfl (lv_at hl 0 rfl) ?_
  refine lv_iconst (v := 0) hx hb dX3_readFormula_6 (by decide) ?_
  refine va_put (D := G) (ci := 3) (v := .int 0) (ty := .int) (C := RX3) (T := TX3) (N := 10) hx hb hT ku_3 tyX3 tyX3_ok nmX3 hown hK hP hD hS 3 rfl rfl 9 (by decide) (hT _ kw_20_2) (fun _ h9 => h9) rfl (by decide +kernel) rfl rfl (Nat.le_of_ble_eq_true rfl) dX3_readFormula_7 (fun H locs hP hD hS => ?_)
  obtain ⟨R_2, eR_2, h⟩ := tx_lt h
  rw [sRP_ra_f9, eR_2] at hP hD
  refine lv_iconst (v := 1) hx hb dX3_readFormula_10 (by decide) ?_
  refine lv_istore_n (lv' := [(2, .int 1), (0, .ref (ra 0)), (1, .ref (pa (30 + 3 * j)))]) hx hb dX3_readFormula_11 rfl hl (by decide) rfl (fun ls hl => ?_)
  refine lv_iconst (v := 1) hx hb dX3_readFormula_12 (by decide) ?_
  refine lv_istore_n (lv' := [(3, .int 1), (2, .int 1), (0, .ref (ra 0)), (1, .ref (pa (30 + 3 * j)))]) hx hb dX3_readFormula_13 rfl hl (by decide) rfl (fun ls hl => ?_)
  refine lv_iconst (v := 0) hx hb dX3_readFormula_14 (by decide) ?_
  refine lv_istore (lv' := [(4, .int 0), (3, .int 1), (2, .int 1), (0, .ref (ra 0)), (1, .ref (pa (30 + 3 * j)))]) hx hb dX3_readFormula_15 hl (by decide) rfl (fun ls hl => ?_)
  exact w_X3_readFormula_L17 F hB hj 2000 1 1 0 K R_2 P H locs ls h hP hD hS (lv_sub hl [3, 4, 2, 1, 0] rfl)
abbrev G_X3_readLaw (p : Program) (l : Launch) (e : Env) (s : State) (m : MethodId) (below : List Frame) (meth : Method) (c : Code) (G : va_G) (cA : Nat → ClassId) (A : Nat → Prop) (bA : Nat) (ka : Nat → Nat) (ra : Nat → Nat) (pa : Nat → Nat) (L : Lo) (r0 : Int32) (K' : Tr) (R' : Tr) (P' : Tr) (H : Heap) (locs : List Loc) (g : JFrame) : Prop := W p l e (headSpec (.code yX3_readLaw cX3_readLaw 2 (some .boolean) :: T0) ({ frames := 4, cells := 0, slots := 0, locals := 90 } : Room)).room s m ([.ref (ra 0)] : List Value).toArray below meth c H locs 0 0 (MQ below (tqQi G cA (fun (r : Int32) (_ : Unit) => r = r0) (fun (_ : Unit) => wRP cA ka ra pa (K') (R') (P') L) A) ([.ref (ra 0)] : List Value).toArray s 0 0 A) g
set_option maxHeartbeats 4000000 in
set_option maxRecDepth 100000 in
theorem w_X3_readLaw_J61 {p : Program} {l : Launch} {e : Env} {s : State} {m : MethodId} {below : List Frame} {meth : Method} {c : Code} {G : va_G} {cA : Nat → ClassId} {A : Nat → Prop} {bA : Nat} {ka : Nat → Nat} {ra : Nat → Nat} {pa : Nat → Nat} {L : Lo} {r0 : Int32} {K' : Tr} {R' : Tr} {P' : Tr} (F : tF p s m ([.ref (ra 0)] : List Value).toArray meth c G cA A RX3 cX3_readLaw 2 (some .boolean)) (hB : tqB bA A s s.heap)    (x1 : Int32) (s0 : Int32) (K : Tr) (R : Tr) (P : Tr) (H : Heap) (locs : List Loc) (ls : Array Slot) (h : fJ_X3_readLaw_J61 x1 s0 K R P = some (r0, K', R', P')) (hP : va_P G vwCl (wRP cA ka ra pa K R_14 P L) H) (hD : va_D A (wRP cA ka ra pa K R_14 P L)) (hS : va_S A s.heap H locs) (hl : lv_has ls 2 [(0, .ref (ra 0)), (1, .int x1)]) : G_X3_readLaw p l e s m below meth c G cA A bA ka ra pa L r0 K' R' P' H locs (F0 m 61 ls []) := by
  obtain ⟨hx, hb, hr, hml, hT, hown, hlocks, hK, hN, hA⟩ := id F
  unfold fJ_X3_readLaw_J61 at h
  refine lv_iconst (v := 3) hx hb dX3_readLaw_61 (by decide) ?_
  obtain ⟨⟨r13, R_14⟩, hc15, h⟩ := tx_bd h
  replace h := tx_let (y := r13) rfl h
  replace h := tx_let (y := R_14) rfl h
  refine tw_ci tw_all hP hD hS hA (va_runV (As := [.int s0, .int 3]) (rest := []) ⟨hx, hb, hml, hown, hT⟩ (c_X3_expect l G cA H.size bA ka ra pa K R P L s0 (3 : Int32)  r13 R_14 hc15) (cwV 2 hT (tq_gV kw_16_18 kw_16_19 kw_16_20 kw_1_15 kw_16_21) rfl rfl rfl (by decide +kernel) ⟨Nat.le_of_ble_eq_true rfl, Nat.le_of_ble_eq_true rfl⟩) ⟨(tw_preB tw_all hP hD hK hN hS hA hB).1, va_recv hK hP (ci := 3) (q0 := 3) rfl rfl, (tw_preB tw_all hP hD hK hN hS hA hB).2⟩ rfl rfl hl.1 rfl (lv_room (Nat.le_of_ble_eq_true rfl)) dX3_readLaw_62 ⟨Nat.le_of_ble_eq_true rfl, Nat.le_of_ble_eq_true rfl⟩) (fun _ _ H locs z16 hP hD hS => ?_)
  subst z16
  rw [List.append_nil] at hP hD
  have hP : va_P G vwCl (wRP cA ka ra pa K R_14 P L) H := hP
  have hD : va_D A (wRP cA ka ra pa K R_14 P L) := hD
  refine lv_if_ne (tgt := 70) hx hb dX3_readLaw_65 (by decide) (fun c17 => ?_) (fun c17 => ?_)
  · have h := tx_neg c17 h
    refine lv_aload_n hx hb dX3_readLaw_70 rfl (lv_at hl 0 rfl) ?_
    refine va_get (D := G) (ci := 3) (v := .ref (ka 0)) (C := RX3) (T := TX3) (N := 10) hx hb hT ku_3 hown hK hP 3 rfl rfl 0 (by decide) (hT _ kw_2_23) (fun _ h9 => h9) rfl dX3_readLaw_71 ?_
    obtain ⟨K_18, hc19, h⟩ := tx_bd h
    refine tw_cv tw_all hP hD hS hA (va_runV (As := []) (rest := []) ⟨hx, hb, hml, hown, hT⟩ (c_X5_advance l G cA H.size bA ka ra pa K R_14 P L  K_18 hc19) (cwV 0 hT (tq_gV kw_16_23 kw_15_0 kw_15_1 kw_2_22 kw_15_2) rfl rfl rfl (by decide +kernel) ⟨Nat.le_of_ble_eq_true rfl, Nat.le_of_ble_eq_true rfl⟩) ⟨(tw_preB tw_all hP hD hK hN hS hA hB).1, va_recv hK hP (ci := 5) (q0 := 0) rfl rfl, (tw_preB tw_all hP hD hK hN hS hA hB).2⟩ rfl rfl hl.1 rfl (lv_room (Nat.le_of_ble_eq_true rfl)) dX3_readLaw_74 ⟨Nat.le_of_ble_eq_true rfl, Nat.le_of_ble_eq_true rfl⟩) (fun _ H locs z20 hP hD hS => ?_)
    rw [List.append_nil] at hP hD
    have hP : va_P G vwCl (wRP cA ka ra pa K_18 R_14 P L) H := hP
    have hD : va_D A (wRP cA ka ra pa K_18 R_14 P L) := hD
    refine lv_aload_n hx hb dX3_readLaw_77 rfl (lv_at hl 0 rfl) ?_
    refine lv_aload_n hx hb dX3_readLaw_78 rfl (lv_at hl 0 rfl) ?_
    refine va_get (D := G) (ci := 3) (v := .ref (pa 0)) (C := RX3) (T := TX3) (N := 10) hx hb hT ku_3 hown hK hP 3 rfl rfl 4 (by decide) (hT _ kw_3_4) (fun _ h9 => h9) rfl dX3_readLaw_79 ?_
    refine va_get (D := G) (ci := 2) (v := .ref (pa 19)) (C := RX2) (T := TX2) (N := 19) hx hb hT ku_2 hown hK hP 5 rfl rfl 18 (by decide) (hT _ kw_19_19) (fun _ h9 => h9) rfl dX3_readLaw_82 ?_
    refine lv_iload_n hx hb dX3_readLaw_85 rfl (lv_at hl 1 rfl) ?_
    obtain ⟨g21, h⟩ := tx_ck h
    refine va_aldq (i := x1) hx hb hK hP 17 4 rfl rfl (tx_in g21) dX3_readLaw_86 ?_
    refine W.eq (g2 := F0 m 87 ls (.ref (pa (30 + 3 * x1.toNatClampNeg)) :: [.ref (ra 0)])) (by rw [lawsf_at _ (tx_n3 g21)]) ?_
    obtain ⟨⟨r22, K_23, R_24, P_25⟩, hc26, h⟩ := tx_bd h
    replace h := tx_let (y := r22) rfl h
    replace h := tx_let (y := K_23) rfl h
    replace h := tx_let (y := R_24) rfl h
    replace h := tx_let (y := P_25) rfl h
    refine tw_ci tw_all hP hD hS hA (va_runV (As := [.ref (pa (30 + 3 * x1.toNatClampNeg))]) (rest := []) ⟨hx, hb, hml, hown, hT⟩ (c_X3_readFormula l G cA H.size bA ka ra pa x1.toNatClampNeg K_18 R_14 P L (tx_n3 g21) r22 K_23 R_24 P_25 hc26) (cwV 1 hT (tq_gV kw_19_21 kw_19_22 kw_19_23 kw_1_15 kw_20_0) rfl rfl rfl (by decide +kernel) ⟨Nat.le_of_ble_eq_true rfl, Nat.le_of_ble_eq_true rfl⟩) ⟨(tw_preB tw_all hP hD hK hN hS hA hB).1, va_recv hK hP (ci := 3) (q0 := 3) rfl rfl, (tw_preB tw_all hP hD hK hN hS hA hB).2⟩ rfl rfl hl.1 rfl (lv_room (Nat.le_of_ble_eq_true rfl)) dX3_readLaw_87 ⟨Nat.le_of_ble_eq_true rfl, Nat.le_of_ble_eq_true rfl⟩) (fun _ _ H locs z27 hP hD hS => ?_)
    subst z27
    rw [List.append_nil] at hP hD
    have hP : va_P G vwCl (wRP cA ka ra pa K_23 R_24 P_25 L) H := hP
    have hD : va_D A (wRP cA ka ra pa K_23 R_24 P_25 L) := hD
    obtain ⟨g28, h⟩ := tx_ck h
    obtain ⟨rfl, rfl, rfl, rfl⟩ := tx_4 h
    exact W.zret (ty := .boolean) hx hb hr (tx_z g28) (fun t ht hW => ⟨⟨_, (), rfl, rfl, by rw [ht]; exact hP, hD⟩, hS.F ht⟩) hS.2.2 dX3_readLaw_90
  · have h := tx_pos c17 h
    refine lv_iconst (v := 0) hx hb dX3_readLaw_68 (by decide) ?_
    obtain ⟨rfl, rfl, rfl, rfl⟩ := tx_4 h
    exact W.zret (ty := .boolean) hx hb hr rfl (fun t ht hW => ⟨⟨_, (), rfl, rfl, by rw [ht]; exact hP, hD⟩, hS.F ht⟩) hS.2.2 dX3_readLaw_69
set_option maxHeartbeats 4000000 in
set_option maxRecDepth 100000 in
theorem w_X3_readLaw_J33 {p : Program} {l : Launch} {e : Env} {s : State} {m : MethodId} {below : List Frame} {meth : Method} {c : Code} {G : va_G} {cA : Nat → ClassId} {A : Nat → Prop} {bA : Nat} {ka : Nat → Nat} {ra : Nat → Nat} {pa : Nat → Nat} {L : Lo} {r0 : Int32} {K' : Tr} {R' : Tr} {P' : Tr} (F : tF p s m ([.ref (ra 0)] : List Value).toArray meth c G cA A RX3 cX3_readLaw 2 (some .boolean)) (hB : tqB bA A s s.heap)    (x1 : Int32) (s0 : Int32) (K : Tr) (R : Tr) (P : Tr) (H : Heap) (locs : List Loc) (ls : Array Slot) (h : fJ_X3_readLaw_J33 x1 s0 K R P = some (r0, K', R', P')) (hP : va_P G vwCl (wRP cA ka ra pa K R_7 P L) H) (hD : va_D A (wRP cA ka ra pa K R_7 P L)) (hS : va_S A s.heap H locs) (hl : lv_has ls 2 [(0, .ref (ra 0)), (1, .int x1)]) : G_X3_readLaw p l e s m below meth c G cA A bA ka ra pa L r0 K' R' P' H locs (F0 m 33 ls []) := by
  obtain ⟨hx, hb, hr, hml, hT, hown, hlocks, hK, hN, hA⟩ := id F
  unfold fJ_X3_readLaw_J33 at h
  refine lv_iconst (v := 1) hx hb dX3_readLaw_33 (by decide) ?_
  obtain ⟨⟨r6, R_7⟩, hc8, h⟩ := tx_bd h
  replace h := tx_let (y := r6) rfl h
  replace h := tx_let (y := R_7) rfl h
  refine tw_ci tw_all hP hD hS hA (va_runV (As := [.int s0, .int 1]) (rest := []) ⟨hx, hb, hml, hown, hT⟩ (c_X3_expect l G cA H.size bA ka ra pa K R P L s0 (1 : Int32)  r6 R_7 hc8) (cwV 2 hT (tq_gV kw_16_18 kw_16_19 kw_16_20 kw_1_15 kw_16_21) rfl rfl rfl (by decide +kernel) ⟨Nat.le_of_ble_eq_true rfl, Nat.le_of_ble_eq_true rfl⟩) ⟨(tw_preB tw_all hP hD hK hN hS hA hB).1, va_recv hK hP (ci := 3) (q0 := 3) rfl rfl, (tw_preB tw_all hP hD hK hN hS hA hB).2⟩ rfl rfl hl.1 rfl (lv_room (Nat.le_of_ble_eq_true rfl)) dX3_readLaw_34 ⟨Nat.le_of_ble_eq_true rfl, Nat.le_of_ble_eq_true rfl⟩) (fun _ _ H locs z9 hP hD hS => ?_)
  subst z9
  rw [List.append_nil] at hP hD
  have hP : va_P G vwCl (wRP cA ka ra pa K R_7 P L) H := hP
  have hD : va_D A (wRP cA ka ra pa K R_7 P L) := hD
  refine lv_if_eq (tgt := 68) hx hb dX3_readLaw_37 (by decide) (fun c10 => ?_) (fun c10 => ?_)
  · have h := tx_pos c10 h
    refine lv_iconst (v := 0) hx hb dX3_readLaw_68 (by decide) ?_
    obtain ⟨rfl, rfl, rfl, rfl⟩ := tx_4 h
    exact W.zret (ty := .boolean) hx hb hr rfl (fun t ht hW => ⟨⟨_, (), rfl, rfl, by rw [ht]; exact hP, hD⟩, hS.F ht⟩) hS.2.2 dX3_readLaw_69
  · have h := tx_neg c10 h
    refine lv_aload_n hx hb dX3_readLaw_40 rfl (lv_at hl 0 rfl) ?_
    refine lv_aload_n hx hb dX3_readLaw_41 rfl (lv_at hl 0 rfl) ?_
    refine va_get (D := G) (ci := 3) (v := .ref (pa 0)) (C := RX3) (T := TX3) (N := 10) hx hb hT ku_3 hown hK hP 3 rfl rfl 4 (by decide) (hT _ kw_3_4) (fun _ h9 => h9) rfl dX3_readLaw_42 ?_
    refine va_get (D := G) (ci := 2) (v := .ref (pa 19)) (C := RX2) (T := TX2) (N := 19) hx hb hT ku_2 hown hK hP 5 rfl rfl 18 (by decide) (hT _ kw_19_19) (fun _ h9 => h9) rfl dX3_readLaw_45 ?_
    refine lv_iload_n hx hb dX3_readLaw_48 rfl (lv_at hl 1 rfl) ?_
    obtain ⟨g11, h⟩ := tx_ck h
    refine va_aldq (i := x1) hx hb hK hP 17 4 rfl rfl (tx_in g11) dX3_readLaw_49 ?_
    refine W.eq (g2 := F0 m 50 ls (.ref (pa (30 + 3 * x1.toNatClampNeg)) :: [.ref (ra 0)])) (by rw [lawsf_at _ (tx_n3 g11)]) ?_
    refine va_get (D := G) (ci := 1) (v := .int (P (30 + 3 * x1.toNatClampNeg) 1)) (C := RX1) (T := TX1) (N := 3) hx hb hT ku_1 hown hK hP (18 + 3 * x1.toNatClampNeg) (aLRP_0 (tx_n3 g11)) rfl 1 (by decide) (hT _ kw_19_20) (fun _ h9 => h9) rfl dX3_readLaw_50 ?_
    refine lv_if_ne (tgt := 60) hx hb dX3_readLaw_53 (by decide) (fun c12 => ?_) (fun c12 => ?_)
    · have h := tx_neg c12 h
      refine lv_iconst (v := 0) hx hb dX3_readLaw_60 (by decide) ?_
      exact w_X3_readLaw_J61 F hB x1 0 K R_7 P H locs ls h hP hD hS (lv_sub hl [0, 1] rfl)
    · have h := tx_pos c12 h
      refine lv_iconst (v := 1) hx hb dX3_readLaw_56 (by decide) ?_
      refine lv_goto (tgt := 61) hx hb dX3_readLaw_57 (by decide) ?_
      exact w_X3_readLaw_J61 F hB x1 1 K R_7 P H locs ls h hP hD hS (lv_sub hl [0, 1] rfl)
set_option maxHeartbeats 4000000 in
set_option maxRecDepth 100000 in
theorem w_X3_readLaw_J32 {p : Program} {l : Launch} {e : Env} {s : State} {m : MethodId} {below : List Frame} {meth : Method} {c : Code} {G : va_G} {cA : Nat → ClassId} {A : Nat → Prop} {bA : Nat} {ka : Nat → Nat} {ra : Nat → Nat} {pa : Nat → Nat} {L : Lo} {r0 : Int32} {K' : Tr} {R' : Tr} {P' : Tr} (F : tF p s m ([.ref (ra 0)] : List Value).toArray meth c G cA A RX3 cX3_readLaw 2 (some .boolean)) (hB : tqB bA A s s.heap)    (x1 : Int32) (K : Tr) (R : Tr) (P : Tr) (H : Heap) (locs : List Loc) (ls : Array Slot) (h : fJ_X3_readLaw_J32 x1 K R P = some (r0, K', R', P')) (hP : va_P G vwCl (wRP cA ka ra pa K R P L) H) (hD : va_D A (wRP cA ka ra pa K R P L)) (hS : va_S A s.heap H locs) (hl : lv_has ls 2 [(0, .ref (ra 0)), (1, .int x1)]) : G_X3_readLaw p l e s m below meth c G cA A bA ka ra pa L r0 K' R' P' H locs (F0 m 32 ls [.int 0, .ref (ra 0)]) := by
  obtain ⟨hx, hb, hr, hml, hT, hown, hlocks, hK, hN, hA⟩ := id F
  unfold fJ_X3_readLaw_J32 at h
  refine lv_iconst (v := 0) hx hb dX3_readLaw_32 (by decide) ?_
  exact w_X3_readLaw_J33 F hB x1 0 K R P H locs ls h hP hD hS (lv_sub hl [0, 1] rfl)
set_option maxHeartbeats 4000000 in
set_option maxRecDepth 100000 in
theorem c_X3_readLaw (l : Launch) (G : va_G) (cA : Nat → ClassId) (sz : Nat) (bA : Nat) (ka : Nat → Nat) (ra : Nat → Nat) (pa : Nat → Nat) (K : Tr) (R : Tr) (P : Tr) (L : Lo)  (r0 : Int32) (K' : Tr) (R' : Tr) (P' : Tr) (h : f_X3_readLaw K R P = some (r0, K', R', P')) : Met l yX3_readLaw (.code yX3_readLaw cX3_readLaw 2 (some .boolean) :: T0) ({ frames := 4, cells := 0, slots := 0, locals := 90 } : Room) (tqPB bA G cA [.ref (ra 0)] (wRP cA ka ra pa K R P L) sz) (tqQi G cA (fun (r : Int32) (_ : Unit) => r = r0) (fun (_ : Unit) => wRP cA ka ra pa (K') (R') (P') L) (va_A (wRP cA ka ra pa K R P L) sz)) 0 0 (va_A (wRP cA ka ra pa K R P L) sz) := by
  refine Met.ofW (cc := cX3_readLaw) (maxL := 2) (ret := (some .boolean)) (by decide) rfl ?_
  intro p e s m args below meth c s₁ B hml hv
  obtain ⟨rfl, hsz, hP, hK, hD0, hN, hB⟩ := hv
  have hx := B.exec
  have hb := B.bytes
  have hr := B.returns
  have hts := atoms_spec (ws := .code yX3_readLaw cX3_readLaw 2 (some .boolean) :: T0) B.pre
  have hT : ∀ w ∈ T0, w.before _ s = true := fun w h => hts w (List.mem_cons_of_mem _ h)
  have hown : s.vm.findClass RX3 = some m.cls := findClass_of_methodNamed B.named
  have hlocks := B.notSynchronized
  subst hsz
  have hD := hD0.self (sz := s.heap.size)
  generalize hAe : va_A (wRP cA ka ra pa K R P L) s.heap.size = A at hD hB ⊢
  have hA : ∀ q : Nat, s.heap.size ≤ q → A q := fun q h => by rw [← hAe]; exact Or.inr h
  have hS : va_S A s.heap s.heap [] := va_S.rf
  have hl := lv_entry ([.ref (ra 0)]) (n := 2) (Nat.le_of_ble_eq_true rfl)
  rw [lg_entry_eq]
  generalize (lg_sl ([.ref (ra 0)]) ++ List.replicate (2 - (lg_sl ([.ref (ra 0)])).length) Slot.unset).toArray = ls at hl ⊢
  have hl : lv_has ls 2 [(0, .ref (ra 0))] := hl
  have F : tF p s m ([.ref (ra 0)] : List Value).toArray meth c G cA A RX3 cX3_readLaw 2 (some .boolean) := ⟨hx, hb, hr, hml, hT, hown, hlocks, hK, hN, hA⟩
  obtain ⟨H, hH⟩ : ∃ z, z = s.heap := ⟨_, rfl⟩
  rw [← hH] at hP
  have hS : va_S A s.heap H [] := by rw [hH]; exact hS
  suffices hgo : G_X3_readLaw p l e s m below meth c G cA A bA ka ra pa L r0 K' R' P' H [] (F0 m 0 ls []) by rw [hH] at hgo; exact hgo
  generalize ([] : List Loc) = locs at hS ⊢
  unfold f_X3_readLaw at h
  refine lv_aload_n hx hb dX3_readLaw_0 rfl (lv_at hl 0 rfl) ?_
  refine va_get (D := G) (ci := 3) (v := .ref (ka 0)) (C := RX3) (T := TX3) (N := 10) hx hb hT ku_3 hown hK hP 3 rfl rfl 0 (by decide) (hT _ kw_2_23) (fun _ h9 => h9) rfl dX3_readLaw_1 ?_
  obtain ⟨K_1, hc2, h⟩ := tx_bd h
  refine tw_cv tw_all hP hD hS hA (va_runV (As := []) (rest := []) ⟨hx, hb, hml, hown, hT⟩ (c_X5_advance l G cA H.size bA ka ra pa K R P L  K_1 hc2) (cwV 0 hT (tq_gV kw_16_23 kw_15_0 kw_15_1 kw_2_22 kw_15_2) rfl rfl rfl (by decide +kernel) ⟨Nat.le_of_ble_eq_true rfl, Nat.le_of_ble_eq_true rfl⟩) ⟨(tw_preB tw_all hP hD hK hN hS hA hB).1, va_recv hK hP (ci := 5) (q0 := 0) rfl rfl, (tw_preB tw_all hP hD hK hN hS hA hB).2⟩ rfl rfl hl.1 rfl (lv_room (Nat.le_of_ble_eq_true rfl)) dX3_readLaw_4 ⟨Nat.le_of_ble_eq_true rfl, Nat.le_of_ble_eq_true rfl⟩) (fun _ H locs z3 hP hD hS => ?_)
  rw [List.append_nil] at hP hD
  have hP : va_P G vwCl (wRP cA ka ra pa K_1 R P L) H := hP
  have hD : va_D A (wRP cA ka ra pa K_1 R P L) := hD
  refine lv_aload_n hx hb dX3_readLaw_7 rfl (lv_at hl 0 rfl) ?_
  refine va_get (D := G) (ci := 3) (v := .ref (ka 0)) (C := RX3) (T := TX3) (N := 10) hx hb hT ku_3 hown hK hP 3 rfl rfl 0 (by decide) (hT _ kw_2_23) (fun _ h9 => h9) rfl dX3_readLaw_8 ?_
  refine va_get (D := G) (ci := 5) (v := .int (K_1 0 1)) (C := RX5) (T := TX5) (N := 8) hx hb hT ku_5 hown hK hP 0 rfl rfl 1 (by decide) (hT _ kw_14_15) (fun _ h9 => h9) rfl dX3_readLaw_11 ?_
  refine lv_bipush (v := 16) hx hb dX3_readLaw_14 (by decide) ?_
  refine lv_isub hx hb dX3_readLaw_16 ?_
  refine lv_topi (fun y4 ey4 => ?_)
  have h := tx_let ey4 h
  refine lv_istore_n (lv' := [(1, .int y4), (0, .ref (ra 0))]) hx hb dX3_readLaw_17 rfl hl (by decide) rfl (fun ls hl => ?_)
  refine lv_aload_n hx hb dX3_readLaw_18 rfl (lv_at hl 1 rfl) ?_
  refine lv_iload_n hx hb dX3_readLaw_19 rfl (lv_at hl 0 rfl) ?_
  refine lv_if_lt (tgt := 32) hx hb dX3_readLaw_20 (by decide) (fun c5 => ?_) (fun c5 => ?_)
  · have h := tx_pos c5 h
    exact w_X3_readLaw_J32 F hB y4 K_1 R P H locs ls h hP hD hS (lv_sub hl [1, 0] rfl)
  · have h := tx_neg c5 h
    refine lv_iload_n hx hb dX3_readLaw_23 rfl (lv_at hl 0 rfl) ?_
    refine lv_iconst (v := 2) hx hb dX3_readLaw_24 (by decide) ?_
    refine lv_icmp_gt (tgt := 32) hx hb dX3_readLaw_25 (by decide) (fun c29 => ?_) (fun c29 => ?_)
    · have h := tx_pos c29 h
      exact w_X3_readLaw_J32 F hB y4 K_1 R P H locs ls h hP hD hS (lv_sub hl [1, 0] rfl)
    · have h := tx_neg c29 h
      refine lv_iconst (v := 1) hx hb dX3_readLaw_28 (by decide) ?_
      refine lv_goto (tgt := 33) hx hb dX3_readLaw_29 (by decide) ?_
      exact w_X3_readLaw_J33 F hB y4 1 K_1 R P H locs ls h hP hD hS (lv_sub hl [1, 0] rfl)
abbrev G_X3_startOnce (p : Program) (l : Launch) (e : Env) (s : State) (m : MethodId) (below : List Frame) (meth : Method) (c : Code) (G : va_G) (cA : Nat → ClassId) (A : Nat → Prop) (bA : Nat) (ka : Nat → Nat) (ra : Nat → Nat) (pa : Nat → Nat) (P : Tr) (L : Lo) (r0 : Int32) (K' : Tr) (R' : Tr) (H : Heap) (locs : List Loc) (g : JFrame) : Prop := W p l e (headSpec (.code yX3_startOnce cX3_startOnce 2 (some .boolean) :: T0) ({ frames := 3, cells := 0, slots := 0, locals := 65 } : Room)).room s m ([.ref (ra 0)] : List Value).toArray below meth c H locs 0 0 (MQ below (tqQi G cA (fun (r : Int32) (_ : Unit) => r = r0) (fun (_ : Unit) => wRP cA ka ra pa (K') (R') P L) A) ([.ref (ra 0)] : List Value).toArray s 0 0 A) g
set_option maxHeartbeats 4000000 in
set_option maxRecDepth 100000 in
theorem w_X3_startOnce_J27 {p : Program} {l : Launch} {e : Env} {s : State} {m : MethodId} {below : List Frame} {meth : Method} {c : Code} {G : va_G} {cA : Nat → ClassId} {A : Nat → Prop} {bA : Nat} {ka : Nat → Nat} {ra : Nat → Nat} {pa : Nat → Nat} {P : Tr} {L : Lo} {r0 : Int32} {K' : Tr} {R' : Tr} (F : tF p s m ([.ref (ra 0)] : List Value).toArray meth c G cA A RX3 cX3_startOnce 2 (some .boolean)) (hB : tqB bA A s s.heap)    (x1 : Int32) (s0 : Int32) (K : Tr) (R : Tr) (H : Heap) (locs : List Loc) (ls : Array Slot) (h : fJ_X3_startOnce_J27 x1 s0 K R = some (r0, K', R')) (hP : va_P G vwCl (wRP cA ka ra pa K R_4 P L) H) (hD : va_D A (wRP cA ka ra pa K R_4 P L)) (hS : va_S A s.heap H locs) (hl : lv_has ls 2 [(0, .ref (ra 0)), (1, .int x1)]) : G_X3_startOnce p l e s m below meth c G cA A bA ka ra pa P L r0 K' R' H locs (F0 m 27 ls []) := by
  obtain ⟨hx, hb, hr, hml, hT, hown, hlocks, hK, hN, hA⟩ := id F
  unfold fJ_X3_startOnce_J27 at h
  refine lv_iconst (v := 3) hx hb dX3_startOnce_27 (by decide) ?_
  obtain ⟨⟨r3, R_4⟩, hc5, h⟩ := tx_bd h
  replace h := tx_let (y := r3) rfl h
  replace h := tx_let (y := R_4) rfl h
  refine tw_ci tw_all hP hD hS hA (va_runV (As := [.int s0, .int 3]) (rest := []) ⟨hx, hb, hml, hown, hT⟩ (c_X3_expect l G cA H.size bA ka ra pa K R P L s0 (3 : Int32)  r3 R_4 hc5) (cwV 2 hT (tq_gV kw_16_18 kw_16_19 kw_16_20 kw_1_15 kw_16_21) rfl rfl rfl (by decide +kernel) ⟨Nat.le_of_ble_eq_true rfl, Nat.le_of_ble_eq_true rfl⟩) ⟨(tw_preB tw_all hP hD hK hN hS hA hB).1, va_recv hK hP (ci := 3) (q0 := 3) rfl rfl, (tw_preB tw_all hP hD hK hN hS hA hB).2⟩ rfl rfl hl.1 rfl (lv_room (Nat.le_of_ble_eq_true rfl)) dX3_startOnce_28 ⟨Nat.le_of_ble_eq_true rfl, Nat.le_of_ble_eq_true rfl⟩) (fun _ _ H locs z6 hP hD hS => ?_)
  subst z6
  rw [List.append_nil] at hP hD
  have hP : va_P G vwCl (wRP cA ka ra pa K R_4 P L) H := hP
  have hD : va_D A (wRP cA ka ra pa K R_4 P L) := hD
  refine lv_if_ne (tgt := 36) hx hb dX3_startOnce_31 (by decide) (fun c7 => ?_) (fun c7 => ?_)
  · have h := tx_neg c7 h
    refine lv_aload_n hx hb dX3_startOnce_36 rfl (lv_at hl 0 rfl) ?_
    refine lv_dup hx hb dX3_startOnce_37 rfl ?_
    refine va_get (D := G) (ci := 3) (v := .int (R_4 0 5)) (C := RX3) (T := TX3) (N := 10) hx hb hT ku_3 hown hK hP 3 rfl rfl 5 (by decide) (hT _ kw_14_13) (fun _ h9 => h9) rfl dX3_startOnce_38 ?_
    refine lv_iload_n hx hb dX3_startOnce_41 rfl (lv_at hl 1 rfl) ?_
    refine lv_ior hx hb dX3_startOnce_42 ?_
    refine va_put (D := G) (ci := 3) (v := .int ((R_4 0 5) ||| x1)) (ty := .int) (C := RX3) (T := TX3) (N := 10) hx hb hT ku_3 tyX3 tyX3_ok nmX3 hown hK hP hD hS 3 rfl rfl 5 (by decide) (hT _ kw_14_13) (fun _ h9 => h9) rfl (by decide +kernel) rfl rfl (Nat.le_of_ble_eq_true rfl) dX3_startOnce_43 (fun H locs hP hD hS => ?_)
    obtain ⟨R_8, eR_8, h⟩ := tx_lt h
    rw [sRP_ra_f5, eR_8] at hP hD
    refine lv_aload_n hx hb dX3_startOnce_46 rfl (lv_at hl 0 rfl) ?_
    refine va_get (D := G) (ci := 3) (v := .ref (ka 0)) (C := RX3) (T := TX3) (N := 10) hx hb hT ku_3 hown hK hP 3 rfl rfl 0 (by decide) (hT _ kw_2_23) (fun _ h9 => h9) rfl dX3_startOnce_47 ?_
    obtain ⟨K_9, hc10, h⟩ := tx_bd h
    refine tw_cv tw_all hP hD hS hA (va_runV (As := []) (rest := []) ⟨hx, hb, hml, hown, hT⟩ (c_X5_advance l G cA H.size bA ka ra pa K R_8 P L  K_9 hc10) (cwV 0 hT (tq_gV kw_16_23 kw_15_0 kw_15_1 kw_2_22 kw_15_2) rfl rfl rfl (by decide +kernel) ⟨Nat.le_of_ble_eq_true rfl, Nat.le_of_ble_eq_true rfl⟩) ⟨(tw_preB tw_all hP hD hK hN hS hA hB).1, va_recv hK hP (ci := 5) (q0 := 0) rfl rfl, (tw_preB tw_all hP hD hK hN hS hA hB).2⟩ rfl rfl hl.1 rfl (lv_room (Nat.le_of_ble_eq_true rfl)) dX3_startOnce_50 ⟨Nat.le_of_ble_eq_true rfl, Nat.le_of_ble_eq_true rfl⟩) (fun _ H locs z11 hP hD hS => ?_)
    rw [List.append_nil] at hP hD
    have hP : va_P G vwCl (wRP cA ka ra pa K_9 R_8 P L) H := hP
    have hD : va_D A (wRP cA ka ra pa K_9 R_8 P L) := hD
    refine lv_iconst (v := 1) hx hb dX3_startOnce_53 (by decide) ?_
    obtain ⟨rfl, rfl, rfl⟩ := tx_3 h
    exact W.zret (ty := .boolean) hx hb hr rfl (fun t ht hW => ⟨⟨_, (), rfl, rfl, by rw [ht]; exact hP, hD⟩, hS.F ht⟩) hS.2.2 dX3_startOnce_54
  · have h := tx_pos c7 h
    refine lv_iconst (v := 0) hx hb dX3_startOnce_34 (by decide) ?_
    obtain ⟨rfl, rfl, rfl⟩ := tx_3 h
    exact W.zret (ty := .boolean) hx hb hr rfl (fun t ht hW => ⟨⟨_, (), rfl, rfl, by rw [ht]; exact hP, hD⟩, hS.F ht⟩) hS.2.2 dX3_startOnce_35
set_option maxHeartbeats 4000000 in
set_option maxRecDepth 100000 in
theorem c_X3_startOnce (l : Launch) (G : va_G) (cA : Nat → ClassId) (sz : Nat) (bA : Nat) (ka : Nat → Nat) (ra : Nat → Nat) (pa : Nat → Nat) (K : Tr) (R : Tr) (P : Tr) (L : Lo)  (r0 : Int32) (K' : Tr) (R' : Tr) (h : f_X3_startOnce K R = some (r0, K', R')) : Met l yX3_startOnce (.code yX3_startOnce cX3_startOnce 2 (some .boolean) :: T0) ({ frames := 3, cells := 0, slots := 0, locals := 65 } : Room) (tqPB bA G cA [.ref (ra 0)] (wRP cA ka ra pa K R P L) sz) (tqQi G cA (fun (r : Int32) (_ : Unit) => r = r0) (fun (_ : Unit) => wRP cA ka ra pa (K') (R') P L) (va_A (wRP cA ka ra pa K R P L) sz)) 0 0 (va_A (wRP cA ka ra pa K R P L) sz) := by
  refine Met.ofW (cc := cX3_startOnce) (maxL := 2) (ret := (some .boolean)) (by decide) rfl ?_
  intro p e s m args below meth c s₁ B hml hv
  obtain ⟨rfl, hsz, hP, hK, hD0, hN, hB⟩ := hv
  have hx := B.exec
  have hb := B.bytes
  have hr := B.returns
  have hts := atoms_spec (ws := .code yX3_startOnce cX3_startOnce 2 (some .boolean) :: T0) B.pre
  have hT : ∀ w ∈ T0, w.before _ s = true := fun w h => hts w (List.mem_cons_of_mem _ h)
  have hown : s.vm.findClass RX3 = some m.cls := findClass_of_methodNamed B.named
  have hlocks := B.notSynchronized
  subst hsz
  have hD := hD0.self (sz := s.heap.size)
  generalize hAe : va_A (wRP cA ka ra pa K R P L) s.heap.size = A at hD hB ⊢
  have hA : ∀ q : Nat, s.heap.size ≤ q → A q := fun q h => by rw [← hAe]; exact Or.inr h
  have hS : va_S A s.heap s.heap [] := va_S.rf
  have hl := lv_entry ([.ref (ra 0)]) (n := 2) (Nat.le_of_ble_eq_true rfl)
  rw [lg_entry_eq]
  generalize (lg_sl ([.ref (ra 0)]) ++ List.replicate (2 - (lg_sl ([.ref (ra 0)])).length) Slot.unset).toArray = ls at hl ⊢
  have hl : lv_has ls 2 [(0, .ref (ra 0))] := hl
  have F : tF p s m ([.ref (ra 0)] : List Value).toArray meth c G cA A RX3 cX3_startOnce 2 (some .boolean) := ⟨hx, hb, hr, hml, hT, hown, hlocks, hK, hN, hA⟩
  obtain ⟨H, hH⟩ : ∃ z, z = s.heap := ⟨_, rfl⟩
  rw [← hH] at hP
  have hS : va_S A s.heap H [] := by rw [hH]; exact hS
  suffices hgo : G_X3_startOnce p l e s m below meth c G cA A bA ka ra pa P L r0 K' R' H [] (F0 m 0 ls []) by rw [hH] at hgo; exact hgo
  generalize ([] : List Loc) = locs at hS ⊢
  unfold f_X3_startOnce at h
  refine lv_iconst (v := 1) hx hb dX3_startOnce_0 (by decide) ?_
  refine lv_aload_n hx hb dX3_startOnce_1 rfl (lv_at hl 0 rfl) ?_
  refine va_get (D := G) (ci := 3) (v := .ref (ka 0)) (C := RX3) (T := TX3) (N := 10) hx hb hT ku_3 hown hK hP 3 rfl rfl 0 (by decide) (hT _ kw_2_23) (fun _ h9 => h9) rfl dX3_startOnce_2 ?_
  refine va_get (D := G) (ci := 5) (v := .int (K 0 1)) (C := RX5) (T := TX5) (N := 8) hx hb hT ku_5 hown hK hP 0 rfl rfl 1 (by decide) (hT _ kw_14_15) (fun _ h9 => h9) rfl dX3_startOnce_5 ?_
  refine lv_iconst (v := 4) hx hb dX3_startOnce_8 (by decide) ?_
  refine lv_isub hx hb dX3_startOnce_9 ?_
  refine lv_ishl hx hb dX3_startOnce_10 ?_
  refine lv_topi (fun y1 ey1 => ?_)
  have h := tx_let ey1 h
  refine lv_istore_n (lv' := [(1, .int y1), (0, .ref (ra 0))]) hx hb dX3_startOnce_11 rfl hl (by decide) rfl (fun ls hl => ?_)
  refine lv_aload_n hx hb dX3_startOnce_12 rfl (lv_at hl 1 rfl) ?_
  refine lv_aload_n hx hb dX3_startOnce_13 rfl (lv_at hl 1 rfl) ?_
  refine va_get (D := G) (ci := 3) (v := .int (R 0 5)) (C := RX3) (T := TX3) (N := 10) hx hb hT ku_3 hown hK hP 3 rfl rfl 5 (by decide) (hT _ kw_14_13) (fun _ h9 => h9) rfl dX3_startOnce_14 ?_
  refine lv_iload_n hx hb dX3_startOnce_17 rfl (lv_at hl 0 rfl) ?_
  refine lv_iand hx hb dX3_startOnce_18 ?_
  refine lv_if_ne (tgt := 26) hx hb dX3_startOnce_19 (by decide) (fun c2 => ?_) (fun c2 => ?_)
  · have h := tx_neg c2 h
    refine lv_iconst (v := 0) hx hb dX3_startOnce_26 (by decide) ?_
    exact w_X3_startOnce_J27 F hB y1 0 K R H locs ls h hP hD hS (lv_sub hl [1, 0] rfl)
  · have h := tx_pos c2 h
    refine lv_iconst (v := 1) hx hb dX3_startOnce_22 (by decide) ?_
    refine lv_goto (tgt := 27) hx hb dX3_startOnce_23 (by decide) ?_
    exact w_X3_startOnce_J27 F hB y1 1 K R H locs ls h hP hD hS (lv_sub hl [1, 0] rfl)
abbrev G_X3_takeNumber (p : Program) (l : Launch) (e : Env) (s : State) (m : MethodId) (below : List Frame) (meth : Method) (c : Code) (G : va_G) (cA : Nat → ClassId) (A : Nat → Prop) (bA : Nat) (ka : Nat → Nat) (ra : Nat → Nat) (pa : Nat → Nat) (P : Tr) (L : Lo) (x1 : Int32) (x2 : Int32) (r0 : Int32) (K' : Tr) (R' : Tr) (H : Heap) (locs : List Loc) (g : JFrame) : Prop := W p l e (headSpec (.code yX3_takeNumber cX3_takeNumber 4 (some .int) :: T0) ({ frames := 3, cells := 0, slots := 0, locals := 65 } : Room)).room s m ([.ref (ra 0), .int x1, .int x2] : List Value).toArray below meth c H locs 0 0 (MQ below (tqQi G cA (fun (r : Int32) (_ : Unit) => r = r0) (fun (_ : Unit) => wRP cA ka ra pa (K') (R') P L) A) ([.ref (ra 0), .int x1, .int x2] : List Value).toArray s 0 0 A) g
set_option maxHeartbeats 4000000 in
set_option maxRecDepth 100000 in
theorem w_X3_takeNumber_J49 {p : Program} {l : Launch} {e : Env} {s : State} {m : MethodId} {below : List Frame} {meth : Method} {c : Code} {G : va_G} {cA : Nat → ClassId} {A : Nat → Prop} {bA : Nat} {ka : Nat → Nat} {ra : Nat → Nat} {pa : Nat → Nat} {P : Tr} {L : Lo} {x1₀ : Int32} {x2₀ : Int32} {r0 : Int32} {K' : Tr} {R' : Tr} (F : tF p s m ([.ref (ra 0), .int x1₀, .int x2₀] : List Value).toArray meth c G cA A RX3 cX3_takeNumber 4 (some .int)) (hB : tqB bA A s s.heap)    (x3 : Int32) (s0 : Int32) (K : Tr) (R : Tr) (H : Heap) (locs : List Loc) (ls : Array Slot) (h : fJ_X3_takeNumber_J49 x3 s0 K R = some (r0, K', R')) (hP : va_P G vwCl (wRP cA ka ra pa K R_10 P L) H) (hD : va_D A (wRP cA ka ra pa K R_10 P L)) (hS : va_S A s.heap H locs) (hl : lv_has ls 4 [(0, .ref (ra 0)), (3, .int x3)]) : G_X3_takeNumber p l e s m below meth c G cA A bA ka ra pa P L x1₀ x2₀ r0 K' R' H locs (F0 m 49 ls []) := by
  obtain ⟨hx, hb, hr, hml, hT, hown, hlocks, hK, hN, hA⟩ := id F
  unfold fJ_X3_takeNumber_J49 at h
  refine lv_iconst (v := 2) hx hb dX3_takeNumber_49 (by decide) ?_
  obtain ⟨⟨r9, R_10⟩, hc11, h⟩ := tx_bd h
  replace h := tx_let (y := r9) rfl h
  replace h := tx_let (y := R_10) rfl h
  refine tw_ci tw_all hP hD hS hA (va_runV (As := [.int s0, .int 2]) (rest := []) ⟨hx, hb, hml, hown, hT⟩ (c_X3_expect l G cA H.size bA ka ra pa K R P L s0 (2 : Int32)  r9 R_10 hc11) (cwV 2 hT (tq_gV kw_16_18 kw_16_19 kw_16_20 kw_1_15 kw_16_21) rfl rfl rfl (by decide +kernel) ⟨Nat.le_of_ble_eq_true rfl, Nat.le_of_ble_eq_true rfl⟩) ⟨(tw_preB tw_all hP hD hK hN hS hA hB).1, va_recv hK hP (ci := 3) (q0 := 3) rfl rfl, (tw_preB tw_all hP hD hK hN hS hA hB).2⟩ rfl rfl hl.1 rfl (lv_room (Nat.le_of_ble_eq_true rfl)) dX3_takeNumber_50 ⟨Nat.le_of_ble_eq_true rfl, Nat.le_of_ble_eq_true rfl⟩) (fun _ _ H locs z12 hP hD hS => ?_)
  subst z12
  rw [List.append_nil] at hP hD
  have hP : va_P G vwCl (wRP cA ka ra pa K R_10 P L) H := hP
  have hD : va_D A (wRP cA ka ra pa K R_10 P L) := hD
  refine lv_if_ne (tgt := 58) hx hb dX3_takeNumber_53 (by decide) (fun c13 => ?_) (fun c13 => ?_)
  · have h := tx_neg c13 h
    refine lv_aload_n hx hb dX3_takeNumber_58 rfl (lv_at hl 0 rfl) ?_
    refine va_get (D := G) (ci := 3) (v := .ref (ka 0)) (C := RX3) (T := TX3) (N := 10) hx hb hT ku_3 hown hK hP 3 rfl rfl 0 (by decide) (hT _ kw_2_23) (fun _ h9 => h9) rfl dX3_takeNumber_59 ?_
    obtain ⟨K_14, hc15, h⟩ := tx_bd h
    refine tw_cv tw_all hP hD hS hA (va_runV (As := []) (rest := []) ⟨hx, hb, hml, hown, hT⟩ (c_X5_advance l G cA H.size bA ka ra pa K R_10 P L  K_14 hc15) (cwV 0 hT (tq_gV kw_16_23 kw_15_0 kw_15_1 kw_2_22 kw_15_2) rfl rfl rfl (by decide +kernel) ⟨Nat.le_of_ble_eq_true rfl, Nat.le_of_ble_eq_true rfl⟩) ⟨(tw_preB tw_all hP hD hK hN hS hA hB).1, va_recv hK hP (ci := 5) (q0 := 0) rfl rfl, (tw_preB tw_all hP hD hK hN hS hA hB).2⟩ rfl rfl hl.1 rfl (lv_room (Nat.le_of_ble_eq_true rfl)) dX3_takeNumber_62 ⟨Nat.le_of_ble_eq_true rfl, Nat.le_of_ble_eq_true rfl⟩) (fun _ H locs z16 hP hD hS => ?_)
    rw [List.append_nil] at hP hD
    have hP : va_P G vwCl (wRP cA ka ra pa K_14 R_10 P L) H := hP
    have hD : va_D A (wRP cA ka ra pa K_14 R_10 P L) := hD
    refine lv_iload_n hx hb dX3_takeNumber_65 rfl (lv_at hl 1 rfl) ?_
    obtain ⟨rfl, rfl, rfl⟩ := tx_3 h
    exact W.iret hx hb hr (fun t ht hW => ⟨⟨_, (), rfl, rfl, by rw [ht]; exact hP, hD⟩, hS.F ht⟩) hS.2.2 dX3_takeNumber_66
  · have h := tx_pos c13 h
    refine lv_iconst (v := (-1)) hx hb dX3_takeNumber_56 (by decide) ?_
    obtain ⟨rfl, rfl, rfl⟩ := tx_3 h
    exact W.iret hx hb hr (fun t ht hW => ⟨⟨_, (), rfl, rfl, by rw [ht]; exact hP, hD⟩, hS.F ht⟩) hS.2.2 dX3_takeNumber_57
set_option maxHeartbeats 4000000 in
set_option maxRecDepth 100000 in
theorem w_X3_takeNumber_J48 {p : Program} {l : Launch} {e : Env} {s : State} {m : MethodId} {below : List Frame} {meth : Method} {c : Code} {G : va_G} {cA : Nat → ClassId} {A : Nat → Prop} {bA : Nat} {ka : Nat → Nat} {ra : Nat → Nat} {pa : Nat → Nat} {P : Tr} {L : Lo} {x1₀ : Int32} {x2₀ : Int32} {r0 : Int32} {K' : Tr} {R' : Tr} (F : tF p s m ([.ref (ra 0), .int x1₀, .int x2₀] : List Value).toArray meth c G cA A RX3 cX3_takeNumber 4 (some .int)) (hB : tqB bA A s s.heap)    (x3 : Int32) (K : Tr) (R : Tr) (H : Heap) (locs : List Loc) (ls : Array Slot) (h : fJ_X3_takeNumber_J48 x3 K R = some (r0, K', R')) (hP : va_P G vwCl (wRP cA ka ra pa K R P L) H) (hD : va_D A (wRP cA ka ra pa K R P L)) (hS : va_S A s.heap H locs) (hl : lv_has ls 4 [(0, .ref (ra 0)), (3, .int x3)]) : G_X3_takeNumber p l e s m below meth c G cA A bA ka ra pa P L x1₀ x2₀ r0 K' R' H locs (F0 m 48 ls [.int 0, .ref (ra 0)]) := by
  obtain ⟨hx, hb, hr, hml, hT, hown, hlocks, hK, hN, hA⟩ := id F
  unfold fJ_X3_takeNumber_J48 at h
  refine lv_iconst (v := 0) hx hb dX3_takeNumber_48 (by decide) ?_
  exact w_X3_takeNumber_J49 F hB x3 0 K R H locs ls h hP hD hS (lv_sub hl [0, 1] rfl)
set_option maxHeartbeats 4000000 in
set_option maxRecDepth 100000 in
theorem w_X3_takeNumber_J26 {p : Program} {l : Launch} {e : Env} {s : State} {m : MethodId} {below : List Frame} {meth : Method} {c : Code} {G : va_G} {cA : Nat → ClassId} {A : Nat → Prop} {bA : Nat} {ka : Nat → Nat} {ra : Nat → Nat} {pa : Nat → Nat} {P : Tr} {L : Lo} {x1₀ : Int32} {x2₀ : Int32} {r0 : Int32} {K' : Tr} {R' : Tr} (F : tF p s m ([.ref (ra 0), .int x1₀, .int x2₀] : List Value).toArray meth c G cA A RX3 cX3_takeNumber 4 (some .int)) (hB : tqB bA A s s.heap)    (x1 : Int32) (x2 : Int32) (x3 : Int32) (s0 : Int32) (K : Tr) (R : Tr) (H : Heap) (locs : List Loc) (ls : Array Slot) (h : fJ_X3_takeNumber_J26 x1 x2 x3 s0 K R = some (r0, K', R')) (hP : va_P G vwCl (wRP cA ka ra pa K R_4 P L) H) (hD : va_D A (wRP cA ka ra pa K R_4 P L)) (hS : va_S A s.heap H locs) (hl : lv_has ls 4 [(0, .ref (ra 0)), (1, .int x1), (2, .int x2), (3, .int x3)]) : G_X3_takeNumber p l e s m below meth c G cA A bA ka ra pa P L x1₀ x2₀ r0 K' R' H locs (F0 m 26 ls []) := by
  obtain ⟨hx, hb, hr, hml, hT, hown, hlocks, hK, hN, hA⟩ := id F
  unfold fJ_X3_takeNumber_J26 at h
  refine lv_iconst (v := 1) hx hb dX3_takeNumber_26 (by decide) ?_
  obtain ⟨⟨r3, R_4⟩, hc5, h⟩ := tx_bd h
  replace h := tx_let (y := r3) rfl h
  replace h := tx_let (y := R_4) rfl h
  refine tw_ci tw_all hP hD hS hA (va_runV (As := [.int s0, .int 1]) (rest := []) ⟨hx, hb, hml, hown, hT⟩ (c_X3_expect l G cA H.size bA ka ra pa K R P L s0 (1 : Int32)  r3 R_4 hc5) (cwV 2 hT (tq_gV kw_16_18 kw_16_19 kw_16_20 kw_1_15 kw_16_21) rfl rfl rfl (by decide +kernel) ⟨Nat.le_of_ble_eq_true rfl, Nat.le_of_ble_eq_true rfl⟩) ⟨(tw_preB tw_all hP hD hK hN hS hA hB).1, va_recv hK hP (ci := 3) (q0 := 3) rfl rfl, (tw_preB tw_all hP hD hK hN hS hA hB).2⟩ rfl rfl hl.1 rfl (lv_room (Nat.le_of_ble_eq_true rfl)) dX3_takeNumber_27 ⟨Nat.le_of_ble_eq_true rfl, Nat.le_of_ble_eq_true rfl⟩) (fun _ _ H locs z6 hP hD hS => ?_)
  subst z6
  rw [List.append_nil] at hP hD
  have hP : va_P G vwCl (wRP cA ka ra pa K R_4 P L) H := hP
  have hD : va_D A (wRP cA ka ra pa K R_4 P L) := hD
  refine lv_if_eq (tgt := 56) hx hb dX3_takeNumber_30 (by decide) (fun c7 => ?_) (fun c7 => ?_)
  · have h := tx_pos c7 h
    refine lv_iconst (v := (-1)) hx hb dX3_takeNumber_56 (by decide) ?_
    obtain ⟨rfl, rfl, rfl⟩ := tx_3 h
    exact W.iret hx hb hr (fun t ht hW => ⟨⟨_, (), rfl, rfl, by rw [ht]; exact hP, hD⟩, hS.F ht⟩) hS.2.2 dX3_takeNumber_57
  · have h := tx_neg c7 h
    refine lv_aload_n hx hb dX3_takeNumber_33 rfl (lv_at hl 0 rfl) ?_
    refine lv_iload_n hx hb dX3_takeNumber_34 rfl (lv_at hl 3 rfl) ?_
    refine lv_iload_n hx hb dX3_takeNumber_35 rfl (lv_at hl 1 rfl) ?_
    refine lv_icmp_lt (tgt := 48) hx hb dX3_takeNumber_36 (by decide) (fun c8 => ?_) (fun c8 => ?_)
    · have h := tx_pos c8 h
      exact w_X3_takeNumber_J48 F hB x3 K R_4 H locs ls h hP hD hS (lv_sub hl [0, 3] rfl)
    · have h := tx_neg c8 h
      refine lv_iload_n hx hb dX3_takeNumber_39 rfl (lv_at hl 3 rfl) ?_
      refine lv_iload_n hx hb dX3_takeNumber_40 rfl (lv_at hl 2 rfl) ?_
      refine lv_icmp_gt (tgt := 48) hx hb dX3_takeNumber_41 (by decide) (fun c17 => ?_) (fun c17 => ?_)
      · have h := tx_pos c17 h
        exact w_X3_takeNumber_J48 F hB x3 K R_4 H locs ls h hP hD hS (lv_sub hl [0, 3] rfl)
      · have h := tx_neg c17 h
        refine lv_iconst (v := 1) hx hb dX3_takeNumber_44 (by decide) ?_
        refine lv_goto (tgt := 49) hx hb dX3_takeNumber_45 (by decide) ?_
        exact w_X3_takeNumber_J49 F hB x3 1 K R_4 H locs ls h hP hD hS (lv_sub hl [0, 3] rfl)
set_option maxHeartbeats 4000000 in
set_option maxRecDepth 100000 in
theorem c_X3_takeNumber (l : Launch) (G : va_G) (cA : Nat → ClassId) (sz : Nat) (bA : Nat) (ka : Nat → Nat) (ra : Nat → Nat) (pa : Nat → Nat) (K : Tr) (R : Tr) (P : Tr) (L : Lo) (x1 : Int32) (x2 : Int32)  (r0 : Int32) (K' : Tr) (R' : Tr) (h : f_X3_takeNumber K R x1 x2 = some (r0, K', R')) : Met l yX3_takeNumber (.code yX3_takeNumber cX3_takeNumber 4 (some .int) :: T0) ({ frames := 3, cells := 0, slots := 0, locals := 65 } : Room) (tqPB bA G cA [.ref (ra 0), .int x1, .int x2] (wRP cA ka ra pa K R P L) sz) (tqQi G cA (fun (r : Int32) (_ : Unit) => r = r0) (fun (_ : Unit) => wRP cA ka ra pa (K') (R') P L) (va_A (wRP cA ka ra pa K R P L) sz)) 0 0 (va_A (wRP cA ka ra pa K R P L) sz) := by
  refine Met.ofW (cc := cX3_takeNumber) (maxL := 4) (ret := (some .int)) (by decide) rfl ?_
  intro p e s m args below meth c s₁ B hml hv
  obtain ⟨rfl, hsz, hP, hK, hD0, hN, hB⟩ := hv
  have hx := B.exec
  have hb := B.bytes
  have hr := B.returns
  have hts := atoms_spec (ws := .code yX3_takeNumber cX3_takeNumber 4 (some .int) :: T0) B.pre
  have hT : ∀ w ∈ T0, w.before _ s = true := fun w h => hts w (List.mem_cons_of_mem _ h)
  have hown : s.vm.findClass RX3 = some m.cls := findClass_of_methodNamed B.named
  have hlocks := B.notSynchronized
  subst hsz
  have hD := hD0.self (sz := s.heap.size)
  generalize hAe : va_A (wRP cA ka ra pa K R P L) s.heap.size = A at hD hB ⊢
  have hA : ∀ q : Nat, s.heap.size ≤ q → A q := fun q h => by rw [← hAe]; exact Or.inr h
  have hS : va_S A s.heap s.heap [] := va_S.rf
  have hl := lv_entry ([.ref (ra 0), .int x1, .int x2]) (n := 4) (Nat.le_of_ble_eq_true rfl)
  rw [lg_entry_eq]
  generalize (lg_sl ([.ref (ra 0), .int x1, .int x2]) ++ List.replicate (4 - (lg_sl ([.ref (ra 0), .int x1, .int x2])).length) Slot.unset).toArray = ls at hl ⊢
  have hl : lv_has ls 4 [(0, .ref (ra 0)), (1, .int x1), (2, .int x2)] := hl
  have F : tF p s m ([.ref (ra 0), .int x1, .int x2] : List Value).toArray meth c G cA A RX3 cX3_takeNumber 4 (some .int) := ⟨hx, hb, hr, hml, hT, hown, hlocks, hK, hN, hA⟩
  obtain ⟨H, hH⟩ : ∃ z, z = s.heap := ⟨_, rfl⟩
  rw [← hH] at hP
  have hS : va_S A s.heap H [] := by rw [hH]; exact hS
  suffices hgo : G_X3_takeNumber p l e s m below meth c G cA A bA ka ra pa P L x1 x2 r0 K' R' H [] (F0 m 0 ls []) by rw [hH] at hgo; exact hgo
  generalize ([] : List Loc) = locs at hS ⊢
  unfold f_X3_takeNumber at h
  refine lv_aload_n hx hb dX3_takeNumber_0 rfl (lv_at hl 0 rfl) ?_
  refine va_get (D := G) (ci := 3) (v := .ref (ka 0)) (C := RX3) (T := TX3) (N := 10) hx hb hT ku_3 hown hK hP 3 rfl rfl 0 (by decide) (hT _ kw_2_23) (fun _ h9 => h9) rfl dX3_takeNumber_1 ?_
  refine va_get (D := G) (ci := 5) (v := .int (K 0 3)) (C := RX5) (T := TX5) (N := 8) hx hb hT ku_5 hown hK hP 0 rfl rfl 3 (by decide) (hT _ kw_17_8) (fun _ h9 => h9) rfl dX3_takeNumber_4 ?_
  refine lv_topi (fun y1 ey1 => ?_)
  have h := tx_let ey1 h
  refine lv_istore_n (lv' := [(3, .int y1), (0, .ref (ra 0)), (1, .int x1), (2, .int x2)]) hx hb dX3_takeNumber_7 rfl hl (by decide) rfl (fun ls hl => ?_)
  refine lv_aload_n hx hb dX3_takeNumber_8 rfl (lv_at hl 1 rfl) ?_
  refine lv_aload_n hx hb dX3_takeNumber_9 rfl (lv_at hl 1 rfl) ?_
  refine va_get (D := G) (ci := 3) (v := .ref (ka 0)) (C := RX3) (T := TX3) (N := 10) hx hb hT ku_3 hown hK hP 3 rfl rfl 0 (by decide) (hT _ kw_2_23) (fun _ h9 => h9) rfl dX3_takeNumber_10 ?_
  refine va_get (D := G) (ci := 5) (v := .int (K 0 1)) (C := RX5) (T := TX5) (N := 8) hx hb hT ku_5 hown hK hP 0 rfl rfl 1 (by decide) (hT _ kw_14_15) (fun _ h9 => h9) rfl dX3_takeNumber_13 ?_
  refine lv_bipush (v := 42) hx hb dX3_takeNumber_16 (by decide) ?_
  refine lv_icmp_ne (tgt := 25) hx hb dX3_takeNumber_18 (by decide) (fun c2 => ?_) (fun c2 => ?_)
  · have h := tx_neg c2 h
    refine lv_iconst (v := 0) hx hb dX3_takeNumber_25 (by decide) ?_
    exact w_X3_takeNumber_J26 F hB x1 x2 y1 0 K R H locs ls h hP hD hS (lv_sub hl [1, 2, 3, 0] rfl)
  · have h := tx_pos c2 h
    refine lv_iconst (v := 1) hx hb dX3_takeNumber_21 (by decide) ?_
    refine lv_goto (tgt := 26) hx hb dX3_takeNumber_22 (by decide) ?_
    exact w_X3_takeNumber_J26 F hB x1 x2 y1 1 K R H locs ls h hP hD hS (lv_sub hl [1, 2, 3, 0] rfl)
