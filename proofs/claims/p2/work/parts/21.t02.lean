abbrev G_X6_stealAway (p : Program) (l : Launch) (e : Env) (s : State) (m : MethodId) (below : List Frame) (meth : Method) (c : Code) (G : va_G) (cA : Nat → ClassId) (A : Nat → Prop) (ta : Nat → Nat) (pa : Nat → Nat) (P : Tr) (T' : Tr) (L' : Lo) (H : Heap) (locs : List Loc) (g : JFrame) : Prop := W p l e (headSpec (.code yX6_stealAway cX6_stealAway 3 none :: T0) ({ frames := 4, cells := 0, slots := 0, locals := 101 } : Room)).room s m ([.ref (ta 0)] : List Value).toArray below meth c H locs 0 0 (MQ below (tqQv G cA (fun (_ : Unit) => True) (fun (_ : Unit) => wTP cA ta pa (T') P (L')) A) ([.ref (ta 0)] : List Value).toArray s 0 0 A) g
set_option maxHeartbeats 4000000 in
set_option maxRecDepth 100000 in
theorem w_X6_stealAway_L2 {p : Program} {l : Launch} {e : Env} {s : State} {m : MethodId} {below : List Frame} {meth : Method} {c : Code} {G : va_G} {cA : Nat → ClassId} {A : Nat → Prop} {ta : Nat → Nat} {pa : Nat → Nat} {P : Tr} {T' : Tr} {L' : Lo} (F : tF p s m ([.ref (ta 0)] : List Value).toArray meth c G cA A RX6 cX6_stealAway 3 none)    (N : Nat) : ∀ (x1 : Int32) (T : Tr) (L : Lo) (H : Heap) (locs : List Loc) (ls : Array Slot), lpF (fun _ _ _ => none) (fB_X6_stealAway_L2 P) N x1 T L = some (T', L') → va_P G vwCl (wTP cA ta pa T P L) H → va_D A (wTP cA ta pa T P L) → va_S A s.heap H locs → lv_has ls 3 [(0, .ref (ta 0)), (1, .int x1)] → G_X6_stealAway p l e s m below meth c G cA A ta pa P T' L' H locs (F0 m 2 ls []) := by
  obtain ⟨hx, hb, hr, hml, hT, hown, hlocks, hK, hN, hA⟩ := id F
  induction N with
  | zero =>
    intro x1 T L H locs ls h
    have h : (none : Option (Tr × Lo)) = some (T', L') := h
    cases h
  | succ N hk2 =>
    intro x1 T L H locs ls h hP hD hS hl
    have h : fB_X6_stealAway_L2 P (lpF (fun _ _ _ => none) (fB_X6_stealAway_L2 P) N) x1 T L = some (T', L') := h
    generalize hk2e : lpF (fun _ _ _ => none) (fB_X6_stealAway_L2 P) N = k2 at h hk2
    unfold fB_X6_stealAway_L2 at h
    refine lv_iload_n hx hb dX6_stealAway_2 rfl (lv_at hl 1 rfl) ?_
    refine lv_aload_n hx hb dX6_stealAway_3 rfl (lv_at hl 0 rfl) ?_
    refine va_get (D := G) (ci := 6) (v := .ref (pa 0)) (C := RX6) (T := TX6) (N := 20) hx hb hT ku_6 hown hK hP 0 rfl rfl 19 (by decide) (hT _ kw_8_1) (fun _ h9 => h9) rfl dX6_stealAway_4 ?_
    refine va_get (D := G) (ci := 2) (v := .int (P 0 2)) (C := RX2) (T := TX2) (N := 19) hx hb hT ku_2 hown hK hP 12 rfl rfl 2 (by decide) (hT _ kw_40_17) (fun _ h9 => h9) rfl dX6_stealAway_7 ?_
    refine lv_icmp_ge (tgt := 68) hx hb dX6_stealAway_10 (by decide) (fun c1 => ?_) (fun c1 => ?_)
    · have h := tx_pos c1 h
      obtain ⟨rfl, rfl⟩ := tx_2 h
      exact W.vret hx hb hr (fun t ht hW => ⟨⟨(), rfl, trivial, by rw [ht]; exact hP, hD⟩, hS.F ht⟩) hS.2.2 dX6_stealAway_68
    · have h := tx_neg c1 h
      refine lv_aload_n hx hb dX6_stealAway_13 rfl (lv_at hl 0 rfl) ?_
      refine va_get (D := G) (ci := 6) (v := .int (T 0 7)) (C := RX6) (T := TX6) (N := 20) hx hb hT ku_6 hown hK hP 0 rfl rfl 7 (by decide) (hT _ kw_7_20) (fun _ h9 => h9) rfl dX6_stealAway_14 ?_
      refine lv_if_eq (tgt := 68) hx hb dX6_stealAway_17 (by decide) (fun c2 => ?_) (fun c2 => ?_)
      · have h := tx_pos c2 h
        obtain ⟨rfl, rfl⟩ := tx_2 h
        exact W.vret hx hb hr (fun t ht hW => ⟨⟨(), rfl, trivial, by rw [ht]; exact hP, hD⟩, hS.F ht⟩) hS.2.2 dX6_stealAway_68
      · have h := tx_neg c2 h
        refine lv_aload_n hx hb dX6_stealAway_20 rfl (lv_at hl 0 rfl) ?_
        refine va_get (D := G) (ci := 6) (v := .ref (ta 15)) (C := RX6) (T := TX6) (N := 20) hx hb hT ku_6 hown hK hP 0 rfl rfl 14 (by decide) (hT _ kw_7_13) (fun _ h9 => h9) rfl dX6_stealAway_21 ?_
        refine lv_iload_n hx hb dX6_stealAway_24 rfl (lv_at hl 1 rfl) ?_
        obtain ⟨g3, h⟩ := tx_ck h
        refine va_iald (i := x1) hx hb hK hP 7 0 rfl rfl (tx_in g3) dX6_stealAway_25 ?_
        refine lv_topi (fun y4 ey4 => ?_)
        have h := tx_let ey4 h
        refine lv_istore_n (lv' := [(2, .int y4), (0, .ref (ta 0)), (1, .int x1)]) hx hb dX6_stealAway_26 rfl hl (by decide) rfl (fun ls hl => ?_)
        refine lv_iload_n hx hb dX6_stealAway_27 rfl (lv_at hl 0 rfl) ?_
        refine lv_if_lt (tgt := 62) hx hb dX6_stealAway_28 (by decide) (fun c5 => ?_) (fun c5 => ?_)
        · have h := tx_pos c5 h
          obtain ⟨y6, ey6, h⟩ := tx_lt h
          refine lv_iinc (v := y6) (lv' := [(1, .int y6), (2, .int y4), (0, .ref (ta 0))]) hx hb dX6_stealAway_62 hl (k := 2) rfl ey6 (by decide) rfl (fun ls hl => ?_)
          refine lv_goto (tgt := 2) hx hb dX6_stealAway_65 (by decide) ?_
          exact hk2 y6 T L H locs ls h hP hD hS (lv_sub hl [2, 0] rfl)
        · have h := tx_neg c5 h
          refine lv_aload_n hx hb dX6_stealAway_31 rfl (lv_at hl 1 rfl) ?_
          refine va_get (D := G) (ci := 6) (v := .ref (pa 0)) (C := RX6) (T := TX6) (N := 20) hx hb hT ku_6 hown hK hP 0 rfl rfl 19 (by decide) (hT _ kw_8_1) (fun _ h9 => h9) rfl dX6_stealAway_32 ?_
          refine va_get (D := G) (ci := 2) (v := .ref (pa 8)) (C := RX2) (T := TX2) (N := 19) hx hb hT ku_2 hown hK hP 12 rfl rfl 7 (by decide) (hT _ kw_33_18) (fun _ h9 => h9) rfl dX6_stealAway_35 ?_
          refine lv_iload_n hx hb dX6_stealAway_38 rfl (lv_at hl 0 rfl) ?_
          obtain ⟨g7, h⟩ := tx_ck h
          refine va_iald (i := y4) hx hb hK hP 13 0 rfl rfl (tx_in g7) dX6_stealAway_39 ?_
          refine lv_iconst (v := 4) hx hb dX6_stealAway_40 (by decide) ?_
          refine lv_icmp_ne (tgt := 62) hx hb dX6_stealAway_41 (by decide) (fun c8 => ?_) (fun c8 => ?_)
          · have h := tx_neg c8 h
            obtain ⟨y9, ey9, h⟩ := tx_lt h
            refine lv_iinc (v := y9) (lv' := [(1, .int y9), (2, .int y4), (0, .ref (ta 0))]) hx hb dX6_stealAway_62 hl (k := 2) rfl ey9 (by decide) rfl (fun ls hl => ?_)
            refine lv_goto (tgt := 2) hx hb dX6_stealAway_65 (by decide) ?_
            exact hk2 y9 T L H locs ls h hP hD hS (lv_sub hl [2, 0] rfl)
          · have h := tx_pos c8 h
            refine lv_aload_n hx hb dX6_stealAway_44 rfl (lv_at hl 1 rfl) ?_
            refine lv_aload_n hx hb dX6_stealAway_45 rfl (lv_at hl 1 rfl) ?_
            refine lv_iload_n hx hb dX6_stealAway_46 rfl (lv_at hl 2 rfl) ?_
            obtain ⟨⟨r10, T_11, L_12⟩, hc13, h⟩ := tx_bd h
            replace h := tx_let (y := r10) rfl h
            replace h := tx_let (y := T_11) rfl h
            replace h := tx_let (y := L_12) rfl h
            refine tw_ci tw_all hP hD hS hA (va_runV (As := [.int x1]) (rest := [.ref (ta 0)]) ⟨hx, hb, hml, hown, hT⟩ (c_X6_stealPercent l G cA H.size ta pa T P L x1  r10 T_11 L_12 hc13) (cwV 1 hT (tq_gV kw_43_6 kw_43_7 kw_43_8 kw_1_23 kw_43_9) rfl rfl rfl (by decide +kernel) ⟨Nat.le_of_ble_eq_true rfl, Nat.le_of_ble_eq_true rfl⟩) ⟨(tw_pre tw_all hP hD hK hN).1, va_recv hK hP (ci := 6) (q0 := 0) rfl rfl, (tw_pre tw_all hP hD hK hN).2⟩ rfl rfl hl.1 rfl (lv_room (Nat.le_of_ble_eq_true rfl)) dX6_stealAway_47 ⟨Nat.le_of_ble_eq_true rfl, Nat.le_of_ble_eq_true rfl⟩) (fun _ _ H locs z14 hP hD hS => ?_)
            subst z14
            rw [List.append_nil] at hP hD
            have hP : va_P G vwCl (wTP cA ta pa T_11 P L_12) H := hP
            have hD : va_D A (wTP cA ta pa T_11 P L_12) := hD
            obtain ⟨⟨r15, T_16⟩, hc17, h⟩ := tx_bd h
            replace h := tx_let (y := r15) rfl h
            replace h := tx_let (y := T_16) rfl h
            refine tw_ci tw_all hP hD hS hA (va_runV (As := [.int r10]) (rest := []) ⟨hx, hb, hml, hown, hT⟩ (c_X6_happens l G cA H.size ta pa T_11 P L_12 r10  r15 T_16 hc17) (cwV 1 hT (tq_gV kw_42_20 kw_42_21 kw_42_22 kw_1_23 kw_42_23) rfl rfl rfl (by decide +kernel) ⟨Nat.le_of_ble_eq_true rfl, Nat.le_of_ble_eq_true rfl⟩) ⟨(tw_pre tw_all hP hD hK hN).1, va_recv hK hP (ci := 6) (q0 := 0) rfl rfl, (tw_pre tw_all hP hD hK hN).2⟩ rfl rfl hl.1 rfl (lv_room (Nat.le_of_ble_eq_true rfl)) dX6_stealAway_50 ⟨Nat.le_of_ble_eq_true rfl, Nat.le_of_ble_eq_true rfl⟩) (fun _ _ H locs z18 hP hD hS => ?_)
            subst z18
            rw [List.append_nil] at hP hD
            have hP : va_P G vwCl (wTP cA ta pa T_16 P L_12) H := hP
            have hD : va_D A (wTP cA ta pa T_16 P L_12) := hD
            refine lv_if_eq (tgt := 62) hx hb dX6_stealAway_53 (by decide) (fun c19 => ?_) (fun c19 => ?_)
            · have h := tx_pos c19 h
              obtain ⟨y20, ey20, h⟩ := tx_lt h
              refine lv_iinc (v := y20) (lv' := [(1, .int y20), (2, .int y4), (0, .ref (ta 0))]) hx hb dX6_stealAway_62 hl (k := 2) rfl ey20 (by decide) rfl (fun ls hl => ?_)
              refine lv_goto (tgt := 2) hx hb dX6_stealAway_65 (by decide) ?_
              exact hk2 y20 T_16 L_12 H locs ls h hP hD hS (lv_sub hl [2, 0] rfl)
            · have h := tx_neg c19 h
              refine lv_aload_n hx hb dX6_stealAway_56 rfl (lv_at hl 1 rfl) ?_
              refine lv_iload_n hx hb dX6_stealAway_57 rfl (lv_at hl 2 rfl) ?_
              refine lv_iconst (v := 4) hx hb dX6_stealAway_58 (by decide) ?_
              obtain ⟨T_21, hc22, h⟩ := tx_bd h
              refine tw_cv tw_all hP hD hS hA (va_runV (As := [.int x1, .int 4]) (rest := []) ⟨hx, hb, hml, hown, hT⟩ (c_X6_takeAway l G cA H.size ta pa T_16 P L_12 x1 (4 : Int32)  T_21 hc22) (cwV 2 hT (tq_gV kw_41_3 kw_36_19 kw_36_20 kw_1_23 kw_36_21) rfl rfl rfl (by decide +kernel) ⟨Nat.le_of_ble_eq_true rfl, Nat.le_of_ble_eq_true rfl⟩) ⟨(tw_pre tw_all hP hD hK hN).1, va_recv hK hP (ci := 6) (q0 := 0) rfl rfl, (tw_pre tw_all hP hD hK hN).2⟩ rfl rfl hl.1 rfl (lv_room (Nat.le_of_ble_eq_true rfl)) dX6_stealAway_59 ⟨Nat.le_of_ble_eq_true rfl, Nat.le_of_ble_eq_true rfl⟩) (fun _ H locs z23 hP hD hS => ?_)
              rw [List.append_nil] at hP hD
              have hP : va_P G vwCl (wTP cA ta pa T_21 P L_12) H := hP
              have hD : va_D A (wTP cA ta pa T_21 P L_12) := hD
              obtain ⟨y24, ey24, h⟩ := tx_lt h
              refine lv_iinc (v := y24) (lv' := [(1, .int y24), (2, .int y4), (0, .ref (ta 0))]) hx hb dX6_stealAway_62 hl (k := 2) rfl ey24 (by decide) rfl (fun ls hl => ?_)
              refine lv_goto (tgt := 2) hx hb dX6_stealAway_65 (by decide) ?_
              exact hk2 y24 T_21 L_12 H locs ls h hP hD hS (lv_sub hl [2, 0] rfl)
set_option maxHeartbeats 4000000 in
set_option maxRecDepth 100000 in
theorem c_X6_stealAway (l : Launch) (G : va_G) (cA : Nat → ClassId) (sz : Nat) (ta : Nat → Nat) (pa : Nat → Nat) (T : Tr) (P : Tr) (L : Lo)  (T' : Tr) (L' : Lo) (h : f_X6_stealAway T P L = some (T', L')) : Met l yX6_stealAway (.code yX6_stealAway cX6_stealAway 3 none :: T0) ({ frames := 4, cells := 0, slots := 0, locals := 101 } : Room) (tqP G cA [.ref (ta 0)] (wTP cA ta pa T P L) sz) (tqQv G cA (fun (_ : Unit) => True) (fun (_ : Unit) => wTP cA ta pa (T') P (L')) (va_A (wTP cA ta pa T P L) sz)) 0 0 (va_A (wTP cA ta pa T P L) sz) := by
  refine Met.ofW (cc := cX6_stealAway) (maxL := 3) (ret := none) (by decide) rfl ?_
  intro p e s m args below meth c s₁ B hml hv
  obtain ⟨rfl, hsz, hP, hK, hD0, hN⟩ := hv
  have hx := B.exec
  have hb := B.bytes
  have hr := B.returns
  have hts := atoms_spec (ws := .code yX6_stealAway cX6_stealAway 3 none :: T0) B.pre
  have hT : ∀ w ∈ T0, w.before _ s = true := fun w h => hts w (List.mem_cons_of_mem _ h)
  have hown : s.vm.findClass RX6 = some m.cls := findClass_of_methodNamed B.named
  have hlocks := B.notSynchronized
  subst hsz
  have hD := hD0.self (sz := s.heap.size)
  generalize hAe : va_A (wTP cA ta pa T P L) s.heap.size = A at hD ⊢
  have hA : ∀ q : Nat, s.heap.size ≤ q → A q := fun q h => by rw [← hAe]; exact Or.inr h
  have hS : va_S A s.heap s.heap [] := va_S.rf
  have hl := lv_entry ([.ref (ta 0)]) (n := 3) (Nat.le_of_ble_eq_true rfl)
  rw [lg_entry_eq]
  generalize (lg_sl ([.ref (ta 0)]) ++ List.replicate (3 - (lg_sl ([.ref (ta 0)])).length) Slot.unset).toArray = ls at hl ⊢
  have hl : lv_has ls 3 [(0, .ref (ta 0))] := hl
  have F : tF p s m ([.ref (ta 0)] : List Value).toArray meth c G cA A RX6 cX6_stealAway 3 none := ⟨hx, hb, hr, hml, hT, hown, hlocks, hK, hN, hA⟩
  obtain ⟨H, hH⟩ : ∃ z, z = s.heap := ⟨_, rfl⟩
  rw [← hH] at hP
  have hS : va_S A s.heap H [] := by rw [hH]; exact hS
  suffices hgo : G_X6_stealAway p l e s m below meth c G cA A ta pa P T' L' H [] (F0 m 0 ls []) by rw [hH] at hgo; exact hgo
  generalize ([] : List Loc) = locs at hS ⊢
  unfold f_X6_stealAway at h
  refine lv_iconst (v := 0) hx hb dX6_stealAway_0 (by decide) ?_
  refine lv_istore_n (lv' := [(1, .int 0), (0, .ref (ta 0))]) hx hb dX6_stealAway_1 rfl hl (by decide) rfl (fun ls hl => ?_)
  exact w_X6_stealAway_L2 F 2000 0 T L H locs ls h hP hD hS (lv_sub hl [1, 0] rfl)
abbrev G_X6_wayOn (p : Program) (l : Launch) (e : Env) (s : State) (m : MethodId) (below : List Frame) (meth : Method) (c : Code) (G : va_G) (cA : Nat → ClassId) (A : Nat → Prop) (ta : Nat → Nat) (pa : Nat → Nat) (P : Tr) (T' : Tr) (L' : Lo) (H : Heap) (locs : List Loc) (g : JFrame) : Prop := W p l e (headSpec (.code yX6_wayOn cX6_wayOn 1 none :: T0) ({ frames := 5, cells := 0, slots := 0, locals := 124 } : Room)).room s m ([.ref (ta 0)] : List Value).toArray below meth c H locs 0 0 (MQ below (tqQv G cA (fun (_ : Unit) => True) (fun (_ : Unit) => wTP cA ta pa (T') P (L')) A) ([.ref (ta 0)] : List Value).toArray s 0 0 A) g
set_option maxHeartbeats 4000000 in
set_option maxRecDepth 100000 in
theorem c_X6_wayOn (l : Launch) (G : va_G) (cA : Nat → ClassId) (sz : Nat) (ta : Nat → Nat) (pa : Nat → Nat) (T : Tr) (P : Tr) (L : Lo)  (T' : Tr) (L' : Lo) (h : f_X6_wayOn T P L = some (T', L')) : Met l yX6_wayOn (.code yX6_wayOn cX6_wayOn 1 none :: T0) ({ frames := 5, cells := 0, slots := 0, locals := 124 } : Room) (tqP G cA [.ref (ta 0)] (wTP cA ta pa T P L) sz) (tqQv G cA (fun (_ : Unit) => True) (fun (_ : Unit) => wTP cA ta pa (T') P (L')) (va_A (wTP cA ta pa T P L) sz)) 0 0 (va_A (wTP cA ta pa T P L) sz) := by
  refine Met.ofW (cc := cX6_wayOn) (maxL := 1) (ret := none) (by decide) rfl ?_
  intro p e s m args below meth c s₁ B hml hv
  obtain ⟨rfl, hsz, hP, hK, hD0, hN⟩ := hv
  have hx := B.exec
  have hb := B.bytes
  have hr := B.returns
  have hts := atoms_spec (ws := .code yX6_wayOn cX6_wayOn 1 none :: T0) B.pre
  have hT : ∀ w ∈ T0, w.before _ s = true := fun w h => hts w (List.mem_cons_of_mem _ h)
  have hown : s.vm.findClass RX6 = some m.cls := findClass_of_methodNamed B.named
  have hlocks := B.notSynchronized
  subst hsz
  have hD := hD0.self (sz := s.heap.size)
  generalize hAe : va_A (wTP cA ta pa T P L) s.heap.size = A at hD ⊢
  have hA : ∀ q : Nat, s.heap.size ≤ q → A q := fun q h => by rw [← hAe]; exact Or.inr h
  have hS : va_S A s.heap s.heap [] := va_S.rf
  have hl := lv_entry ([.ref (ta 0)]) (n := 1) (Nat.le_of_ble_eq_true rfl)
  rw [lg_entry_eq]
  generalize (lg_sl ([.ref (ta 0)]) ++ List.replicate (1 - (lg_sl ([.ref (ta 0)])).length) Slot.unset).toArray = ls at hl ⊢
  have hl : lv_has ls 1 [(0, .ref (ta 0))] := hl
  have F : tF p s m ([.ref (ta 0)] : List Value).toArray meth c G cA A RX6 cX6_wayOn 1 none := ⟨hx, hb, hr, hml, hT, hown, hlocks, hK, hN, hA⟩
  obtain ⟨H, hH⟩ : ∃ z, z = s.heap := ⟨_, rfl⟩
  rw [← hH] at hP
  have hS : va_S A s.heap H [] := by rw [hH]; exact hS
  suffices hgo : G_X6_wayOn p l e s m below meth c G cA A ta pa P T' L' H [] (F0 m 0 ls []) by rw [hH] at hgo; exact hgo
  generalize ([] : List Loc) = locs at hS ⊢
  unfold f_X6_wayOn at h
  refine lv_aload_n hx hb dX6_wayOn_0 rfl (lv_at hl 0 rfl) ?_
  obtain ⟨⟨r1, T_2, L_3⟩, hc4, h⟩ := tx_bd h
  replace h := tx_let (y := r1) rfl h
  replace h := tx_let (y := T_2) rfl h
  replace h := tx_let (y := L_3) rfl h
  refine tw_ci tw_all hP hD hS hA (va_runV (As := []) (rest := []) ⟨hx, hb, hml, hown, hT⟩ (c_X6_fallOff l G cA H.size ta pa T P L  r1 T_2 L_3 hc4) (cwV 0 hT (tq_gV kw_42_7 kw_42_8 kw_42_9 kw_1_23 kw_42_10) rfl rfl rfl (by decide +kernel) ⟨Nat.le_of_ble_eq_true rfl, Nat.le_of_ble_eq_true rfl⟩) ⟨(tw_pre tw_all hP hD hK hN).1, va_recv hK hP (ci := 6) (q0 := 0) rfl rfl, (tw_pre tw_all hP hD hK hN).2⟩ rfl rfl hl.1 rfl (lv_room (Nat.le_of_ble_eq_true rfl)) dX6_wayOn_1 ⟨Nat.le_of_ble_eq_true rfl, Nat.le_of_ble_eq_true rfl⟩) (fun _ _ H locs z5 hP hD hS => ?_)
  subst z5
  rw [List.append_nil] at hP hD
  have hP : va_P G vwCl (wTP cA ta pa T_2 P L_3) H := hP
  have hD : va_D A (wTP cA ta pa T_2 P L_3) := hD
  refine lv_pop hx hb dX6_wayOn_4 rfl ?_
  refine lv_aload_n hx hb dX6_wayOn_5 rfl (lv_at hl 0 rfl) ?_
  obtain ⟨⟨T_6, L_7⟩, hc8, h⟩ := tx_bd h
  replace h := tx_let (y := T_6) rfl h
  replace h := tx_let (y := L_7) rfl h
  refine tw_cv tw_all hP hD hS hA (va_runV (As := []) (rest := []) ⟨hx, hb, hml, hown, hT⟩ (c_X6_stealAway l G cA H.size ta pa T_2 P L_3  T_6 L_7 hc8) (cwV 0 hT (tq_gV kw_43_2 kw_43_3 kw_43_4 kw_1_23 kw_43_5) rfl rfl rfl (by decide +kernel) ⟨Nat.le_of_ble_eq_true rfl, Nat.le_of_ble_eq_true rfl⟩) ⟨(tw_pre tw_all hP hD hK hN).1, va_recv hK hP (ci := 6) (q0 := 0) rfl rfl, (tw_pre tw_all hP hD hK hN).2⟩ rfl rfl hl.1 rfl (lv_room (Nat.le_of_ble_eq_true rfl)) dX6_wayOn_6 ⟨Nat.le_of_ble_eq_true rfl, Nat.le_of_ble_eq_true rfl⟩) (fun _ H locs z9 hP hD hS => ?_)
  rw [List.append_nil] at hP hD
  have hP : va_P G vwCl (wTP cA ta pa T_6 P L_7) H := hP
  have hD : va_D A (wTP cA ta pa T_6 P L_7) := hD
  refine lv_aload_n hx hb dX6_wayOn_9 rfl (lv_at hl 0 rfl) ?_
  refine lv_dup hx hb dX6_wayOn_10 rfl ?_
  refine va_get (D := G) (ci := 6) (v := .int (T_6 0 0)) (C := RX6) (T := TX6) (N := 20) hx hb hT ku_6 hown hK hP 0 rfl rfl 0 (by decide) (hT _ kw_8_2) (fun _ h9 => h9) rfl dX6_wayOn_11 ?_
  refine lv_iconst (v := 1) hx hb dX6_wayOn_14 (by decide) ?_
  refine lv_iadd hx hb dX6_wayOn_15 ?_
  refine va_put (D := G) (ci := 6) (v := .int ((T_6 0 0) + 1)) (ty := .int) (C := RX6) (T := TX6) (N := 20) hx hb hT ku_6 tyX6 tyX6_ok nmX6 hown hK hP hD hS 0 rfl rfl 0 (by decide) (hT _ kw_8_2) (fun _ h9 => h9) rfl (by decide +kernel) rfl rfl (Nat.le_of_ble_eq_true rfl) dX6_wayOn_16 (fun H locs hP hD hS => ?_)
  obtain ⟨T_10, eT_10, h⟩ := tx_lt h
  rw [sTP_ta_f0, eT_10] at hP hD
  obtain ⟨rfl, rfl⟩ := tx_2 h
  exact W.vret hx hb hr (fun t ht hW => ⟨⟨(), rfl, trivial, by rw [ht]; exact hP, hD⟩, hS.F ht⟩) hS.2.2 dX6_wayOn_19
abbrev G_X6_passStop (p : Program) (l : Launch) (e : Env) (s : State) (m : MethodId) (below : List Frame) (meth : Method) (c : Code) (G : va_G) (cA : Nat → ClassId) (A : Nat → Prop) (ta : Nat → Nat) (pa : Nat → Nat) (P : Tr) (T' : Tr) (L' : Lo) (H : Heap) (locs : List Loc) (g : JFrame) : Prop := W p l e (headSpec (.code yX6_passStop cX6_passStop 1 none :: T0) ({ frames := 6, cells := 0, slots := 0, locals := 144 } : Room)).room s m ([.ref (ta 0)] : List Value).toArray below meth c H locs 0 0 (MQ below (tqQv G cA (fun (_ : Unit) => True) (fun (_ : Unit) => wTP cA ta pa (T') P (L')) A) ([.ref (ta 0)] : List Value).toArray s 0 0 A) g
set_option maxHeartbeats 4000000 in
set_option maxRecDepth 100000 in
theorem c_X6_passStop (l : Launch) (G : va_G) (cA : Nat → ClassId) (sz : Nat) (ta : Nat → Nat) (pa : Nat → Nat) (T : Tr) (P : Tr) (L : Lo)  (T' : Tr) (L' : Lo) (h : f_X6_passStop T P L = some (T', L')) : Met l yX6_passStop (.code yX6_passStop cX6_passStop 1 none :: T0) ({ frames := 6, cells := 0, slots := 0, locals := 144 } : Room) (tqP G cA [.ref (ta 0)] (wTP cA ta pa T P L) sz) (tqQv G cA (fun (_ : Unit) => True) (fun (_ : Unit) => wTP cA ta pa (T') P (L')) (va_A (wTP cA ta pa T P L) sz)) 0 0 (va_A (wTP cA ta pa T P L) sz) := by
  refine Met.ofW (cc := cX6_passStop) (maxL := 1) (ret := none) (by decide) rfl ?_
  intro p e s m args below meth c s₁ B hml hv
  obtain ⟨rfl, hsz, hP, hK, hD0, hN⟩ := hv
  have hx := B.exec
  have hb := B.bytes
  have hr := B.returns
  have hts := atoms_spec (ws := .code yX6_passStop cX6_passStop 1 none :: T0) B.pre
  have hT : ∀ w ∈ T0, w.before _ s = true := fun w h => hts w (List.mem_cons_of_mem _ h)
  have hown : s.vm.findClass RX6 = some m.cls := findClass_of_methodNamed B.named
  have hlocks := B.notSynchronized
  subst hsz
  have hD := hD0.self (sz := s.heap.size)
  generalize hAe : va_A (wTP cA ta pa T P L) s.heap.size = A at hD ⊢
  have hA : ∀ q : Nat, s.heap.size ≤ q → A q := fun q h => by rw [← hAe]; exact Or.inr h
  have hS : va_S A s.heap s.heap [] := va_S.rf
  have hl := lv_entry ([.ref (ta 0)]) (n := 1) (Nat.le_of_ble_eq_true rfl)
  rw [lg_entry_eq]
  generalize (lg_sl ([.ref (ta 0)]) ++ List.replicate (1 - (lg_sl ([.ref (ta 0)])).length) Slot.unset).toArray = ls at hl ⊢
  have hl : lv_has ls 1 [(0, .ref (ta 0))] := hl
  have F : tF p s m ([.ref (ta 0)] : List Value).toArray meth c G cA A RX6 cX6_passStop 1 none := ⟨hx, hb, hr, hml, hT, hown, hlocks, hK, hN, hA⟩
  obtain ⟨H, hH⟩ : ∃ z, z = s.heap := ⟨_, rfl⟩
  rw [← hH] at hP
  have hS : va_S A s.heap H [] := by rw [hH]; exact hS
  suffices hgo : G_X6_passStop p l e s m below meth c G cA A ta pa P T' L' H [] (F0 m 0 ls []) by rw [hH] at hgo; exact hgo
  generalize ([] : List Loc) = locs at hS ⊢
  unfold f_X6_passStop at h
  refine lv_aload_n hx hb dX6_passStop_0 rfl (lv_at hl 0 rfl) ?_
  refine va_get (D := G) (ci := 6) (v := .int (T 0 0)) (C := RX6) (T := TX6) (N := 20) hx hb hT ku_6 hown hK hP 0 rfl rfl 0 (by decide) (hT _ kw_8_2) (fun _ h9 => h9) rfl dX6_passStop_1 ?_
  refine lv_bipush (v := 20) hx hb dX6_passStop_4 (by decide) ?_
  refine lv_icmp_gt (tgt := 34) hx hb dX6_passStop_6 (by decide) (fun c1 => ?_) (fun c1 => ?_)
  · have h := tx_pos c1 h
    obtain ⟨rfl, rfl⟩ := tx_2 h
    exact W.vret hx hb hr (fun t ht hW => ⟨⟨(), rfl, trivial, by rw [ht]; exact hP, hD⟩, hS.F ht⟩) hS.2.2 dX6_passStop_34
  · have h := tx_neg c1 h
    refine lv_aload_n hx hb dX6_passStop_9 rfl (lv_at hl 0 rfl) ?_
    refine lv_aload_n hx hb dX6_passStop_10 rfl (lv_at hl 0 rfl) ?_
    refine va_get (D := G) (ci := 6) (v := .ref (pa 0)) (C := RX6) (T := TX6) (N := 20) hx hb hT ku_6 hown hK hP 0 rfl rfl 19 (by decide) (hT _ kw_8_1) (fun _ h9 => h9) rfl dX6_passStop_11 ?_
    refine va_get (D := G) (ci := 2) (v := .ref (pa 18)) (C := RX2) (T := TX2) (N := 19) hx hb hT ku_2 hown hK hP 12 rfl rfl 17 (by decide) (hT _ kw_40_11) (fun _ h9 => h9) rfl dX6_passStop_14 ?_
    refine lv_aload_n hx hb dX6_passStop_17 rfl (lv_at hl 0 rfl) ?_
    refine va_get (D := G) (ci := 6) (v := .int (T 0 0)) (C := RX6) (T := TX6) (N := 20) hx hb hT ku_6 hown hK hP 0 rfl rfl 0 (by decide) (hT _ kw_8_2) (fun _ h9 => h9) rfl dX6_passStop_18 ?_
    obtain ⟨g2, h⟩ := tx_ck h
    refine va_iald (i := (T 0 0)) hx hb hK hP 23 0 rfl rfl (tx_in g2) dX6_passStop_21 ?_
    obtain ⟨⟨r3, T_4, L_5⟩, hc6, h⟩ := tx_bd h
    replace h := tx_let (y := r3) rfl h
    replace h := tx_let (y := T_4) rfl h
    replace h := tx_let (y := L_5) rfl h
    refine tw_ci tw_all hP hD hS hA (va_runV (As := [.int (P 18 (T 0 0).toNatClampNeg)]) (rest := []) ⟨hx, hb, hml, hown, hT⟩ (c_X6_takeDown l G cA H.size ta pa T P L (P 18 (T 0 0).toNatClampNeg)  r3 T_4 L_5 hc6) (cwV 1 hT (tq_gV kw_40_12 kw_40_13 kw_40_14 kw_1_23 kw_40_15) rfl rfl rfl (by decide +kernel) ⟨Nat.le_of_ble_eq_true rfl, Nat.le_of_ble_eq_true rfl⟩) ⟨(tw_pre tw_all hP hD hK hN).1, va_recv hK hP (ci := 6) (q0 := 0) rfl rfl, (tw_pre tw_all hP hD hK hN).2⟩ rfl rfl hl.1 rfl (lv_room (Nat.le_of_ble_eq_true rfl)) dX6_passStop_22 ⟨Nat.le_of_ble_eq_true rfl, Nat.le_of_ble_eq_true rfl⟩) (fun _ _ H locs z7 hP hD hS => ?_)
    subst z7
    rw [List.append_nil] at hP hD
    have hP : va_P G vwCl (wTP cA ta pa T_4 P L_5) H := hP
    have hD : va_D A (wTP cA ta pa T_4 P L_5) := hD
    refine lv_pop hx hb dX6_passStop_25 rfl ?_
    refine lv_aload_n hx hb dX6_passStop_26 rfl (lv_at hl 0 rfl) ?_
    obtain ⟨T_8, hc9, h⟩ := tx_bd h
    refine tw_cv tw_all hP hD hS hA (va_runV (As := []) (rest := []) ⟨hx, hb, hml, hown, hT⟩ (c_X6_getIn l G cA H.size ta pa T_4 P L_5  T_8 hc9) (cwV 0 hT (tq_gV kw_41_12 kw_41_13 kw_41_14 kw_1_23 kw_41_15) rfl rfl rfl (by decide +kernel) ⟨Nat.le_of_ble_eq_true rfl, Nat.le_of_ble_eq_true rfl⟩) ⟨(tw_pre tw_all hP hD hK hN).1, va_recv hK hP (ci := 6) (q0 := 0) rfl rfl, (tw_pre tw_all hP hD hK hN).2⟩ rfl rfl hl.1 rfl (lv_room (Nat.le_of_ble_eq_true rfl)) dX6_passStop_27 ⟨Nat.le_of_ble_eq_true rfl, Nat.le_of_ble_eq_true rfl⟩) (fun _ H locs z10 hP hD hS => ?_)
    rw [List.append_nil] at hP hD
    have hP : va_P G vwCl (wTP cA ta pa T_8 P L_5) H := hP
    have hD : va_D A (wTP cA ta pa T_8 P L_5) := hD
    refine lv_aload_n hx hb dX6_passStop_30 rfl (lv_at hl 0 rfl) ?_
    obtain ⟨⟨T_11, L_12⟩, hc13, h⟩ := tx_bd h
    replace h := tx_let (y := T_11) rfl h
    replace h := tx_let (y := L_12) rfl h
    refine tw_cv tw_all hP hD hS hA (va_runV (As := []) (rest := []) ⟨hx, hb, hml, hown, hT⟩ (c_X6_wayOn l G cA H.size ta pa T_8 P L_5  T_11 L_12 hc13) (cwV 0 hT (tq_gV kw_42_3 kw_42_4 kw_42_5 kw_1_23 kw_42_6) rfl rfl rfl (by decide +kernel) ⟨Nat.le_of_ble_eq_true rfl, Nat.le_of_ble_eq_true rfl⟩) ⟨(tw_pre tw_all hP hD hK hN).1, va_recv hK hP (ci := 6) (q0 := 0) rfl rfl, (tw_pre tw_all hP hD hK hN).2⟩ rfl rfl hl.1 rfl (lv_room (Nat.le_of_ble_eq_true rfl)) dX6_passStop_31 ⟨Nat.le_of_ble_eq_true rfl, Nat.le_of_ble_eq_true rfl⟩) (fun _ H locs z14 hP hD hS => ?_)
    rw [List.append_nil] at hP hD
    have hP : va_P G vwCl (wTP cA ta pa T_11 P L_12) H := hP
    have hD : va_D A (wTP cA ta pa T_11 P L_12) := hD
    obtain ⟨rfl, rfl⟩ := tx_2 h
    exact W.vret hx hb hr (fun t ht hW => ⟨⟨(), rfl, trivial, by rw [ht]; exact hP, hD⟩, hS.F ht⟩) hS.2.2 dX6_passStop_34
abbrev G_X6_personsAboard (p : Program) (l : Launch) (e : Env) (s : State) (m : MethodId) (below : List Frame) (meth : Method) (c : Code) (G : va_G) (cA : Nat → ClassId) (A : Nat → Prop) (ta : Nat → Nat) (pa : Nat → Nat) (T : Tr) (P : Tr) (L : Lo) (r0 : Int32) (H : Heap) (locs : List Loc) (g : JFrame) : Prop := W p l e (headSpec (.code yX6_personsAboard cX6_personsAboard 3 (some .int) :: T0) ({ frames := 0, cells := 0, slots := 0, locals := 0 } : Room)).room s m ([.ref (ta 0)] : List Value).toArray below meth c H locs 0 0 (MQ below (tqQi G cA (fun (r : Int32) (_ : Unit) => r = r0) (fun (_ : Unit) => wTP cA ta pa T P L) A) ([.ref (ta 0)] : List Value).toArray s 0 0 A) g
set_option maxHeartbeats 4000000 in
set_option maxRecDepth 100000 in
theorem w_X6_personsAboard_L4 {p : Program} {l : Launch} {e : Env} {s : State} {m : MethodId} {below : List Frame} {meth : Method} {c : Code} {G : va_G} {cA : Nat → ClassId} {A : Nat → Prop} {ta : Nat → Nat} {pa : Nat → Nat} {T : Tr} {P : Tr} {L : Lo} {r0 : Int32} (F : tF p s m ([.ref (ta 0)] : List Value).toArray meth c G cA A RX6 cX6_personsAboard 3 (some .int))    (N : Nat) : ∀ (x1 : Int32) (x2 : Int32) (H : Heap) (locs : List Loc) (ls : Array Slot), lpF (fun _ _ => none) (fB_X6_personsAboard_L4 T P) N x1 x2 = some r0 → va_P G vwCl (wTP cA ta pa T P L) H → va_D A (wTP cA ta pa T P L) → va_S A s.heap H locs → lv_has ls 3 [(0, .ref (ta 0)), (1, .int x1), (2, .int x2)] → G_X6_personsAboard p l e s m below meth c G cA A ta pa T P L r0 H locs (F0 m 4 ls []) := by
  obtain ⟨hx, hb, hr, hml, hT, hown, hlocks, hK, hN, hA⟩ := id F
  induction N with
  | zero =>
    intro x1 x2 H locs ls h
    have h : (none : Option (Int32)) = some r0 := h
    cases h
  | succ N hk4 =>
    intro x1 x2 H locs ls h hP hD hS hl
    have h : fB_X6_personsAboard_L4 T P (lpF (fun _ _ => none) (fB_X6_personsAboard_L4 T P) N) x1 x2 = some r0 := h
    generalize hk4e : lpF (fun _ _ => none) (fB_X6_personsAboard_L4 T P) N = k4 at h hk4
    unfold fB_X6_personsAboard_L4 at h
    refine lv_iload_n hx hb dX6_personsAboard_4 rfl (lv_at hl 2 rfl) ?_
    refine lv_aload_n hx hb dX6_personsAboard_5 rfl (lv_at hl 0 rfl) ?_
    refine va_get (D := G) (ci := 6) (v := .ref (pa 0)) (C := RX6) (T := TX6) (N := 20) hx hb hT ku_6 hown hK hP 0 rfl rfl 19 (by decide) (hT _ kw_8_1) (fun _ h9 => h9) rfl dX6_personsAboard_6 ?_
    refine va_get (D := G) (ci := 2) (v := .int (P 0 1)) (C := RX2) (T := TX2) (N := 19) hx hb hT ku_2 hown hK hP 12 rfl rfl 1 (by decide) (hT _ kw_40_16) (fun _ h9 => h9) rfl dX6_personsAboard_9 ?_
    refine lv_icmp_ge (tgt := 34) hx hb dX6_personsAboard_12 (by decide) (fun c1 => ?_) (fun c1 => ?_)
    · have h := tx_pos c1 h
      refine lv_iload_n hx hb dX6_personsAboard_34 rfl (lv_at hl 1 rfl) ?_
      obtain rfl := tx_1 h
      exact W.iret hx hb hr (fun t ht hW => ⟨⟨_, (), rfl, rfl, by rw [ht]; exact hP, hD⟩, hS.F ht⟩) hS.2.2 dX6_personsAboard_35
    · have h := tx_neg c1 h
      refine lv_aload_n hx hb dX6_personsAboard_15 rfl (lv_at hl 0 rfl) ?_
      refine va_get (D := G) (ci := 6) (v := .ref (ta 11)) (C := RX6) (T := TX6) (N := 20) hx hb hT ku_6 hown hK hP 0 rfl rfl 10 (by decide) (hT _ kw_7_9) (fun _ h9 => h9) rfl dX6_personsAboard_16 ?_
      refine lv_iload_n hx hb dX6_personsAboard_19 rfl (lv_at hl 2 rfl) ?_
      obtain ⟨g2, h⟩ := tx_ck h
      refine va_iald (i := x2) hx hb hK hP 3 0 rfl rfl (tx_in g2) dX6_personsAboard_20 ?_
      refine lv_iconst (v := 1) hx hb dX6_personsAboard_21 (by decide) ?_
      refine lv_icmp_ne (tgt := 28) hx hb dX6_personsAboard_22 (by decide) (fun c3 => ?_) (fun c3 => ?_)
      · have h := tx_neg c3 h
        obtain ⟨y4, ey4, h⟩ := tx_lt h
        refine lv_iinc (v := y4) (lv' := [(2, .int y4), (0, .ref (ta 0)), (1, .int x1)]) hx hb dX6_personsAboard_28 hl (k := 2) rfl ey4 (by decide) rfl (fun ls hl => ?_)
        refine lv_goto (tgt := 4) hx hb dX6_personsAboard_31 (by decide) ?_
        exact hk4 x1 y4 H locs ls h hP hD hS (lv_sub hl [1, 2, 0] rfl)
      · have h := tx_pos c3 h
        obtain ⟨y5, ey5, h⟩ := tx_lt h
        refine lv_iinc (v := y5) (lv' := [(1, .int y5), (0, .ref (ta 0)), (2, .int x2)]) hx hb dX6_personsAboard_25 hl (k := 1) rfl ey5 (by decide) rfl (fun ls hl => ?_)
        obtain ⟨y6, ey6, h⟩ := tx_lt h
        refine lv_iinc (v := y6) (lv' := [(2, .int y6), (1, .int y5), (0, .ref (ta 0))]) hx hb dX6_personsAboard_28 hl (k := 2) rfl ey6 (by decide) rfl (fun ls hl => ?_)
        refine lv_goto (tgt := 4) hx hb dX6_personsAboard_31 (by decide) ?_
        exact hk4 y5 y6 H locs ls h hP hD hS (lv_sub hl [2, 1, 0] rfl)
set_option maxHeartbeats 4000000 in
set_option maxRecDepth 100000 in
theorem c_X6_personsAboard (l : Launch) (G : va_G) (cA : Nat → ClassId) (sz : Nat) (ta : Nat → Nat) (pa : Nat → Nat) (T : Tr) (P : Tr) (L : Lo)  (r0 : Int32) (h : f_X6_personsAboard T P = some r0) : Met l yX6_personsAboard (.code yX6_personsAboard cX6_personsAboard 3 (some .int) :: T0) ({ frames := 0, cells := 0, slots := 0, locals := 0 } : Room) (tqP G cA [.ref (ta 0)] (wTP cA ta pa T P L) sz) (tqQi G cA (fun (r : Int32) (_ : Unit) => r = r0) (fun (_ : Unit) => wTP cA ta pa T P L) (va_A (wTP cA ta pa T P L) sz)) 0 0 (va_A (wTP cA ta pa T P L) sz) := by
  refine Met.ofW (cc := cX6_personsAboard) (maxL := 3) (ret := (some .int)) (by decide) rfl ?_
  intro p e s m args below meth c s₁ B hml hv
  obtain ⟨rfl, hsz, hP, hK, hD0, hN⟩ := hv
  have hx := B.exec
  have hb := B.bytes
  have hr := B.returns
  have hts := atoms_spec (ws := .code yX6_personsAboard cX6_personsAboard 3 (some .int) :: T0) B.pre
  have hT : ∀ w ∈ T0, w.before _ s = true := fun w h => hts w (List.mem_cons_of_mem _ h)
  have hown : s.vm.findClass RX6 = some m.cls := findClass_of_methodNamed B.named
  have hlocks := B.notSynchronized
  subst hsz
  have hD := hD0.self (sz := s.heap.size)
  generalize hAe : va_A (wTP cA ta pa T P L) s.heap.size = A at hD ⊢
  have hA : ∀ q : Nat, s.heap.size ≤ q → A q := fun q h => by rw [← hAe]; exact Or.inr h
  have hS : va_S A s.heap s.heap [] := va_S.rf
  have hl := lv_entry ([.ref (ta 0)]) (n := 3) (Nat.le_of_ble_eq_true rfl)
  rw [lg_entry_eq]
  generalize (lg_sl ([.ref (ta 0)]) ++ List.replicate (3 - (lg_sl ([.ref (ta 0)])).length) Slot.unset).toArray = ls at hl ⊢
  have hl : lv_has ls 3 [(0, .ref (ta 0))] := hl
  have F : tF p s m ([.ref (ta 0)] : List Value).toArray meth c G cA A RX6 cX6_personsAboard 3 (some .int) := ⟨hx, hb, hr, hml, hT, hown, hlocks, hK, hN, hA⟩
  obtain ⟨H, hH⟩ : ∃ z, z = s.heap := ⟨_, rfl⟩
  rw [← hH] at hP
  have hS : va_S A s.heap H [] := by rw [hH]; exact hS
  suffices hgo : G_X6_personsAboard p l e s m below meth c G cA A ta pa T P L r0 H [] (F0 m 0 ls []) by rw [hH] at hgo; exact hgo
  generalize ([] : List Loc) = locs at hS ⊢
  unfold f_X6_personsAboard at h
  refine lv_iconst (v := 0) hx hb dX6_personsAboard_0 (by decide) ?_
  refine lv_istore_n (lv' := [(1, .int 0), (0, .ref (ta 0))]) hx hb dX6_personsAboard_1 rfl hl (by decide) rfl (fun ls hl => ?_)
  refine lv_iconst (v := 0) hx hb dX6_personsAboard_2 (by decide) ?_
  refine lv_istore_n (lv' := [(2, .int 0), (1, .int 0), (0, .ref (ta 0))]) hx hb dX6_personsAboard_3 rfl hl (by decide) rfl (fun ls hl => ?_)
  exact w_X6_personsAboard_L4 F 2000 0 0 H locs ls h hP hD hS (lv_sub hl [2, 1, 0] rfl)
abbrev G_X6_piecesThatAre (p : Program) (l : Launch) (e : Env) (s : State) (m : MethodId) (below : List Frame) (meth : Method) (c : Code) (G : va_G) (cA : Nat → ClassId) (A : Nat → Prop) (ta : Nat → Nat) (pa : Nat → Nat) (T : Tr) (P : Tr) (L : Lo) (x1 : Int32) (r0 : Int32) (H : Heap) (locs : List Loc) (g : JFrame) : Prop := W p l e (headSpec (.code yX6_piecesThatAre cX6_piecesThatAre 4 (some .int) :: T0) ({ frames := 0, cells := 0, slots := 0, locals := 0 } : Room)).room s m ([.ref (ta 0), .int x1] : List Value).toArray below meth c H locs 0 0 (MQ below (tqQi G cA (fun (r : Int32) (_ : Unit) => r = r0) (fun (_ : Unit) => wTP cA ta pa T P L) A) ([.ref (ta 0), .int x1] : List Value).toArray s 0 0 A) g
set_option maxHeartbeats 4000000 in
set_option maxRecDepth 100000 in
theorem w_X6_piecesThatAre_L4 {p : Program} {l : Launch} {e : Env} {s : State} {m : MethodId} {below : List Frame} {meth : Method} {c : Code} {G : va_G} {cA : Nat → ClassId} {A : Nat → Prop} {ta : Nat → Nat} {pa : Nat → Nat} {T : Tr} {P : Tr} {L : Lo} {x1₀ : Int32} {r0 : Int32} {x1 : Int32} (F : tF p s m ([.ref (ta 0), .int x1₀] : List Value).toArray meth c G cA A RX6 cX6_piecesThatAre 4 (some .int))    (N : Nat) : ∀ (x2 : Int32) (x3 : Int32) (H : Heap) (locs : List Loc) (ls : Array Slot), lpF (fun _ _ => none) (fB_X6_piecesThatAre_L4 T P x1) N x2 x3 = some r0 → va_P G vwCl (wTP cA ta pa T P L) H → va_D A (wTP cA ta pa T P L) → va_S A s.heap H locs → lv_has ls 4 [(0, .ref (ta 0)), (1, .int x1), (2, .int x2), (3, .int x3)] → G_X6_piecesThatAre p l e s m below meth c G cA A ta pa T P L x1₀ r0 H locs (F0 m 4 ls []) := by
  obtain ⟨hx, hb, hr, hml, hT, hown, hlocks, hK, hN, hA⟩ := id F
  induction N with
  | zero =>
    intro x2 x3 H locs ls h
    have h : (none : Option (Int32)) = some r0 := h
    cases h
  | succ N hk4 =>
    intro x2 x3 H locs ls h hP hD hS hl
    have h : fB_X6_piecesThatAre_L4 T P x1 (lpF (fun _ _ => none) (fB_X6_piecesThatAre_L4 T P x1) N) x2 x3 = some r0 := h
    generalize hk4e : lpF (fun _ _ => none) (fB_X6_piecesThatAre_L4 T P x1) N = k4 at h hk4
    unfold fB_X6_piecesThatAre_L4 at h
    refine lv_iload_n hx hb dX6_piecesThatAre_4 rfl (lv_at hl 3 rfl) ?_
    refine lv_aload_n hx hb dX6_piecesThatAre_5 rfl (lv_at hl 0 rfl) ?_
    refine va_get (D := G) (ci := 6) (v := .ref (pa 0)) (C := RX6) (T := TX6) (N := 20) hx hb hT ku_6 hown hK hP 0 rfl rfl 19 (by decide) (hT _ kw_8_1) (fun _ h9 => h9) rfl dX6_piecesThatAre_6 ?_
    refine va_get (D := G) (ci := 2) (v := .int (P 0 2)) (C := RX2) (T := TX2) (N := 19) hx hb hT ku_2 hown hK hP 12 rfl rfl 2 (by decide) (hT _ kw_40_17) (fun _ h9 => h9) rfl dX6_piecesThatAre_9 ?_
    refine lv_icmp_ge (tgt := 34) hx hb dX6_piecesThatAre_12 (by decide) (fun c1 => ?_) (fun c1 => ?_)
    · have h := tx_pos c1 h
      refine lv_iload_n hx hb dX6_piecesThatAre_34 rfl (lv_at hl 2 rfl) ?_
      obtain rfl := tx_1 h
      exact W.iret hx hb hr (fun t ht hW => ⟨⟨_, (), rfl, rfl, by rw [ht]; exact hP, hD⟩, hS.F ht⟩) hS.2.2 dX6_piecesThatAre_35
    · have h := tx_neg c1 h
      refine lv_aload_n hx hb dX6_piecesThatAre_15 rfl (lv_at hl 0 rfl) ?_
      refine va_get (D := G) (ci := 6) (v := .ref (ta 14)) (C := RX6) (T := TX6) (N := 20) hx hb hT ku_6 hown hK hP 0 rfl rfl 13 (by decide) (hT _ kw_7_12) (fun _ h9 => h9) rfl dX6_piecesThatAre_16 ?_
      refine lv_iload_n hx hb dX6_piecesThatAre_19 rfl (lv_at hl 3 rfl) ?_
      obtain ⟨g2, h⟩ := tx_ck h
      refine va_iald (i := x3) hx hb hK hP 6 0 rfl rfl (tx_in g2) dX6_piecesThatAre_20 ?_
      refine lv_iload_n hx hb dX6_piecesThatAre_21 rfl (lv_at hl 1 rfl) ?_
      refine lv_icmp_ne (tgt := 28) hx hb dX6_piecesThatAre_22 (by decide) (fun c3 => ?_) (fun c3 => ?_)
      · have h := tx_neg c3 h
        obtain ⟨y4, ey4, h⟩ := tx_lt h
        refine lv_iinc (v := y4) (lv' := [(3, .int y4), (0, .ref (ta 0)), (1, .int x1), (2, .int x2)]) hx hb dX6_piecesThatAre_28 hl (k := 3) rfl ey4 (by decide) rfl (fun ls hl => ?_)
        refine lv_goto (tgt := 4) hx hb dX6_piecesThatAre_31 (by decide) ?_
        exact hk4 x2 y4 H locs ls h hP hD hS (lv_sub hl [1, 2, 3, 0] rfl)
      · have h := tx_pos c3 h
        obtain ⟨y5, ey5, h⟩ := tx_lt h
        refine lv_iinc (v := y5) (lv' := [(2, .int y5), (0, .ref (ta 0)), (1, .int x1), (3, .int x3)]) hx hb dX6_piecesThatAre_25 hl (k := 2) rfl ey5 (by decide) rfl (fun ls hl => ?_)
        obtain ⟨y6, ey6, h⟩ := tx_lt h
        refine lv_iinc (v := y6) (lv' := [(3, .int y6), (2, .int y5), (0, .ref (ta 0)), (1, .int x1)]) hx hb dX6_piecesThatAre_28 hl (k := 3) rfl ey6 (by decide) rfl (fun ls hl => ?_)
        refine lv_goto (tgt := 4) hx hb dX6_piecesThatAre_31 (by decide) ?_
        exact hk4 y5 y6 H locs ls h hP hD hS (lv_sub hl [2, 3, 1, 0] rfl)
set_option maxHeartbeats 4000000 in
set_option maxRecDepth 100000 in
theorem c_X6_piecesThatAre (l : Launch) (G : va_G) (cA : Nat → ClassId) (sz : Nat) (ta : Nat → Nat) (pa : Nat → Nat) (T : Tr) (P : Tr) (L : Lo) (x1 : Int32)  (r0 : Int32) (h : f_X6_piecesThatAre T P x1 = some r0) : Met l yX6_piecesThatAre (.code yX6_piecesThatAre cX6_piecesThatAre 4 (some .int) :: T0) ({ frames := 0, cells := 0, slots := 0, locals := 0 } : Room) (tqP G cA [.ref (ta 0), .int x1] (wTP cA ta pa T P L) sz) (tqQi G cA (fun (r : Int32) (_ : Unit) => r = r0) (fun (_ : Unit) => wTP cA ta pa T P L) (va_A (wTP cA ta pa T P L) sz)) 0 0 (va_A (wTP cA ta pa T P L) sz) := by
  refine Met.ofW (cc := cX6_piecesThatAre) (maxL := 4) (ret := (some .int)) (by decide) rfl ?_
  intro p e s m args below meth c s₁ B hml hv
  obtain ⟨rfl, hsz, hP, hK, hD0, hN⟩ := hv
  have hx := B.exec
  have hb := B.bytes
  have hr := B.returns
  have hts := atoms_spec (ws := .code yX6_piecesThatAre cX6_piecesThatAre 4 (some .int) :: T0) B.pre
  have hT : ∀ w ∈ T0, w.before _ s = true := fun w h => hts w (List.mem_cons_of_mem _ h)
  have hown : s.vm.findClass RX6 = some m.cls := findClass_of_methodNamed B.named
  have hlocks := B.notSynchronized
  subst hsz
  have hD := hD0.self (sz := s.heap.size)
  generalize hAe : va_A (wTP cA ta pa T P L) s.heap.size = A at hD ⊢
  have hA : ∀ q : Nat, s.heap.size ≤ q → A q := fun q h => by rw [← hAe]; exact Or.inr h
  have hS : va_S A s.heap s.heap [] := va_S.rf
  have hl := lv_entry ([.ref (ta 0), .int x1]) (n := 4) (Nat.le_of_ble_eq_true rfl)
  rw [lg_entry_eq]
  generalize (lg_sl ([.ref (ta 0), .int x1]) ++ List.replicate (4 - (lg_sl ([.ref (ta 0), .int x1])).length) Slot.unset).toArray = ls at hl ⊢
  have hl : lv_has ls 4 [(0, .ref (ta 0)), (1, .int x1)] := hl
  have F : tF p s m ([.ref (ta 0), .int x1] : List Value).toArray meth c G cA A RX6 cX6_piecesThatAre 4 (some .int) := ⟨hx, hb, hr, hml, hT, hown, hlocks, hK, hN, hA⟩
  obtain ⟨H, hH⟩ : ∃ z, z = s.heap := ⟨_, rfl⟩
  rw [← hH] at hP
  have hS : va_S A s.heap H [] := by rw [hH]; exact hS
  suffices hgo : G_X6_piecesThatAre p l e s m below meth c G cA A ta pa T P L x1 r0 H [] (F0 m 0 ls []) by rw [hH] at hgo; exact hgo
  generalize ([] : List Loc) = locs at hS ⊢
  unfold f_X6_piecesThatAre at h
  refine lv_iconst (v := 0) hx hb dX6_piecesThatAre_0 (by decide) ?_
  refine lv_istore_n (lv' := [(2, .int 0), (0, .ref (ta 0)), (1, .int x1)]) hx hb dX6_piecesThatAre_1 rfl hl (by decide) rfl (fun ls hl => ?_)
  refine lv_iconst (v := 0) hx hb dX6_piecesThatAre_2 (by decide) ?_
  refine lv_istore_n (lv' := [(3, .int 0), (2, .int 0), (0, .ref (ta 0)), (1, .int x1)]) hx hb dX6_piecesThatAre_3 rfl hl (by decide) rfl (fun ls hl => ?_)
  exact w_X6_piecesThatAre_L4 F 2000 0 0 H locs ls h hP hD hS (lv_sub hl [2, 3, 1, 0] rfl)
abbrev G_X6_runToEnd (p : Program) (l : Launch) (e : Env) (s : State) (m : MethodId) (below : List Frame) (meth : Method) (c : Code) (G : va_G) (cA : Nat → ClassId) (A : Nat → Prop) (ta : Nat → Nat) (pa : Nat → Nat) (P : Tr) (T' : Tr) (L' : Lo) (H : Heap) (locs : List Loc) (g : JFrame) : Prop := W p l e (headSpec (.code yX6_runToEnd cX6_runToEnd 1 none :: T0) ({ frames := 5, cells := 0, slots := 0, locals := 133 } : Room)).room s m ([.ref (ta 0)] : List Value).toArray below meth c H locs 0 0 (MQ below (tqQv G cA (fun (_ : Unit) => True) (fun (_ : Unit) => wTP cA ta pa (T') P (L')) A) ([.ref (ta 0)] : List Value).toArray s 0 0 A) g
set_option maxHeartbeats 4000000 in
set_option maxRecDepth 100000 in
theorem w_X6_runToEnd_L0 {p : Program} {l : Launch} {e : Env} {s : State} {m : MethodId} {below : List Frame} {meth : Method} {c : Code} {G : va_G} {cA : Nat → ClassId} {A : Nat → Prop} {ta : Nat → Nat} {pa : Nat → Nat} {P : Tr} {T' : Tr} {L' : Lo} (F : tF p s m ([.ref (ta 0)] : List Value).toArray meth c G cA A RX6 cX6_runToEnd 1 none)    (N : Nat) : ∀ (T : Tr) (L : Lo) (H : Heap) (locs : List Loc) (ls : Array Slot), lpF (fun _ _ => none) (fB_X6_runToEnd_L0 P) N T L = some (T', L') → va_P G vwCl (wTP cA ta pa T P L) H → va_D A (wTP cA ta pa T P L) → va_S A s.heap H locs → lv_has ls 1 [(0, .ref (ta 0))] → G_X6_runToEnd p l e s m below meth c G cA A ta pa P T' L' H locs (F0 m 0 ls []) := by
  obtain ⟨hx, hb, hr, hml, hT, hown, hlocks, hK, hN, hA⟩ := id F
  induction N with
  | zero =>
    intro T L H locs ls h
    have h : (none : Option (Tr × Lo)) = some (T', L') := h
    cases h
  | succ N hk0 =>
    intro T L H locs ls h hP hD hS hl
    have h : fB_X6_runToEnd_L0 P (lpF (fun _ _ => none) (fB_X6_runToEnd_L0 P) N) T L = some (T', L') := h
    generalize hk0e : lpF (fun _ _ => none) (fB_X6_runToEnd_L0 P) N = k0 at h hk0
    unfold fB_X6_runToEnd_L0 at h
    refine lv_aload_n hx hb dX6_runToEnd_0 rfl (lv_at hl 0 rfl) ?_
    refine va_get (D := G) (ci := 6) (v := .int (T 0 0)) (C := RX6) (T := TX6) (N := 20) hx hb hT ku_6 hown hK hP 0 rfl rfl 0 (by decide) (hT _ kw_8_2) (fun _ h9 => h9) rfl dX6_runToEnd_1 ?_
    refine lv_bipush (v := 20) hx hb dX6_runToEnd_4 (by decide) ?_
    refine lv_icmp_gt (tgt := 59) hx hb dX6_runToEnd_6 (by decide) (fun c1 => ?_) (fun c1 => ?_)
    · have h := tx_pos c1 h
      obtain ⟨rfl, rfl⟩ := tx_2 h
      exact W.vret hx hb hr (fun t ht hW => ⟨⟨(), rfl, trivial, by rw [ht]; exact hP, hD⟩, hS.F ht⟩) hS.2.2 dX6_runToEnd_59
    · have h := tx_neg c1 h
      refine lv_aload_n hx hb dX6_runToEnd_9 rfl (lv_at hl 0 rfl) ?_
      obtain ⟨r2, hc3, h⟩ := tx_bd h
      refine tw_ci tw_all hP hD hS hA (va_runV (As := []) (rest := []) ⟨hx, hb, hml, hown, hT⟩ (c_X6_isBusy l G cA H.size ta pa T P L  r2 hc3) (cwV 0 hT (tq_gV kw_47_14 kw_47_15 kw_47_16 kw_1_23 kw_47_17) rfl rfl rfl (by decide +kernel) ⟨Nat.le_of_ble_eq_true rfl, Nat.le_of_ble_eq_true rfl⟩) ⟨(tw_pre tw_all hP hD hK hN).1, va_recv hK hP (ci := 6) (q0 := 0) rfl rfl, (tw_pre tw_all hP hD hK hN).2⟩ rfl rfl hl.1 rfl (lv_room (Nat.le_of_ble_eq_true rfl)) dX6_runToEnd_10 ⟨Nat.le_of_ble_eq_true rfl, Nat.le_of_ble_eq_true rfl⟩) (fun _ _ H locs z4 hP hD hS => ?_)
      subst z4
      rw [List.append_nil] at hP hD
      have hP : va_P G vwCl (wTP cA ta pa T P L) H := hP
      have hD : va_D A (wTP cA ta pa T P L) := hD
      refine lv_if_eq (tgt := 59) hx hb dX6_runToEnd_13 (by decide) (fun c5 => ?_) (fun c5 => ?_)
      · have h := tx_pos c5 h
        obtain ⟨rfl, rfl⟩ := tx_2 h
        exact W.vret hx hb hr (fun t ht hW => ⟨⟨(), rfl, trivial, by rw [ht]; exact hP, hD⟩, hS.F ht⟩) hS.2.2 dX6_runToEnd_59
      · have h := tx_neg c5 h
        refine lv_aload_n hx hb dX6_runToEnd_16 rfl (lv_at hl 0 rfl) ?_
        refine lv_aload_n hx hb dX6_runToEnd_17 rfl (lv_at hl 0 rfl) ?_
        refine va_get (D := G) (ci := 6) (v := .ref (pa 0)) (C := RX6) (T := TX6) (N := 20) hx hb hT ku_6 hown hK hP 0 rfl rfl 19 (by decide) (hT _ kw_8_1) (fun _ h9 => h9) rfl dX6_runToEnd_18 ?_
        refine va_get (D := G) (ci := 2) (v := .ref (pa 18)) (C := RX2) (T := TX2) (N := 19) hx hb hT ku_2 hown hK hP 12 rfl rfl 17 (by decide) (hT _ kw_40_11) (fun _ h9 => h9) rfl dX6_runToEnd_21 ?_
        refine lv_aload_n hx hb dX6_runToEnd_24 rfl (lv_at hl 0 rfl) ?_
        refine va_get (D := G) (ci := 6) (v := .int (T 0 0)) (C := RX6) (T := TX6) (N := 20) hx hb hT ku_6 hown hK hP 0 rfl rfl 0 (by decide) (hT _ kw_8_2) (fun _ h9 => h9) rfl dX6_runToEnd_25 ?_
        obtain ⟨g6, h⟩ := tx_ck h
        refine va_iald (i := (T 0 0)) hx hb hK hP 23 0 rfl rfl (tx_in g6) dX6_runToEnd_28 ?_
        obtain ⟨⟨r7, T_8, L_9⟩, hc10, h⟩ := tx_bd h
        replace h := tx_let (y := r7) rfl h
        replace h := tx_let (y := T_8) rfl h
        replace h := tx_let (y := L_9) rfl h
        refine tw_ci tw_all hP hD hS hA (va_runV (As := [.int (P 18 (T 0 0).toNatClampNeg)]) (rest := []) ⟨hx, hb, hml, hown, hT⟩ (c_X6_takeDown l G cA H.size ta pa T P L (P 18 (T 0 0).toNatClampNeg)  r7 T_8 L_9 hc10) (cwV 1 hT (tq_gV kw_40_12 kw_40_13 kw_40_14 kw_1_23 kw_40_15) rfl rfl rfl (by decide +kernel) ⟨Nat.le_of_ble_eq_true rfl, Nat.le_of_ble_eq_true rfl⟩) ⟨(tw_pre tw_all hP hD hK hN).1, va_recv hK hP (ci := 6) (q0 := 0) rfl rfl, (tw_pre tw_all hP hD hK hN).2⟩ rfl rfl hl.1 rfl (lv_room (Nat.le_of_ble_eq_true rfl)) dX6_runToEnd_29 ⟨Nat.le_of_ble_eq_true rfl, Nat.le_of_ble_eq_true rfl⟩) (fun _ _ H locs z11 hP hD hS => ?_)
        subst z11
        rw [List.append_nil] at hP hD
        have hP : va_P G vwCl (wTP cA ta pa T_8 P L_9) H := hP
        have hD : va_D A (wTP cA ta pa T_8 P L_9) := hD
        refine lv_pop hx hb dX6_runToEnd_32 rfl ?_
        refine lv_aload_n hx hb dX6_runToEnd_33 rfl (lv_at hl 0 rfl) ?_
        obtain ⟨T_12, hc13, h⟩ := tx_bd h
        refine tw_cv tw_all hP hD hS hA (va_runV (As := []) (rest := []) ⟨hx, hb, hml, hown, hT⟩ (c_X6_getIn l G cA H.size ta pa T_8 P L_9  T_12 hc13) (cwV 0 hT (tq_gV kw_41_12 kw_41_13 kw_41_14 kw_1_23 kw_41_15) rfl rfl rfl (by decide +kernel) ⟨Nat.le_of_ble_eq_true rfl, Nat.le_of_ble_eq_true rfl⟩) ⟨(tw_pre tw_all hP hD hK hN).1, va_recv hK hP (ci := 6) (q0 := 0) rfl rfl, (tw_pre tw_all hP hD hK hN).2⟩ rfl rfl hl.1 rfl (lv_room (Nat.le_of_ble_eq_true rfl)) dX6_runToEnd_34 ⟨Nat.le_of_ble_eq_true rfl, Nat.le_of_ble_eq_true rfl⟩) (fun _ H locs z14 hP hD hS => ?_)
        rw [List.append_nil] at hP hD
        have hP : va_P G vwCl (wTP cA ta pa T_12 P L_9) H := hP
        have hD : va_D A (wTP cA ta pa T_12 P L_9) := hD
        refine lv_aload_n hx hb dX6_runToEnd_37 rfl (lv_at hl 0 rfl) ?_
        obtain ⟨⟨r15, T_16, L_17⟩, hc18, h⟩ := tx_bd h
        replace h := tx_let (y := r15) rfl h
        replace h := tx_let (y := T_16) rfl h
        replace h := tx_let (y := L_17) rfl h
        refine tw_ci tw_all hP hD hS hA (va_runV (As := []) (rest := []) ⟨hx, hb, hml, hown, hT⟩ (c_X6_fallOff l G cA H.size ta pa T_12 P L_9  r15 T_16 L_17 hc18) (cwV 0 hT (tq_gV kw_42_7 kw_42_8 kw_42_9 kw_1_23 kw_42_10) rfl rfl rfl (by decide +kernel) ⟨Nat.le_of_ble_eq_true rfl, Nat.le_of_ble_eq_true rfl⟩) ⟨(tw_pre tw_all hP hD hK hN).1, va_recv hK hP (ci := 6) (q0 := 0) rfl rfl, (tw_pre tw_all hP hD hK hN).2⟩ rfl rfl hl.1 rfl (lv_room (Nat.le_of_ble_eq_true rfl)) dX6_runToEnd_38 ⟨Nat.le_of_ble_eq_true rfl, Nat.le_of_ble_eq_true rfl⟩) (fun _ _ H locs z19 hP hD hS => ?_)
        subst z19
        rw [List.append_nil] at hP hD
        have hP : va_P G vwCl (wTP cA ta pa T_16 P L_17) H := hP
        have hD : va_D A (wTP cA ta pa T_16 P L_17) := hD
        refine lv_pop hx hb dX6_runToEnd_41 rfl ?_
        refine lv_aload_n hx hb dX6_runToEnd_42 rfl (lv_at hl 0 rfl) ?_
        obtain ⟨⟨T_20, L_21⟩, hc22, h⟩ := tx_bd h
        replace h := tx_let (y := T_20) rfl h
        replace h := tx_let (y := L_21) rfl h
        refine tw_cv tw_all hP hD hS hA (va_runV (As := []) (rest := []) ⟨hx, hb, hml, hown, hT⟩ (c_X6_stealAway l G cA H.size ta pa T_16 P L_17  T_20 L_21 hc22) (cwV 0 hT (tq_gV kw_43_2 kw_43_3 kw_43_4 kw_1_23 kw_43_5) rfl rfl rfl (by decide +kernel) ⟨Nat.le_of_ble_eq_true rfl, Nat.le_of_ble_eq_true rfl⟩) ⟨(tw_pre tw_all hP hD hK hN).1, va_recv hK hP (ci := 6) (q0 := 0) rfl rfl, (tw_pre tw_all hP hD hK hN).2⟩ rfl rfl hl.1 rfl (lv_room (Nat.le_of_ble_eq_true rfl)) dX6_runToEnd_43 ⟨Nat.le_of_ble_eq_true rfl, Nat.le_of_ble_eq_true rfl⟩) (fun _ H locs z23 hP hD hS => ?_)
        rw [List.append_nil] at hP hD
        have hP : va_P G vwCl (wTP cA ta pa T_20 P L_21) H := hP
        have hD : va_D A (wTP cA ta pa T_20 P L_21) := hD
        refine lv_aload_n hx hb dX6_runToEnd_46 rfl (lv_at hl 0 rfl) ?_
        refine lv_dup hx hb dX6_runToEnd_47 rfl ?_
        refine va_get (D := G) (ci := 6) (v := .int (T_20 0 0)) (C := RX6) (T := TX6) (N := 20) hx hb hT ku_6 hown hK hP 0 rfl rfl 0 (by decide) (hT _ kw_8_2) (fun _ h9 => h9) rfl dX6_runToEnd_48 ?_
        refine lv_iconst (v := 1) hx hb dX6_runToEnd_51 (by decide) ?_
        refine lv_iadd hx hb dX6_runToEnd_52 ?_
        refine va_put (D := G) (ci := 6) (v := .int ((T_20 0 0) + 1)) (ty := .int) (C := RX6) (T := TX6) (N := 20) hx hb hT ku_6 tyX6 tyX6_ok nmX6 hown hK hP hD hS 0 rfl rfl 0 (by decide) (hT _ kw_8_2) (fun _ h9 => h9) rfl (by decide +kernel) rfl rfl (Nat.le_of_ble_eq_true rfl) dX6_runToEnd_53 (fun H locs hP hD hS => ?_)
        obtain ⟨T_24, eT_24, h⟩ := tx_lt h
        rw [sTP_ta_f0, eT_24] at hP hD
        refine lv_goto (tgt := 0) hx hb dX6_runToEnd_56 (by decide) ?_
        exact hk0 T_24 L_21 H locs ls h hP hD hS (lv_sub hl [0] rfl)
set_option maxHeartbeats 4000000 in
set_option maxRecDepth 100000 in
theorem c_X6_runToEnd (l : Launch) (G : va_G) (cA : Nat → ClassId) (sz : Nat) (ta : Nat → Nat) (pa : Nat → Nat) (T : Tr) (P : Tr) (L : Lo)  (T' : Tr) (L' : Lo) (h : f_X6_runToEnd T P L = some (T', L')) : Met l yX6_runToEnd (.code yX6_runToEnd cX6_runToEnd 1 none :: T0) ({ frames := 5, cells := 0, slots := 0, locals := 133 } : Room) (tqP G cA [.ref (ta 0)] (wTP cA ta pa T P L) sz) (tqQv G cA (fun (_ : Unit) => True) (fun (_ : Unit) => wTP cA ta pa (T') P (L')) (va_A (wTP cA ta pa T P L) sz)) 0 0 (va_A (wTP cA ta pa T P L) sz) := by
  refine Met.ofW (cc := cX6_runToEnd) (maxL := 1) (ret := none) (by decide) rfl ?_
  intro p e s m args below meth c s₁ B hml hv
  obtain ⟨rfl, hsz, hP, hK, hD0, hN⟩ := hv
  have hx := B.exec
  have hb := B.bytes
  have hr := B.returns
  have hts := atoms_spec (ws := .code yX6_runToEnd cX6_runToEnd 1 none :: T0) B.pre
  have hT : ∀ w ∈ T0, w.before _ s = true := fun w h => hts w (List.mem_cons_of_mem _ h)
  have hown : s.vm.findClass RX6 = some m.cls := findClass_of_methodNamed B.named
  have hlocks := B.notSynchronized
  subst hsz
  have hD := hD0.self (sz := s.heap.size)
  generalize hAe : va_A (wTP cA ta pa T P L) s.heap.size = A at hD ⊢
  have hA : ∀ q : Nat, s.heap.size ≤ q → A q := fun q h => by rw [← hAe]; exact Or.inr h
  have hS : va_S A s.heap s.heap [] := va_S.rf
  have hl := lv_entry ([.ref (ta 0)]) (n := 1) (Nat.le_of_ble_eq_true rfl)
  rw [lg_entry_eq]
  generalize (lg_sl ([.ref (ta 0)]) ++ List.replicate (1 - (lg_sl ([.ref (ta 0)])).length) Slot.unset).toArray = ls at hl ⊢
  have hl : lv_has ls 1 [(0, .ref (ta 0))] := hl
  have F : tF p s m ([.ref (ta 0)] : List Value).toArray meth c G cA A RX6 cX6_runToEnd 1 none := ⟨hx, hb, hr, hml, hT, hown, hlocks, hK, hN, hA⟩
  obtain ⟨H, hH⟩ : ∃ z, z = s.heap := ⟨_, rfl⟩
  rw [← hH] at hP
  have hS : va_S A s.heap H [] := by rw [hH]; exact hS
  suffices hgo : G_X6_runToEnd p l e s m below meth c G cA A ta pa P T' L' H [] (F0 m 0 ls []) by rw [hH] at hgo; exact hgo
  generalize ([] : List Loc) = locs at hS ⊢
  unfold f_X6_runToEnd at h
  exact w_X6_runToEnd_L0 F 2000 T L H locs ls h hP hD hS (lv_sub hl [0] rfl)
abbrev G_X6_sendAway (p : Program) (l : Launch) (e : Env) (s : State) (m : MethodId) (below : List Frame) (meth : Method) (c : Code) (G : va_G) (cA : Nat → ClassId) (A : Nat → Prop) (ta : Nat → Nat) (pa : Nat → Nat) (P : Tr) (L : Lo) (x1 : Int32) (T' : Tr) (H : Heap) (locs : List Loc) (g : JFrame) : Prop := W p l e (headSpec (.code yX6_sendAway cX6_sendAway 2 none :: T0) ({ frames := 3, cells := 0, slots := 0, locals := 71 } : Room)).room s m ([.ref (ta 0), .int x1] : List Value).toArray below meth c H locs 0 0 (MQ below (tqQv G cA (fun (_ : Unit) => True) (fun (_ : Unit) => wTP cA ta pa (T') P L) A) ([.ref (ta 0), .int x1] : List Value).toArray s 0 0 A) g
set_option maxHeartbeats 4000000 in
set_option maxRecDepth 100000 in
theorem w_X6_sendAway_J16 {p : Program} {l : Launch} {e : Env} {s : State} {m : MethodId} {below : List Frame} {meth : Method} {c : Code} {G : va_G} {cA : Nat → ClassId} {A : Nat → Prop} {ta : Nat → Nat} {pa : Nat → Nat} {P : Tr} {L : Lo} {x1₀ : Int32} {T' : Tr} (F : tF p s m ([.ref (ta 0), .int x1₀] : List Value).toArray meth c G cA A RX6 cX6_sendAway 2 none)    (x1 : Int32) (T : Tr) (H : Heap) (locs : List Loc) (ls : Array Slot) (h : fJ_X6_sendAway_J16 P x1 T = some T') (hP : va_P G vwCl (wTP cA ta pa T_4 P L) H) (hD : va_D A (wTP cA ta pa T_4 P L)) (hS : va_S A s.heap H locs) (hl : lv_has ls 2 [(0, .ref (ta 0)), (1, .int x1)]) : G_X6_sendAway p l e s m below meth c G cA A ta pa P L x1₀ T' H locs (F0 m 16 ls []) := by
  obtain ⟨hx, hb, hr, hml, hT, hown, hlocks, hK, hN, hA⟩ := id F
  unfold fJ_X6_sendAway_J16 at h
  refine lv_aload_n hx hb dX6_sendAway_16 rfl (lv_at hl 0 rfl) ?_
  refine va_get (D := G) (ci := 6) (v := .ref (ta 11)) (C := RX6) (T := TX6) (N := 20) hx hb hT ku_6 hown hK hP 0 rfl rfl 10 (by decide) (hT _ kw_7_9) (fun _ h9 => h9) rfl dX6_sendAway_17 ?_
  refine lv_iload_n hx hb dX6_sendAway_20 rfl (lv_at hl 1 rfl) ?_
  refine lv_iconst (v := 2) hx hb dX6_sendAway_21 (by decide) ?_
  obtain ⟨g3, h⟩ := tx_ck h
  refine va_iast (i := x1) hx hb hK hP hD hS 3 0 rfl rfl (tx_in g3) dX6_sendAway_22 (fun H locs hP hD hS => ?_)
  obtain ⟨T_4, eT_4, h⟩ := tx_lt h
  rw [sTP_ta_a10, eT_4] at hP hD
  obtain rfl := tx_1 h
  exact W.vret hx hb hr (fun t ht hW => ⟨⟨(), rfl, trivial, by rw [ht]; exact hP, hD⟩, hS.F ht⟩) hS.2.2 dX6_sendAway_23
set_option maxHeartbeats 4000000 in
set_option maxRecDepth 100000 in
theorem c_X6_sendAway (l : Launch) (G : va_G) (cA : Nat → ClassId) (sz : Nat) (ta : Nat → Nat) (pa : Nat → Nat) (T : Tr) (P : Tr) (L : Lo) (x1 : Int32)  (T' : Tr) (h : f_X6_sendAway T P x1 = some T') : Met l yX6_sendAway (.code yX6_sendAway cX6_sendAway 2 none :: T0) ({ frames := 3, cells := 0, slots := 0, locals := 71 } : Room) (tqP G cA [.ref (ta 0), .int x1] (wTP cA ta pa T P L) sz) (tqQv G cA (fun (_ : Unit) => True) (fun (_ : Unit) => wTP cA ta pa (T') P L) (va_A (wTP cA ta pa T P L) sz)) 0 0 (va_A (wTP cA ta pa T P L) sz) := by
  refine Met.ofW (cc := cX6_sendAway) (maxL := 2) (ret := none) (by decide) rfl ?_
  intro p e s m args below meth c s₁ B hml hv
  obtain ⟨rfl, hsz, hP, hK, hD0, hN⟩ := hv
  have hx := B.exec
  have hb := B.bytes
  have hr := B.returns
  have hts := atoms_spec (ws := .code yX6_sendAway cX6_sendAway 2 none :: T0) B.pre
  have hT : ∀ w ∈ T0, w.before _ s = true := fun w h => hts w (List.mem_cons_of_mem _ h)
  have hown : s.vm.findClass RX6 = some m.cls := findClass_of_methodNamed B.named
  have hlocks := B.notSynchronized
  subst hsz
  have hD := hD0.self (sz := s.heap.size)
  generalize hAe : va_A (wTP cA ta pa T P L) s.heap.size = A at hD ⊢
  have hA : ∀ q : Nat, s.heap.size ≤ q → A q := fun q h => by rw [← hAe]; exact Or.inr h
  have hS : va_S A s.heap s.heap [] := va_S.rf
  have hl := lv_entry ([.ref (ta 0), .int x1]) (n := 2) (Nat.le_of_ble_eq_true rfl)
  rw [lg_entry_eq]
  generalize (lg_sl ([.ref (ta 0), .int x1]) ++ List.replicate (2 - (lg_sl ([.ref (ta 0), .int x1])).length) Slot.unset).toArray = ls at hl ⊢
  have hl : lv_has ls 2 [(0, .ref (ta 0)), (1, .int x1)] := hl
  have F : tF p s m ([.ref (ta 0), .int x1] : List Value).toArray meth c G cA A RX6 cX6_sendAway 2 none := ⟨hx, hb, hr, hml, hT, hown, hlocks, hK, hN, hA⟩
  obtain ⟨H, hH⟩ : ∃ z, z = s.heap := ⟨_, rfl⟩
  rw [← hH] at hP
  have hS : va_S A s.heap H [] := by rw [hH]; exact hS
  suffices hgo : G_X6_sendAway p l e s m below meth c G cA A ta pa P L x1 T' H [] (F0 m 0 ls []) by rw [hH] at hgo; exact hgo
  generalize ([] : List Loc) = locs at hS ⊢
  unfold f_X6_sendAway at h
  refine lv_aload_n hx hb dX6_sendAway_0 rfl (lv_at hl 0 rfl) ?_
  refine va_get (D := G) (ci := 6) (v := .ref (ta 11)) (C := RX6) (T := TX6) (N := 20) hx hb hT ku_6 hown hK hP 0 rfl rfl 10 (by decide) (hT _ kw_7_9) (fun _ h9 => h9) rfl dX6_sendAway_1 ?_
  refine lv_iload_n hx hb dX6_sendAway_4 rfl (lv_at hl 1 rfl) ?_
  obtain ⟨g1, h⟩ := tx_ck h
  refine va_iald (i := x1) hx hb hK hP 3 0 rfl rfl (tx_in g1) dX6_sendAway_5 ?_
  refine lv_iconst (v := 1) hx hb dX6_sendAway_6 (by decide) ?_
  refine lv_icmp_ne (tgt := 16) hx hb dX6_sendAway_7 (by decide) (fun c2 => ?_) (fun c2 => ?_)
  · have h := tx_neg c2 h
    exact w_X6_sendAway_J16 F x1 T H locs ls h hP hD hS (lv_sub hl [0, 1] rfl)
  · have h := tx_pos c2 h
    refine lv_aload_n hx hb dX6_sendAway_10 rfl (lv_at hl 0 rfl) ?_
    refine lv_iload_n hx hb dX6_sendAway_11 rfl (lv_at hl 1 rfl) ?_
    refine lv_iconst (v := 2) hx hb dX6_sendAway_12 (by decide) ?_
    obtain ⟨T_5, hc6, h⟩ := tx_bd h
    refine tw_cv tw_all hP hD hS hA (va_runV (As := [.int x1, .int 2]) (rest := []) ⟨hx, hb, hml, hown, hT⟩ (c_X6_setFree l G cA H.size ta pa T P L x1 (2 : Int32)  T_5 hc6) (cwV 2 hT (tq_gV kw_41_4 kw_41_5 kw_41_6 kw_1_23 kw_41_7) rfl rfl rfl (by decide +kernel) ⟨Nat.le_of_ble_eq_true rfl, Nat.le_of_ble_eq_true rfl⟩) ⟨(tw_pre tw_all hP hD hK hN).1, va_recv hK hP (ci := 6) (q0 := 0) rfl rfl, (tw_pre tw_all hP hD hK hN).2⟩ rfl rfl hl.1 rfl (lv_room (Nat.le_of_ble_eq_true rfl)) dX6_sendAway_13 ⟨Nat.le_of_ble_eq_true rfl, Nat.le_of_ble_eq_true rfl⟩) (fun _ H locs z7 hP hD hS => ?_)
    rw [List.append_nil] at hP hD
    have hP : va_P G vwCl (wTP cA ta pa T_5 P L) H := hP
    have hD : va_D A (wTP cA ta pa T_5 P L) := hD
    exact w_X6_sendAway_J16 F x1 T_5 H locs ls h hP hD hS (lv_sub hl [0, 1] rfl)
abbrev G_X6_strengthenAll (p : Program) (l : Launch) (e : Env) (s : State) (m : MethodId) (below : List Frame) (meth : Method) (c : Code) (G : va_G) (cA : Nat → ClassId) (A : Nat → Prop) (ta : Nat → Nat) (pa : Nat → Nat) (P : Tr) (L : Lo) (T' : Tr) (H : Heap) (locs : List Loc) (g : JFrame) : Prop := W p l e (headSpec (.code yX6_strengthenAll cX6_strengthenAll 2 none :: T0) ({ frames := 0, cells := 0, slots := 0, locals := 0 } : Room)).room s m ([.ref (ta 0)] : List Value).toArray below meth c H locs 0 0 (MQ below (tqQv G cA (fun (_ : Unit) => True) (fun (_ : Unit) => wTP cA ta pa (T') P L) A) ([.ref (ta 0)] : List Value).toArray s 0 0 A) g
set_option maxHeartbeats 4000000 in
set_option maxRecDepth 100000 in
theorem w_X6_strengthenAll_L2 {p : Program} {l : Launch} {e : Env} {s : State} {m : MethodId} {below : List Frame} {meth : Method} {c : Code} {G : va_G} {cA : Nat → ClassId} {A : Nat → Prop} {ta : Nat → Nat} {pa : Nat → Nat} {P : Tr} {L : Lo} {T' : Tr} (F : tF p s m ([.ref (ta 0)] : List Value).toArray meth c G cA A RX6 cX6_strengthenAll 2 none)    (N : Nat) : ∀ (x1 : Int32) (T : Tr) (H : Heap) (locs : List Loc) (ls : Array Slot), lpF (fun _ _ => none) (fB_X6_strengthenAll_L2 ) N x1 T = some T' → va_P G vwCl (wTP cA ta pa T P L) H → va_D A (wTP cA ta pa T P L) → va_S A s.heap H locs → lv_has ls 2 [(0, .ref (ta 0)), (1, .int x1)] → G_X6_strengthenAll p l e s m below meth c G cA A ta pa P L T' H locs (F0 m 2 ls []) := by
  obtain ⟨hx, hb, hr, hml, hT, hown, hlocks, hK, hN, hA⟩ := id F
  induction N with
  | zero =>
    intro x1 T H locs ls h
    have h : (none : Option (Tr)) = some T' := h
    cases h
  | succ N hk2 =>
    intro x1 T H locs ls h hP hD hS hl
    have h : fB_X6_strengthenAll_L2  (lpF (fun _ _ => none) (fB_X6_strengthenAll_L2 ) N) x1 T = some T' := h
    generalize hk2e : lpF (fun _ _ => none) (fB_X6_strengthenAll_L2 ) N = k2 at h hk2
    unfold fB_X6_strengthenAll_L2 at h
    refine lv_iload_n hx hb dX6_strengthenAll_2 rfl (lv_at hl 1 rfl) ?_
    refine lv_bipush (v := 6) hx hb dX6_strengthenAll_3 (by decide) ?_
    refine lv_icmp_ge (tgt := 22) hx hb dX6_strengthenAll_5 (by decide) (fun c1 => ?_) (fun c1 => ?_)
    · have h := tx_pos c1 h
      obtain rfl := tx_1 h
      exact W.vret hx hb hr (fun t ht hW => ⟨⟨(), rfl, trivial, by rw [ht]; exact hP, hD⟩, hS.F ht⟩) hS.2.2 dX6_strengthenAll_22
    · have h := tx_neg c1 h
      refine lv_aload_n hx hb dX6_strengthenAll_8 rfl (lv_at hl 0 rfl) ?_
      refine va_get (D := G) (ci := 6) (v := .ref (ta 10)) (C := RX6) (T := TX6) (N := 20) hx hb hT ku_6 hown hK hP 0 rfl rfl 9 (by decide) (hT _ kw_7_8) (fun _ h9 => h9) rfl dX6_strengthenAll_9 ?_
      refine lv_iload_n hx hb dX6_strengthenAll_12 rfl (lv_at hl 1 rfl) ?_
      refine lv_bipush (v := 99) hx hb dX6_strengthenAll_13 (by decide) ?_
      obtain ⟨g2, h⟩ := tx_ck h
      refine va_iast (i := x1) hx hb hK hP hD hS 2 0 rfl rfl (tx_in g2) dX6_strengthenAll_15 (fun H locs hP hD hS => ?_)
      obtain ⟨T_3, eT_3, h⟩ := tx_lt h
      rw [sTP_ta_a9, eT_3] at hP hD
      obtain ⟨y4, ey4, h⟩ := tx_lt h
      refine lv_iinc (v := y4) (lv' := [(1, .int y4), (0, .ref (ta 0))]) hx hb dX6_strengthenAll_16 hl (k := 1) rfl ey4 (by decide) rfl (fun ls hl => ?_)
      refine lv_goto (tgt := 2) hx hb dX6_strengthenAll_19 (by decide) ?_
      exact hk2 y4 T_3 H locs ls h hP hD hS (lv_sub hl [1, 0] rfl)
set_option maxHeartbeats 4000000 in
set_option maxRecDepth 100000 in
theorem c_X6_strengthenAll (l : Launch) (G : va_G) (cA : Nat → ClassId) (sz : Nat) (ta : Nat → Nat) (pa : Nat → Nat) (T : Tr) (P : Tr) (L : Lo)  (T' : Tr) (h : f_X6_strengthenAll T = some T') : Met l yX6_strengthenAll (.code yX6_strengthenAll cX6_strengthenAll 2 none :: T0) ({ frames := 0, cells := 0, slots := 0, locals := 0 } : Room) (tqP G cA [.ref (ta 0)] (wTP cA ta pa T P L) sz) (tqQv G cA (fun (_ : Unit) => True) (fun (_ : Unit) => wTP cA ta pa (T') P L) (va_A (wTP cA ta pa T P L) sz)) 0 0 (va_A (wTP cA ta pa T P L) sz) := by
  refine Met.ofW (cc := cX6_strengthenAll) (maxL := 2) (ret := none) (by decide) rfl ?_
  intro p e s m args below meth c s₁ B hml hv
  obtain ⟨rfl, hsz, hP, hK, hD0, hN⟩ := hv
  have hx := B.exec
  have hb := B.bytes
  have hr := B.returns
  have hts := atoms_spec (ws := .code yX6_strengthenAll cX6_strengthenAll 2 none :: T0) B.pre
  have hT : ∀ w ∈ T0, w.before _ s = true := fun w h => hts w (List.mem_cons_of_mem _ h)
  have hown : s.vm.findClass RX6 = some m.cls := findClass_of_methodNamed B.named
  have hlocks := B.notSynchronized
  subst hsz
  have hD := hD0.self (sz := s.heap.size)
  generalize hAe : va_A (wTP cA ta pa T P L) s.heap.size = A at hD ⊢
  have hA : ∀ q : Nat, s.heap.size ≤ q → A q := fun q h => by rw [← hAe]; exact Or.inr h
  have hS : va_S A s.heap s.heap [] := va_S.rf
  have hl := lv_entry ([.ref (ta 0)]) (n := 2) (Nat.le_of_ble_eq_true rfl)
  rw [lg_entry_eq]
  generalize (lg_sl ([.ref (ta 0)]) ++ List.replicate (2 - (lg_sl ([.ref (ta 0)])).length) Slot.unset).toArray = ls at hl ⊢
  have hl : lv_has ls 2 [(0, .ref (ta 0))] := hl
  have F : tF p s m ([.ref (ta 0)] : List Value).toArray meth c G cA A RX6 cX6_strengthenAll 2 none := ⟨hx, hb, hr, hml, hT, hown, hlocks, hK, hN, hA⟩
  obtain ⟨H, hH⟩ : ∃ z, z = s.heap := ⟨_, rfl⟩
  rw [← hH] at hP
  have hS : va_S A s.heap H [] := by rw [hH]; exact hS
  suffices hgo : G_X6_strengthenAll p l e s m below meth c G cA A ta pa P L T' H [] (F0 m 0 ls []) by rw [hH] at hgo; exact hgo
  generalize ([] : List Loc) = locs at hS ⊢
  unfold f_X6_strengthenAll at h
  refine lv_iconst (v := 0) hx hb dX6_strengthenAll_0 (by decide) ?_
  refine lv_istore_n (lv' := [(1, .int 0), (0, .ref (ta 0))]) hx hb dX6_strengthenAll_1 rfl hl (by decide) rfl (fun ls hl => ?_)
  exact w_X6_strengthenAll_L2 F 2000 0 T H locs ls h hP hD hS (lv_sub hl [1, 0] rfl)
abbrev G_X6_turnedLevel (p : Program) (l : Launch) (e : Env) (s : State) (m : MethodId) (below : List Frame) (meth : Method) (c : Code) (G : va_G) (cA : Nat → ClassId) (A : Nat → Prop) (ta : Nat → Nat) (pa : Nat → Nat) (T : Tr) (P : Tr) (L : Lo) (x1 : Int32) (x2 : Int32) (r0 : Int32) (H : Heap) (locs : List Loc) (g : JFrame) : Prop := W p l e (headSpec (.code yX6_turnedLevel cX6_turnedLevel 5 (some .int) :: T0) ({ frames := 1, cells := 0, slots := 0, locals := 24 } : Room)).room s m ([.ref (ta 0), .int x1, .int x2] : List Value).toArray below meth c H locs 0 0 (MQ below (tqQi G cA (fun (r : Int32) (_ : Unit) => r = r0) (fun (_ : Unit) => wTP cA ta pa T P L) A) ([.ref (ta 0), .int x1, .int x2] : List Value).toArray s 0 0 A) g
set_option maxHeartbeats 4000000 in
set_option maxRecDepth 100000 in
theorem w_X6_turnedLevel_L5 {p : Program} {l : Launch} {e : Env} {s : State} {m : MethodId} {below : List Frame} {meth : Method} {c : Code} {G : va_G} {cA : Nat → ClassId} {A : Nat → Prop} {ta : Nat → Nat} {pa : Nat → Nat} {T : Tr} {P : Tr} {L : Lo} {x1₀ : Int32} {x2₀ : Int32} {r0 : Int32} {x1 : Int32} {x2 : Int32} (F : tF p s m ([.ref (ta 0), .int x1₀, .int x2₀] : List Value).toArray meth c G cA A RX6 cX6_turnedLevel 5 (some .int))    (N : Nat) : ∀ (x3 : Int32) (x4 : Int32) (H : Heap) (locs : List Loc) (ls : Array Slot), lpF (fun _ _ => none) (fB_X6_turnedLevel_L5 T P x1 x2) N x3 x4 = some r0 → va_P G vwCl (wTP cA ta pa T P L) H → va_D A (wTP cA ta pa T P L) → va_S A s.heap H locs → lv_has ls 5 [(0, .ref (ta 0)), (1, .int x1), (2, .int x2), (3, .int x3), (4, .int x4)] → G_X6_turnedLevel p l e s m below meth c G cA A ta pa T P L x1₀ x2₀ r0 H locs (F0 m 5 ls []) := by
  obtain ⟨hx, hb, hr, hml, hT, hown, hlocks, hK, hN, hA⟩ := id F
  induction N with
  | zero =>
    intro x3 x4 H locs ls h
    have h : (none : Option (Int32)) = some r0 := h
    cases h
  | succ N hk5 =>
    intro x3 x4 H locs ls h hP hD hS hl
    have h : fB_X6_turnedLevel_L5 T P x1 x2 (lpF (fun _ _ => none) (fB_X6_turnedLevel_L5 T P x1 x2) N) x3 x4 = some r0 := h
    generalize hk5e : lpF (fun _ _ => none) (fB_X6_turnedLevel_L5 T P x1 x2) N = k5 at h hk5
    unfold fB_X6_turnedLevel_L5 at h
    refine lv_iload hx hb dX6_turnedLevel_5 (lv_at hl 4 rfl) ?_
    refine lv_aload_n hx hb dX6_turnedLevel_7 rfl (lv_at hl 0 rfl) ?_
    refine va_get (D := G) (ci := 6) (v := .ref (ta 17)) (C := RX6) (T := TX6) (N := 20) hx hb hT ku_6 hown hK hP 0 rfl rfl 16 (by decide) (hT _ kw_7_15) (fun _ h9 => h9) rfl dX6_turnedLevel_8 ?_
    refine lv_iload_n hx hb dX6_turnedLevel_11 rfl (lv_at hl 1 rfl) ?_
    obtain ⟨g1, h⟩ := tx_ck h
    refine va_iald (i := x1) hx hb hK hP 9 0 rfl rfl (tx_in g1) dX6_turnedLevel_12 ?_
    refine lv_icmp_ge (tgt := 45) hx hb dX6_turnedLevel_13 (by decide) (fun c2 => ?_) (fun c2 => ?_)
    · have h := tx_pos c2 h
      refine lv_iload_n hx hb dX6_turnedLevel_45 rfl (lv_at hl 3 rfl) ?_
      obtain rfl := tx_1 h
      exact W.iret hx hb hr (fun t ht hW => ⟨⟨_, (), rfl, rfl, by rw [ht]; exact hP, hD⟩, hS.F ht⟩) hS.2.2 dX6_turnedLevel_46
    · have h := tx_neg c2 h
      refine lv_aload_n hx hb dX6_turnedLevel_16 rfl (lv_at hl 0 rfl) ?_
      refine lv_iload_n hx hb dX6_turnedLevel_17 rfl (lv_at hl 2 rfl) ?_
      refine lv_aload_n hx hb dX6_turnedLevel_18 rfl (lv_at hl 0 rfl) ?_
      refine va_get (D := G) (ci := 6) (v := .ref (ta 16)) (C := RX6) (T := TX6) (N := 20) hx hb hT ku_6 hown hK hP 0 rfl rfl 15 (by decide) (hT _ kw_7_14) (fun _ h9 => h9) rfl dX6_turnedLevel_19 ?_
      refine lv_iload_n hx hb dX6_turnedLevel_22 rfl (lv_at hl 1 rfl) ?_
      refine lv_bipush (v := 10) hx hb dX6_turnedLevel_23 (by decide) ?_
      refine lv_imul hx hb dX6_turnedLevel_25 ?_
      refine lv_iload hx hb dX6_turnedLevel_26 (lv_at hl 4 rfl) ?_
      refine lv_iadd hx hb dX6_turnedLevel_28 ?_
      obtain ⟨g3, h⟩ := tx_ck h
      refine va_iald (i := ((x1 * 10) + x4)) hx hb hK hP 8 0 rfl rfl (tx_in g3) dX6_turnedLevel_29 ?_
      obtain ⟨r4, hc5, h⟩ := tx_bd h
      refine tw_ci tw_all hP hD hS hA (va_runV (As := [.int x2, .int (T 16 ((x1 * 10) + x4).toNatClampNeg)]) (rest := []) ⟨hx, hb, hml, hown, hT⟩ (c_X6_goesAbove l G cA H.size ta pa T P L x2 (T 16 ((x1 * 10) + x4).toNatClampNeg)  r4 hc5) (cwV 2 hT (tq_gV kw_38_19 kw_38_20 kw_38_21 kw_1_23 kw_38_22) rfl rfl rfl (by decide +kernel) ⟨Nat.le_of_ble_eq_true rfl, Nat.le_of_ble_eq_true rfl⟩) ⟨(tw_pre tw_all hP hD hK hN).1, va_recv hK hP (ci := 6) (q0 := 0) rfl rfl, (tw_pre tw_all hP hD hK hN).2⟩ rfl rfl hl.1 rfl (lv_room (Nat.le_of_ble_eq_true rfl)) dX6_turnedLevel_30 ⟨Nat.le_of_ble_eq_true rfl, Nat.le_of_ble_eq_true rfl⟩) (fun _ _ H locs z6 hP hD hS => ?_)
      subst z6
      rw [List.append_nil] at hP hD
      have hP : va_P G vwCl (wTP cA ta pa T P L) H := hP
      have hD : va_D A (wTP cA ta pa T P L) := hD
      refine lv_if_eq (tgt := 39) hx hb dX6_turnedLevel_33 (by decide) (fun c7 => ?_) (fun c7 => ?_)
      · have h := tx_pos c7 h
        obtain ⟨y8, ey8, h⟩ := tx_lt h
        refine lv_iinc (v := y8) (lv' := [(4, .int y8), (0, .ref (ta 0)), (1, .int x1), (2, .int x2), (3, .int x3)]) hx hb dX6_turnedLevel_39 hl (k := 4) rfl ey8 (by decide) rfl (fun ls hl => ?_)
        refine lv_goto (tgt := 5) hx hb dX6_turnedLevel_42 (by decide) ?_
        exact hk5 x3 y8 H locs ls h hP hD hS (lv_sub hl [1, 2, 3, 4, 0] rfl)
      · have h := tx_neg c7 h
        obtain ⟨y9, ey9, h⟩ := tx_lt h
        refine lv_iinc (v := y9) (lv' := [(3, .int y9), (0, .ref (ta 0)), (1, .int x1), (2, .int x2), (4, .int x4)]) hx hb dX6_turnedLevel_36 hl (k := 3) rfl ey9 (by decide) rfl (fun ls hl => ?_)
        obtain ⟨y10, ey10, h⟩ := tx_lt h
        refine lv_iinc (v := y10) (lv' := [(4, .int y10), (3, .int y9), (0, .ref (ta 0)), (1, .int x1), (2, .int x2)]) hx hb dX6_turnedLevel_39 hl (k := 4) rfl ey10 (by decide) rfl (fun ls hl => ?_)
        refine lv_goto (tgt := 5) hx hb dX6_turnedLevel_42 (by decide) ?_
        exact hk5 y9 y10 H locs ls h hP hD hS (lv_sub hl [2, 3, 4, 1, 0] rfl)
set_option maxHeartbeats 4000000 in
set_option maxRecDepth 100000 in
theorem c_X6_turnedLevel (l : Launch) (G : va_G) (cA : Nat → ClassId) (sz : Nat) (ta : Nat → Nat) (pa : Nat → Nat) (T : Tr) (P : Tr) (L : Lo) (x1 : Int32) (x2 : Int32)  (r0 : Int32) (h : f_X6_turnedLevel T P x1 x2 = some r0) : Met l yX6_turnedLevel (.code yX6_turnedLevel cX6_turnedLevel 5 (some .int) :: T0) ({ frames := 1, cells := 0, slots := 0, locals := 24 } : Room) (tqP G cA [.ref (ta 0), .int x1, .int x2] (wTP cA ta pa T P L) sz) (tqQi G cA (fun (r : Int32) (_ : Unit) => r = r0) (fun (_ : Unit) => wTP cA ta pa T P L) (va_A (wTP cA ta pa T P L) sz)) 0 0 (va_A (wTP cA ta pa T P L) sz) := by
  refine Met.ofW (cc := cX6_turnedLevel) (maxL := 5) (ret := (some .int)) (by decide) rfl ?_
  intro p e s m args below meth c s₁ B hml hv
  obtain ⟨rfl, hsz, hP, hK, hD0, hN⟩ := hv
  have hx := B.exec
  have hb := B.bytes
  have hr := B.returns
  have hts := atoms_spec (ws := .code yX6_turnedLevel cX6_turnedLevel 5 (some .int) :: T0) B.pre
  have hT : ∀ w ∈ T0, w.before _ s = true := fun w h => hts w (List.mem_cons_of_mem _ h)
  have hown : s.vm.findClass RX6 = some m.cls := findClass_of_methodNamed B.named
  have hlocks := B.notSynchronized
  subst hsz
  have hD := hD0.self (sz := s.heap.size)
  generalize hAe : va_A (wTP cA ta pa T P L) s.heap.size = A at hD ⊢
  have hA : ∀ q : Nat, s.heap.size ≤ q → A q := fun q h => by rw [← hAe]; exact Or.inr h
  have hS : va_S A s.heap s.heap [] := va_S.rf
  have hl := lv_entry ([.ref (ta 0), .int x1, .int x2]) (n := 5) (Nat.le_of_ble_eq_true rfl)
  rw [lg_entry_eq]
  generalize (lg_sl ([.ref (ta 0), .int x1, .int x2]) ++ List.replicate (5 - (lg_sl ([.ref (ta 0), .int x1, .int x2])).length) Slot.unset).toArray = ls at hl ⊢
  have hl : lv_has ls 5 [(0, .ref (ta 0)), (1, .int x1), (2, .int x2)] := hl
  have F : tF p s m ([.ref (ta 0), .int x1, .int x2] : List Value).toArray meth c G cA A RX6 cX6_turnedLevel 5 (some .int) := ⟨hx, hb, hr, hml, hT, hown, hlocks, hK, hN, hA⟩
  obtain ⟨H, hH⟩ : ∃ z, z = s.heap := ⟨_, rfl⟩
  rw [← hH] at hP
  have hS : va_S A s.heap H [] := by rw [hH]; exact hS
  suffices hgo : G_X6_turnedLevel p l e s m below meth c G cA A ta pa T P L x1 x2 r0 H [] (F0 m 0 ls []) by rw [hH] at hgo; exact hgo
  generalize ([] : List Loc) = locs at hS ⊢
  unfold f_X6_turnedLevel at h
  refine lv_iconst (v := 0) hx hb dX6_turnedLevel_0 (by decide) ?_
  refine lv_istore_n (lv' := [(3, .int 0), (0, .ref (ta 0)), (1, .int x1), (2, .int x2)]) hx hb dX6_turnedLevel_1 rfl hl (by decide) rfl (fun ls hl => ?_)
  refine lv_iconst (v := 0) hx hb dX6_turnedLevel_2 (by decide) ?_
  refine lv_istore (lv' := [(4, .int 0), (3, .int 0), (0, .ref (ta 0)), (1, .int x1), (2, .int x2)]) hx hb dX6_turnedLevel_3 hl (by decide) rfl (fun ls hl => ?_)
  exact w_X6_turnedLevel_L5 F 2000 0 0 H locs ls h hP hD hS (lv_sub hl [2, 3, 4, 1, 0] rfl)
abbrev G_X6_turnOver (p : Program) (l : Launch) (e : Env) (s : State) (m : MethodId) (below : List Frame) (meth : Method) (c : Code) (G : va_G) (cA : Nat → ClassId) (A : Nat → Prop) (ta : Nat → Nat) (pa : Nat → Nat) (P : Tr) (L : Lo) (x1 : Int32) (r0 : Int32) (T' : Tr) (H : Heap) (locs : List Loc) (g : JFrame) : Prop := W p l e (headSpec (.code yX6_turnOver cX6_turnOver 7 (some .int) :: T0) ({ frames := 2, cells := 0, slots := 0, locals := 48 } : Room)).room s m ([.ref (ta 0), .int x1] : List Value).toArray below meth c H locs 0 0 (MQ below (tqQi G cA (fun (r : Int32) (_ : Unit) => r = r0) (fun (_ : Unit) => wTP cA ta pa (T') P L) A) ([.ref (ta 0), .int x1] : List Value).toArray s 0 0 A) g
set_option maxHeartbeats 4000000 in
set_option maxRecDepth 100000 in
theorem w_X6_turnOver_J129 {p : Program} {l : Launch} {e : Env} {s : State} {m : MethodId} {below : List Frame} {meth : Method} {c : Code} {G : va_G} {cA : Nat → ClassId} {A : Nat → Prop} {ta : Nat → Nat} {pa : Nat → Nat} {P : Tr} {L : Lo} {x1₀ : Int32} {r0 : Int32} {T' : Tr} {x1 : Int32} {x2 : Int32} {x3 : Int32} (F : tF p s m ([.ref (ta 0), .int x1₀] : List Value).toArray meth c G cA A RX6 cX6_turnOver 7 (some .int))  (k52 : Int32 → Tr → Option (Int32 × Tr)) (hk52 : ∀ (x4 : Int32) (T : Tr) (H : Heap) (locs : List Loc) (ls : Array Slot), k52 x4 T = some (r0, T') → va_P G vwCl (wTP cA ta pa T P L) H → va_D A (wTP cA ta pa T P L) → va_S A s.heap H locs → lv_has ls 7 [(0, .ref (ta 0)), (1, .int x1), (2, .int x2), (3, .int x3), (4, .int x4)] → G_X6_turnOver p l e s m below meth c G cA A ta pa P L x1₀ r0 T' H locs (F0 m 52 ls [])) (x4 : Int32) (x5 : Int32) (x6 : Int32) (T : Tr) (H : Heap) (locs : List Loc) (ls : Array Slot) (h : fJ_X6_turnOver_J129 k52 P x1 x2 x3 x4 x5 x6 T = some (r0, T')) (hP : va_P G vwCl (wTP cA ta pa T_10 P L) H) (hD : va_D A (wTP cA ta pa T_10 P L)) (hS : va_S A s.heap H locs) (hl : lv_has ls 7 [(4, .int y11), (0, .ref (ta 0)), (1, .int x1), (2, .int x2), (3, .int x3), (5, .int x5), (6, .int x6)]) : G_X6_turnOver p l e s m below meth c G cA A ta pa P L x1₀ r0 T' H locs (F0 m 129 ls []) := by
  obtain ⟨hx, hb, hr, hml, hT, hown, hlocks, hK, hN, hA⟩ := id F
  unfold fJ_X6_turnOver_J129 at h
  refine lv_aload_n hx hb dX6_turnOver_129 rfl (lv_at hl 0 rfl) ?_
  refine va_get (D := G) (ci := 6) (v := .ref (ta 16)) (C := RX6) (T := TX6) (N := 20) hx hb hT ku_6 hown hK hP 0 rfl rfl 15 (by decide) (hT _ kw_7_14) (fun _ h9 => h9) rfl dX6_turnOver_130 ?_
  refine lv_iload_n hx hb dX6_turnOver_133 rfl (lv_at hl 2 rfl) ?_
  refine lv_iload hx hb dX6_turnOver_134 (lv_at hl 6 rfl) ?_
  refine lv_iadd hx hb dX6_turnOver_136 ?_
  refine lv_iload hx hb dX6_turnOver_137 (lv_at hl 5 rfl) ?_
  obtain ⟨g9, h⟩ := tx_ck h
  refine va_iast (i := (x2 + x6)) hx hb hK hP hD hS 8 0 rfl rfl (tx_in g9) dX6_turnOver_139 (fun H locs hP hD hS => ?_)
  obtain ⟨T_10, eT_10, h⟩ := tx_lt h
  rw [sTP_ta_a15, eT_10] at hP hD
  obtain ⟨y11, ey11, h⟩ := tx_lt h
  refine lv_iinc (v := y11) (lv' := [(4, .int y11), (0, .ref (ta 0)), (1, .int x1), (2, .int x2), (3, .int x3), (5, .int x5), (6, .int x6)]) hx hb dX6_turnOver_140 hl (k := 4) rfl ey11 (by decide) rfl (fun ls hl => ?_)
  refine lv_goto (tgt := 52) hx hb dX6_turnOver_143 (by decide) ?_
  exact hk52 y11 T_10 H locs ls h hP hD hS (lv_sub hl [1, 2, 3, 4, 0] rfl)
set_option maxHeartbeats 4000000 in
set_option maxRecDepth 100000 in
theorem w_X6_turnOver_L78 {p : Program} {l : Launch} {e : Env} {s : State} {m : MethodId} {below : List Frame} {meth : Method} {c : Code} {G : va_G} {cA : Nat → ClassId} {A : Nat → Prop} {ta : Nat → Nat} {pa : Nat → Nat} {P : Tr} {L : Lo} {x1₀ : Int32} {r0 : Int32} {T' : Tr} {x1 : Int32} {x2 : Int32} {x3 : Int32} {x4 : Int32} {x5 : Int32} (F : tF p s m ([.ref (ta 0), .int x1₀] : List Value).toArray meth c G cA A RX6 cX6_turnOver 7 (some .int))  (k52 : Int32 → Tr → Option (Int32 × Tr)) (hk52 : ∀ (x4 : Int32) (T : Tr) (H : Heap) (locs : List Loc) (ls : Array Slot), k52 x4 T = some (r0, T') → va_P G vwCl (wTP cA ta pa T P L) H → va_D A (wTP cA ta pa T P L) → va_S A s.heap H locs → lv_has ls 7 [(0, .ref (ta 0)), (1, .int x1), (2, .int x2), (3, .int x3), (4, .int x4)] → G_X6_turnOver p l e s m below meth c G cA A ta pa P L x1₀ r0 T' H locs (F0 m 52 ls [])) (N : Nat) : ∀ (x6 : Int32) (T : Tr) (H : Heap) (locs : List Loc) (ls : Array Slot), lpF (fun _ _ => none) (fB_X6_turnOver_L78 k52 P x1 x2 x3 x4 x5) N x6 T = some (r0, T') → va_P G vwCl (wTP cA ta pa T P L) H → va_D A (wTP cA ta pa T P L) → va_S A s.heap H locs → lv_has ls 7 [(0, .ref (ta 0)), (1, .int x1), (2, .int x2), (3, .int x3), (4, .int x4), (5, .int x5), (6, .int x6)] → G_X6_turnOver p l e s m below meth c G cA A ta pa P L x1₀ r0 T' H locs (F0 m 78 ls []) := by
  obtain ⟨hx, hb, hr, hml, hT, hown, hlocks, hK, hN, hA⟩ := id F
  induction N with
  | zero =>
    intro x6 T H locs ls h
    have h : (none : Option (Int32 × Tr)) = some (r0, T') := h
    cases h
  | succ N hk78 =>
    intro x6 T H locs ls h hP hD hS hl
    have h : fB_X6_turnOver_L78 k52 P x1 x2 x3 x4 x5 (lpF (fun _ _ => none) (fB_X6_turnOver_L78 k52 P x1 x2 x3 x4 x5) N) x6 T = some (r0, T') := h
    generalize hk78e : lpF (fun _ _ => none) (fB_X6_turnOver_L78 k52 P x1 x2 x3 x4 x5) N = k78 at h hk78
    unfold fB_X6_turnOver_L78 at h
    refine lv_iload hx hb dX6_turnOver_78 (lv_at hl 6 rfl) ?_
    refine lv_if_le (tgt := 129) hx hb dX6_turnOver_80 (by decide) (fun c8 => ?_) (fun c8 => ?_)
    · have h := tx_pos c8 h
      exact w_X6_turnOver_J129 F k52 hk52 x4 x5 x6 T H locs ls h hP hD hS (lv_sub hl [0, 1, 2, 3, 4, 5, 6] rfl)
    · have h := tx_neg c8 h
      refine lv_aload_n hx hb dX6_turnOver_83 rfl (lv_at hl 0 rfl) ?_
      refine lv_aload_n hx hb dX6_turnOver_84 rfl (lv_at hl 0 rfl) ?_
      refine va_get (D := G) (ci := 6) (v := .ref (ta 16)) (C := RX6) (T := TX6) (N := 20) hx hb hT ku_6 hown hK hP 0 rfl rfl 15 (by decide) (hT _ kw_7_14) (fun _ h9 => h9) rfl dX6_turnOver_85 ?_
      refine lv_iload_n hx hb dX6_turnOver_88 rfl (lv_at hl 2 rfl) ?_
      refine lv_iload hx hb dX6_turnOver_89 (lv_at hl 6 rfl) ?_
      refine lv_iadd hx hb dX6_turnOver_91 ?_
      refine lv_iconst (v := 1) hx hb dX6_turnOver_92 (by decide) ?_
      refine lv_isub hx hb dX6_turnOver_93 ?_
      obtain ⟨g12, h⟩ := tx_ck h
      refine va_iald (i := ((x2 + x6) - 1)) hx hb hK hP 8 0 rfl rfl (tx_in g12) dX6_turnOver_94 ?_
      refine lv_iload hx hb dX6_turnOver_95 (lv_at hl 5 rfl) ?_
      obtain ⟨r13, hc14, h⟩ := tx_bd h
      refine tw_ci tw_all hP hD hS hA (va_runV (As := [.int (T 16 ((x2 + x6) - 1).toNatClampNeg), .int x5]) (rest := []) ⟨hx, hb, hml, hown, hT⟩ (c_X6_goesAbove l G cA H.size ta pa T P L (T 16 ((x2 + x6) - 1).toNatClampNeg) x5  r13 hc14) (cwV 2 hT (tq_gV kw_38_19 kw_38_20 kw_38_21 kw_1_23 kw_38_22) rfl rfl rfl (by decide +kernel) ⟨Nat.le_of_ble_eq_true rfl, Nat.le_of_ble_eq_true rfl⟩) ⟨(tw_pre tw_all hP hD hK hN).1, va_recv hK hP (ci := 6) (q0 := 0) rfl rfl, (tw_pre tw_all hP hD hK hN).2⟩ rfl rfl hl.1 rfl (lv_room (Nat.le_of_ble_eq_true rfl)) dX6_turnOver_97 ⟨Nat.le_of_ble_eq_true rfl, Nat.le_of_ble_eq_true rfl⟩) (fun _ _ H locs z15 hP hD hS => ?_)
      subst z15
      rw [List.append_nil] at hP hD
      have hP : va_P G vwCl (wTP cA ta pa T P L) H := hP
      have hD : va_D A (wTP cA ta pa T P L) := hD
      refine lv_if_eq (tgt := 129) hx hb dX6_turnOver_100 (by decide) (fun c16 => ?_) (fun c16 => ?_)
      · have h := tx_pos c16 h
        exact w_X6_turnOver_J129 F k52 hk52 x4 x5 x6 T H locs ls h hP hD hS (lv_sub hl [0, 1, 2, 3, 4, 5, 6] rfl)
      · have h := tx_neg c16 h
        refine lv_aload_n hx hb dX6_turnOver_103 rfl (lv_at hl 0 rfl) ?_
        refine va_get (D := G) (ci := 6) (v := .ref (ta 16)) (C := RX6) (T := TX6) (N := 20) hx hb hT ku_6 hown hK hP 0 rfl rfl 15 (by decide) (hT _ kw_7_14) (fun _ h9 => h9) rfl dX6_turnOver_104 ?_
        refine lv_iload_n hx hb dX6_turnOver_107 rfl (lv_at hl 2 rfl) ?_
        refine lv_iload hx hb dX6_turnOver_108 (lv_at hl 6 rfl) ?_
        refine lv_iadd hx hb dX6_turnOver_110 ?_
        refine lv_aload_n hx hb dX6_turnOver_111 rfl (lv_at hl 0 rfl) ?_
        refine va_get (D := G) (ci := 6) (v := .ref (ta 16)) (C := RX6) (T := TX6) (N := 20) hx hb hT ku_6 hown hK hP 0 rfl rfl 15 (by decide) (hT _ kw_7_14) (fun _ h9 => h9) rfl dX6_turnOver_112 ?_
        refine lv_iload_n hx hb dX6_turnOver_115 rfl (lv_at hl 2 rfl) ?_
        refine lv_iload hx hb dX6_turnOver_116 (lv_at hl 6 rfl) ?_
        refine lv_iadd hx hb dX6_turnOver_118 ?_
        refine lv_iconst (v := 1) hx hb dX6_turnOver_119 (by decide) ?_
        refine lv_isub hx hb dX6_turnOver_120 ?_
        refine va_iald (i := ((x2 + x6) - 1)) hx hb hK hP 8 0 rfl rfl (tx_in g12) dX6_turnOver_121 ?_
        obtain ⟨g17, h⟩ := tx_ck h
        refine va_iast (i := (x2 + x6)) hx hb hK hP hD hS 8 0 rfl rfl (tx_in g17) dX6_turnOver_122 (fun H locs hP hD hS => ?_)
        obtain ⟨T_18, eT_18, h⟩ := tx_lt h
        rw [sTP_ta_a15, eT_18] at hP hD
        obtain ⟨y19, ey19, h⟩ := tx_lt h
        refine lv_iinc (v := y19) (lv' := [(6, .int y19), (0, .ref (ta 0)), (1, .int x1), (2, .int x2), (3, .int x3), (4, .int x4), (5, .int x5)]) hx hb dX6_turnOver_123 hl (k := 6) rfl ey19 (by decide) rfl (fun ls hl => ?_)
        refine lv_goto (tgt := 78) hx hb dX6_turnOver_126 (by decide) ?_
        exact hk78 y19 T_18 H locs ls h hP hD hS (lv_sub hl [1, 2, 3, 4, 5, 6, 0] rfl)
set_option maxHeartbeats 4000000 in
set_option maxRecDepth 100000 in
theorem w_X6_turnOver_L52 {p : Program} {l : Launch} {e : Env} {s : State} {m : MethodId} {below : List Frame} {meth : Method} {c : Code} {G : va_G} {cA : Nat → ClassId} {A : Nat → Prop} {ta : Nat → Nat} {pa : Nat → Nat} {P : Tr} {L : Lo} {x1₀ : Int32} {r0 : Int32} {T' : Tr} {x1 : Int32} {x2 : Int32} {x3 : Int32} (F : tF p s m ([.ref (ta 0), .int x1₀] : List Value).toArray meth c G cA A RX6 cX6_turnOver 7 (some .int))    (N : Nat) : ∀ (x4 : Int32) (T : Tr) (H : Heap) (locs : List Loc) (ls : Array Slot), lpF (fun _ _ => none) (fB_X6_turnOver_L52 P x1 x2 x3) N x4 T = some (r0, T') → va_P G vwCl (wTP cA ta pa T P L) H → va_D A (wTP cA ta pa T P L) → va_S A s.heap H locs → lv_has ls 7 [(0, .ref (ta 0)), (1, .int x1), (2, .int x2), (3, .int x3), (4, .int x4)] → G_X6_turnOver p l e s m below meth c G cA A ta pa P L x1₀ r0 T' H locs (F0 m 52 ls []) := by
  obtain ⟨hx, hb, hr, hml, hT, hown, hlocks, hK, hN, hA⟩ := id F
  induction N with
  | zero =>
    intro x4 T H locs ls h
    have h : (none : Option (Int32 × Tr)) = some (r0, T') := h
    cases h
  | succ N hk52 =>
    intro x4 T H locs ls h hP hD hS hl
    have h : fB_X6_turnOver_L52 P x1 x2 x3 (lpF (fun _ _ => none) (fB_X6_turnOver_L52 P x1 x2 x3) N) x4 T = some (r0, T') := h
    generalize hk52e : lpF (fun _ _ => none) (fB_X6_turnOver_L52 P x1 x2 x3) N = k52 at h hk52
    unfold fB_X6_turnOver_L52 at h
    refine lv_iload hx hb dX6_turnOver_52 (lv_at hl 4 rfl) ?_
    refine lv_aload_n hx hb dX6_turnOver_54 rfl (lv_at hl 0 rfl) ?_
    refine va_get (D := G) (ci := 6) (v := .ref (ta 17)) (C := RX6) (T := TX6) (N := 20) hx hb hT ku_6 hown hK hP 0 rfl rfl 16 (by decide) (hT _ kw_7_15) (fun _ h9 => h9) rfl dX6_turnOver_55 ?_
    refine lv_iload_n hx hb dX6_turnOver_58 rfl (lv_at hl 1 rfl) ?_
    obtain ⟨g4, h⟩ := tx_ck h
    refine va_iald (i := x1) hx hb hK hP 9 0 rfl rfl (tx_in g4) dX6_turnOver_59 ?_
    refine lv_icmp_ge (tgt := 146) hx hb dX6_turnOver_60 (by decide) (fun c5 => ?_) (fun c5 => ?_)
    · have h := tx_pos c5 h
      refine lv_iload_n hx hb dX6_turnOver_146 rfl (lv_at hl 3 rfl) ?_
      obtain ⟨rfl, rfl⟩ := tx_2 h
      exact W.iret hx hb hr (fun t ht hW => ⟨⟨_, (), rfl, rfl, by rw [ht]; exact hP, hD⟩, hS.F ht⟩) hS.2.2 dX6_turnOver_147
    · have h := tx_neg c5 h
      refine lv_aload_n hx hb dX6_turnOver_63 rfl (lv_at hl 0 rfl) ?_
      refine va_get (D := G) (ci := 6) (v := .ref (ta 16)) (C := RX6) (T := TX6) (N := 20) hx hb hT ku_6 hown hK hP 0 rfl rfl 15 (by decide) (hT _ kw_7_14) (fun _ h9 => h9) rfl dX6_turnOver_64 ?_
      refine lv_iload_n hx hb dX6_turnOver_67 rfl (lv_at hl 2 rfl) ?_
      refine lv_iload hx hb dX6_turnOver_68 (lv_at hl 4 rfl) ?_
      refine lv_iadd hx hb dX6_turnOver_70 ?_
      obtain ⟨g6, h⟩ := tx_ck h
      refine va_iald (i := (x2 + x4)) hx hb hK hP 8 0 rfl rfl (tx_in g6) dX6_turnOver_71 ?_
      refine lv_topi (fun y7 ey7 => ?_)
      have h := tx_let ey7 h
      refine lv_istore (lv' := [(5, .int y7), (0, .ref (ta 0)), (1, .int x1), (2, .int x2), (3, .int x3), (4, .int x4)]) hx hb dX6_turnOver_72 hl (by decide) rfl (fun ls hl => ?_)
      refine lv_iload hx hb dX6_turnOver_74 (lv_at hl 5 rfl) ?_
      refine lv_istore (lv' := [(6, .int x4), (5, .int y7), (0, .ref (ta 0)), (1, .int x1), (2, .int x2), (3, .int x3), (4, .int x4)]) hx hb dX6_turnOver_76 hl (by decide) rfl (fun ls hl => ?_)
      exact w_X6_turnOver_L78 F k52 hk52 2000 x4 T H locs ls h hP hD hS (lv_sub hl [2, 3, 4, 5, 6, 1, 0] rfl)
set_option maxHeartbeats 4000000 in
set_option maxRecDepth 100000 in
theorem w_X6_turnOver_L10 {p : Program} {l : Launch} {e : Env} {s : State} {m : MethodId} {below : List Frame} {meth : Method} {c : Code} {G : va_G} {cA : Nat → ClassId} {A : Nat → Prop} {ta : Nat → Nat} {pa : Nat → Nat} {P : Tr} {L : Lo} {x1₀ : Int32} {r0 : Int32} {T' : Tr} {T : Tr} {x1 : Int32} {x2 : Int32} (F : tF p s m ([.ref (ta 0), .int x1₀] : List Value).toArray meth c G cA A RX6 cX6_turnOver 7 (some .int))    (N : Nat) : ∀ (x3 : Int32) (x4 : Int32) (H : Heap) (locs : List Loc) (ls : Array Slot), lpF (fun _ _ => none) (fB_X6_turnOver_L10 T P x1 x2) N x3 x4 = some (r0, T') → va_P G vwCl (wTP cA ta pa T P L) H → va_D A (wTP cA ta pa T P L) → va_S A s.heap H locs → lv_has ls 7 [(0, .ref (ta 0)), (1, .int x1), (2, .int x2), (3, .int x3), (4, .int x4)] → G_X6_turnOver p l e s m below meth c G cA A ta pa P L x1₀ r0 T' H locs (F0 m 10 ls []) := by
  obtain ⟨hx, hb, hr, hml, hT, hown, hlocks, hK, hN, hA⟩ := id F
  induction N with
  | zero =>
    intro x3 x4 H locs ls h
    have h : (none : Option (Int32 × Tr)) = some (r0, T') := h
    cases h
  | succ N hk10 =>
    intro x3 x4 H locs ls h hP hD hS hl
    have h : fB_X6_turnOver_L10 T P x1 x2 (lpF (fun _ _ => none) (fB_X6_turnOver_L10 T P x1 x2) N) x3 x4 = some (r0, T') := h
    generalize hk10e : lpF (fun _ _ => none) (fB_X6_turnOver_L10 T P x1 x2) N = k10 at h hk10
    unfold fB_X6_turnOver_L10 at h
    refine lv_iload hx hb dX6_turnOver_10 (lv_at hl 4 rfl) ?_
    refine lv_aload_n hx hb dX6_turnOver_12 rfl (lv_at hl 0 rfl) ?_
    refine va_get (D := G) (ci := 6) (v := .ref (ta 17)) (C := RX6) (T := TX6) (N := 20) hx hb hT ku_6 hown hK hP 0 rfl rfl 16 (by decide) (hT _ kw_7_15) (fun _ h9 => h9) rfl dX6_turnOver_13 ?_
    refine lv_iload_n hx hb dX6_turnOver_16 rfl (lv_at hl 1 rfl) ?_
    obtain ⟨g2, h⟩ := tx_ck h
    refine va_iald (i := x1) hx hb hK hP 9 0 rfl rfl (tx_in g2) dX6_turnOver_17 ?_
    refine lv_icmp_ge (tgt := 49) hx hb dX6_turnOver_18 (by decide) (fun c3 => ?_) (fun c3 => ?_)
    · have h := tx_pos c3 h
      refine lv_iconst (v := 1) hx hb dX6_turnOver_49 (by decide) ?_
      refine lv_istore (lv' := [(4, .int 1), (0, .ref (ta 0)), (1, .int x1), (2, .int x2), (3, .int x3)]) hx hb dX6_turnOver_50 hl (by decide) rfl (fun ls hl => ?_)
      exact w_X6_turnOver_L52 F 2000 1 T H locs ls h hP hD hS (lv_sub hl [1, 2, 3, 4, 0] rfl)
    · have h := tx_neg c3 h
      refine lv_aload_n hx hb dX6_turnOver_21 rfl (lv_at hl 0 rfl) ?_
      refine lv_iload_n hx hb dX6_turnOver_22 rfl (lv_at hl 1 rfl) ?_
      refine lv_aload_n hx hb dX6_turnOver_23 rfl (lv_at hl 0 rfl) ?_
      refine va_get (D := G) (ci := 6) (v := .ref (ta 16)) (C := RX6) (T := TX6) (N := 20) hx hb hT ku_6 hown hK hP 0 rfl rfl 15 (by decide) (hT _ kw_7_14) (fun _ h9 => h9) rfl dX6_turnOver_24 ?_
      refine lv_iload_n hx hb dX6_turnOver_27 rfl (lv_at hl 2 rfl) ?_
      refine lv_iload hx hb dX6_turnOver_28 (lv_at hl 4 rfl) ?_
      refine lv_iadd hx hb dX6_turnOver_30 ?_
      obtain ⟨g20, h⟩ := tx_ck h
      refine va_iald (i := (x2 + x4)) hx hb hK hP 8 0 rfl rfl (tx_in g20) dX6_turnOver_31 ?_
      obtain ⟨r21, hc22, h⟩ := tx_bd h
      refine tw_ci tw_all hP hD hS hA (va_runV (As := [.int x1, .int (T 16 (x2 + x4).toNatClampNeg)]) (rest := []) ⟨hx, hb, hml, hown, hT⟩ (c_X6_turnedLevel l G cA H.size ta pa T P L x1 (T 16 (x2 + x4).toNatClampNeg)  r21 hc22) (cwV 2 hT (tq_gV kw_38_15 kw_38_16 kw_38_17 kw_1_23 kw_38_18) rfl rfl rfl (by decide +kernel) ⟨Nat.le_of_ble_eq_true rfl, Nat.le_of_ble_eq_true rfl⟩) ⟨(tw_pre tw_all hP hD hK hN).1, va_recv hK hP (ci := 6) (q0 := 0) rfl rfl, (tw_pre tw_all hP hD hK hN).2⟩ rfl rfl hl.1 rfl (lv_room (Nat.le_of_ble_eq_true rfl)) dX6_turnOver_32 ⟨Nat.le_of_ble_eq_true rfl, Nat.le_of_ble_eq_true rfl⟩) (fun _ _ H locs z23 hP hD hS => ?_)
      subst z23
      rw [List.append_nil] at hP hD
      have hP : va_P G vwCl (wTP cA ta pa T P L) H := hP
      have hD : va_D A (wTP cA ta pa T P L) := hD
      refine lv_iload hx hb dX6_turnOver_35 (lv_at hl 4 rfl) ?_
      refine lv_icmp_eq (tgt := 43) hx hb dX6_turnOver_37 (by decide) (fun c24 => ?_) (fun c24 => ?_)
      · have h := tx_pos c24 h
        obtain ⟨y25, ey25, h⟩ := tx_lt h
        refine lv_iinc (v := y25) (lv' := [(4, .int y25), (0, .ref (ta 0)), (1, .int x1), (2, .int x2), (3, .int x3)]) hx hb dX6_turnOver_43 hl (k := 4) rfl ey25 (by decide) rfl (fun ls hl => ?_)
        refine lv_goto (tgt := 10) hx hb dX6_turnOver_46 (by decide) ?_
        exact hk10 x3 y25 H locs ls h hP hD hS (lv_sub hl [1, 2, 3, 4, 0] rfl)
      · have h := tx_neg c24 h
        obtain ⟨y26, ey26, h⟩ := tx_lt h
        refine lv_iinc (v := y26) (lv' := [(3, .int y26), (0, .ref (ta 0)), (1, .int x1), (2, .int x2), (4, .int x4)]) hx hb dX6_turnOver_40 hl (k := 3) rfl ey26 (by decide) rfl (fun ls hl => ?_)
        obtain ⟨y27, ey27, h⟩ := tx_lt h
        refine lv_iinc (v := y27) (lv' := [(4, .int y27), (3, .int y26), (0, .ref (ta 0)), (1, .int x1), (2, .int x2)]) hx hb dX6_turnOver_43 hl (k := 4) rfl ey27 (by decide) rfl (fun ls hl => ?_)
        refine lv_goto (tgt := 10) hx hb dX6_turnOver_46 (by decide) ?_
        exact hk10 y26 y27 H locs ls h hP hD hS (lv_sub hl [2, 3, 4, 1, 0] rfl)
set_option maxHeartbeats 4000000 in
set_option maxRecDepth 100000 in
theorem c_X6_turnOver (l : Launch) (G : va_G) (cA : Nat → ClassId) (sz : Nat) (ta : Nat → Nat) (pa : Nat → Nat) (T : Tr) (P : Tr) (L : Lo) (x1 : Int32)  (r0 : Int32) (T' : Tr) (h : f_X6_turnOver T P x1 = some (r0, T')) : Met l yX6_turnOver (.code yX6_turnOver cX6_turnOver 7 (some .int) :: T0) ({ frames := 2, cells := 0, slots := 0, locals := 48 } : Room) (tqP G cA [.ref (ta 0), .int x1] (wTP cA ta pa T P L) sz) (tqQi G cA (fun (r : Int32) (_ : Unit) => r = r0) (fun (_ : Unit) => wTP cA ta pa (T') P L) (va_A (wTP cA ta pa T P L) sz)) 0 0 (va_A (wTP cA ta pa T P L) sz) := by
  refine Met.ofW (cc := cX6_turnOver) (maxL := 7) (ret := (some .int)) (by decide) rfl ?_
  intro p e s m args below meth c s₁ B hml hv
  obtain ⟨rfl, hsz, hP, hK, hD0, hN⟩ := hv
  have hx := B.exec
  have hb := B.bytes
  have hr := B.returns
  have hts := atoms_spec (ws := .code yX6_turnOver cX6_turnOver 7 (some .int) :: T0) B.pre
  have hT : ∀ w ∈ T0, w.before _ s = true := fun w h => hts w (List.mem_cons_of_mem _ h)
  have hown : s.vm.findClass RX6 = some m.cls := findClass_of_methodNamed B.named
  have hlocks := B.notSynchronized
  subst hsz
  have hD := hD0.self (sz := s.heap.size)
  generalize hAe : va_A (wTP cA ta pa T P L) s.heap.size = A at hD ⊢
  have hA : ∀ q : Nat, s.heap.size ≤ q → A q := fun q h => by rw [← hAe]; exact Or.inr h
  have hS : va_S A s.heap s.heap [] := va_S.rf
  have hl := lv_entry ([.ref (ta 0), .int x1]) (n := 7) (Nat.le_of_ble_eq_true rfl)
  rw [lg_entry_eq]
  generalize (lg_sl ([.ref (ta 0), .int x1]) ++ List.replicate (7 - (lg_sl ([.ref (ta 0), .int x1])).length) Slot.unset).toArray = ls at hl ⊢
  have hl : lv_has ls 7 [(0, .ref (ta 0)), (1, .int x1)] := hl
  have F : tF p s m ([.ref (ta 0), .int x1] : List Value).toArray meth c G cA A RX6 cX6_turnOver 7 (some .int) := ⟨hx, hb, hr, hml, hT, hown, hlocks, hK, hN, hA⟩
  obtain ⟨H, hH⟩ : ∃ z, z = s.heap := ⟨_, rfl⟩
  rw [← hH] at hP
  have hS : va_S A s.heap H [] := by rw [hH]; exact hS
  suffices hgo : G_X6_turnOver p l e s m below meth c G cA A ta pa P L x1 r0 T' H [] (F0 m 0 ls []) by rw [hH] at hgo; exact hgo
  generalize ([] : List Loc) = locs at hS ⊢
  unfold f_X6_turnOver at h
  refine lv_iload_n hx hb dX6_turnOver_0 rfl (lv_at hl 1 rfl) ?_
  refine lv_bipush (v := 10) hx hb dX6_turnOver_1 (by decide) ?_
  refine lv_imul hx hb dX6_turnOver_3 ?_
  refine lv_topi (fun y1 ey1 => ?_)
  have h := tx_let ey1 h
  refine lv_istore_n (lv' := [(2, .int y1), (0, .ref (ta 0)), (1, .int x1)]) hx hb dX6_turnOver_4 rfl hl (by decide) rfl (fun ls hl => ?_)
  refine lv_iconst (v := 0) hx hb dX6_turnOver_5 (by decide) ?_
  refine lv_istore_n (lv' := [(3, .int 0), (2, .int y1), (0, .ref (ta 0)), (1, .int x1)]) hx hb dX6_turnOver_6 rfl hl (by decide) rfl (fun ls hl => ?_)
  refine lv_iconst (v := 0) hx hb dX6_turnOver_7 (by decide) ?_
  refine lv_istore (lv' := [(4, .int 0), (3, .int 0), (2, .int y1), (0, .ref (ta 0)), (1, .int x1)]) hx hb dX6_turnOver_8 hl (by decide) rfl (fun ls hl => ?_)
  exact w_X6_turnOver_L10 F 2000 0 0 H locs ls h hP hD hS (lv_sub hl [3, 4, 2, 1, 0] rfl)
