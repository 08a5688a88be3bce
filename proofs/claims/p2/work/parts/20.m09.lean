abbrev G_X8_pieceLine (p : Program) (l : Launch) (e : Env) (s : State) (m : MethodId) (below : List Frame) (meth : Method) (c : Code) (G : va_G) (cA : Nat → ClassId) (A : Nat → Prop) (aa : Nat → Nat) (L : Lo) (r0 : Int32) (S' : Tr) (H : Heap) (locs : List Loc) (g : JFrame) : Prop := W p l e (headSpec (.code yX8_pieceLine cX8_pieceLine 3 (some .boolean) :: T0) ({ frames := 3, cells := 0, slots := 0, locals := 69 } : Room)).room s m ([.ref (aa 0)] : List Value).toArray below meth c H locs 0 0 (MQ below (tqQi G cA (fun (r : Int32) (_ : Unit) => r = r0) (fun (_ : Unit) => wM cA aa S' L) A) ([.ref (aa 0)] : List Value).toArray s 0 0 A) g
set_option maxHeartbeats 4000000 in
set_option maxRecDepth 100000 in
theorem w_X8_pieceLine_J170 {p : Program} {l : Launch} {e : Env} {s : State} {m : MethodId} {below : List Frame} {meth : Method} {c : Code} {G : va_G} {cA : Nat → ClassId} {A : Nat → Prop} {aa : Nat → Nat} {L : Lo} {r0 : Int32} {S' : Tr} (F : tF p s m ([.ref (aa 0)] : List Value).toArray meth c G cA A RX8 cX8_pieceLine 3 (some .boolean))    (S : Tr) (H : Heap) (locs : List Loc) (ls : Array Slot) (h : fJ_X8_pieceLine_J170 S = some (r0, S')) (hP : va_P G vwCl (wM cA aa S_30 L) H) (hD : va_D A (wM cA aa S_30 L)) (hS : va_S A s.heap H locs) (hl : lv_has ls 3 [(0, .ref (aa 0))]) : G_X8_pieceLine p l e s m below meth c G cA A aa L r0 S' H locs (F0 m 170 ls []) := by
  obtain ⟨hx, hb, hr, hml, hT, hown, hlocks, hK, hN, hA⟩ := id F
  unfold fJ_X8_pieceLine_J170 at h
  refine lv_aload_n hx hb dX8_pieceLine_170 rfl (lv_at hl 0 rfl) ?_
  refine lv_dup hx hb dX8_pieceLine_171 rfl ?_
  refine va_get (D := G) (ci := 8) (v := .int (S 0 18)) (C := RX8) (T := TX8) (N := 91) hx hb hT ku_8 hown hK hP 0 rfl rfl 18 (by decide) (hT _ kw_11_19) (fun _ h9 => h9) rfl dX8_pieceLine_172 ?_
  refine lv_iconst (v := 1) hx hb dX8_pieceLine_175 (by decide) ?_
  refine lv_iadd hx hb dX8_pieceLine_176 ?_
  refine va_put (D := G) (ci := 8) (v := .int ((S 0 18) + 1)) (ty := .int) (C := RX8) (T := TX8) (N := 91) hx hb hT ku_8 tyX8 tyX8_ok nmX8 hown hK hP hD hS 0 rfl rfl 18 (by decide) (hT _ kw_11_19) (fun _ h9 => h9) rfl (by decide +kernel) rfl rfl (Nat.le_of_ble_eq_true rfl) dX8_pieceLine_177 (fun H locs hP hD hS => ?_)
  obtain ⟨S_30, eS_30, h⟩ := tx_lt h
  rw [sM_f18, eS_30] at hP hD
  refine lv_iconst (v := 1) hx hb dX8_pieceLine_180 (by decide) ?_
  obtain ⟨rfl, rfl⟩ := tx_2 h
  exact W.zret (ty := .boolean) hx hb hr rfl (fun t ht hW => ⟨⟨_, (), rfl, rfl, by rw [ht]; exact hP, hD⟩, hS.F ht⟩) hS.2.2 dX8_pieceLine_181
set_option maxHeartbeats 4000000 in
set_option maxRecDepth 100000 in
theorem c_X8_pieceLine (l : Launch) (G : va_G) (cA : Nat → ClassId) (sz : Nat) (aa : Nat → Nat) (S : Tr) (L : Lo)  (r0 : Int32) (S' : Tr) (h : f_X8_pieceLine S = some (r0, S')) : Met l yX8_pieceLine (.code yX8_pieceLine cX8_pieceLine 3 (some .boolean) :: T0) ({ frames := 3, cells := 0, slots := 0, locals := 69 } : Room) (tqP G cA [.ref (aa 0)] (wM cA aa S L) sz) (tqQi G cA (fun (r : Int32) (_ : Unit) => r = r0) (fun (_ : Unit) => wM cA aa S' L) (va_A (wM cA aa S L) sz)) 0 0 (va_A (wM cA aa S L) sz) := by
  refine Met.ofW (cc := cX8_pieceLine) (maxL := 3) (ret := (some .boolean)) (by decide) rfl ?_
  intro p e s m args below meth c s₁ B hml hv
  obtain ⟨rfl, hsz, hP, hK, hD0, hN⟩ := hv
  have hx := B.exec
  have hb := B.bytes
  have hr := B.returns
  have hts := atoms_spec (ws := .code yX8_pieceLine cX8_pieceLine 3 (some .boolean) :: T0) B.pre
  have hT : ∀ w ∈ T0, w.before _ s = true := fun w h => hts w (List.mem_cons_of_mem _ h)
  have hown : s.vm.findClass RX8 = some m.cls := findClass_of_methodNamed B.named
  have hlocks := B.notSynchronized
  subst hsz
  have hD := hD0.self (sz := s.heap.size)
  generalize hAe : va_A (wM cA aa S L) s.heap.size = A at hD ⊢
  have hA : ∀ q : Nat, s.heap.size ≤ q → A q := fun q h => by rw [← hAe]; exact Or.inr h
  have hS : va_S A s.heap s.heap [] := va_S.rf
  have hl := lv_entry ([.ref (aa 0)]) (n := 3) (Nat.le_of_ble_eq_true rfl)
  rw [lg_entry_eq]
  generalize (lg_sl ([.ref (aa 0)]) ++ List.replicate (3 - (lg_sl ([.ref (aa 0)])).length) Slot.unset).toArray = ls at hl ⊢
  have hl : lv_has ls 3 [(0, .ref (aa 0))] := hl
  have F : tF p s m ([.ref (aa 0)] : List Value).toArray meth c G cA A RX8 cX8_pieceLine 3 (some .boolean) := ⟨hx, hb, hr, hml, hT, hown, hlocks, hK, hN, hA⟩
  obtain ⟨H, hH⟩ : ∃ z, z = s.heap := ⟨_, rfl⟩
  rw [← hH] at hP
  have hS : va_S A s.heap H [] := by rw [hH]; exact hS
  suffices hgo : G_X8_pieceLine p l e s m below meth c G cA A aa L r0 S' H [] (F0 m 0 ls []) by rw [hH] at hgo; exact hgo
  generalize ([] : List Loc) = locs at hS ⊢
  unfold f_X8_pieceLine at h
  refine lv_aload_n hx hb dX8_pieceLine_0 rfl (lv_at hl 0 rfl) ?_
  refine va_get (D := G) (ci := 8) (v := .int (S 0 18)) (C := RX8) (T := TX8) (N := 91) hx hb hT ku_8 hown hK hP 0 rfl rfl 18 (by decide) (hT _ kw_11_19) (fun _ h9 => h9) rfl dX8_pieceLine_1 ?_
  refine lv_bipush (v := 10) hx hb dX8_pieceLine_4 (by decide) ?_
  refine lv_icmp_ne (tgt := 15) hx hb dX8_pieceLine_6 (by decide) (fun c1 => ?_) (fun c1 => ?_)
  · have h := tx_neg c1 h
    refine lv_aload_n hx hb dX8_pieceLine_15 rfl (lv_at hl 0 rfl) ?_
    obtain ⟨S_2, hc3, h⟩ := tx_bd h
    refine tw_cv tw_all hP hD hS hA (va_runV (As := []) (rest := []) ⟨hx, hb, hml, hown, hT⟩ (c_X8_token l G cA H.size aa S L  S_2 hc3) (cwV 0 hT (tq_gV kw_22_15 kw_22_16 kw_22_17 kw_1_5 kw_22_18) rfl rfl rfl (by decide +kernel) ⟨Nat.le_of_ble_eq_true rfl, Nat.le_of_ble_eq_true rfl⟩) ⟨(tw_pre tw_all hP hD hK hN).1, va_recv hK hP (ci := 8) (q0 := 0) rfl rfl, (tw_pre tw_all hP hD hK hN).2⟩ rfl rfl hl.1 rfl (lv_room (Nat.le_of_ble_eq_true rfl)) dX8_pieceLine_16 ⟨Nat.le_of_ble_eq_true rfl, Nat.le_of_ble_eq_true rfl⟩) (fun _ H locs z4 hP hD hS => ?_)
    rw [List.append_nil] at hP hD
    have hP : va_P G vwCl (wM cA aa S_2 L) H := hP
    have hD : va_D A (wM cA aa S_2 L) := hD
    refine lv_aload_n hx hb dX8_pieceLine_19 rfl (lv_at hl 0 rfl) ?_
    refine va_get (D := G) (ci := 8) (v := .int (S_2 0 8)) (C := RX8) (T := TX8) (N := 91) hx hb hT ku_8 hown hK hP 0 rfl rfl 8 (by decide) (hT _ kw_22_14) (fun _ h9 => h9) rfl dX8_pieceLine_20 ?_
    refine lv_iconst (v := 2) hx hb dX8_pieceLine_23 (by decide) ?_
    refine lv_icmp_eq (tgt := 33) hx hb dX8_pieceLine_24 (by decide) (fun c5 => ?_) (fun c5 => ?_)
    · have h := tx_pos c5 h
      refine lv_aload_n hx hb dX8_pieceLine_33 rfl (lv_at hl 0 rfl) ?_
      refine va_get (D := G) (ci := 8) (v := .ref (aa 26)) (C := RX8) (T := TX8) (N := 91) hx hb hT ku_8 hown hK hP 0 rfl rfl 25 (by decide) (hT _ kw_9_17) (fun _ h9 => h9) rfl dX8_pieceLine_34 ?_
      refine lv_bipush (v := 6) hx hb dX8_pieceLine_37 (by decide) ?_
      refine lv_aload_n hx hb dX8_pieceLine_39 rfl (lv_at hl 0 rfl) ?_
      refine va_get (D := G) (ci := 8) (v := .int (S_2 0 17)) (C := RX8) (T := TX8) (N := 91) hx hb hT ku_8 hown hK hP 0 rfl rfl 17 (by decide) (hT _ kw_11_18) (fun _ h9 => h9) rfl dX8_pieceLine_40 ?_
      refine lv_aload_n hx hb dX8_pieceLine_43 rfl (lv_at hl 0 rfl) ?_
      refine va_get (D := G) (ci := 8) (v := .int (S_2 0 9)) (C := RX8) (T := TX8) (N := 91) hx hb hT ku_8 hown hK hP 0 rfl rfl 9 (by decide) (hT _ kw_22_20) (fun _ h9 => h9) rfl dX8_pieceLine_44 ?_
      obtain ⟨r6, hc7, h⟩ := tx_bd h
      refine tw_ci tw_all hP hD hS hA (va_runS (As := [.ref (aa 26), .int 6, .int (S_2 0 17), .int (S_2 0 9)]) (rest := []) ⟨hx, hb, hml, hown, hT⟩ (c_X8_find_26 l G cA H.size aa S_2 L (6 : Int32) (S_2 0 17) (S_2 0 9)  r6 hc7) (va_cwS 4 hT (tq_gS kw_24_18 kw_24_19 kw_1_5 kw_24_20) rfl rfl rfl (by decide +kernel) ⟨Nat.le_of_ble_eq_true rfl, Nat.le_of_ble_eq_true rfl⟩) (tw_pre tw_all hP hD hK hN) rfl rfl hl.1 rfl (lv_room (Nat.le_of_ble_eq_true rfl)) dX8_pieceLine_47 ⟨Nat.le_of_ble_eq_true rfl, Nat.le_of_ble_eq_true rfl⟩) (fun _ _ H locs z8 hP hD hS => ?_)
      subst z8
      rw [List.append_nil] at hP hD
      have hP : va_P G vwCl (wM cA aa S_2 L) H := hP
      have hD : va_D A (wM cA aa S_2 L) := hD
      refine lv_istore_n (lv' := [(1, .int r6), (0, .ref (aa 0))]) hx hb dX8_pieceLine_50 rfl hl (by decide) rfl (fun ls hl => ?_)
      refine lv_iload_n hx hb dX8_pieceLine_51 rfl (lv_at hl 0 rfl) ?_
      refine lv_if_ge (tgt := 61) hx hb dX8_pieceLine_52 (by decide) (fun c9 => ?_) (fun c9 => ?_)
      · have h := tx_pos c9 h
        refine lv_bipush (v := 10) hx hb dX8_pieceLine_61 (by decide) ?_
        refine lv_aload_n hx hb dX8_pieceLine_63 rfl (lv_at hl 1 rfl) ?_
        refine va_get (D := G) (ci := 8) (v := .int (S_2 0 18)) (C := RX8) (T := TX8) (N := 91) hx hb hT ku_8 hown hK hP 0 rfl rfl 18 (by decide) (hT _ kw_11_19) (fun _ h9 => h9) rfl dX8_pieceLine_64 ?_
        refine lv_iadd hx hb dX8_pieceLine_67 ?_
        refine lv_topi (fun y10 ey10 => ?_)
        have h := tx_let ey10 h
        refine lv_istore_n (lv' := [(2, .int y10), (1, .int r6), (0, .ref (aa 0))]) hx hb dX8_pieceLine_68 rfl hl (by decide) rfl (fun ls hl => ?_)
        refine lv_aload_n hx hb dX8_pieceLine_69 rfl (lv_at hl 2 rfl) ?_
        refine va_get (D := G) (ci := 8) (v := .ref (aa 30)) (C := RX8) (T := TX8) (N := 91) hx hb hT ku_8 hown hK hP 0 rfl rfl 29 (by decide) (hT _ kw_9_21) (fun _ h9 => h9) rfl dX8_pieceLine_70 ?_
        refine lv_iload_n hx hb dX8_pieceLine_73 rfl (lv_at hl 0 rfl) ?_
        refine lv_iload_n hx hb dX8_pieceLine_74 rfl (lv_at hl 1 rfl) ?_
        obtain ⟨g11, h⟩ := tx_ck h
        refine va_iast (i := y10) hx hb hK hP hD hS 11 0 rfl rfl (tx_in g11) dX8_pieceLine_75 (fun H locs hP hD hS => ?_)
        obtain ⟨S_12, eS_12, h⟩ := tx_lt h
        rw [sM_a29, eS_12] at hP hD
        refine lv_aload_n hx hb dX8_pieceLine_76 rfl (lv_at hl 2 rfl) ?_
        obtain ⟨S_13, hc14, h⟩ := tx_bd h
        refine tw_cv tw_all hP hD hS hA (va_runV (As := []) (rest := []) ⟨hx, hb, hml, hown, hT⟩ (c_X8_token l G cA H.size aa S_12 L  S_13 hc14) (cwV 0 hT (tq_gV kw_22_15 kw_22_16 kw_22_17 kw_1_5 kw_22_18) rfl rfl rfl (by decide +kernel) ⟨Nat.le_of_ble_eq_true rfl, Nat.le_of_ble_eq_true rfl⟩) ⟨(tw_pre tw_all hP hD hK hN).1, va_recv hK hP (ci := 8) (q0 := 0) rfl rfl, (tw_pre tw_all hP hD hK hN).2⟩ rfl rfl hl.1 rfl (lv_room (Nat.le_of_ble_eq_true rfl)) dX8_pieceLine_77 ⟨Nat.le_of_ble_eq_true rfl, Nat.le_of_ble_eq_true rfl⟩) (fun _ H locs z15 hP hD hS => ?_)
        rw [List.append_nil] at hP hD
        have hP : va_P G vwCl (wM cA aa S_13 L) H := hP
        have hD : va_D A (wM cA aa S_13 L) := hD
        refine lv_aload_n hx hb dX8_pieceLine_80 rfl (lv_at hl 2 rfl) ?_
        refine lv_iconst (v := 1) hx hb dX8_pieceLine_81 (by decide) ?_
        refine lv_bipush (v := 99) hx hb dX8_pieceLine_82 (by decide) ?_
        obtain ⟨⟨r16, S_17⟩, hc18, h⟩ := tx_bd h
        replace h := tx_let (y := r16) rfl h
        replace h := tx_let (y := S_17) rfl h
        refine tw_ci tw_all hP hD hS hA (va_runV (As := [.int 1, .int 99]) (rest := []) ⟨hx, hb, hml, hown, hT⟩ (c_X8_number l G cA H.size aa S_13 L (1 : Int32) (99 : Int32)  r16 S_17 hc18) (cwV 2 hT (tq_gV kw_24_7 kw_24_8 kw_24_9 kw_1_5 kw_24_10) rfl rfl rfl (by decide +kernel) ⟨Nat.le_of_ble_eq_true rfl, Nat.le_of_ble_eq_true rfl⟩) ⟨(tw_pre tw_all hP hD hK hN).1, va_recv hK hP (ci := 8) (q0 := 0) rfl rfl, (tw_pre tw_all hP hD hK hN).2⟩ rfl rfl hl.1 rfl (lv_room (Nat.le_of_ble_eq_true rfl)) dX8_pieceLine_84 ⟨Nat.le_of_ble_eq_true rfl, Nat.le_of_ble_eq_true rfl⟩) (fun _ _ H locs z19 hP hD hS => ?_)
        subst z19
        rw [List.append_nil] at hP hD
        have hP : va_P G vwCl (wM cA aa S_17 L) H := hP
        have hD : va_D A (wM cA aa S_17 L) := hD
        refine lv_if_ne (tgt := 92) hx hb dX8_pieceLine_87 (by decide) (fun c20 => ?_) (fun c20 => ?_)
        · have h := tx_neg c20 h
          refine lv_aload_n hx hb dX8_pieceLine_92 rfl (lv_at hl 2 rfl) ?_
          refine va_get (D := G) (ci := 8) (v := .ref (aa 31)) (C := RX8) (T := TX8) (N := 91) hx hb hT ku_8 hown hK hP 0 rfl rfl 30 (by decide) (hT _ kw_9_22) (fun _ h9 => h9) rfl dX8_pieceLine_93 ?_
          refine lv_iload_n hx hb dX8_pieceLine_96 rfl (lv_at hl 0 rfl) ?_
          refine lv_aload_n hx hb dX8_pieceLine_97 rfl (lv_at hl 2 rfl) ?_
          refine va_get (D := G) (ci := 8) (v := .int (S_17 0 11)) (C := RX8) (T := TX8) (N := 91) hx hb hT ku_8 hown hK hP 0 rfl rfl 11 (by decide) (hT _ kw_23_22) (fun _ h9 => h9) rfl dX8_pieceLine_98 ?_
          refine va_iast (i := y10) hx hb hK hP hD hS 12 0 rfl rfl (tx_in g11) dX8_pieceLine_101 (fun H locs hP hD hS => ?_)
          obtain ⟨S_21, eS_21, h⟩ := tx_lt h
          rw [sM_a30, eS_21] at hP hD
          refine lv_aload_n hx hb dX8_pieceLine_102 rfl (lv_at hl 2 rfl) ?_
          refine lv_iconst (v := 0) hx hb dX8_pieceLine_103 (by decide) ?_
          refine lv_bipush (v := 9) hx hb dX8_pieceLine_104 (by decide) ?_
          obtain ⟨⟨r22, S_23⟩, hc24, h⟩ := tx_bd h
          replace h := tx_let (y := r22) rfl h
          replace h := tx_let (y := S_23) rfl h
          refine tw_ci tw_all hP hD hS hA (va_runV (As := [.int 0, .int 9]) (rest := []) ⟨hx, hb, hml, hown, hT⟩ (c_X8_number l G cA H.size aa S_21 L (0 : Int32) (9 : Int32)  r22 S_23 hc24) (cwV 2 hT (tq_gV kw_24_7 kw_24_8 kw_24_9 kw_1_5 kw_24_10) rfl rfl rfl (by decide +kernel) ⟨Nat.le_of_ble_eq_true rfl, Nat.le_of_ble_eq_true rfl⟩) ⟨(tw_pre tw_all hP hD hK hN).1, va_recv hK hP (ci := 8) (q0 := 0) rfl rfl, (tw_pre tw_all hP hD hK hN).2⟩ rfl rfl hl.1 rfl (lv_room (Nat.le_of_ble_eq_true rfl)) dX8_pieceLine_106 ⟨Nat.le_of_ble_eq_true rfl, Nat.le_of_ble_eq_true rfl⟩) (fun _ _ H locs z25 hP hD hS => ?_)
          subst z25
          rw [List.append_nil] at hP hD
          have hP : va_P G vwCl (wM cA aa S_23 L) H := hP
          have hD : va_D A (wM cA aa S_23 L) := hD
          refine lv_if_ne (tgt := 114) hx hb dX8_pieceLine_109 (by decide) (fun c26 => ?_) (fun c26 => ?_)
          · have h := tx_neg c26 h
            refine lv_aload_n hx hb dX8_pieceLine_114 rfl (lv_at hl 2 rfl) ?_
            refine va_get (D := G) (ci := 8) (v := .ref (aa 32)) (C := RX8) (T := TX8) (N := 91) hx hb hT ku_8 hown hK hP 0 rfl rfl 31 (by decide) (hT _ kw_9_23) (fun _ h9 => h9) rfl dX8_pieceLine_115 ?_
            refine lv_iload_n hx hb dX8_pieceLine_118 rfl (lv_at hl 0 rfl) ?_
            refine lv_aload_n hx hb dX8_pieceLine_119 rfl (lv_at hl 2 rfl) ?_
            refine va_get (D := G) (ci := 8) (v := .int (S_23 0 11)) (C := RX8) (T := TX8) (N := 91) hx hb hT ku_8 hown hK hP 0 rfl rfl 11 (by decide) (hT _ kw_23_22) (fun _ h9 => h9) rfl dX8_pieceLine_120 ?_
            refine va_iast (i := y10) hx hb hK hP hD hS 13 0 rfl rfl (tx_in g11) dX8_pieceLine_123 (fun H locs hP hD hS => ?_)
            obtain ⟨S_27, eS_27, h⟩ := tx_lt h
            rw [sM_a31, eS_27] at hP hD
            refine lv_aload_n hx hb dX8_pieceLine_124 rfl (lv_at hl 2 rfl) ?_
            refine va_get (D := G) (ci := 8) (v := .ref (aa 33)) (C := RX8) (T := TX8) (N := 91) hx hb hT ku_8 hown hK hP 0 rfl rfl 32 (by decide) (hT _ kw_10_0) (fun _ h9 => h9) rfl dX8_pieceLine_125 ?_
            refine lv_iload_n hx hb dX8_pieceLine_128 rfl (lv_at hl 0 rfl) ?_
            refine lv_iconst (v := (-1)) hx hb dX8_pieceLine_129 (by decide) ?_
            refine va_iast (i := y10) hx hb hK hP hD hS 14 0 rfl rfl (tx_in g11) dX8_pieceLine_130 (fun H locs hP hD hS => ?_)
            obtain ⟨S_28, eS_28, h⟩ := tx_lt h
            rw [sM_a32, eS_28] at hP hD
            refine lv_aload_n hx hb dX8_pieceLine_131 rfl (lv_at hl 2 rfl) ?_
            refine va_get (D := G) (ci := 8) (v := .int (S_28 0 8)) (C := RX8) (T := TX8) (N := 91) hx hb hT ku_8 hown hK hP 0 rfl rfl 8 (by decide) (hT _ kw_22_14) (fun _ h9 => h9) rfl dX8_pieceLine_132 ?_
            refine lv_iconst (v := 3) hx hb dX8_pieceLine_135 (by decide) ?_
            refine lv_icmp_ne (tgt := 170) hx hb dX8_pieceLine_136 (by decide) (fun c29 => ?_) (fun c29 => ?_)
            · have h := tx_neg c29 h
              exact w_X8_pieceLine_J170 F S_28 H locs ls h hP hD hS (lv_sub hl [2] rfl)
            · have h := tx_pos c29 h
              refine lv_aload_n hx hb dX8_pieceLine_139 rfl (lv_at hl 2 rfl) ?_
              refine va_get (D := G) (ci := 8) (v := .int (S_28 0 9)) (C := RX8) (T := TX8) (N := 91) hx hb hT ku_8 hown hK hP 0 rfl rfl 9 (by decide) (hT _ kw_22_20) (fun _ h9 => h9) rfl dX8_pieceLine_140 ?_
              refine lv_aload_n hx hb dX8_pieceLine_143 rfl (lv_at hl 2 rfl) ?_
              refine va_get (D := G) (ci := 8) (v := .int (S_28 0 16)) (C := RX8) (T := TX8) (N := 91) hx hb hT ku_8 hown hK hP 0 rfl rfl 16 (by decide) (hT _ kw_11_17) (fun _ h9 => h9) rfl dX8_pieceLine_144 ?_
              refine lv_icmp_lt (tgt := 156) hx hb dX8_pieceLine_147 (by decide) (fun c31 => ?_) (fun c31 => ?_)
              · have h := tx_pos c31 h
                refine lv_aload_n hx hb dX8_pieceLine_156 rfl (lv_at hl 2 rfl) ?_
                refine va_get (D := G) (ci := 8) (v := .ref (aa 33)) (C := RX8) (T := TX8) (N := 91) hx hb hT ku_8 hown hK hP 0 rfl rfl 32 (by decide) (hT _ kw_10_0) (fun _ h9 => h9) rfl dX8_pieceLine_157 ?_
                refine lv_iload_n hx hb dX8_pieceLine_160 rfl (lv_at hl 0 rfl) ?_
                refine lv_aload_n hx hb dX8_pieceLine_161 rfl (lv_at hl 2 rfl) ?_
                refine va_get (D := G) (ci := 8) (v := .int (S_28 0 9)) (C := RX8) (T := TX8) (N := 91) hx hb hT ku_8 hown hK hP 0 rfl rfl 9 (by decide) (hT _ kw_22_20) (fun _ h9 => h9) rfl dX8_pieceLine_162 ?_
                refine va_iast (i := y10) hx hb hK hP hD hS 14 0 rfl rfl (tx_in g11) dX8_pieceLine_165 (fun H locs hP hD hS => ?_)
                obtain ⟨S_32, eS_32, h⟩ := tx_lt h
                rw [sM_a32, eS_32] at hP hD
                refine lv_aload_n hx hb dX8_pieceLine_166 rfl (lv_at hl 2 rfl) ?_
                obtain ⟨S_33, hc34, h⟩ := tx_bd h
                refine tw_cv tw_all hP hD hS hA (va_runV (As := []) (rest := []) ⟨hx, hb, hml, hown, hT⟩ (c_X8_token l G cA H.size aa S_32 L  S_33 hc34) (cwV 0 hT (tq_gV kw_22_15 kw_22_16 kw_22_17 kw_1_5 kw_22_18) rfl rfl rfl (by decide +kernel) ⟨Nat.le_of_ble_eq_true rfl, Nat.le_of_ble_eq_true rfl⟩) ⟨(tw_pre tw_all hP hD hK hN).1, va_recv hK hP (ci := 8) (q0 := 0) rfl rfl, (tw_pre tw_all hP hD hK hN).2⟩ rfl rfl hl.1 rfl (lv_room (Nat.le_of_ble_eq_true rfl)) dX8_pieceLine_167 ⟨Nat.le_of_ble_eq_true rfl, Nat.le_of_ble_eq_true rfl⟩) (fun _ H locs z35 hP hD hS => ?_)
                rw [List.append_nil] at hP hD
                have hP : va_P G vwCl (wM cA aa S_33 L) H := hP
                have hD : va_D A (wM cA aa S_33 L) := hD
                exact w_X8_pieceLine_J170 F S_33 H locs ls h hP hD hS (lv_sub hl [2] rfl)
              · have h := tx_neg c31 h
                refine lv_aload_n hx hb dX8_pieceLine_150 rfl (lv_at hl 2 rfl) ?_
                refine lv_iconst (v := 4) hx hb dX8_pieceLine_151 (by decide) ?_
                obtain ⟨⟨r36, S_37⟩, hc38, h⟩ := tx_bd h
                replace h := tx_let (y := r36) rfl h
                replace h := tx_let (y := S_37) rfl h
                refine tw_ci tw_all hP hD hS hA (va_runV (As := [.int 4]) (rest := []) ⟨hx, hb, hml, hown, hT⟩ (c_X8_wrong l G cA H.size aa S_28 L (4 : Int32)  r36 S_37 hc38) (cwV 1 hT (tq_gV kw_23_23 kw_24_0 kw_24_1 kw_1_5 kw_24_2) rfl rfl rfl (by decide +kernel) ⟨Nat.le_of_ble_eq_true rfl, Nat.le_of_ble_eq_true rfl⟩) ⟨(tw_pre tw_all hP hD hK hN).1, va_recv hK hP (ci := 8) (q0 := 0) rfl rfl, (tw_pre tw_all hP hD hK hN).2⟩ rfl rfl hl.1 rfl (lv_room (Nat.le_of_ble_eq_true rfl)) dX8_pieceLine_152 ⟨Nat.le_of_ble_eq_true rfl, Nat.le_of_ble_eq_true rfl⟩) (fun _ _ H locs z39 hP hD hS => ?_)
                subst z39
                rw [List.append_nil] at hP hD
                have hP : va_P G vwCl (wM cA aa S_37 L) H := hP
                have hD : va_D A (wM cA aa S_37 L) := hD
                obtain ⟨g40, h⟩ := tx_ck h
                obtain ⟨rfl, rfl⟩ := tx_2 h
                exact W.zret (ty := .boolean) hx hb hr (tx_z g40) (fun t ht hW => ⟨⟨_, (), rfl, rfl, by rw [ht]; exact hP, hD⟩, hS.F ht⟩) hS.2.2 dX8_pieceLine_155
          · have h := tx_pos c26 h
            refine lv_iconst (v := 0) hx hb dX8_pieceLine_112 (by decide) ?_
            obtain ⟨rfl, rfl⟩ := tx_2 h
            exact W.zret (ty := .boolean) hx hb hr rfl (fun t ht hW => ⟨⟨_, (), rfl, rfl, by rw [ht]; exact hP, hD⟩, hS.F ht⟩) hS.2.2 dX8_pieceLine_113
        · have h := tx_pos c20 h
          refine lv_iconst (v := 0) hx hb dX8_pieceLine_90 (by decide) ?_
          obtain ⟨rfl, rfl⟩ := tx_2 h
          exact W.zret (ty := .boolean) hx hb hr rfl (fun t ht hW => ⟨⟨_, (), rfl, rfl, by rw [ht]; exact hP, hD⟩, hS.F ht⟩) hS.2.2 dX8_pieceLine_91
      · have h := tx_neg c9 h
        refine lv_aload_n hx hb dX8_pieceLine_55 rfl (lv_at hl 1 rfl) ?_
        refine lv_iconst (v := 4) hx hb dX8_pieceLine_56 (by decide) ?_
        obtain ⟨⟨r41, S_42⟩, hc43, h⟩ := tx_bd h
        replace h := tx_let (y := r41) rfl h
        replace h := tx_let (y := S_42) rfl h
        refine tw_ci tw_all hP hD hS hA (va_runV (As := [.int 4]) (rest := []) ⟨hx, hb, hml, hown, hT⟩ (c_X8_wrong l G cA H.size aa S_2 L (4 : Int32)  r41 S_42 hc43) (cwV 1 hT (tq_gV kw_23_23 kw_24_0 kw_24_1 kw_1_5 kw_24_2) rfl rfl rfl (by decide +kernel) ⟨Nat.le_of_ble_eq_true rfl, Nat.le_of_ble_eq_true rfl⟩) ⟨(tw_pre tw_all hP hD hK hN).1, va_recv hK hP (ci := 8) (q0 := 0) rfl rfl, (tw_pre tw_all hP hD hK hN).2⟩ rfl rfl hl.1 rfl (lv_room (Nat.le_of_ble_eq_true rfl)) dX8_pieceLine_57 ⟨Nat.le_of_ble_eq_true rfl, Nat.le_of_ble_eq_true rfl⟩) (fun _ _ H locs z44 hP hD hS => ?_)
        subst z44
        rw [List.append_nil] at hP hD
        have hP : va_P G vwCl (wM cA aa S_42 L) H := hP
        have hD : va_D A (wM cA aa S_42 L) := hD
        obtain ⟨g45, h⟩ := tx_ck h
        obtain ⟨rfl, rfl⟩ := tx_2 h
        exact W.zret (ty := .boolean) hx hb hr (tx_z g45) (fun t ht hW => ⟨⟨_, (), rfl, rfl, by rw [ht]; exact hP, hD⟩, hS.F ht⟩) hS.2.2 dX8_pieceLine_60
    · have h := tx_neg c5 h
      refine lv_aload_n hx hb dX8_pieceLine_27 rfl (lv_at hl 0 rfl) ?_
      refine lv_iconst (v := 1) hx hb dX8_pieceLine_28 (by decide) ?_
      obtain ⟨⟨r46, S_47⟩, hc48, h⟩ := tx_bd h
      replace h := tx_let (y := r46) rfl h
      replace h := tx_let (y := S_47) rfl h
      refine tw_ci tw_all hP hD hS hA (va_runV (As := [.int 1]) (rest := []) ⟨hx, hb, hml, hown, hT⟩ (c_X8_wrong l G cA H.size aa S_2 L (1 : Int32)  r46 S_47 hc48) (cwV 1 hT (tq_gV kw_23_23 kw_24_0 kw_24_1 kw_1_5 kw_24_2) rfl rfl rfl (by decide +kernel) ⟨Nat.le_of_ble_eq_true rfl, Nat.le_of_ble_eq_true rfl⟩) ⟨(tw_pre tw_all hP hD hK hN).1, va_recv hK hP (ci := 8) (q0 := 0) rfl rfl, (tw_pre tw_all hP hD hK hN).2⟩ rfl rfl hl.1 rfl (lv_room (Nat.le_of_ble_eq_true rfl)) dX8_pieceLine_29 ⟨Nat.le_of_ble_eq_true rfl, Nat.le_of_ble_eq_true rfl⟩) (fun _ _ H locs z49 hP hD hS => ?_)
      subst z49
      rw [List.append_nil] at hP hD
      have hP : va_P G vwCl (wM cA aa S_47 L) H := hP
      have hD : va_D A (wM cA aa S_47 L) := hD
      obtain ⟨g50, h⟩ := tx_ck h
      obtain ⟨rfl, rfl⟩ := tx_2 h
      exact W.zret (ty := .boolean) hx hb hr (tx_z g50) (fun t ht hW => ⟨⟨_, (), rfl, rfl, by rw [ht]; exact hP, hD⟩, hS.F ht⟩) hS.2.2 dX8_pieceLine_32
  · have h := tx_pos c1 h
    refine lv_aload_n hx hb dX8_pieceLine_9 rfl (lv_at hl 0 rfl) ?_
    refine lv_iconst (v := 2) hx hb dX8_pieceLine_10 (by decide) ?_
    obtain ⟨⟨r51, S_52⟩, hc53, h⟩ := tx_bd h
    replace h := tx_let (y := r51) rfl h
    replace h := tx_let (y := S_52) rfl h
    refine tw_ci tw_all hP hD hS hA (va_runV (As := [.int 2]) (rest := []) ⟨hx, hb, hml, hown, hT⟩ (c_X8_wrong l G cA H.size aa S L (2 : Int32)  r51 S_52 hc53) (cwV 1 hT (tq_gV kw_23_23 kw_24_0 kw_24_1 kw_1_5 kw_24_2) rfl rfl rfl (by decide +kernel) ⟨Nat.le_of_ble_eq_true rfl, Nat.le_of_ble_eq_true rfl⟩) ⟨(tw_pre tw_all hP hD hK hN).1, va_recv hK hP (ci := 8) (q0 := 0) rfl rfl, (tw_pre tw_all hP hD hK hN).2⟩ rfl rfl hl.1 rfl (lv_room (Nat.le_of_ble_eq_true rfl)) dX8_pieceLine_11 ⟨Nat.le_of_ble_eq_true rfl, Nat.le_of_ble_eq_true rfl⟩) (fun _ _ H locs z54 hP hD hS => ?_)
    subst z54
    rw [List.append_nil] at hP hD
    have hP : va_P G vwCl (wM cA aa S_52 L) H := hP
    have hD : va_D A (wM cA aa S_52 L) := hD
    obtain ⟨g55, h⟩ := tx_ck h
    obtain ⟨rfl, rfl⟩ := tx_2 h
    exact W.zret (ty := .boolean) hx hb hr (tx_z g55) (fun t ht hW => ⟨⟨_, (), rfl, rfl, by rw [ht]; exact hP, hD⟩, hS.F ht⟩) hS.2.2 dX8_pieceLine_14
abbrev G_X8_personLine (p : Program) (l : Launch) (e : Env) (s : State) (m : MethodId) (below : List Frame) (meth : Method) (c : Code) (G : va_G) (cA : Nat → ClassId) (A : Nat → Prop) (aa : Nat → Nat) (L : Lo) (r0 : Int32) (S' : Tr) (H : Heap) (locs : List Loc) (g : JFrame) : Prop := W p l e (headSpec (.code yX8_personLine cX8_personLine 2 (some .boolean) :: T0) ({ frames := 3, cells := 0, slots := 0, locals := 69 } : Room)).room s m ([.ref (aa 0)] : List Value).toArray below meth c H locs 0 0 (MQ below (tqQi G cA (fun (r : Int32) (_ : Unit) => r = r0) (fun (_ : Unit) => wM cA aa S' L) A) ([.ref (aa 0)] : List Value).toArray s 0 0 A) g
set_option maxHeartbeats 4000000 in
set_option maxRecDepth 100000 in
theorem c_X8_personLine (l : Launch) (G : va_G) (cA : Nat → ClassId) (sz : Nat) (aa : Nat → Nat) (S : Tr) (L : Lo)  (r0 : Int32) (S' : Tr) (h : f_X8_personLine S = some (r0, S')) : Met l yX8_personLine (.code yX8_personLine cX8_personLine 2 (some .boolean) :: T0) ({ frames := 3, cells := 0, slots := 0, locals := 69 } : Room) (tqP G cA [.ref (aa 0)] (wM cA aa S L) sz) (tqQi G cA (fun (r : Int32) (_ : Unit) => r = r0) (fun (_ : Unit) => wM cA aa S' L) (va_A (wM cA aa S L) sz)) 0 0 (va_A (wM cA aa S L) sz) := by
  refine Met.ofW (cc := cX8_personLine) (maxL := 2) (ret := (some .boolean)) (by decide) rfl ?_
  intro p e s m args below meth c s₁ B hml hv
  obtain ⟨rfl, hsz, hP, hK, hD0, hN⟩ := hv
  have hx := B.exec
  have hb := B.bytes
  have hr := B.returns
  have hts := atoms_spec (ws := .code yX8_personLine cX8_personLine 2 (some .boolean) :: T0) B.pre
  have hT : ∀ w ∈ T0, w.before _ s = true := fun w h => hts w (List.mem_cons_of_mem _ h)
  have hown : s.vm.findClass RX8 = some m.cls := findClass_of_methodNamed B.named
  have hlocks := B.notSynchronized
  subst hsz
  have hD := hD0.self (sz := s.heap.size)
  generalize hAe : va_A (wM cA aa S L) s.heap.size = A at hD ⊢
  have hA : ∀ q : Nat, s.heap.size ≤ q → A q := fun q h => by rw [← hAe]; exact Or.inr h
  have hS : va_S A s.heap s.heap [] := va_S.rf
  have hl := lv_entry ([.ref (aa 0)]) (n := 2) (Nat.le_of_ble_eq_true rfl)
  rw [lg_entry_eq]
  generalize (lg_sl ([.ref (aa 0)]) ++ List.replicate (2 - (lg_sl ([.ref (aa 0)])).length) Slot.unset).toArray = ls at hl ⊢
  have hl : lv_has ls 2 [(0, .ref (aa 0))] := hl
  have F : tF p s m ([.ref (aa 0)] : List Value).toArray meth c G cA A RX8 cX8_personLine 2 (some .boolean) := ⟨hx, hb, hr, hml, hT, hown, hlocks, hK, hN, hA⟩
  obtain ⟨H, hH⟩ : ∃ z, z = s.heap := ⟨_, rfl⟩
  rw [← hH] at hP
  have hS : va_S A s.heap H [] := by rw [hH]; exact hS
  suffices hgo : G_X8_personLine p l e s m below meth c G cA A aa L r0 S' H [] (F0 m 0 ls []) by rw [hH] at hgo; exact hgo
  generalize ([] : List Loc) = locs at hS ⊢
  unfold f_X8_personLine at h
  refine lv_aload_n hx hb dX8_personLine_0 rfl (lv_at hl 0 rfl) ?_
  refine va_get (D := G) (ci := 8) (v := .int (S 0 17)) (C := RX8) (T := TX8) (N := 91) hx hb hT ku_8 hown hK hP 0 rfl rfl 17 (by decide) (hT _ kw_11_18) (fun _ h9 => h9) rfl dX8_personLine_1 ?_
  refine lv_bipush (v := 6) hx hb dX8_personLine_4 (by decide) ?_
  refine lv_icmp_ne (tgt := 15) hx hb dX8_personLine_6 (by decide) (fun c1 => ?_) (fun c1 => ?_)
  · have h := tx_neg c1 h
    refine lv_aload_n hx hb dX8_personLine_15 rfl (lv_at hl 0 rfl) ?_
    obtain ⟨S_2, hc3, h⟩ := tx_bd h
    refine tw_cv tw_all hP hD hS hA (va_runV (As := []) (rest := []) ⟨hx, hb, hml, hown, hT⟩ (c_X8_token l G cA H.size aa S L  S_2 hc3) (cwV 0 hT (tq_gV kw_22_15 kw_22_16 kw_22_17 kw_1_5 kw_22_18) rfl rfl rfl (by decide +kernel) ⟨Nat.le_of_ble_eq_true rfl, Nat.le_of_ble_eq_true rfl⟩) ⟨(tw_pre tw_all hP hD hK hN).1, va_recv hK hP (ci := 8) (q0 := 0) rfl rfl, (tw_pre tw_all hP hD hK hN).2⟩ rfl rfl hl.1 rfl (lv_room (Nat.le_of_ble_eq_true rfl)) dX8_personLine_16 ⟨Nat.le_of_ble_eq_true rfl, Nat.le_of_ble_eq_true rfl⟩) (fun _ H locs z4 hP hD hS => ?_)
    rw [List.append_nil] at hP hD
    have hP : va_P G vwCl (wM cA aa S_2 L) H := hP
    have hD : va_D A (wM cA aa S_2 L) := hD
    refine lv_aload_n hx hb dX8_personLine_19 rfl (lv_at hl 0 rfl) ?_
    refine va_get (D := G) (ci := 8) (v := .int (S_2 0 8)) (C := RX8) (T := TX8) (N := 91) hx hb hT ku_8 hown hK hP 0 rfl rfl 8 (by decide) (hT _ kw_22_14) (fun _ h9 => h9) rfl dX8_personLine_20 ?_
    refine lv_iconst (v := 2) hx hb dX8_personLine_23 (by decide) ?_
    refine lv_icmp_eq (tgt := 33) hx hb dX8_personLine_24 (by decide) (fun c5 => ?_) (fun c5 => ?_)
    · have h := tx_pos c5 h
      refine lv_aload_n hx hb dX8_personLine_33 rfl (lv_at hl 0 rfl) ?_
      refine va_get (D := G) (ci := 8) (v := .ref (aa 26)) (C := RX8) (T := TX8) (N := 91) hx hb hT ku_8 hown hK hP 0 rfl rfl 25 (by decide) (hT _ kw_9_17) (fun _ h9 => h9) rfl dX8_personLine_34 ?_
      refine lv_bipush (v := 6) hx hb dX8_personLine_37 (by decide) ?_
      refine lv_aload_n hx hb dX8_personLine_39 rfl (lv_at hl 0 rfl) ?_
      refine va_get (D := G) (ci := 8) (v := .int (S_2 0 17)) (C := RX8) (T := TX8) (N := 91) hx hb hT ku_8 hown hK hP 0 rfl rfl 17 (by decide) (hT _ kw_11_18) (fun _ h9 => h9) rfl dX8_personLine_40 ?_
      refine lv_aload_n hx hb dX8_personLine_43 rfl (lv_at hl 0 rfl) ?_
      refine va_get (D := G) (ci := 8) (v := .int (S_2 0 9)) (C := RX8) (T := TX8) (N := 91) hx hb hT ku_8 hown hK hP 0 rfl rfl 9 (by decide) (hT _ kw_22_20) (fun _ h9 => h9) rfl dX8_personLine_44 ?_
      obtain ⟨r6, hc7, h⟩ := tx_bd h
      refine tw_ci tw_all hP hD hS hA (va_runS (As := [.ref (aa 26), .int 6, .int (S_2 0 17), .int (S_2 0 9)]) (rest := []) ⟨hx, hb, hml, hown, hT⟩ (c_X8_find_26 l G cA H.size aa S_2 L (6 : Int32) (S_2 0 17) (S_2 0 9)  r6 hc7) (va_cwS 4 hT (tq_gS kw_24_18 kw_24_19 kw_1_5 kw_24_20) rfl rfl rfl (by decide +kernel) ⟨Nat.le_of_ble_eq_true rfl, Nat.le_of_ble_eq_true rfl⟩) (tw_pre tw_all hP hD hK hN) rfl rfl hl.1 rfl (lv_room (Nat.le_of_ble_eq_true rfl)) dX8_personLine_47 ⟨Nat.le_of_ble_eq_true rfl, Nat.le_of_ble_eq_true rfl⟩) (fun _ _ H locs z8 hP hD hS => ?_)
      subst z8
      rw [List.append_nil] at hP hD
      have hP : va_P G vwCl (wM cA aa S_2 L) H := hP
      have hD : va_D A (wM cA aa S_2 L) := hD
      refine lv_if_lt (tgt := 59) hx hb dX8_personLine_50 (by decide) (fun c9 => ?_) (fun c9 => ?_)
      · have h := tx_pos c9 h
        refine lv_bipush (v := 6) hx hb dX8_personLine_59 (by decide) ?_
        refine lv_aload_n hx hb dX8_personLine_61 rfl (lv_at hl 0 rfl) ?_
        refine va_get (D := G) (ci := 8) (v := .int (S_2 0 17)) (C := RX8) (T := TX8) (N := 91) hx hb hT ku_8 hown hK hP 0 rfl rfl 17 (by decide) (hT _ kw_11_18) (fun _ h9 => h9) rfl dX8_personLine_62 ?_
        refine lv_iadd hx hb dX8_personLine_65 ?_
        refine lv_topi (fun y10 ey10 => ?_)
        have h := tx_let ey10 h
        refine lv_istore_n (lv' := [(1, .int y10), (0, .ref (aa 0))]) hx hb dX8_personLine_66 rfl hl (by decide) rfl (fun ls hl => ?_)
        refine lv_aload_n hx hb dX8_personLine_67 rfl (lv_at hl 1 rfl) ?_
        refine va_get (D := G) (ci := 8) (v := .ref (aa 26)) (C := RX8) (T := TX8) (N := 91) hx hb hT ku_8 hown hK hP 0 rfl rfl 25 (by decide) (hT _ kw_9_17) (fun _ h9 => h9) rfl dX8_personLine_68 ?_
        refine lv_iload_n hx hb dX8_personLine_71 rfl (lv_at hl 0 rfl) ?_
        refine lv_aload_n hx hb dX8_personLine_72 rfl (lv_at hl 1 rfl) ?_
        refine va_get (D := G) (ci := 8) (v := .int (S_2 0 9)) (C := RX8) (T := TX8) (N := 91) hx hb hT ku_8 hown hK hP 0 rfl rfl 9 (by decide) (hT _ kw_22_20) (fun _ h9 => h9) rfl dX8_personLine_73 ?_
        obtain ⟨g11, h⟩ := tx_ck h
        refine va_iast (i := y10) hx hb hK hP hD hS 7 0 rfl rfl (tx_in g11) dX8_personLine_76 (fun H locs hP hD hS => ?_)
        obtain ⟨S_12, eS_12, h⟩ := tx_lt h
        rw [sM_a25, eS_12] at hP hD
        refine lv_aload_n hx hb dX8_personLine_77 rfl (lv_at hl 1 rfl) ?_
        obtain ⟨S_13, hc14, h⟩ := tx_bd h
        refine tw_cv tw_all hP hD hS hA (va_runV (As := []) (rest := []) ⟨hx, hb, hml, hown, hT⟩ (c_X8_token l G cA H.size aa S_12 L  S_13 hc14) (cwV 0 hT (tq_gV kw_22_15 kw_22_16 kw_22_17 kw_1_5 kw_22_18) rfl rfl rfl (by decide +kernel) ⟨Nat.le_of_ble_eq_true rfl, Nat.le_of_ble_eq_true rfl⟩) ⟨(tw_pre tw_all hP hD hK hN).1, va_recv hK hP (ci := 8) (q0 := 0) rfl rfl, (tw_pre tw_all hP hD hK hN).2⟩ rfl rfl hl.1 rfl (lv_room (Nat.le_of_ble_eq_true rfl)) dX8_personLine_78 ⟨Nat.le_of_ble_eq_true rfl, Nat.le_of_ble_eq_true rfl⟩) (fun _ H locs z15 hP hD hS => ?_)
        rw [List.append_nil] at hP hD
        have hP : va_P G vwCl (wM cA aa S_13 L) H := hP
        have hD : va_D A (wM cA aa S_13 L) := hD
        refine lv_aload_n hx hb dX8_personLine_81 rfl (lv_at hl 1 rfl) ?_
        refine lv_iconst (v := 0) hx hb dX8_personLine_82 (by decide) ?_
        refine lv_bipush (v := 19) hx hb dX8_personLine_83 (by decide) ?_
        obtain ⟨⟨r16, S_17⟩, hc18, h⟩ := tx_bd h
        replace h := tx_let (y := r16) rfl h
        replace h := tx_let (y := S_17) rfl h
        refine tw_ci tw_all hP hD hS hA (va_runV (As := [.int 0, .int 19]) (rest := []) ⟨hx, hb, hml, hown, hT⟩ (c_X8_number l G cA H.size aa S_13 L (0 : Int32) (19 : Int32)  r16 S_17 hc18) (cwV 2 hT (tq_gV kw_24_7 kw_24_8 kw_24_9 kw_1_5 kw_24_10) rfl rfl rfl (by decide +kernel) ⟨Nat.le_of_ble_eq_true rfl, Nat.le_of_ble_eq_true rfl⟩) ⟨(tw_pre tw_all hP hD hK hN).1, va_recv hK hP (ci := 8) (q0 := 0) rfl rfl, (tw_pre tw_all hP hD hK hN).2⟩ rfl rfl hl.1 rfl (lv_room (Nat.le_of_ble_eq_true rfl)) dX8_personLine_85 ⟨Nat.le_of_ble_eq_true rfl, Nat.le_of_ble_eq_true rfl⟩) (fun _ _ H locs z19 hP hD hS => ?_)
        subst z19
        rw [List.append_nil] at hP hD
        have hP : va_P G vwCl (wM cA aa S_17 L) H := hP
        have hD : va_D A (wM cA aa S_17 L) := hD
        refine lv_if_ne (tgt := 93) hx hb dX8_personLine_88 (by decide) (fun c20 => ?_) (fun c20 => ?_)
        · have h := tx_neg c20 h
          refine lv_aload_n hx hb dX8_personLine_93 rfl (lv_at hl 1 rfl) ?_
          refine va_get (D := G) (ci := 8) (v := .ref (aa 27)) (C := RX8) (T := TX8) (N := 91) hx hb hT ku_8 hown hK hP 0 rfl rfl 26 (by decide) (hT _ kw_9_18) (fun _ h9 => h9) rfl dX8_personLine_94 ?_
          refine lv_iload_n hx hb dX8_personLine_97 rfl (lv_at hl 0 rfl) ?_
          refine lv_aload_n hx hb dX8_personLine_98 rfl (lv_at hl 1 rfl) ?_
          refine va_get (D := G) (ci := 8) (v := .int (S_17 0 11)) (C := RX8) (T := TX8) (N := 91) hx hb hT ku_8 hown hK hP 0 rfl rfl 11 (by decide) (hT _ kw_23_22) (fun _ h9 => h9) rfl dX8_personLine_99 ?_
          refine va_iast (i := y10) hx hb hK hP hD hS 8 0 rfl rfl (tx_in g11) dX8_personLine_102 (fun H locs hP hD hS => ?_)
          obtain ⟨S_21, eS_21, h⟩ := tx_lt h
          rw [sM_a26, eS_21] at hP hD
          refine lv_aload_n hx hb dX8_personLine_103 rfl (lv_at hl 1 rfl) ?_
          refine lv_aload_n hx hb dX8_personLine_104 rfl (lv_at hl 1 rfl) ?_
          refine va_get (D := G) (ci := 8) (v := .ref (aa 27)) (C := RX8) (T := TX8) (N := 91) hx hb hT ku_8 hown hK hP 0 rfl rfl 26 (by decide) (hT _ kw_9_18) (fun _ h9 => h9) rfl dX8_personLine_105 ?_
          refine lv_iload_n hx hb dX8_personLine_108 rfl (lv_at hl 0 rfl) ?_
          refine va_iald (i := y10) hx hb hK hP 8 0 rfl rfl (tx_in g11) dX8_personLine_109 ?_
          refine lv_iconst (v := 1) hx hb dX8_personLine_110 (by decide) ?_
          refine lv_iadd hx hb dX8_personLine_111 ?_
          refine lv_bipush (v := 20) hx hb dX8_personLine_112 (by decide) ?_
          obtain ⟨⟨r22, S_23⟩, hc24, h⟩ := tx_bd h
          replace h := tx_let (y := r22) rfl h
          replace h := tx_let (y := S_23) rfl h
          refine tw_ci tw_all hP hD hS hA (va_runV (As := [.int ((S_21 27 y10.toNatClampNeg) + 1), .int 20]) (rest := []) ⟨hx, hb, hml, hown, hT⟩ (c_X8_number l G cA H.size aa S_21 L ((S_21 27 y10.toNatClampNeg) + 1) (20 : Int32)  r22 S_23 hc24) (cwV 2 hT (tq_gV kw_24_7 kw_24_8 kw_24_9 kw_1_5 kw_24_10) rfl rfl rfl (by decide +kernel) ⟨Nat.le_of_ble_eq_true rfl, Nat.le_of_ble_eq_true rfl⟩) ⟨(tw_pre tw_all hP hD hK hN).1, va_recv hK hP (ci := 8) (q0 := 0) rfl rfl, (tw_pre tw_all hP hD hK hN).2⟩ rfl rfl hl.1 rfl (lv_room (Nat.le_of_ble_eq_true rfl)) dX8_personLine_114 ⟨Nat.le_of_ble_eq_true rfl, Nat.le_of_ble_eq_true rfl⟩) (fun _ _ H locs z25 hP hD hS => ?_)
          subst z25
          rw [List.append_nil] at hP hD
          have hP : va_P G vwCl (wM cA aa S_23 L) H := hP
          have hD : va_D A (wM cA aa S_23 L) := hD
          refine lv_if_ne (tgt := 122) hx hb dX8_personLine_117 (by decide) (fun c26 => ?_) (fun c26 => ?_)
          · have h := tx_neg c26 h
            refine lv_aload_n hx hb dX8_personLine_122 rfl (lv_at hl 1 rfl) ?_
            refine va_get (D := G) (ci := 8) (v := .ref (aa 28)) (C := RX8) (T := TX8) (N := 91) hx hb hT ku_8 hown hK hP 0 rfl rfl 27 (by decide) (hT _ kw_9_19) (fun _ h9 => h9) rfl dX8_personLine_123 ?_
            refine lv_iload_n hx hb dX8_personLine_126 rfl (lv_at hl 0 rfl) ?_
            refine lv_aload_n hx hb dX8_personLine_127 rfl (lv_at hl 1 rfl) ?_
            refine va_get (D := G) (ci := 8) (v := .int (S_23 0 11)) (C := RX8) (T := TX8) (N := 91) hx hb hT ku_8 hown hK hP 0 rfl rfl 11 (by decide) (hT _ kw_23_22) (fun _ h9 => h9) rfl dX8_personLine_128 ?_
            refine va_iast (i := y10) hx hb hK hP hD hS 9 0 rfl rfl (tx_in g11) dX8_personLine_131 (fun H locs hP hD hS => ?_)
            obtain ⟨S_27, eS_27, h⟩ := tx_lt h
            rw [sM_a27, eS_27] at hP hD
            refine lv_aload_n hx hb dX8_personLine_132 rfl (lv_at hl 1 rfl) ?_
            refine lv_iconst (v := 1) hx hb dX8_personLine_133 (by decide) ?_
            refine lv_bipush (v := 99) hx hb dX8_personLine_134 (by decide) ?_
            obtain ⟨⟨r28, S_29⟩, hc30, h⟩ := tx_bd h
            replace h := tx_let (y := r28) rfl h
            replace h := tx_let (y := S_29) rfl h
            refine tw_ci tw_all hP hD hS hA (va_runV (As := [.int 1, .int 99]) (rest := []) ⟨hx, hb, hml, hown, hT⟩ (c_X8_number l G cA H.size aa S_27 L (1 : Int32) (99 : Int32)  r28 S_29 hc30) (cwV 2 hT (tq_gV kw_24_7 kw_24_8 kw_24_9 kw_1_5 kw_24_10) rfl rfl rfl (by decide +kernel) ⟨Nat.le_of_ble_eq_true rfl, Nat.le_of_ble_eq_true rfl⟩) ⟨(tw_pre tw_all hP hD hK hN).1, va_recv hK hP (ci := 8) (q0 := 0) rfl rfl, (tw_pre tw_all hP hD hK hN).2⟩ rfl rfl hl.1 rfl (lv_room (Nat.le_of_ble_eq_true rfl)) dX8_personLine_136 ⟨Nat.le_of_ble_eq_true rfl, Nat.le_of_ble_eq_true rfl⟩) (fun _ _ H locs z31 hP hD hS => ?_)
            subst z31
            rw [List.append_nil] at hP hD
            have hP : va_P G vwCl (wM cA aa S_29 L) H := hP
            have hD : va_D A (wM cA aa S_29 L) := hD
            refine lv_if_ne (tgt := 144) hx hb dX8_personLine_139 (by decide) (fun c32 => ?_) (fun c32 => ?_)
            · have h := tx_neg c32 h
              refine lv_aload_n hx hb dX8_personLine_144 rfl (lv_at hl 1 rfl) ?_
              refine va_get (D := G) (ci := 8) (v := .ref (aa 29)) (C := RX8) (T := TX8) (N := 91) hx hb hT ku_8 hown hK hP 0 rfl rfl 28 (by decide) (hT _ kw_9_20) (fun _ h9 => h9) rfl dX8_personLine_145 ?_
              refine lv_iload_n hx hb dX8_personLine_148 rfl (lv_at hl 0 rfl) ?_
              refine lv_aload_n hx hb dX8_personLine_149 rfl (lv_at hl 1 rfl) ?_
              refine va_get (D := G) (ci := 8) (v := .int (S_29 0 11)) (C := RX8) (T := TX8) (N := 91) hx hb hT ku_8 hown hK hP 0 rfl rfl 11 (by decide) (hT _ kw_23_22) (fun _ h9 => h9) rfl dX8_personLine_150 ?_
              refine va_iast (i := y10) hx hb hK hP hD hS 10 0 rfl rfl (tx_in g11) dX8_personLine_153 (fun H locs hP hD hS => ?_)
              obtain ⟨S_33, eS_33, h⟩ := tx_lt h
              rw [sM_a28, eS_33] at hP hD
              refine lv_aload_n hx hb dX8_personLine_154 rfl (lv_at hl 1 rfl) ?_
              refine lv_dup hx hb dX8_personLine_155 rfl ?_
              refine va_get (D := G) (ci := 8) (v := .int (S_33 0 17)) (C := RX8) (T := TX8) (N := 91) hx hb hT ku_8 hown hK hP 0 rfl rfl 17 (by decide) (hT _ kw_11_18) (fun _ h9 => h9) rfl dX8_personLine_156 ?_
              refine lv_iconst (v := 1) hx hb dX8_personLine_159 (by decide) ?_
              refine lv_iadd hx hb dX8_personLine_160 ?_
              refine va_put (D := G) (ci := 8) (v := .int ((S_33 0 17) + 1)) (ty := .int) (C := RX8) (T := TX8) (N := 91) hx hb hT ku_8 tyX8 tyX8_ok nmX8 hown hK hP hD hS 0 rfl rfl 17 (by decide) (hT _ kw_11_18) (fun _ h9 => h9) rfl (by decide +kernel) rfl rfl (Nat.le_of_ble_eq_true rfl) dX8_personLine_161 (fun H locs hP hD hS => ?_)
              obtain ⟨S_34, eS_34, h⟩ := tx_lt h
              rw [sM_f17, eS_34] at hP hD
              refine lv_iconst (v := 1) hx hb dX8_personLine_164 (by decide) ?_
              obtain ⟨rfl, rfl⟩ := tx_2 h
              exact W.zret (ty := .boolean) hx hb hr rfl (fun t ht hW => ⟨⟨_, (), rfl, rfl, by rw [ht]; exact hP, hD⟩, hS.F ht⟩) hS.2.2 dX8_personLine_165
            · have h := tx_pos c32 h
              refine lv_iconst (v := 0) hx hb dX8_personLine_142 (by decide) ?_
              obtain ⟨rfl, rfl⟩ := tx_2 h
              exact W.zret (ty := .boolean) hx hb hr rfl (fun t ht hW => ⟨⟨_, (), rfl, rfl, by rw [ht]; exact hP, hD⟩, hS.F ht⟩) hS.2.2 dX8_personLine_143
          · have h := tx_pos c26 h
            refine lv_iconst (v := 0) hx hb dX8_personLine_120 (by decide) ?_
            obtain ⟨rfl, rfl⟩ := tx_2 h
            exact W.zret (ty := .boolean) hx hb hr rfl (fun t ht hW => ⟨⟨_, (), rfl, rfl, by rw [ht]; exact hP, hD⟩, hS.F ht⟩) hS.2.2 dX8_personLine_121
        · have h := tx_pos c20 h
          refine lv_iconst (v := 0) hx hb dX8_personLine_91 (by decide) ?_
          obtain ⟨rfl, rfl⟩ := tx_2 h
          exact W.zret (ty := .boolean) hx hb hr rfl (fun t ht hW => ⟨⟨_, (), rfl, rfl, by rw [ht]; exact hP, hD⟩, hS.F ht⟩) hS.2.2 dX8_personLine_92
      · have h := tx_neg c9 h
        refine lv_aload_n hx hb dX8_personLine_53 rfl (lv_at hl 0 rfl) ?_
        refine lv_iconst (v := 3) hx hb dX8_personLine_54 (by decide) ?_
        obtain ⟨⟨r35, S_36⟩, hc37, h⟩ := tx_bd h
        replace h := tx_let (y := r35) rfl h
        replace h := tx_let (y := S_36) rfl h
        refine tw_ci tw_all hP hD hS hA (va_runV (As := [.int 3]) (rest := []) ⟨hx, hb, hml, hown, hT⟩ (c_X8_wrong l G cA H.size aa S_2 L (3 : Int32)  r35 S_36 hc37) (cwV 1 hT (tq_gV kw_23_23 kw_24_0 kw_24_1 kw_1_5 kw_24_2) rfl rfl rfl (by decide +kernel) ⟨Nat.le_of_ble_eq_true rfl, Nat.le_of_ble_eq_true rfl⟩) ⟨(tw_pre tw_all hP hD hK hN).1, va_recv hK hP (ci := 8) (q0 := 0) rfl rfl, (tw_pre tw_all hP hD hK hN).2⟩ rfl rfl hl.1 rfl (lv_room (Nat.le_of_ble_eq_true rfl)) dX8_personLine_55 ⟨Nat.le_of_ble_eq_true rfl, Nat.le_of_ble_eq_true rfl⟩) (fun _ _ H locs z38 hP hD hS => ?_)
        subst z38
        rw [List.append_nil] at hP hD
        have hP : va_P G vwCl (wM cA aa S_36 L) H := hP
        have hD : va_D A (wM cA aa S_36 L) := hD
        obtain ⟨g39, h⟩ := tx_ck h
        obtain ⟨rfl, rfl⟩ := tx_2 h
        exact W.zret (ty := .boolean) hx hb hr (tx_z g39) (fun t ht hW => ⟨⟨_, (), rfl, rfl, by rw [ht]; exact hP, hD⟩, hS.F ht⟩) hS.2.2 dX8_personLine_58
    · have h := tx_neg c5 h
      refine lv_aload_n hx hb dX8_personLine_27 rfl (lv_at hl 0 rfl) ?_
      refine lv_iconst (v := 1) hx hb dX8_personLine_28 (by decide) ?_
      obtain ⟨⟨r40, S_41⟩, hc42, h⟩ := tx_bd h
      replace h := tx_let (y := r40) rfl h
      replace h := tx_let (y := S_41) rfl h
      refine tw_ci tw_all hP hD hS hA (va_runV (As := [.int 1]) (rest := []) ⟨hx, hb, hml, hown, hT⟩ (c_X8_wrong l G cA H.size aa S_2 L (1 : Int32)  r40 S_41 hc42) (cwV 1 hT (tq_gV kw_23_23 kw_24_0 kw_24_1 kw_1_5 kw_24_2) rfl rfl rfl (by decide +kernel) ⟨Nat.le_of_ble_eq_true rfl, Nat.le_of_ble_eq_true rfl⟩) ⟨(tw_pre tw_all hP hD hK hN).1, va_recv hK hP (ci := 8) (q0 := 0) rfl rfl, (tw_pre tw_all hP hD hK hN).2⟩ rfl rfl hl.1 rfl (lv_room (Nat.le_of_ble_eq_true rfl)) dX8_personLine_29 ⟨Nat.le_of_ble_eq_true rfl, Nat.le_of_ble_eq_true rfl⟩) (fun _ _ H locs z43 hP hD hS => ?_)
      subst z43
      rw [List.append_nil] at hP hD
      have hP : va_P G vwCl (wM cA aa S_41 L) H := hP
      have hD : va_D A (wM cA aa S_41 L) := hD
      obtain ⟨g44, h⟩ := tx_ck h
      obtain ⟨rfl, rfl⟩ := tx_2 h
      exact W.zret (ty := .boolean) hx hb hr (tx_z g44) (fun t ht hW => ⟨⟨_, (), rfl, rfl, by rw [ht]; exact hP, hD⟩, hS.F ht⟩) hS.2.2 dX8_personLine_32
  · have h := tx_pos c1 h
    refine lv_aload_n hx hb dX8_personLine_9 rfl (lv_at hl 0 rfl) ?_
    refine lv_iconst (v := 2) hx hb dX8_personLine_10 (by decide) ?_
    obtain ⟨⟨r45, S_46⟩, hc47, h⟩ := tx_bd h
    replace h := tx_let (y := r45) rfl h
    replace h := tx_let (y := S_46) rfl h
    refine tw_ci tw_all hP hD hS hA (va_runV (As := [.int 2]) (rest := []) ⟨hx, hb, hml, hown, hT⟩ (c_X8_wrong l G cA H.size aa S L (2 : Int32)  r45 S_46 hc47) (cwV 1 hT (tq_gV kw_23_23 kw_24_0 kw_24_1 kw_1_5 kw_24_2) rfl rfl rfl (by decide +kernel) ⟨Nat.le_of_ble_eq_true rfl, Nat.le_of_ble_eq_true rfl⟩) ⟨(tw_pre tw_all hP hD hK hN).1, va_recv hK hP (ci := 8) (q0 := 0) rfl rfl, (tw_pre tw_all hP hD hK hN).2⟩ rfl rfl hl.1 rfl (lv_room (Nat.le_of_ble_eq_true rfl)) dX8_personLine_11 ⟨Nat.le_of_ble_eq_true rfl, Nat.le_of_ble_eq_true rfl⟩) (fun _ _ H locs z48 hP hD hS => ?_)
    subst z48
    rw [List.append_nil] at hP hD
    have hP : va_P G vwCl (wM cA aa S_46 L) H := hP
    have hD : va_D A (wM cA aa S_46 L) := hD
    obtain ⟨g49, h⟩ := tx_ck h
    obtain ⟨rfl, rfl⟩ := tx_2 h
    exact W.zret (ty := .boolean) hx hb hr (tx_z g49) (fun t ht hW => ⟨⟨_, (), rfl, rfl, by rw [ht]; exact hP, hD⟩, hS.F ht⟩) hS.2.2 dX8_personLine_14
abbrev G_X8_placeLine (p : Program) (l : Launch) (e : Env) (s : State) (m : MethodId) (below : List Frame) (meth : Method) (c : Code) (G : va_G) (cA : Nat → ClassId) (A : Nat → Prop) (aa : Nat → Nat) (L : Lo) (r0 : Int32) (S' : Tr) (H : Heap) (locs : List Loc) (g : JFrame) : Prop := W p l e (headSpec (.code yX8_placeLine cX8_placeLine 1 (some .boolean) :: T0) ({ frames := 3, cells := 0, slots := 0, locals := 69 } : Room)).room s m ([.ref (aa 0)] : List Value).toArray below meth c H locs 0 0 (MQ below (tqQi G cA (fun (r : Int32) (_ : Unit) => r = r0) (fun (_ : Unit) => wM cA aa S' L) A) ([.ref (aa 0)] : List Value).toArray s 0 0 A) g
set_option maxHeartbeats 4000000 in
set_option maxRecDepth 100000 in
theorem w_X8_placeLine_J44 {p : Program} {l : Launch} {e : Env} {s : State} {m : MethodId} {below : List Frame} {meth : Method} {c : Code} {G : va_G} {cA : Nat → ClassId} {A : Nat → Prop} {aa : Nat → Nat} {L : Lo} {r0 : Int32} {S' : Tr} (F : tF p s m ([.ref (aa 0)] : List Value).toArray meth c G cA A RX8 cX8_placeLine 1 (some .boolean))    (S : Tr) (H : Heap) (locs : List Loc) (ls : Array Slot) (h : fJ_X8_placeLine_J44 S = some (r0, S')) (hP : va_P G vwCl (wM cA aa S_7 L) H) (hD : va_D A (wM cA aa S_7 L)) (hS : va_S A s.heap H locs) (hl : lv_has ls 1 [(0, .ref (aa 0))]) : G_X8_placeLine p l e s m below meth c G cA A aa L r0 S' H locs (F0 m 44 ls []) := by
  obtain ⟨hx, hb, hr, hml, hT, hown, hlocks, hK, hN, hA⟩ := id F
  unfold fJ_X8_placeLine_J44 at h
  refine lv_aload_n hx hb dX8_placeLine_44 rfl (lv_at hl 0 rfl) ?_
  refine lv_iconst (v := 1) hx hb dX8_placeLine_45 (by decide) ?_
  obtain ⟨⟨r6, S_7⟩, hc8, h⟩ := tx_bd h
  replace h := tx_let (y := r6) rfl h
  replace h := tx_let (y := S_7) rfl h
  refine tw_ci tw_all hP hD hS hA (va_runV (As := [.int 1]) (rest := []) ⟨hx, hb, hml, hown, hT⟩ (c_X8_wrong l G cA H.size aa S L (1 : Int32)  r6 S_7 hc8) (cwV 1 hT (tq_gV kw_23_23 kw_24_0 kw_24_1 kw_1_5 kw_24_2) rfl rfl rfl (by decide +kernel) ⟨Nat.le_of_ble_eq_true rfl, Nat.le_of_ble_eq_true rfl⟩) ⟨(tw_pre tw_all hP hD hK hN).1, va_recv hK hP (ci := 8) (q0 := 0) rfl rfl, (tw_pre tw_all hP hD hK hN).2⟩ rfl rfl hl.1 rfl (lv_room (Nat.le_of_ble_eq_true rfl)) dX8_placeLine_46 ⟨Nat.le_of_ble_eq_true rfl, Nat.le_of_ble_eq_true rfl⟩) (fun _ _ H locs z9 hP hD hS => ?_)
  subst z9
  rw [List.append_nil] at hP hD
  have hP : va_P G vwCl (wM cA aa S_7 L) H := hP
  have hD : va_D A (wM cA aa S_7 L) := hD
  obtain ⟨g10, h⟩ := tx_ck h
  obtain ⟨rfl, rfl⟩ := tx_2 h
  exact W.zret (ty := .boolean) hx hb hr (tx_z g10) (fun t ht hW => ⟨⟨_, (), rfl, rfl, by rw [ht]; exact hP, hD⟩, hS.F ht⟩) hS.2.2 dX8_placeLine_49
set_option maxHeartbeats 4000000 in
set_option maxRecDepth 100000 in
theorem c_X8_placeLine (l : Launch) (G : va_G) (cA : Nat → ClassId) (sz : Nat) (aa : Nat → Nat) (S : Tr) (L : Lo)  (r0 : Int32) (S' : Tr) (h : f_X8_placeLine S = some (r0, S')) : Met l yX8_placeLine (.code yX8_placeLine cX8_placeLine 1 (some .boolean) :: T0) ({ frames := 3, cells := 0, slots := 0, locals := 69 } : Room) (tqP G cA [.ref (aa 0)] (wM cA aa S L) sz) (tqQi G cA (fun (r : Int32) (_ : Unit) => r = r0) (fun (_ : Unit) => wM cA aa S' L) (va_A (wM cA aa S L) sz)) 0 0 (va_A (wM cA aa S L) sz) := by
  refine Met.ofW (cc := cX8_placeLine) (maxL := 1) (ret := (some .boolean)) (by decide) rfl ?_
  intro p e s m args below meth c s₁ B hml hv
  obtain ⟨rfl, hsz, hP, hK, hD0, hN⟩ := hv
  have hx := B.exec
  have hb := B.bytes
  have hr := B.returns
  have hts := atoms_spec (ws := .code yX8_placeLine cX8_placeLine 1 (some .boolean) :: T0) B.pre
  have hT : ∀ w ∈ T0, w.before _ s = true := fun w h => hts w (List.mem_cons_of_mem _ h)
  have hown : s.vm.findClass RX8 = some m.cls := findClass_of_methodNamed B.named
  have hlocks := B.notSynchronized
  subst hsz
  have hD := hD0.self (sz := s.heap.size)
  generalize hAe : va_A (wM cA aa S L) s.heap.size = A at hD ⊢
  have hA : ∀ q : Nat, s.heap.size ≤ q → A q := fun q h => by rw [← hAe]; exact Or.inr h
  have hS : va_S A s.heap s.heap [] := va_S.rf
  have hl := lv_entry ([.ref (aa 0)]) (n := 1) (Nat.le_of_ble_eq_true rfl)
  rw [lg_entry_eq]
  generalize (lg_sl ([.ref (aa 0)]) ++ List.replicate (1 - (lg_sl ([.ref (aa 0)])).length) Slot.unset).toArray = ls at hl ⊢
  have hl : lv_has ls 1 [(0, .ref (aa 0))] := hl
  have F : tF p s m ([.ref (aa 0)] : List Value).toArray meth c G cA A RX8 cX8_placeLine 1 (some .boolean) := ⟨hx, hb, hr, hml, hT, hown, hlocks, hK, hN, hA⟩
  obtain ⟨H, hH⟩ : ∃ z, z = s.heap := ⟨_, rfl⟩
  rw [← hH] at hP
  have hS : va_S A s.heap H [] := by rw [hH]; exact hS
  suffices hgo : G_X8_placeLine p l e s m below meth c G cA A aa L r0 S' H [] (F0 m 0 ls []) by rw [hH] at hgo; exact hgo
  generalize ([] : List Loc) = locs at hS ⊢
  unfold f_X8_placeLine at h
  refine lv_aload_n hx hb dX8_placeLine_0 rfl (lv_at hl 0 rfl) ?_
  refine va_get (D := G) (ci := 8) (v := .int (S 0 16)) (C := RX8) (T := TX8) (N := 91) hx hb hT ku_8 hown hK hP 0 rfl rfl 16 (by decide) (hT _ kw_11_17) (fun _ h9 => h9) rfl dX8_placeLine_1 ?_
  refine lv_iconst (v := 5) hx hb dX8_placeLine_4 (by decide) ?_
  refine lv_icmp_ne (tgt := 14) hx hb dX8_placeLine_5 (by decide) (fun c1 => ?_) (fun c1 => ?_)
  · have h := tx_neg c1 h
    refine lv_aload_n hx hb dX8_placeLine_14 rfl (lv_at hl 0 rfl) ?_
    obtain ⟨S_2, hc3, h⟩ := tx_bd h
    refine tw_cv tw_all hP hD hS hA (va_runV (As := []) (rest := []) ⟨hx, hb, hml, hown, hT⟩ (c_X8_token l G cA H.size aa S L  S_2 hc3) (cwV 0 hT (tq_gV kw_22_15 kw_22_16 kw_22_17 kw_1_5 kw_22_18) rfl rfl rfl (by decide +kernel) ⟨Nat.le_of_ble_eq_true rfl, Nat.le_of_ble_eq_true rfl⟩) ⟨(tw_pre tw_all hP hD hK hN).1, va_recv hK hP (ci := 8) (q0 := 0) rfl rfl, (tw_pre tw_all hP hD hK hN).2⟩ rfl rfl hl.1 rfl (lv_room (Nat.le_of_ble_eq_true rfl)) dX8_placeLine_15 ⟨Nat.le_of_ble_eq_true rfl, Nat.le_of_ble_eq_true rfl⟩) (fun _ H locs z4 hP hD hS => ?_)
    rw [List.append_nil] at hP hD
    have hP : va_P G vwCl (wM cA aa S_2 L) H := hP
    have hD : va_D A (wM cA aa S_2 L) := hD
    refine lv_aload_n hx hb dX8_placeLine_18 rfl (lv_at hl 0 rfl) ?_
    refine va_get (D := G) (ci := 8) (v := .int (S_2 0 8)) (C := RX8) (T := TX8) (N := 91) hx hb hT ku_8 hown hK hP 0 rfl rfl 8 (by decide) (hT _ kw_22_14) (fun _ h9 => h9) rfl dX8_placeLine_19 ?_
    refine lv_iconst (v := 1) hx hb dX8_placeLine_22 (by decide) ?_
    refine lv_icmp_ne (tgt := 44) hx hb dX8_placeLine_23 (by decide) (fun c5 => ?_) (fun c5 => ?_)
    · have h := tx_neg c5 h
      exact w_X8_placeLine_J44 F S_2 H locs ls h hP hD hS (lv_sub hl [0] rfl)
    · have h := tx_pos c5 h
      refine lv_aload_n hx hb dX8_placeLine_26 rfl (lv_at hl 0 rfl) ?_
      refine va_get (D := G) (ci := 8) (v := .int (S_2 0 9)) (C := RX8) (T := TX8) (N := 91) hx hb hT ku_8 hown hK hP 0 rfl rfl 9 (by decide) (hT _ kw_22_20) (fun _ h9 => h9) rfl dX8_placeLine_27 ?_
      refine lv_bipush (v := 8) hx hb dX8_placeLine_30 (by decide) ?_
      refine lv_icmp_lt (tgt := 44) hx hb dX8_placeLine_32 (by decide) (fun c11 => ?_) (fun c11 => ?_)
      · have h := tx_pos c11 h
        exact w_X8_placeLine_J44 F S_2 H locs ls h hP hD hS (lv_sub hl [0] rfl)
      · have h := tx_neg c11 h
        refine lv_aload_n hx hb dX8_placeLine_35 rfl (lv_at hl 0 rfl) ?_
        refine va_get (D := G) (ci := 8) (v := .int (S_2 0 9)) (C := RX8) (T := TX8) (N := 91) hx hb hT ku_8 hown hK hP 0 rfl rfl 9 (by decide) (hT _ kw_22_20) (fun _ h9 => h9) rfl dX8_placeLine_36 ?_
        refine lv_bipush (v := 12) hx hb dX8_placeLine_39 (by decide) ?_
        refine lv_icmp_le (tgt := 50) hx hb dX8_placeLine_41 (by decide) (fun c12 => ?_) (fun c12 => ?_)
        · have h := tx_pos c12 h
          refine lv_aload_n hx hb dX8_placeLine_50 rfl (lv_at hl 0 rfl) ?_
          refine va_get (D := G) (ci := 8) (v := .ref (aa 24)) (C := RX8) (T := TX8) (N := 91) hx hb hT ku_8 hown hK hP 0 rfl rfl 23 (by decide) (hT _ kw_9_15) (fun _ h9 => h9) rfl dX8_placeLine_51 ?_
          refine lv_iconst (v := 5) hx hb dX8_placeLine_54 (by decide) ?_
          refine lv_aload_n hx hb dX8_placeLine_55 rfl (lv_at hl 0 rfl) ?_
          refine va_get (D := G) (ci := 8) (v := .int (S_2 0 16)) (C := RX8) (T := TX8) (N := 91) hx hb hT ku_8 hown hK hP 0 rfl rfl 16 (by decide) (hT _ kw_11_17) (fun _ h9 => h9) rfl dX8_placeLine_56 ?_
          refine lv_iadd hx hb dX8_placeLine_59 ?_
          refine lv_aload_n hx hb dX8_placeLine_60 rfl (lv_at hl 0 rfl) ?_
          refine va_get (D := G) (ci := 8) (v := .int (S_2 0 9)) (C := RX8) (T := TX8) (N := 91) hx hb hT ku_8 hown hK hP 0 rfl rfl 9 (by decide) (hT _ kw_22_20) (fun _ h9 => h9) rfl dX8_placeLine_61 ?_
          refine lv_bipush (v := 8) hx hb dX8_placeLine_64 (by decide) ?_
          refine lv_isub hx hb dX8_placeLine_66 ?_
          obtain ⟨g13, h⟩ := tx_ck h
          refine va_iast (i := ((5 : Int32) + (S_2 0 16))) hx hb hK hP hD hS 5 0 rfl rfl (tx_in g13) dX8_placeLine_67 (fun H locs hP hD hS => ?_)
          obtain ⟨S_14, eS_14, h⟩ := tx_lt h
          rw [sM_a23, eS_14] at hP hD
          refine lv_aload_n hx hb dX8_placeLine_68 rfl (lv_at hl 0 rfl) ?_
          obtain ⟨S_15, hc16, h⟩ := tx_bd h
          refine tw_cv tw_all hP hD hS hA (va_runV (As := []) (rest := []) ⟨hx, hb, hml, hown, hT⟩ (c_X8_token l G cA H.size aa S_14 L  S_15 hc16) (cwV 0 hT (tq_gV kw_22_15 kw_22_16 kw_22_17 kw_1_5 kw_22_18) rfl rfl rfl (by decide +kernel) ⟨Nat.le_of_ble_eq_true rfl, Nat.le_of_ble_eq_true rfl⟩) ⟨(tw_pre tw_all hP hD hK hN).1, va_recv hK hP (ci := 8) (q0 := 0) rfl rfl, (tw_pre tw_all hP hD hK hN).2⟩ rfl rfl hl.1 rfl (lv_room (Nat.le_of_ble_eq_true rfl)) dX8_placeLine_69 ⟨Nat.le_of_ble_eq_true rfl, Nat.le_of_ble_eq_true rfl⟩) (fun _ H locs z17 hP hD hS => ?_)
          rw [List.append_nil] at hP hD
          have hP : va_P G vwCl (wM cA aa S_15 L) H := hP
          have hD : va_D A (wM cA aa S_15 L) := hD
          refine lv_aload_n hx hb dX8_placeLine_72 rfl (lv_at hl 0 rfl) ?_
          refine lv_iconst (v := 0) hx hb dX8_placeLine_73 (by decide) ?_
          refine lv_sipush (v := 999) hx hb dX8_placeLine_74 (by decide) ?_
          obtain ⟨⟨r18, S_19⟩, hc20, h⟩ := tx_bd h
          replace h := tx_let (y := r18) rfl h
          replace h := tx_let (y := S_19) rfl h
          refine tw_ci tw_all hP hD hS hA (va_runV (As := [.int 0, .int 999]) (rest := []) ⟨hx, hb, hml, hown, hT⟩ (c_X8_number l G cA H.size aa S_15 L (0 : Int32) (999 : Int32)  r18 S_19 hc20) (cwV 2 hT (tq_gV kw_24_7 kw_24_8 kw_24_9 kw_1_5 kw_24_10) rfl rfl rfl (by decide +kernel) ⟨Nat.le_of_ble_eq_true rfl, Nat.le_of_ble_eq_true rfl⟩) ⟨(tw_pre tw_all hP hD hK hN).1, va_recv hK hP (ci := 8) (q0 := 0) rfl rfl, (tw_pre tw_all hP hD hK hN).2⟩ rfl rfl hl.1 rfl (lv_room (Nat.le_of_ble_eq_true rfl)) dX8_placeLine_77 ⟨Nat.le_of_ble_eq_true rfl, Nat.le_of_ble_eq_true rfl⟩) (fun _ _ H locs z21 hP hD hS => ?_)
          subst z21
          rw [List.append_nil] at hP hD
          have hP : va_P G vwCl (wM cA aa S_19 L) H := hP
          have hD : va_D A (wM cA aa S_19 L) := hD
          refine lv_if_ne (tgt := 85) hx hb dX8_placeLine_80 (by decide) (fun c22 => ?_) (fun c22 => ?_)
          · have h := tx_neg c22 h
            refine lv_aload_n hx hb dX8_placeLine_85 rfl (lv_at hl 0 rfl) ?_
            refine va_get (D := G) (ci := 8) (v := .ref (aa 25)) (C := RX8) (T := TX8) (N := 91) hx hb hT ku_8 hown hK hP 0 rfl rfl 24 (by decide) (hT _ kw_9_16) (fun _ h9 => h9) rfl dX8_placeLine_86 ?_
            refine lv_iconst (v := 5) hx hb dX8_placeLine_89 (by decide) ?_
            refine lv_aload_n hx hb dX8_placeLine_90 rfl (lv_at hl 0 rfl) ?_
            refine va_get (D := G) (ci := 8) (v := .int (S_19 0 16)) (C := RX8) (T := TX8) (N := 91) hx hb hT ku_8 hown hK hP 0 rfl rfl 16 (by decide) (hT _ kw_11_17) (fun _ h9 => h9) rfl dX8_placeLine_91 ?_
            refine lv_iadd hx hb dX8_placeLine_94 ?_
            refine lv_aload_n hx hb dX8_placeLine_95 rfl (lv_at hl 0 rfl) ?_
            refine va_get (D := G) (ci := 8) (v := .int (S_19 0 11)) (C := RX8) (T := TX8) (N := 91) hx hb hT ku_8 hown hK hP 0 rfl rfl 11 (by decide) (hT _ kw_23_22) (fun _ h9 => h9) rfl dX8_placeLine_96 ?_
            obtain ⟨g23, h⟩ := tx_ck h
            refine va_iast (i := ((5 : Int32) + (S_19 0 16))) hx hb hK hP hD hS 6 0 rfl rfl (tx_in g23) dX8_placeLine_99 (fun H locs hP hD hS => ?_)
            obtain ⟨S_24, eS_24, h⟩ := tx_lt h
            rw [sM_a24, eS_24] at hP hD
            refine lv_aload_n hx hb dX8_placeLine_100 rfl (lv_at hl 0 rfl) ?_
            refine lv_dup hx hb dX8_placeLine_101 rfl ?_
            refine va_get (D := G) (ci := 8) (v := .int (S_24 0 16)) (C := RX8) (T := TX8) (N := 91) hx hb hT ku_8 hown hK hP 0 rfl rfl 16 (by decide) (hT _ kw_11_17) (fun _ h9 => h9) rfl dX8_placeLine_102 ?_
            refine lv_iconst (v := 1) hx hb dX8_placeLine_105 (by decide) ?_
            refine lv_iadd hx hb dX8_placeLine_106 ?_
            refine va_put (D := G) (ci := 8) (v := .int ((S_24 0 16) + 1)) (ty := .int) (C := RX8) (T := TX8) (N := 91) hx hb hT ku_8 tyX8 tyX8_ok nmX8 hown hK hP hD hS 0 rfl rfl 16 (by decide) (hT _ kw_11_17) (fun _ h9 => h9) rfl (by decide +kernel) rfl rfl (Nat.le_of_ble_eq_true rfl) dX8_placeLine_107 (fun H locs hP hD hS => ?_)
            obtain ⟨S_25, eS_25, h⟩ := tx_lt h
            rw [sM_f16, eS_25] at hP hD
            refine lv_iconst (v := 1) hx hb dX8_placeLine_110 (by decide) ?_
            obtain ⟨rfl, rfl⟩ := tx_2 h
            exact W.zret (ty := .boolean) hx hb hr rfl (fun t ht hW => ⟨⟨_, (), rfl, rfl, by rw [ht]; exact hP, hD⟩, hS.F ht⟩) hS.2.2 dX8_placeLine_111
          · have h := tx_pos c22 h
            refine lv_iconst (v := 0) hx hb dX8_placeLine_83 (by decide) ?_
            obtain ⟨rfl, rfl⟩ := tx_2 h
            exact W.zret (ty := .boolean) hx hb hr rfl (fun t ht hW => ⟨⟨_, (), rfl, rfl, by rw [ht]; exact hP, hD⟩, hS.F ht⟩) hS.2.2 dX8_placeLine_84
        · have h := tx_neg c12 h
          exact w_X8_placeLine_J44 F S_2 H locs ls h hP hD hS (lv_sub hl [0] rfl)
  · have h := tx_pos c1 h
    refine lv_aload_n hx hb dX8_placeLine_8 rfl (lv_at hl 0 rfl) ?_
    refine lv_iconst (v := 2) hx hb dX8_placeLine_9 (by decide) ?_
    obtain ⟨⟨r26, S_27⟩, hc28, h⟩ := tx_bd h
    replace h := tx_let (y := r26) rfl h
    replace h := tx_let (y := S_27) rfl h
    refine tw_ci tw_all hP hD hS hA (va_runV (As := [.int 2]) (rest := []) ⟨hx, hb, hml, hown, hT⟩ (c_X8_wrong l G cA H.size aa S L (2 : Int32)  r26 S_27 hc28) (cwV 1 hT (tq_gV kw_23_23 kw_24_0 kw_24_1 kw_1_5 kw_24_2) rfl rfl rfl (by decide +kernel) ⟨Nat.le_of_ble_eq_true rfl, Nat.le_of_ble_eq_true rfl⟩) ⟨(tw_pre tw_all hP hD hK hN).1, va_recv hK hP (ci := 8) (q0 := 0) rfl rfl, (tw_pre tw_all hP hD hK hN).2⟩ rfl rfl hl.1 rfl (lv_room (Nat.le_of_ble_eq_true rfl)) dX8_placeLine_10 ⟨Nat.le_of_ble_eq_true rfl, Nat.le_of_ble_eq_true rfl⟩) (fun _ _ H locs z29 hP hD hS => ?_)
    subst z29
    rw [List.append_nil] at hP hD
    have hP : va_P G vwCl (wM cA aa S_27 L) H := hP
    have hD : va_D A (wM cA aa S_27 L) := hD
    obtain ⟨g30, h⟩ := tx_ck h
    obtain ⟨rfl, rfl⟩ := tx_2 h
    exact W.zret (ty := .boolean) hx hb hr (tx_z g30) (fun t ht hW => ⟨⟨_, (), rfl, rfl, by rw [ht]; exact hP, hD⟩, hS.F ht⟩) hS.2.2 dX8_placeLine_13
abbrev G_X8_lineRead (p : Program) (l : Launch) (e : Env) (s : State) (m : MethodId) (below : List Frame) (meth : Method) (c : Code) (G : va_G) (cA : Nat → ClassId) (A : Nat → Prop) (aa : Nat → Nat) (L : Lo) (r0 : Int32) (S' : Tr) (H : Heap) (locs : List Loc) (g : JFrame) : Prop := W p l e (headSpec (.code yX8_lineRead cX8_lineRead 3 (some .boolean) :: T0) ({ frames := 4, cells := 0, slots := 0, locals := 91 } : Room)).room s m ([.ref (aa 0)] : List Value).toArray below meth c H locs 0 0 (MQ below (tqQi G cA (fun (r : Int32) (_ : Unit) => r = r0) (fun (_ : Unit) => wM cA aa S' L) A) ([.ref (aa 0)] : List Value).toArray s 0 0 A) g
set_option maxHeartbeats 4000000 in
set_option maxRecDepth 100000 in
theorem w_X8_lineRead_J17 {p : Program} {l : Launch} {e : Env} {s : State} {m : MethodId} {below : List Frame} {meth : Method} {c : Code} {G : va_G} {cA : Nat → ClassId} {A : Nat → Prop} {aa : Nat → Nat} {L : Lo} {r0 : Int32} {S' : Tr} (F : tF p s m ([.ref (aa 0)] : List Value).toArray meth c G cA A RX8 cX8_lineRead 3 (some .boolean))    (S : Tr) (H : Heap) (locs : List Loc) (ls : Array Slot) (h : fJ_X8_lineRead_J17 S = some (r0, S')) (hP : va_P G vwCl (wM cA aa S_3 L) H) (hD : va_D A (wM cA aa S_3 L)) (hS : va_S A s.heap H locs) (hl : lv_has ls 3 [(0, .ref (aa 0))]) : G_X8_lineRead p l e s m below meth c G cA A aa L r0 S' H locs (F0 m 17 ls []) := by
  obtain ⟨hx, hb, hr, hml, hT, hown, hlocks, hK, hN, hA⟩ := id F
  unfold fJ_X8_lineRead_J17 at h
  refine lv_aload_n hx hb dX8_lineRead_17 rfl (lv_at hl 0 rfl) ?_
  refine lv_iconst (v := 1) hx hb dX8_lineRead_18 (by decide) ?_
  obtain ⟨⟨r2, S_3⟩, hc4, h⟩ := tx_bd h
  replace h := tx_let (y := r2) rfl h
  replace h := tx_let (y := S_3) rfl h
  refine tw_ci tw_all hP hD hS hA (va_runV (As := [.int 1]) (rest := []) ⟨hx, hb, hml, hown, hT⟩ (c_X8_wrong l G cA H.size aa S L (1 : Int32)  r2 S_3 hc4) (cwV 1 hT (tq_gV kw_23_23 kw_24_0 kw_24_1 kw_1_5 kw_24_2) rfl rfl rfl (by decide +kernel) ⟨Nat.le_of_ble_eq_true rfl, Nat.le_of_ble_eq_true rfl⟩) ⟨(tw_pre tw_all hP hD hK hN).1, va_recv hK hP (ci := 8) (q0 := 0) rfl rfl, (tw_pre tw_all hP hD hK hN).2⟩ rfl rfl hl.1 rfl (lv_room (Nat.le_of_ble_eq_true rfl)) dX8_lineRead_19 ⟨Nat.le_of_ble_eq_true rfl, Nat.le_of_ble_eq_true rfl⟩) (fun _ _ H locs z5 hP hD hS => ?_)
  subst z5
  rw [List.append_nil] at hP hD
  have hP : va_P G vwCl (wM cA aa S_3 L) H := hP
  have hD : va_D A (wM cA aa S_3 L) := hD
  obtain ⟨g6, h⟩ := tx_ck h
  obtain ⟨rfl, rfl⟩ := tx_2 h
  exact W.zret (ty := .boolean) hx hb hr (tx_z g6) (fun t ht hW => ⟨⟨_, (), rfl, rfl, by rw [ht]; exact hP, hD⟩, hS.F ht⟩) hS.2.2 dX8_lineRead_22
set_option maxHeartbeats 4000000 in
set_option maxRecDepth 100000 in
theorem w_X8_lineRead_J343 {p : Program} {l : Launch} {e : Env} {s : State} {m : MethodId} {below : List Frame} {meth : Method} {c : Code} {G : va_G} {cA : Nat → ClassId} {A : Nat → Prop} {aa : Nat → Nat} {L : Lo} {r0 : Int32} {S' : Tr} (F : tF p s m ([.ref (aa 0)] : List Value).toArray meth c G cA A RX8 cX8_lineRead 3 (some .boolean))    (x1 : Int32) (S : Tr) (H : Heap) (locs : List Loc) (ls : Array Slot) (h : fJ_X8_lineRead_J343 x1 S = some (r0, S')) (hP : va_P G vwCl (wM cA aa S L) H) (hD : va_D A (wM cA aa S L)) (hS : va_S A s.heap H locs) (hl : lv_has ls 3 [(0, .ref (aa 0)), (1, .int x1)]) : G_X8_lineRead p l e s m below meth c G cA A aa L r0 S' H locs (F0 m 343 ls []) := by
  obtain ⟨hx, hb, hr, hml, hT, hown, hlocks, hK, hN, hA⟩ := id F
  unfold fJ_X8_lineRead_J343 at h
  refine lv_iload_n hx hb dX8_lineRead_343 rfl (lv_at hl 1 rfl) ?_
  refine lv_if_ne (tgt := 349) hx hb dX8_lineRead_344 (by decide) (fun c14 => ?_) (fun c14 => ?_)
  · have h := tx_neg c14 h
    refine lv_aload_n hx hb dX8_lineRead_349 rfl (lv_at hl 0 rfl) ?_
    refine lv_bipush (v := 59) hx hb dX8_lineRead_350 (by decide) ?_
    obtain ⟨r15, hc16, h⟩ := tx_bd h
    refine tw_ci tw_all hP hD hS hA (va_runV (As := [.int 59]) (rest := []) ⟨hx, hb, hml, hown, hT⟩ (c_X8_isSign l G cA H.size aa S L (59 : Int32)  r15 hc16) (cwV 1 hT (tq_gV kw_25_18 kw_25_19 kw_25_20 kw_1_5 kw_25_21) rfl rfl rfl (by decide +kernel) ⟨Nat.le_of_ble_eq_true rfl, Nat.le_of_ble_eq_true rfl⟩) ⟨(tw_pre tw_all hP hD hK hN).1, va_recv hK hP (ci := 8) (q0 := 0) rfl rfl, (tw_pre tw_all hP hD hK hN).2⟩ rfl rfl hl.1 rfl (lv_room (Nat.le_of_ble_eq_true rfl)) dX8_lineRead_352 ⟨Nat.le_of_ble_eq_true rfl, Nat.le_of_ble_eq_true rfl⟩) (fun _ _ H locs z17 hP hD hS => ?_)
    subst z17
    rw [List.append_nil] at hP hD
    have hP : va_P G vwCl (wM cA aa S L) H := hP
    have hD : va_D A (wM cA aa S L) := hD
    refine lv_if_ne (tgt := 364) hx hb dX8_lineRead_355 (by decide) (fun c18 => ?_) (fun c18 => ?_)
    · have h := tx_neg c18 h
      refine lv_aload_n hx hb dX8_lineRead_364 rfl (lv_at hl 0 rfl) ?_
      obtain ⟨S_19, hc20, h⟩ := tx_bd h
      refine tw_cv tw_all hP hD hS hA (va_runV (As := []) (rest := []) ⟨hx, hb, hml, hown, hT⟩ (c_X8_token l G cA H.size aa S L  S_19 hc20) (cwV 0 hT (tq_gV kw_22_15 kw_22_16 kw_22_17 kw_1_5 kw_22_18) rfl rfl rfl (by decide +kernel) ⟨Nat.le_of_ble_eq_true rfl, Nat.le_of_ble_eq_true rfl⟩) ⟨(tw_pre tw_all hP hD hK hN).1, va_recv hK hP (ci := 8) (q0 := 0) rfl rfl, (tw_pre tw_all hP hD hK hN).2⟩ rfl rfl hl.1 rfl (lv_room (Nat.le_of_ble_eq_true rfl)) dX8_lineRead_365 ⟨Nat.le_of_ble_eq_true rfl, Nat.le_of_ble_eq_true rfl⟩) (fun _ H locs z21 hP hD hS => ?_)
      rw [List.append_nil] at hP hD
      have hP : va_P G vwCl (wM cA aa S_19 L) H := hP
      have hD : va_D A (wM cA aa S_19 L) := hD
      refine lv_iconst (v := 1) hx hb dX8_lineRead_368 (by decide) ?_
      obtain ⟨rfl, rfl⟩ := tx_2 h
      exact W.zret (ty := .boolean) hx hb hr rfl (fun t ht hW => ⟨⟨_, (), rfl, rfl, by rw [ht]; exact hP, hD⟩, hS.F ht⟩) hS.2.2 dX8_lineRead_369
    · have h := tx_pos c18 h
      refine lv_aload_n hx hb dX8_lineRead_358 rfl (lv_at hl 0 rfl) ?_
      refine lv_iconst (v := 1) hx hb dX8_lineRead_359 (by decide) ?_
      obtain ⟨⟨r22, S_23⟩, hc24, h⟩ := tx_bd h
      replace h := tx_let (y := r22) rfl h
      replace h := tx_let (y := S_23) rfl h
      refine tw_ci tw_all hP hD hS hA (va_runV (As := [.int 1]) (rest := []) ⟨hx, hb, hml, hown, hT⟩ (c_X8_wrong l G cA H.size aa S L (1 : Int32)  r22 S_23 hc24) (cwV 1 hT (tq_gV kw_23_23 kw_24_0 kw_24_1 kw_1_5 kw_24_2) rfl rfl rfl (by decide +kernel) ⟨Nat.le_of_ble_eq_true rfl, Nat.le_of_ble_eq_true rfl⟩) ⟨(tw_pre tw_all hP hD hK hN).1, va_recv hK hP (ci := 8) (q0 := 0) rfl rfl, (tw_pre tw_all hP hD hK hN).2⟩ rfl rfl hl.1 rfl (lv_room (Nat.le_of_ble_eq_true rfl)) dX8_lineRead_360 ⟨Nat.le_of_ble_eq_true rfl, Nat.le_of_ble_eq_true rfl⟩) (fun _ _ H locs z25 hP hD hS => ?_)
      subst z25
      rw [List.append_nil] at hP hD
      have hP : va_P G vwCl (wM cA aa S_23 L) H := hP
      have hD : va_D A (wM cA aa S_23 L) := hD
      obtain ⟨g26, h⟩ := tx_ck h
      obtain ⟨rfl, rfl⟩ := tx_2 h
      exact W.zret (ty := .boolean) hx hb hr (tx_z g26) (fun t ht hW => ⟨⟨_, (), rfl, rfl, by rw [ht]; exact hP, hD⟩, hS.F ht⟩) hS.2.2 dX8_lineRead_363
  · have h := tx_pos c14 h
    refine lv_iconst (v := 0) hx hb dX8_lineRead_347 (by decide) ?_
    obtain ⟨rfl, rfl⟩ := tx_2 h
    exact W.zret (ty := .boolean) hx hb hr rfl (fun t ht hW => ⟨⟨_, (), rfl, rfl, by rw [ht]; exact hP, hD⟩, hS.F ht⟩) hS.2.2 dX8_lineRead_348
set_option maxHeartbeats 4000000 in
set_option maxRecDepth 100000 in
theorem w_X8_lineRead_J136 {p : Program} {l : Launch} {e : Env} {s : State} {m : MethodId} {below : List Frame} {meth : Method} {c : Code} {G : va_G} {cA : Nat → ClassId} {A : Nat → Prop} {aa : Nat → Nat} {L : Lo} {r0 : Int32} {S' : Tr} (F : tF p s m ([.ref (aa 0)] : List Value).toArray meth c G cA A RX8 cX8_lineRead 3 (some .boolean))    (S : Tr) (H : Heap) (locs : List Loc) (ls : Array Slot) (h : fJ_X8_lineRead_J136 S = some (r0, S')) (hP : va_P G vwCl (wM cA aa S_50 L) H) (hD : va_D A (wM cA aa S_50 L)) (hS : va_S A s.heap H locs) (hl : lv_has ls 3 [(0, .ref (aa 0))]) : G_X8_lineRead p l e s m below meth c G cA A aa L r0 S' H locs (F0 m 136 ls []) := by
  obtain ⟨hx, hb, hr, hml, hT, hown, hlocks, hK, hN, hA⟩ := id F
  unfold fJ_X8_lineRead_J136 at h
  refine lv_aload_n hx hb dX8_lineRead_136 rfl (lv_at hl 0 rfl) ?_
  refine lv_iconst (v := 1) hx hb dX8_lineRead_137 (by decide) ?_
  obtain ⟨⟨r49, S_50⟩, hc51, h⟩ := tx_bd h
  replace h := tx_let (y := r49) rfl h
  replace h := tx_let (y := S_50) rfl h
  refine tw_ci tw_all hP hD hS hA (va_runV (As := [.int 1]) (rest := []) ⟨hx, hb, hml, hown, hT⟩ (c_X8_wrong l G cA H.size aa S L (1 : Int32)  r49 S_50 hc51) (cwV 1 hT (tq_gV kw_23_23 kw_24_0 kw_24_1 kw_1_5 kw_24_2) rfl rfl rfl (by decide +kernel) ⟨Nat.le_of_ble_eq_true rfl, Nat.le_of_ble_eq_true rfl⟩) ⟨(tw_pre tw_all hP hD hK hN).1, va_recv hK hP (ci := 8) (q0 := 0) rfl rfl, (tw_pre tw_all hP hD hK hN).2⟩ rfl rfl hl.1 rfl (lv_room (Nat.le_of_ble_eq_true rfl)) dX8_lineRead_138 ⟨Nat.le_of_ble_eq_true rfl, Nat.le_of_ble_eq_true rfl⟩) (fun _ _ H locs z52 hP hD hS => ?_)
  subst z52
  rw [List.append_nil] at hP hD
  have hP : va_P G vwCl (wM cA aa S_50 L) H := hP
  have hD : va_D A (wM cA aa S_50 L) := hD
  obtain ⟨g53, h⟩ := tx_ck h
  obtain ⟨rfl, rfl⟩ := tx_2 h
  exact W.zret (ty := .boolean) hx hb hr (tx_z g53) (fun t ht hW => ⟨⟨_, (), rfl, rfl, by rw [ht]; exact hP, hD⟩, hS.F ht⟩) hS.2.2 dX8_lineRead_141
set_option maxHeartbeats 4000000 in
set_option maxRecDepth 100000 in
theorem w_X8_lineRead_J187 {p : Program} {l : Launch} {e : Env} {s : State} {m : MethodId} {below : List Frame} {meth : Method} {c : Code} {G : va_G} {cA : Nat → ClassId} {A : Nat → Prop} {aa : Nat → Nat} {L : Lo} {r0 : Int32} {S' : Tr} (F : tF p s m ([.ref (aa 0)] : List Value).toArray meth c G cA A RX8 cX8_lineRead 3 (some .boolean))    (s0 : Int32) (S : Tr) (H : Heap) (locs : List Loc) (ls : Array Slot) (h : fJ_X8_lineRead_J187 s0 S = some (r0, S')) (hP : va_P G vwCl (wM cA aa S L) H) (hD : va_D A (wM cA aa S L)) (hS : va_S A s.heap H locs) (hl : lv_has ls 3 [(1, .int s0), (0, .ref (aa 0))]) : G_X8_lineRead p l e s m below meth c G cA A aa L r0 S' H locs (F0 m 187 ls []) := by
  obtain ⟨hx, hb, hr, hml, hT, hown, hlocks, hK, hN, hA⟩ := id F
  unfold fJ_X8_lineRead_J187 at h
  refine lv_istore_n (lv' := [(1, .int s0), (0, .ref (aa 0))]) hx hb dX8_lineRead_187 rfl hl (by decide) rfl (fun ls hl => ?_)
  refine lv_iload_n hx hb dX8_lineRead_188 rfl (lv_at hl 0 rfl) ?_
  refine lv_if_eq (tgt := 343) hx hb dX8_lineRead_189 (by decide) (fun c66 => ?_) (fun c66 => ?_)
  · have h := tx_pos c66 h
    exact w_X8_lineRead_J343 F s0 S H locs ls h hP hD hS (lv_sub hl [1, 0] rfl)
  · have h := tx_neg c66 h
    refine lv_aload_n hx hb dX8_lineRead_192 rfl (lv_at hl 1 rfl) ?_
    refine va_get (D := G) (ci := 8) (v := .ref (aa 23)) (C := RX8) (T := TX8) (N := 91) hx hb hT ku_8 hown hK hP 0 rfl rfl 22 (by decide) (hT _ kw_9_14) (fun _ h9 => h9) rfl dX8_lineRead_193 ?_
    refine lv_iconst (v := 4) hx hb dX8_lineRead_196 (by decide) ?_
    refine lv_aload_n hx hb dX8_lineRead_197 rfl (lv_at hl 1 rfl) ?_
    refine va_get (D := G) (ci := 8) (v := .int (S 0 11)) (C := RX8) (T := TX8) (N := 91) hx hb hT ku_8 hown hK hP 0 rfl rfl 11 (by decide) (hT _ kw_23_22) (fun _ h9 => h9) rfl dX8_lineRead_198 ?_
    refine va_iast (i := 4) hx hb hK hP hD hS 4 0 rfl rfl (tq_in (by decide)) dX8_lineRead_201 (fun H locs hP hD hS => ?_)
    rw [show (4 : Int32).toNatClampNeg = 4 from rfl] at hP hD
    obtain ⟨S_67, eS_67, h⟩ := tx_lt h
    rw [sM_a22, eS_67] at hP hD
    refine lv_goto (tgt := 343) hx hb dX8_lineRead_202 (by decide) ?_
    exact w_X8_lineRead_J343 F s0 S_67 H locs ls h hP hD hS (lv_sub hl [1, 0] rfl)
set_option maxHeartbeats 4000000 in
set_option maxRecDepth 100000 in
theorem w_X8_lineRead_J186 {p : Program} {l : Launch} {e : Env} {s : State} {m : MethodId} {below : List Frame} {meth : Method} {c : Code} {G : va_G} {cA : Nat → ClassId} {A : Nat → Prop} {aa : Nat → Nat} {L : Lo} {r0 : Int32} {S' : Tr} (F : tF p s m ([.ref (aa 0)] : List Value).toArray meth c G cA A RX8 cX8_lineRead 3 (some .boolean))    (S : Tr) (H : Heap) (locs : List Loc) (ls : Array Slot) (h : fJ_X8_lineRead_J186 S = some (r0, S')) (hP : va_P G vwCl (wM cA aa S L) H) (hD : va_D A (wM cA aa S L)) (hS : va_S A s.heap H locs) (hl : lv_has ls 3 [(0, .ref (aa 0))]) : G_X8_lineRead p l e s m below meth c G cA A aa L r0 S' H locs (F0 m 186 ls [.int 0]) := by
  obtain ⟨hx, hb, hr, hml, hT, hown, hlocks, hK, hN, hA⟩ := id F
  unfold fJ_X8_lineRead_J186 at h
  refine lv_iconst (v := 0) hx hb dX8_lineRead_186 (by decide) ?_
  exact w_X8_lineRead_J187 F 0 S H locs ls h hP hD hS (lv_sub hl [0] rfl)
set_option maxHeartbeats 4000000 in
set_option maxRecDepth 100000 in
theorem w_X8_lineRead_J228 {p : Program} {l : Launch} {e : Env} {s : State} {m : MethodId} {below : List Frame} {meth : Method} {c : Code} {G : va_G} {cA : Nat → ClassId} {A : Nat → Prop} {aa : Nat → Nat} {L : Lo} {r0 : Int32} {S' : Tr} (F : tF p s m ([.ref (aa 0)] : List Value).toArray meth c G cA A RX8 cX8_lineRead 3 (some .boolean))    (s0 : Int32) (S : Tr) (H : Heap) (locs : List Loc) (ls : Array Slot) (h : fJ_X8_lineRead_J228 s0 S = some (r0, S')) (hP : va_P G vwCl (wM cA aa S L) H) (hD : va_D A (wM cA aa S L)) (hS : va_S A s.heap H locs) (hl : lv_has ls 3 [(1, .int s0), (0, .ref (aa 0))]) : G_X8_lineRead p l e s m below meth c G cA A aa L r0 S' H locs (F0 m 228 ls []) := by
  obtain ⟨hx, hb, hr, hml, hT, hown, hlocks, hK, hN, hA⟩ := id F
  unfold fJ_X8_lineRead_J228 at h
  refine lv_istore_n (lv' := [(1, .int s0), (0, .ref (aa 0))]) hx hb dX8_lineRead_228 rfl hl (by decide) rfl (fun ls hl => ?_)
  refine lv_iload_n hx hb dX8_lineRead_229 rfl (lv_at hl 0 rfl) ?_
  refine lv_if_eq (tgt := 343) hx hb dX8_lineRead_230 (by decide) (fun c79 => ?_) (fun c79 => ?_)
  · have h := tx_pos c79 h
    exact w_X8_lineRead_J343 F s0 S H locs ls h hP hD hS (lv_sub hl [1, 0] rfl)
  · have h := tx_neg c79 h
    refine lv_aload_n hx hb dX8_lineRead_233 rfl (lv_at hl 1 rfl) ?_
    refine va_get (D := G) (ci := 8) (v := .ref (aa 23)) (C := RX8) (T := TX8) (N := 91) hx hb hT ku_8 hown hK hP 0 rfl rfl 22 (by decide) (hT _ kw_9_14) (fun _ h9 => h9) rfl dX8_lineRead_234 ?_
    refine lv_iconst (v := 5) hx hb dX8_lineRead_237 (by decide) ?_
    refine lv_aload_n hx hb dX8_lineRead_238 rfl (lv_at hl 1 rfl) ?_
    refine va_get (D := G) (ci := 8) (v := .int (S 0 11)) (C := RX8) (T := TX8) (N := 91) hx hb hT ku_8 hown hK hP 0 rfl rfl 11 (by decide) (hT _ kw_23_22) (fun _ h9 => h9) rfl dX8_lineRead_239 ?_
    refine va_iast (i := 5) hx hb hK hP hD hS 4 0 rfl rfl (tq_in (by decide)) dX8_lineRead_242 (fun H locs hP hD hS => ?_)
    rw [show (5 : Int32).toNatClampNeg = 5 from rfl] at hP hD
    obtain ⟨S_80, eS_80, h⟩ := tx_lt h
    rw [sM_a22, eS_80] at hP hD
    refine lv_goto (tgt := 343) hx hb dX8_lineRead_243 (by decide) ?_
    exact w_X8_lineRead_J343 F s0 S_80 H locs ls h hP hD hS (lv_sub hl [1, 0] rfl)
set_option maxHeartbeats 4000000 in
set_option maxRecDepth 100000 in
theorem w_X8_lineRead_J227 {p : Program} {l : Launch} {e : Env} {s : State} {m : MethodId} {below : List Frame} {meth : Method} {c : Code} {G : va_G} {cA : Nat → ClassId} {A : Nat → Prop} {aa : Nat → Nat} {L : Lo} {r0 : Int32} {S' : Tr} (F : tF p s m ([.ref (aa 0)] : List Value).toArray meth c G cA A RX8 cX8_lineRead 3 (some .boolean))    (S : Tr) (H : Heap) (locs : List Loc) (ls : Array Slot) (h : fJ_X8_lineRead_J227 S = some (r0, S')) (hP : va_P G vwCl (wM cA aa S L) H) (hD : va_D A (wM cA aa S L)) (hS : va_S A s.heap H locs) (hl : lv_has ls 3 [(0, .ref (aa 0))]) : G_X8_lineRead p l e s m below meth c G cA A aa L r0 S' H locs (F0 m 227 ls [.int 0]) := by
  obtain ⟨hx, hb, hr, hml, hT, hown, hlocks, hK, hN, hA⟩ := id F
  unfold fJ_X8_lineRead_J227 at h
  refine lv_iconst (v := 0) hx hb dX8_lineRead_227 (by decide) ?_
  exact w_X8_lineRead_J228 F 0 S H locs ls h hP hD hS (lv_sub hl [0] rfl)
set_option maxHeartbeats 4000000 in
set_option maxRecDepth 100000 in
theorem w_X8_lineRead_J276 {p : Program} {l : Launch} {e : Env} {s : State} {m : MethodId} {below : List Frame} {meth : Method} {c : Code} {G : va_G} {cA : Nat → ClassId} {A : Nat → Prop} {aa : Nat → Nat} {L : Lo} {r0 : Int32} {S' : Tr} (F : tF p s m ([.ref (aa 0)] : List Value).toArray meth c G cA A RX8 cX8_lineRead 3 (some .boolean))    (S : Tr) (H : Heap) (locs : List Loc) (ls : Array Slot) (h : fJ_X8_lineRead_J276 S = some (r0, S')) (hP : va_P G vwCl (wM cA aa S_91 L) H) (hD : va_D A (wM cA aa S_91 L)) (hS : va_S A s.heap H locs) (hl : lv_has ls 3 [(0, .ref (aa 0))]) : G_X8_lineRead p l e s m below meth c G cA A aa L r0 S' H locs (F0 m 276 ls []) := by
  obtain ⟨hx, hb, hr, hml, hT, hown, hlocks, hK, hN, hA⟩ := id F
  unfold fJ_X8_lineRead_J276 at h
  refine lv_aload_n hx hb dX8_lineRead_276 rfl (lv_at hl 0 rfl) ?_
  refine lv_iconst (v := 1) hx hb dX8_lineRead_277 (by decide) ?_
  obtain ⟨⟨r90, S_91⟩, hc92, h⟩ := tx_bd h
  replace h := tx_let (y := r90) rfl h
  replace h := tx_let (y := S_91) rfl h
  refine tw_ci tw_all hP hD hS hA (va_runV (As := [.int 1]) (rest := []) ⟨hx, hb, hml, hown, hT⟩ (c_X8_wrong l G cA H.size aa S L (1 : Int32)  r90 S_91 hc92) (cwV 1 hT (tq_gV kw_23_23 kw_24_0 kw_24_1 kw_1_5 kw_24_2) rfl rfl rfl (by decide +kernel) ⟨Nat.le_of_ble_eq_true rfl, Nat.le_of_ble_eq_true rfl⟩) ⟨(tw_pre tw_all hP hD hK hN).1, va_recv hK hP (ci := 8) (q0 := 0) rfl rfl, (tw_pre tw_all hP hD hK hN).2⟩ rfl rfl hl.1 rfl (lv_room (Nat.le_of_ble_eq_true rfl)) dX8_lineRead_278 ⟨Nat.le_of_ble_eq_true rfl, Nat.le_of_ble_eq_true rfl⟩) (fun _ _ H locs z93 hP hD hS => ?_)
  subst z93
  rw [List.append_nil] at hP hD
  have hP : va_P G vwCl (wM cA aa S_91 L) H := hP
  have hD : va_D A (wM cA aa S_91 L) := hD
  obtain ⟨g94, h⟩ := tx_ck h
  obtain ⟨rfl, rfl⟩ := tx_2 h
  exact W.zret (ty := .boolean) hx hb hr (tx_z g94) (fun t ht hW => ⟨⟨_, (), rfl, rfl, by rw [ht]; exact hP, hD⟩, hS.F ht⟩) hS.2.2 dX8_lineRead_281
set_option maxHeartbeats 4000000 in
set_option maxRecDepth 100000 in
theorem c_X8_lineRead (l : Launch) (G : va_G) (cA : Nat → ClassId) (sz : Nat) (aa : Nat → Nat) (S : Tr) (L : Lo)  (r0 : Int32) (S' : Tr) (h : f_X8_lineRead S = some (r0, S')) : Met l yX8_lineRead (.code yX8_lineRead cX8_lineRead 3 (some .boolean) :: T0) ({ frames := 4, cells := 0, slots := 0, locals := 91 } : Room) (tqP G cA [.ref (aa 0)] (wM cA aa S L) sz) (tqQi G cA (fun (r : Int32) (_ : Unit) => r = r0) (fun (_ : Unit) => wM cA aa S' L) (va_A (wM cA aa S L) sz)) 0 0 (va_A (wM cA aa S L) sz) := by
  refine Met.ofW (cc := cX8_lineRead) (maxL := 3) (ret := (some .boolean)) (by decide) rfl ?_
  intro p e s m args below meth c s₁ B hml hv
  obtain ⟨rfl, hsz, hP, hK, hD0, hN⟩ := hv
  have hx := B.exec
  have hb := B.bytes
  have hr := B.returns
  have hts := atoms_spec (ws := .code yX8_lineRead cX8_lineRead 3 (some .boolean) :: T0) B.pre
  have hT : ∀ w ∈ T0, w.before _ s = true := fun w h => hts w (List.mem_cons_of_mem _ h)
  have hown : s.vm.findClass RX8 = some m.cls := findClass_of_methodNamed B.named
  have hlocks := B.notSynchronized
  subst hsz
  have hD := hD0.self (sz := s.heap.size)
  generalize hAe : va_A (wM cA aa S L) s.heap.size = A at hD ⊢
  have hA : ∀ q : Nat, s.heap.size ≤ q → A q := fun q h => by rw [← hAe]; exact Or.inr h
  have hS : va_S A s.heap s.heap [] := va_S.rf
  have hl := lv_entry ([.ref (aa 0)]) (n := 3) (Nat.le_of_ble_eq_true rfl)
  rw [lg_entry_eq]
  generalize (lg_sl ([.ref (aa 0)]) ++ List.replicate (3 - (lg_sl ([.ref (aa 0)])).length) Slot.unset).toArray = ls at hl ⊢
  have hl : lv_has ls 3 [(0, .ref (aa 0))] := hl
  have F : tF p s m ([.ref (aa 0)] : List Value).toArray meth c G cA A RX8 cX8_lineRead 3 (some .boolean) := ⟨hx, hb, hr, hml, hT, hown, hlocks, hK, hN, hA⟩
  obtain ⟨H, hH⟩ : ∃ z, z = s.heap := ⟨_, rfl⟩
  rw [← hH] at hP
  have hS : va_S A s.heap H [] := by rw [hH]; exact hS
  suffices hgo : G_X8_lineRead p l e s m below meth c G cA A aa L r0 S' H [] (F0 m 0 ls []) by rw [hH] at hgo; exact hgo
  generalize ([] : List Loc) = locs at hS ⊢
  unfold f_X8_lineRead at h
  refine lv_aload_n hx hb dX8_lineRead_0 rfl (lv_at hl 0 rfl) ?_
  refine va_get (D := G) (ci := 8) (v := .int (S 0 8)) (C := RX8) (T := TX8) (N := 91) hx hb hT ku_8 hown hK hP 0 rfl rfl 8 (by decide) (hT _ kw_22_14) (fun _ h9 => h9) rfl dX8_lineRead_1 ?_
  refine lv_iconst (v := 1) hx hb dX8_lineRead_4 (by decide) ?_
  refine lv_icmp_ne (tgt := 17) hx hb dX8_lineRead_5 (by decide) (fun c1 => ?_) (fun c1 => ?_)
  · have h := tx_neg c1 h
    exact w_X8_lineRead_J17 F S H locs ls h hP hD hS (lv_sub hl [0] rfl)
  · have h := tx_pos c1 h
    refine lv_aload_n hx hb dX8_lineRead_8 rfl (lv_at hl 0 rfl) ?_
    refine va_get (D := G) (ci := 8) (v := .int (S 0 9)) (C := RX8) (T := TX8) (N := 91) hx hb hT ku_8 hown hK hP 0 rfl rfl 9 (by decide) (hT _ kw_22_20) (fun _ h9 => h9) rfl dX8_lineRead_9 ?_
    refine lv_bipush (v := 7) hx hb dX8_lineRead_12 (by decide) ?_
    refine lv_icmp_le (tgt := 23) hx hb dX8_lineRead_14 (by decide) (fun c7 => ?_) (fun c7 => ?_)
    · have h := tx_pos c7 h
      refine lv_aload_n hx hb dX8_lineRead_23 rfl (lv_at hl 0 rfl) ?_
      refine va_get (D := G) (ci := 8) (v := .int (S 0 9)) (C := RX8) (T := TX8) (N := 91) hx hb hT ku_8 hown hK hP 0 rfl rfl 9 (by decide) (hT _ kw_22_20) (fun _ h9 => h9) rfl dX8_lineRead_24 ?_
      refine lv_topi (fun y8 ey8 => ?_)
      have h := tx_let ey8 h
      by_cases c9 : y8 = 0
      · have h := tx_pos c9 h
        refine lv_tableIn (off := 41) (tgt := 343) hx hb dX8_lineRead_27 (by rw [c9]; decide) (by rw [c9]; decide) (by rw [c9]; decide) (by decide) ?_
        refine lv_aload_n hx hb dX8_lineRead_68 rfl (lv_at hl 0 rfl) ?_
        obtain ⟨⟨r10, S_11⟩, hc12, h⟩ := tx_bd h
        replace h := tx_let (y := r10) rfl h
        replace h := tx_let (y := S_11) rfl h
        refine tw_ci tw_all hP hD hS hA (va_runV (As := []) (rest := []) ⟨hx, hb, hml, hown, hT⟩ (c_X8_placeLine l G cA H.size aa S L  r10 S_11 hc12) (cwV 0 hT (tq_gV kw_24_3 kw_24_4 kw_24_5 kw_1_5 kw_24_6) rfl rfl rfl (by decide +kernel) ⟨Nat.le_of_ble_eq_true rfl, Nat.le_of_ble_eq_true rfl⟩) ⟨(tw_pre tw_all hP hD hK hN).1, va_recv hK hP (ci := 8) (q0 := 0) rfl rfl, (tw_pre tw_all hP hD hK hN).2⟩ rfl rfl hl.1 rfl (lv_room (Nat.le_of_ble_eq_true rfl)) dX8_lineRead_69 ⟨Nat.le_of_ble_eq_true rfl, Nat.le_of_ble_eq_true rfl⟩) (fun _ _ H locs z13 hP hD hS => ?_)
        subst z13
        rw [List.append_nil] at hP hD
        have hP : va_P G vwCl (wM cA aa S_11 L) H := hP
        have hD : va_D A (wM cA aa S_11 L) := hD
        refine lv_istore_n (lv' := [(1, .int r10), (0, .ref (aa 0))]) hx hb dX8_lineRead_72 rfl hl (by decide) rfl (fun ls hl => ?_)
        refine lv_goto (tgt := 343) hx hb dX8_lineRead_73 (by decide) ?_
        exact w_X8_lineRead_J343 F r10 S_11 H locs ls h hP hD hS (lv_sub hl [1, 0] rfl)
      · have h := tx_neg c9 h
        by_cases c27 : y8 = 1
        · have h := tx_pos c27 h
          refine lv_tableIn (off := 49) (tgt := 343) hx hb dX8_lineRead_27 (by rw [c27]; decide) (by rw [c27]; decide) (by rw [c27]; decide) (by decide) ?_
          refine lv_aload_n hx hb dX8_lineRead_76 rfl (lv_at hl 0 rfl) ?_
          obtain ⟨⟨r28, S_29⟩, hc30, h⟩ := tx_bd h
          replace h := tx_let (y := r28) rfl h
          replace h := tx_let (y := S_29) rfl h
          refine tw_ci tw_all hP hD hS hA (va_runV (As := []) (rest := []) ⟨hx, hb, hml, hown, hT⟩ (c_X8_personLine l G cA H.size aa S L  r28 S_29 hc30) (cwV 0 hT (tq_gV kw_24_14 kw_24_15 kw_24_16 kw_1_5 kw_24_17) rfl rfl rfl (by decide +kernel) ⟨Nat.le_of_ble_eq_true rfl, Nat.le_of_ble_eq_true rfl⟩) ⟨(tw_pre tw_all hP hD hK hN).1, va_recv hK hP (ci := 8) (q0 := 0) rfl rfl, (tw_pre tw_all hP hD hK hN).2⟩ rfl rfl hl.1 rfl (lv_room (Nat.le_of_ble_eq_true rfl)) dX8_lineRead_77 ⟨Nat.le_of_ble_eq_true rfl, Nat.le_of_ble_eq_true rfl⟩) (fun _ _ H locs z31 hP hD hS => ?_)
          subst z31
          rw [List.append_nil] at hP hD
          have hP : va_P G vwCl (wM cA aa S_29 L) H := hP
          have hD : va_D A (wM cA aa S_29 L) := hD
          refine lv_istore_n (lv' := [(1, .int r28), (0, .ref (aa 0))]) hx hb dX8_lineRead_80 rfl hl (by decide) rfl (fun ls hl => ?_)
          refine lv_goto (tgt := 343) hx hb dX8_lineRead_81 (by decide) ?_
          exact w_X8_lineRead_J343 F r28 S_29 H locs ls h hP hD hS (lv_sub hl [1, 0] rfl)
        · have h := tx_neg c27 h
          by_cases c32 : y8 = 2
          · have h := tx_pos c32 h
            refine lv_tableIn (off := 57) (tgt := 343) hx hb dX8_lineRead_27 (by rw [c32]; decide) (by rw [c32]; decide) (by rw [c32]; decide) (by decide) ?_
            refine lv_aload_n hx hb dX8_lineRead_84 rfl (lv_at hl 0 rfl) ?_
            obtain ⟨⟨r33, S_34⟩, hc35, h⟩ := tx_bd h
            replace h := tx_let (y := r33) rfl h
            replace h := tx_let (y := S_34) rfl h
            refine tw_ci tw_all hP hD hS hA (va_runV (As := []) (rest := []) ⟨hx, hb, hml, hown, hT⟩ (c_X8_pieceLine l G cA H.size aa S L  r33 S_34 hc35) (cwV 0 hT (tq_gV kw_24_21 kw_24_22 kw_24_23 kw_1_5 kw_25_0) rfl rfl rfl (by decide +kernel) ⟨Nat.le_of_ble_eq_true rfl, Nat.le_of_ble_eq_true rfl⟩) ⟨(tw_pre tw_all hP hD hK hN).1, va_recv hK hP (ci := 8) (q0 := 0) rfl rfl, (tw_pre tw_all hP hD hK hN).2⟩ rfl rfl hl.1 rfl (lv_room (Nat.le_of_ble_eq_true rfl)) dX8_lineRead_85 ⟨Nat.le_of_ble_eq_true rfl, Nat.le_of_ble_eq_true rfl⟩) (fun _ _ H locs z36 hP hD hS => ?_)
            subst z36
            rw [List.append_nil] at hP hD
            have hP : va_P G vwCl (wM cA aa S_34 L) H := hP
            have hD : va_D A (wM cA aa S_34 L) := hD
            refine lv_istore_n (lv' := [(1, .int r33), (0, .ref (aa 0))]) hx hb dX8_lineRead_88 rfl hl (by decide) rfl (fun ls hl => ?_)
            refine lv_goto (tgt := 343) hx hb dX8_lineRead_89 (by decide) ?_
            exact w_X8_lineRead_J343 F r33 S_34 H locs ls h hP hD hS (lv_sub hl [1, 0] rfl)
          · have h := tx_neg c32 h
            by_cases c37 : y8 = 3
            · have h := tx_pos c37 h
              refine lv_tableIn (off := 65) (tgt := 343) hx hb dX8_lineRead_27 (by rw [c37]; decide) (by rw [c37]; decide) (by rw [c37]; decide) (by decide) ?_
              refine lv_aload_n hx hb dX8_lineRead_92 rfl (lv_at hl 0 rfl) ?_
              obtain ⟨⟨r38, S_39⟩, hc40, h⟩ := tx_bd h
              replace h := tx_let (y := r38) rfl h
              replace h := tx_let (y := S_39) rfl h
              refine tw_ci tw_all hP hD hS hA (va_runV (As := []) (rest := []) ⟨hx, hb, hml, hown, hT⟩ (c_X8_waitLine l G cA H.size aa S L  r38 S_39 hc40) (cwV 0 hT (tq_gV kw_25_1 kw_25_2 kw_25_3 kw_1_5 kw_25_4) rfl rfl rfl (by decide +kernel) ⟨Nat.le_of_ble_eq_true rfl, Nat.le_of_ble_eq_true rfl⟩) ⟨(tw_pre tw_all hP hD hK hN).1, va_recv hK hP (ci := 8) (q0 := 0) rfl rfl, (tw_pre tw_all hP hD hK hN).2⟩ rfl rfl hl.1 rfl (lv_room (Nat.le_of_ble_eq_true rfl)) dX8_lineRead_93 ⟨Nat.le_of_ble_eq_true rfl, Nat.le_of_ble_eq_true rfl⟩) (fun _ _ H locs z41 hP hD hS => ?_)
              subst z41
              rw [List.append_nil] at hP hD
              have hP : va_P G vwCl (wM cA aa S_39 L) H := hP
              have hD : va_D A (wM cA aa S_39 L) := hD
              refine lv_istore_n (lv' := [(1, .int r38), (0, .ref (aa 0))]) hx hb dX8_lineRead_96 rfl hl (by decide) rfl (fun ls hl => ?_)
              refine lv_goto (tgt := 343) hx hb dX8_lineRead_97 (by decide) ?_
              exact w_X8_lineRead_J343 F r38 S_39 H locs ls h hP hD hS (lv_sub hl [1, 0] rfl)
            · have h := tx_neg c37 h
              by_cases c42 : y8 = 4
              · have h := tx_pos c42 h
                refine lv_tableIn (off := 73) (tgt := 108) hx hb dX8_lineRead_27 (by rw [c42]; decide) (by rw [c42]; decide) (by rw [c42]; decide) (by decide) ?_
                refine lv_aload_n hx hb dX8_lineRead_100 rfl (lv_at hl 0 rfl) ?_
                refine lv_iconst (v := 0) hx hb dX8_lineRead_101 (by decide) ?_
                obtain ⟨⟨r43, S_44⟩, hc45, h⟩ := tx_bd h
                replace h := tx_let (y := r43) rfl h
                replace h := tx_let (y := S_44) rfl h
                refine tw_ci tw_all hP hD hS hA (va_runV (As := [.int 0]) (rest := []) ⟨hx, hb, hml, hown, hT⟩ (c_X8_isOnce l G cA H.size aa S L (0 : Int32)  r43 S_44 hc45) (cwV 1 hT (tq_gV kw_25_5 kw_25_6 kw_25_7 kw_1_5 kw_25_8) rfl rfl rfl (by decide +kernel) ⟨Nat.le_of_ble_eq_true rfl, Nat.le_of_ble_eq_true rfl⟩) ⟨(tw_pre tw_all hP hD hK hN).1, va_recv hK hP (ci := 8) (q0 := 0) rfl rfl, (tw_pre tw_all hP hD hK hN).2⟩ rfl rfl hl.1 rfl (lv_room (Nat.le_of_ble_eq_true rfl)) dX8_lineRead_102 ⟨Nat.le_of_ble_eq_true rfl, Nat.le_of_ble_eq_true rfl⟩) (fun _ _ H locs z46 hP hD hS => ?_)
                subst z46
                rw [List.append_nil] at hP hD
                have hP : va_P G vwCl (wM cA aa S_44 L) H := hP
                have hD : va_D A (wM cA aa S_44 L) := hD
                refine lv_if_ne (tgt := 110) hx hb dX8_lineRead_105 (by decide) (fun c47 => ?_) (fun c47 => ?_)
                · have h := tx_neg c47 h
                  refine lv_aload_n hx hb dX8_lineRead_110 rfl (lv_at hl 0 rfl) ?_
                  refine va_get (D := G) (ci := 8) (v := .int (S_44 0 8)) (C := RX8) (T := TX8) (N := 91) hx hb hT ku_8 hown hK hP 0 rfl rfl 8 (by decide) (hT _ kw_22_14) (fun _ h9 => h9) rfl dX8_lineRead_111 ?_
                  refine lv_iconst (v := 1) hx hb dX8_lineRead_114 (by decide) ?_
                  refine lv_icmp_ne (tgt := 136) hx hb dX8_lineRead_115 (by decide) (fun c48 => ?_) (fun c48 => ?_)
                  · have h := tx_neg c48 h
                    exact w_X8_lineRead_J136 F S_44 H locs ls h hP hD hS (lv_sub hl [0] rfl)
                  · have h := tx_pos c48 h
                    refine lv_aload_n hx hb dX8_lineRead_118 rfl (lv_at hl 0 rfl) ?_
                    refine va_get (D := G) (ci := 8) (v := .int (S_44 0 9)) (C := RX8) (T := TX8) (N := 91) hx hb hT ku_8 hown hK hP 0 rfl rfl 9 (by decide) (hT _ kw_22_20) (fun _ h9 => h9) rfl dX8_lineRead_119 ?_
                    refine lv_bipush (v := 13) hx hb dX8_lineRead_122 (by decide) ?_
                    refine lv_icmp_lt (tgt := 136) hx hb dX8_lineRead_124 (by decide) (fun c54 => ?_) (fun c54 => ?_)
                    · have h := tx_pos c54 h
                      exact w_X8_lineRead_J136 F S_44 H locs ls h hP hD hS (lv_sub hl [0] rfl)
                    · have h := tx_neg c54 h
                      refine lv_aload_n hx hb dX8_lineRead_127 rfl (lv_at hl 0 rfl) ?_
                      refine va_get (D := G) (ci := 8) (v := .int (S_44 0 9)) (C := RX8) (T := TX8) (N := 91) hx hb hT ku_8 hown hK hP 0 rfl rfl 9 (by decide) (hT _ kw_22_20) (fun _ h9 => h9) rfl dX8_lineRead_128 ?_
                      refine lv_bipush (v := 15) hx hb dX8_lineRead_131 (by decide) ?_
                      refine lv_icmp_le (tgt := 142) hx hb dX8_lineRead_133 (by decide) (fun c55 => ?_) (fun c55 => ?_)
                      · have h := tx_pos c55 h
                        refine lv_aload_n hx hb dX8_lineRead_142 rfl (lv_at hl 0 rfl) ?_
                        refine va_get (D := G) (ci := 8) (v := .ref (aa 23)) (C := RX8) (T := TX8) (N := 91) hx hb hT ku_8 hown hK hP 0 rfl rfl 22 (by decide) (hT _ kw_9_14) (fun _ h9 => h9) rfl dX8_lineRead_143 ?_
                        refine lv_iconst (v := 3) hx hb dX8_lineRead_146 (by decide) ?_
                        refine lv_aload_n hx hb dX8_lineRead_147 rfl (lv_at hl 0 rfl) ?_
                        refine va_get (D := G) (ci := 8) (v := .int (S_44 0 9)) (C := RX8) (T := TX8) (N := 91) hx hb hT ku_8 hown hK hP 0 rfl rfl 9 (by decide) (hT _ kw_22_20) (fun _ h9 => h9) rfl dX8_lineRead_148 ?_
                        refine lv_bipush (v := 13) hx hb dX8_lineRead_151 (by decide) ?_
                        refine lv_isub hx hb dX8_lineRead_153 ?_
                        refine va_iast (i := 3) hx hb hK hP hD hS 4 0 rfl rfl (tq_in (by decide)) dX8_lineRead_154 (fun H locs hP hD hS => ?_)
                        rw [show (3 : Int32).toNatClampNeg = 3 from rfl] at hP hD
                        obtain ⟨S_56, eS_56, h⟩ := tx_lt h
                        rw [sM_a22, eS_56] at hP hD
                        refine lv_aload_n hx hb dX8_lineRead_155 rfl (lv_at hl 0 rfl) ?_
                        obtain ⟨S_57, hc58, h⟩ := tx_bd h
                        refine tw_cv tw_all hP hD hS hA (va_runV (As := []) (rest := []) ⟨hx, hb, hml, hown, hT⟩ (c_X8_token l G cA H.size aa S_56 L  S_57 hc58) (cwV 0 hT (tq_gV kw_22_15 kw_22_16 kw_22_17 kw_1_5 kw_22_18) rfl rfl rfl (by decide +kernel) ⟨Nat.le_of_ble_eq_true rfl, Nat.le_of_ble_eq_true rfl⟩) ⟨(tw_pre tw_all hP hD hK hN).1, va_recv hK hP (ci := 8) (q0 := 0) rfl rfl, (tw_pre tw_all hP hD hK hN).2⟩ rfl rfl hl.1 rfl (lv_room (Nat.le_of_ble_eq_true rfl)) dX8_lineRead_156 ⟨Nat.le_of_ble_eq_true rfl, Nat.le_of_ble_eq_true rfl⟩) (fun _ H locs z59 hP hD hS => ?_)
                        rw [List.append_nil] at hP hD
                        have hP : va_P G vwCl (wM cA aa S_57 L) H := hP
                        have hD : va_D A (wM cA aa S_57 L) := hD
                        refine lv_iconst (v := 1) hx hb dX8_lineRead_159 (by decide) ?_
                        refine lv_istore_n (lv' := [(1, .int 1), (0, .ref (aa 0))]) hx hb dX8_lineRead_160 rfl hl (by decide) rfl (fun ls hl => ?_)
                        refine lv_goto (tgt := 343) hx hb dX8_lineRead_161 (by decide) ?_
                        exact w_X8_lineRead_J343 F 1 S_57 H locs ls h hP hD hS (lv_sub hl [1, 0] rfl)
                      · have h := tx_neg c55 h
                        exact w_X8_lineRead_J136 F S_44 H locs ls h hP hD hS (lv_sub hl [0] rfl)
                · have h := tx_pos c47 h
                  refine lv_iconst (v := 0) hx hb dX8_lineRead_108 (by decide) ?_
                  obtain ⟨rfl, rfl⟩ := tx_2 h
                  exact W.zret (ty := .boolean) hx hb hr rfl (fun t ht hW => ⟨⟨_, (), rfl, rfl, by rw [ht]; exact hP, hD⟩, hS.F ht⟩) hS.2.2 dX8_lineRead_109
              · have h := tx_neg c42 h
                by_cases c60 : y8 = 5
                · have h := tx_pos c60 h
                  refine lv_tableIn (off := 137) (tgt := 172) hx hb dX8_lineRead_27 (by rw [c60]; decide) (by rw [c60]; decide) (by rw [c60]; decide) (by decide) ?_
                  refine lv_aload_n hx hb dX8_lineRead_164 rfl (lv_at hl 0 rfl) ?_
                  refine lv_iconst (v := 1) hx hb dX8_lineRead_165 (by decide) ?_
                  obtain ⟨⟨r61, S_62⟩, hc63, h⟩ := tx_bd h
                  replace h := tx_let (y := r61) rfl h
                  replace h := tx_let (y := S_62) rfl h
                  refine tw_ci tw_all hP hD hS hA (va_runV (As := [.int 1]) (rest := []) ⟨hx, hb, hml, hown, hT⟩ (c_X8_isOnce l G cA H.size aa S L (1 : Int32)  r61 S_62 hc63) (cwV 1 hT (tq_gV kw_25_5 kw_25_6 kw_25_7 kw_1_5 kw_25_8) rfl rfl rfl (by decide +kernel) ⟨Nat.le_of_ble_eq_true rfl, Nat.le_of_ble_eq_true rfl⟩) ⟨(tw_pre tw_all hP hD hK hN).1, va_recv hK hP (ci := 8) (q0 := 0) rfl rfl, (tw_pre tw_all hP hD hK hN).2⟩ rfl rfl hl.1 rfl (lv_room (Nat.le_of_ble_eq_true rfl)) dX8_lineRead_166 ⟨Nat.le_of_ble_eq_true rfl, Nat.le_of_ble_eq_true rfl⟩) (fun _ _ H locs z64 hP hD hS => ?_)
                  subst z64
                  rw [List.append_nil] at hP hD
                  have hP : va_P G vwCl (wM cA aa S_62 L) H := hP
                  have hD : va_D A (wM cA aa S_62 L) := hD
                  refine lv_if_eq (tgt := 186) hx hb dX8_lineRead_169 (by decide) (fun c65 => ?_) (fun c65 => ?_)
                  · have h := tx_pos c65 h
                    exact w_X8_lineRead_J186 F S_62 H locs ls h hP hD hS (lv_sub hl [0] rfl)
                  · have h := tx_neg c65 h
                    refine lv_aload_n hx hb dX8_lineRead_172 rfl (lv_at hl 0 rfl) ?_
                    refine lv_iconst (v := 0) hx hb dX8_lineRead_173 (by decide) ?_
                    refine lv_bipush (v := 99) hx hb dX8_lineRead_174 (by decide) ?_
                    obtain ⟨⟨r68, S_69⟩, hc70, h⟩ := tx_bd h
                    replace h := tx_let (y := r68) rfl h
                    replace h := tx_let (y := S_69) rfl h
                    refine tw_ci tw_all hP hD hS hA (va_runV (As := [.int 0, .int 99]) (rest := []) ⟨hx, hb, hml, hown, hT⟩ (c_X8_number l G cA H.size aa S_62 L (0 : Int32) (99 : Int32)  r68 S_69 hc70) (cwV 2 hT (tq_gV kw_24_7 kw_24_8 kw_24_9 kw_1_5 kw_24_10) rfl rfl rfl (by decide +kernel) ⟨Nat.le_of_ble_eq_true rfl, Nat.le_of_ble_eq_true rfl⟩) ⟨(tw_pre tw_all hP hD hK hN).1, va_recv hK hP (ci := 8) (q0 := 0) rfl rfl, (tw_pre tw_all hP hD hK hN).2⟩ rfl rfl hl.1 rfl (lv_room (Nat.le_of_ble_eq_true rfl)) dX8_lineRead_176 ⟨Nat.le_of_ble_eq_true rfl, Nat.le_of_ble_eq_true rfl⟩) (fun _ _ H locs z71 hP hD hS => ?_)
                    subst z71
                    rw [List.append_nil] at hP hD
                    have hP : va_P G vwCl (wM cA aa S_69 L) H := hP
                    have hD : va_D A (wM cA aa S_69 L) := hD
                    refine lv_if_eq (tgt := 186) hx hb dX8_lineRead_179 (by decide) (fun c72 => ?_) (fun c72 => ?_)
                    · have h := tx_pos c72 h
                      exact w_X8_lineRead_J186 F S_69 H locs ls h hP hD hS (lv_sub hl [0] rfl)
                    · have h := tx_neg c72 h
                      refine lv_iconst (v := 1) hx hb dX8_lineRead_182 (by decide) ?_
                      refine lv_goto (tgt := 187) hx hb dX8_lineRead_183 (by decide) ?_
                      exact w_X8_lineRead_J187 F 1 S_69 H locs ls h hP hD hS (lv_sub hl [0] rfl)
                · have h := tx_neg c60 h
                  by_cases c73 : y8 = 6
                  · have h := tx_pos c73 h
                    refine lv_tableIn (off := 178) (tgt := 213) hx hb dX8_lineRead_27 (by rw [c73]; decide) (by rw [c73]; decide) (by rw [c73]; decide) (by decide) ?_
                    refine lv_aload_n hx hb dX8_lineRead_205 rfl (lv_at hl 0 rfl) ?_
                    refine lv_iconst (v := 2) hx hb dX8_lineRead_206 (by decide) ?_
                    obtain ⟨⟨r74, S_75⟩, hc76, h⟩ := tx_bd h
                    replace h := tx_let (y := r74) rfl h
                    replace h := tx_let (y := S_75) rfl h
                    refine tw_ci tw_all hP hD hS hA (va_runV (As := [.int 2]) (rest := []) ⟨hx, hb, hml, hown, hT⟩ (c_X8_isOnce l G cA H.size aa S L (2 : Int32)  r74 S_75 hc76) (cwV 1 hT (tq_gV kw_25_5 kw_25_6 kw_25_7 kw_1_5 kw_25_8) rfl rfl rfl (by decide +kernel) ⟨Nat.le_of_ble_eq_true rfl, Nat.le_of_ble_eq_true rfl⟩) ⟨(tw_pre tw_all hP hD hK hN).1, va_recv hK hP (ci := 8) (q0 := 0) rfl rfl, (tw_pre tw_all hP hD hK hN).2⟩ rfl rfl hl.1 rfl (lv_room (Nat.le_of_ble_eq_true rfl)) dX8_lineRead_207 ⟨Nat.le_of_ble_eq_true rfl, Nat.le_of_ble_eq_true rfl⟩) (fun _ _ H locs z77 hP hD hS => ?_)
                    subst z77
                    rw [List.append_nil] at hP hD
                    have hP : va_P G vwCl (wM cA aa S_75 L) H := hP
                    have hD : va_D A (wM cA aa S_75 L) := hD
                    refine lv_if_eq (tgt := 227) hx hb dX8_lineRead_210 (by decide) (fun c78 => ?_) (fun c78 => ?_)
                    · have h := tx_pos c78 h
                      exact w_X8_lineRead_J227 F S_75 H locs ls h hP hD hS (lv_sub hl [0] rfl)
                    · have h := tx_neg c78 h
                      refine lv_aload_n hx hb dX8_lineRead_213 rfl (lv_at hl 0 rfl) ?_
                      refine lv_iconst (v := 0) hx hb dX8_lineRead_214 (by decide) ?_
                      refine lv_ldc (v := 99999) hx hb hown (hT _ kw_22_21) dX8_lineRead_215 ?_
                      obtain ⟨⟨r81, S_82⟩, hc83, h⟩ := tx_bd h
                      replace h := tx_let (y := r81) rfl h
                      replace h := tx_let (y := S_82) rfl h
                      refine tw_ci tw_all hP hD hS hA (va_runV (As := [.int 0, .int 99999]) (rest := []) ⟨hx, hb, hml, hown, hT⟩ (c_X8_number l G cA H.size aa S_75 L (0 : Int32) (99999 : Int32)  r81 S_82 hc83) (cwV 2 hT (tq_gV kw_24_7 kw_24_8 kw_24_9 kw_1_5 kw_24_10) rfl rfl rfl (by decide +kernel) ⟨Nat.le_of_ble_eq_true rfl, Nat.le_of_ble_eq_true rfl⟩) ⟨(tw_pre tw_all hP hD hK hN).1, va_recv hK hP (ci := 8) (q0 := 0) rfl rfl, (tw_pre tw_all hP hD hK hN).2⟩ rfl rfl hl.1 rfl (lv_room (Nat.le_of_ble_eq_true rfl)) dX8_lineRead_217 ⟨Nat.le_of_ble_eq_true rfl, Nat.le_of_ble_eq_true rfl⟩) (fun _ _ H locs z84 hP hD hS => ?_)
                      subst z84
                      rw [List.append_nil] at hP hD
                      have hP : va_P G vwCl (wM cA aa S_82 L) H := hP
                      have hD : va_D A (wM cA aa S_82 L) := hD
                      refine lv_if_eq (tgt := 227) hx hb dX8_lineRead_220 (by decide) (fun c85 => ?_) (fun c85 => ?_)
                      · have h := tx_pos c85 h
                        exact w_X8_lineRead_J227 F S_82 H locs ls h hP hD hS (lv_sub hl [0] rfl)
                      · have h := tx_neg c85 h
                        refine lv_iconst (v := 1) hx hb dX8_lineRead_223 (by decide) ?_
                        refine lv_goto (tgt := 228) hx hb dX8_lineRead_224 (by decide) ?_
                        exact w_X8_lineRead_J228 F 1 S_82 H locs ls h hP hD hS (lv_sub hl [0] rfl)
                  · have h := tx_neg c73 h
                    have kc9 := tq_eqn (a := y8.toInt) (b := 0) rfl (by decide) c9
                    have kc27 := tq_eqn (a := y8.toInt) (b := 1) rfl (by decide) c27
                    have kc32 := tq_eqn (a := y8.toInt) (b := 2) rfl (by decide) c32
                    have kc37 := tq_eqn (a := y8.toInt) (b := 3) rfl (by decide) c37
                    have kc42 := tq_eqn (a := y8.toInt) (b := 4) rfl (by decide) c42
                    have kc60 := tq_eqn (a := y8.toInt) (b := 5) rfl (by decide) c60
                    have kc73 := tq_eqn (a := y8.toInt) (b := 6) rfl (by decide) c73
                    refine lv_tableOut (tgt := 246) hx hb dX8_lineRead_27 (by omega) (by decide) ?_
                    refine lv_aload_n hx hb dX8_lineRead_246 rfl (lv_at hl 0 rfl) ?_
                    obtain ⟨S_86, hc87, h⟩ := tx_bd h
                    refine tw_cv tw_all hP hD hS hA (va_runV (As := []) (rest := []) ⟨hx, hb, hml, hown, hT⟩ (c_X8_token l G cA H.size aa S L  S_86 hc87) (cwV 0 hT (tq_gV kw_22_15 kw_22_16 kw_22_17 kw_1_5 kw_22_18) rfl rfl rfl (by decide +kernel) ⟨Nat.le_of_ble_eq_true rfl, Nat.le_of_ble_eq_true rfl⟩) ⟨(tw_pre tw_all hP hD hK hN).1, va_recv hK hP (ci := 8) (q0 := 0) rfl rfl, (tw_pre tw_all hP hD hK hN).2⟩ rfl rfl hl.1 rfl (lv_room (Nat.le_of_ble_eq_true rfl)) dX8_lineRead_247 ⟨Nat.le_of_ble_eq_true rfl, Nat.le_of_ble_eq_true rfl⟩) (fun _ H locs z88 hP hD hS => ?_)
                    rw [List.append_nil] at hP hD
                    have hP : va_P G vwCl (wM cA aa S_86 L) H := hP
                    have hD : va_D A (wM cA aa S_86 L) := hD
                    refine lv_aload_n hx hb dX8_lineRead_250 rfl (lv_at hl 0 rfl) ?_
                    refine va_get (D := G) (ci := 8) (v := .int (S_86 0 8)) (C := RX8) (T := TX8) (N := 91) hx hb hT ku_8 hown hK hP 0 rfl rfl 8 (by decide) (hT _ kw_22_14) (fun _ h9 => h9) rfl dX8_lineRead_251 ?_
                    refine lv_iconst (v := 1) hx hb dX8_lineRead_254 (by decide) ?_
                    refine lv_icmp_ne (tgt := 276) hx hb dX8_lineRead_255 (by decide) (fun c89 => ?_) (fun c89 => ?_)
                    · have h := tx_neg c89 h
                      exact w_X8_lineRead_J276 F S_86 H locs ls h hP hD hS (lv_sub hl [0] rfl)
                    · have h := tx_pos c89 h
                      refine lv_aload_n hx hb dX8_lineRead_258 rfl (lv_at hl 0 rfl) ?_
                      refine va_get (D := G) (ci := 8) (v := .int (S_86 0 9)) (C := RX8) (T := TX8) (N := 91) hx hb hT ku_8 hown hK hP 0 rfl rfl 9 (by decide) (hT _ kw_22_20) (fun _ h9 => h9) rfl dX8_lineRead_259 ?_
                      refine lv_bipush (v := 16) hx hb dX8_lineRead_262 (by decide) ?_
                      refine lv_icmp_lt (tgt := 276) hx hb dX8_lineRead_264 (by decide) (fun c95 => ?_) (fun c95 => ?_)
                      · have h := tx_pos c95 h
                        exact w_X8_lineRead_J276 F S_86 H locs ls h hP hD hS (lv_sub hl [0] rfl)
                      · have h := tx_neg c95 h
                        refine lv_aload_n hx hb dX8_lineRead_267 rfl (lv_at hl 0 rfl) ?_
                        refine va_get (D := G) (ci := 8) (v := .int (S_86 0 9)) (C := RX8) (T := TX8) (N := 91) hx hb hT ku_8 hown hK hP 0 rfl rfl 9 (by decide) (hT _ kw_22_20) (fun _ h9 => h9) rfl dX8_lineRead_268 ?_
                        refine lv_bipush (v := 18) hx hb dX8_lineRead_271 (by decide) ?_
                        refine lv_icmp_le (tgt := 282) hx hb dX8_lineRead_273 (by decide) (fun c96 => ?_) (fun c96 => ?_)
                        · have h := tx_pos c96 h
                          refine lv_iconst (v := 3) hx hb dX8_lineRead_282 (by decide) ?_
                          refine lv_aload_n hx hb dX8_lineRead_283 rfl (lv_at hl 0 rfl) ?_
                          refine va_get (D := G) (ci := 8) (v := .int (S_86 0 9)) (C := RX8) (T := TX8) (N := 91) hx hb hT ku_8 hown hK hP 0 rfl rfl 9 (by decide) (hT _ kw_22_20) (fun _ h9 => h9) rfl dX8_lineRead_284 ?_
                          refine lv_iadd hx hb dX8_lineRead_287 ?_
                          refine lv_bipush (v := 16) hx hb dX8_lineRead_288 (by decide) ?_
                          refine lv_isub hx hb dX8_lineRead_290 ?_
                          refine lv_topi (fun y97 ey97 => ?_)
                          have h := tx_let ey97 h
                          refine lv_istore_n (lv' := [(2, .int y97), (0, .ref (aa 0))]) hx hb dX8_lineRead_291 rfl hl (by decide) rfl (fun ls hl => ?_)
                          refine lv_aload_n hx hb dX8_lineRead_292 rfl (lv_at hl 1 rfl) ?_
                          refine va_get (D := G) (ci := 8) (v := .ref (aa 36)) (C := RX8) (T := TX8) (N := 91) hx hb hT ku_8 hown hK hP 0 rfl rfl 35 (by decide) (hT _ kw_10_3) (fun _ h9 => h9) rfl dX8_lineRead_293 ?_
                          refine lv_iload_n hx hb dX8_lineRead_296 rfl (lv_at hl 0 rfl) ?_
                          obtain ⟨g98, h⟩ := tx_ck h
                          refine va_zald (i := y97) hx hb hK hP 17 1 rfl rfl (tx_in g98) dX8_lineRead_297 ?_
                          refine lv_if_eq (tgt := 307) hx hb dX8_lineRead_298 (by decide) (fun c99 => ?_) (fun c99 => ?_)
                          · have h := tx_pos c99 h
                            refine lv_aload_n hx hb dX8_lineRead_307 rfl (lv_at hl 1 rfl) ?_
                            refine va_get (D := G) (ci := 8) (v := .ref (aa 36)) (C := RX8) (T := TX8) (N := 91) hx hb hT ku_8 hown hK hP 0 rfl rfl 35 (by decide) (hT _ kw_10_3) (fun _ h9 => h9) rfl dX8_lineRead_308 ?_
                            refine lv_iload_n hx hb dX8_lineRead_311 rfl (lv_at hl 0 rfl) ?_
                            refine lv_iconst (v := 1) hx hb dX8_lineRead_312 (by decide) ?_
                            refine va_zast (i := y97) hx hb hK hP hD hS 17 1 rfl rfl (tx_in g98) dX8_lineRead_313 (fun H locs hP hD hS => ?_)
                            obtain ⟨S_100, eS_100, h⟩ := tx_lt h
                            rw [sM_a35, eS_100] at hP hD
                            refine lv_aload_n hx hb dX8_lineRead_314 rfl (lv_at hl 1 rfl) ?_
                            obtain ⟨S_101, hc102, h⟩ := tx_bd h
                            refine tw_cv tw_all hP hD hS hA (va_runV (As := []) (rest := []) ⟨hx, hb, hml, hown, hT⟩ (c_X8_token l G cA H.size aa S_100 L  S_101 hc102) (cwV 0 hT (tq_gV kw_22_15 kw_22_16 kw_22_17 kw_1_5 kw_22_18) rfl rfl rfl (by decide +kernel) ⟨Nat.le_of_ble_eq_true rfl, Nat.le_of_ble_eq_true rfl⟩) ⟨(tw_pre tw_all hP hD hK hN).1, va_recv hK hP (ci := 8) (q0 := 0) rfl rfl, (tw_pre tw_all hP hD hK hN).2⟩ rfl rfl hl.1 rfl (lv_room (Nat.le_of_ble_eq_true rfl)) dX8_lineRead_315 ⟨Nat.le_of_ble_eq_true rfl, Nat.le_of_ble_eq_true rfl⟩) (fun _ H locs z103 hP hD hS => ?_)
                            rw [List.append_nil] at hP hD
                            have hP : va_P G vwCl (wM cA aa S_101 L) H := hP
                            have hD : va_D A (wM cA aa S_101 L) := hD
                            refine lv_aload_n hx hb dX8_lineRead_318 rfl (lv_at hl 1 rfl) ?_
                            refine va_get (D := G) (ci := 8) (v := .ref (aa 37)) (C := RX8) (T := TX8) (N := 91) hx hb hT ku_8 hown hK hP 0 rfl rfl 36 (by decide) (hT _ kw_10_4) (fun _ h9 => h9) rfl dX8_lineRead_319 ?_
                            refine lv_iload_n hx hb dX8_lineRead_322 rfl (lv_at hl 0 rfl) ?_
                            refine lv_aload_n hx hb dX8_lineRead_323 rfl (lv_at hl 1 rfl) ?_
                            refine va_get (D := G) (ci := 8) (v := .int (S_101 0 19)) (C := RX8) (T := TX8) (N := 91) hx hb hT ku_8 hown hK hP 0 rfl rfl 19 (by decide) (hT _ kw_11_20) (fun _ h9 => h9) rfl dX8_lineRead_324 ?_
                            refine va_iast (i := y97) hx hb hK hP hD hS 18 0 rfl rfl (tx_in g98) dX8_lineRead_327 (fun H locs hP hD hS => ?_)
                            obtain ⟨S_104, eS_104, h⟩ := tx_lt h
                            rw [sM_a36, eS_104] at hP hD
                            refine lv_aload_n hx hb dX8_lineRead_328 rfl (lv_at hl 1 rfl) ?_
                            obtain ⟨⟨r105, S_106⟩, hc107, h⟩ := tx_bd h
                            replace h := tx_let (y := r105) rfl h
                            replace h := tx_let (y := S_106) rfl h
                            refine tw_ci tw_all hP hD hS hA (va_runV (As := []) (rest := []) ⟨hx, hb, hml, hown, hT⟩ (c_X8_sumRead l G cA H.size aa S_104 L  r105 S_106 hc107) (cwV 0 hT (tq_gV kw_25_9 kw_25_10 kw_25_11 kw_1_5 kw_25_12) rfl rfl rfl (by decide +kernel) ⟨Nat.le_of_ble_eq_true rfl, Nat.le_of_ble_eq_true rfl⟩) ⟨(tw_pre tw_all hP hD hK hN).1, va_recv hK hP (ci := 8) (q0 := 0) rfl rfl, (tw_pre tw_all hP hD hK hN).2⟩ rfl rfl hl.1 rfl (lv_room (Nat.le_of_ble_eq_true rfl)) dX8_lineRead_329 ⟨Nat.le_of_ble_eq_true rfl, Nat.le_of_ble_eq_true rfl⟩) (fun _ _ H locs z108 hP hD hS => ?_)
                            subst z108
                            rw [List.append_nil] at hP hD
                            have hP : va_P G vwCl (wM cA aa S_106 L) H := hP
                            have hD : va_D A (wM cA aa S_106 L) := hD
                            refine lv_istore_n (lv' := [(1, .int r105), (2, .int y97), (0, .ref (aa 0))]) hx hb dX8_lineRead_332 rfl hl (by decide) rfl (fun ls hl => ?_)
                            refine lv_aload_n hx hb dX8_lineRead_333 rfl (lv_at hl 2 rfl) ?_
                            refine va_get (D := G) (ci := 8) (v := .ref (aa 38)) (C := RX8) (T := TX8) (N := 91) hx hb hT ku_8 hown hK hP 0 rfl rfl 37 (by decide) (hT _ kw_10_5) (fun _ h9 => h9) rfl dX8_lineRead_334 ?_
                            refine lv_iload_n hx hb dX8_lineRead_337 rfl (lv_at hl 1 rfl) ?_
                            refine lv_aload_n hx hb dX8_lineRead_338 rfl (lv_at hl 2 rfl) ?_
                            refine va_get (D := G) (ci := 8) (v := .int (S_106 0 19)) (C := RX8) (T := TX8) (N := 91) hx hb hT ku_8 hown hK hP 0 rfl rfl 19 (by decide) (hT _ kw_11_20) (fun _ h9 => h9) rfl dX8_lineRead_339 ?_
                            refine va_iast (i := y97) hx hb hK hP hD hS 19 0 rfl rfl (tx_in g98) dX8_lineRead_342 (fun H locs hP hD hS => ?_)
                            obtain ⟨S_109, eS_109, h⟩ := tx_lt h
                            rw [sM_a37, eS_109] at hP hD
                            exact w_X8_lineRead_J343 F r105 S_109 H locs ls h hP hD hS (lv_sub hl [2, 0] rfl)
                          · have h := tx_neg c99 h
                            refine lv_aload_n hx hb dX8_lineRead_301 rfl (lv_at hl 1 rfl) ?_
                            refine lv_iconst (v := 3) hx hb dX8_lineRead_302 (by decide) ?_
                            obtain ⟨⟨r110, S_111⟩, hc112, h⟩ := tx_bd h
                            replace h := tx_let (y := r110) rfl h
                            replace h := tx_let (y := S_111) rfl h
                            refine tw_ci tw_all hP hD hS hA (va_runV (As := [.int 3]) (rest := []) ⟨hx, hb, hml, hown, hT⟩ (c_X8_wrong l G cA H.size aa S_86 L (3 : Int32)  r110 S_111 hc112) (cwV 1 hT (tq_gV kw_23_23 kw_24_0 kw_24_1 kw_1_5 kw_24_2) rfl rfl rfl (by decide +kernel) ⟨Nat.le_of_ble_eq_true rfl, Nat.le_of_ble_eq_true rfl⟩) ⟨(tw_pre tw_all hP hD hK hN).1, va_recv hK hP (ci := 8) (q0 := 0) rfl rfl, (tw_pre tw_all hP hD hK hN).2⟩ rfl rfl hl.1 rfl (lv_room (Nat.le_of_ble_eq_true rfl)) dX8_lineRead_303 ⟨Nat.le_of_ble_eq_true rfl, Nat.le_of_ble_eq_true rfl⟩) (fun _ _ H locs z113 hP hD hS => ?_)
                            subst z113
                            rw [List.append_nil] at hP hD
                            have hP : va_P G vwCl (wM cA aa S_111 L) H := hP
                            have hD : va_D A (wM cA aa S_111 L) := hD
                            obtain ⟨g114, h⟩ := tx_ck h
                            obtain ⟨rfl, rfl⟩ := tx_2 h
                            exact W.zret (ty := .boolean) hx hb hr (tx_z g114) (fun t ht hW => ⟨⟨_, (), rfl, rfl, by rw [ht]; exact hP, hD⟩, hS.F ht⟩) hS.2.2 dX8_lineRead_306
                        · have h := tx_neg c96 h
                          exact w_X8_lineRead_J276 F S_86 H locs ls h hP hD hS (lv_sub hl [0] rfl)
    · have h := tx_neg c7 h
      exact w_X8_lineRead_J17 F S H locs ls h hP hD hS (lv_sub hl [0] rfl)
abbrev G_X8_mine (p : Program) (l : Launch) (e : Env) (s : State) (m : MethodId) (below : List Frame) (meth : Method) (c : Code) (G : va_G) (cA : Nat → ClassId) (A : Nat → Prop) (aa : Nat → Nat) (x1 : Int32) (x2 : Int32) (r0 : Int32) (S' : Tr) (L' : Lo) (H : Heap) (locs : List Loc) (g : JFrame) : Prop := W p l e (headSpec (.code yX8_mine cX8_mine 7 (some .int) :: T0) ({ frames := 9, cells := 0, slots := 0, locals := 211 } : Room)).room s m ([.ref (aa 0), .int x1, .int x2] : List Value).toArray below meth c H locs 0 0 (MQ below (tqQi G cA (fun (r : Int32) (_ : Unit) => r = r0) (fun (_ : Unit) => wM cA aa S' L') A) ([.ref (aa 0), .int x1, .int x2] : List Value).toArray s 0 0 A) g
set_option maxHeartbeats 4000000 in
set_option maxRecDepth 100000 in
theorem w_X8_mine_J166 {p : Program} {l : Launch} {e : Env} {s : State} {m : MethodId} {below : List Frame} {meth : Method} {c : Code} {G : va_G} {cA : Nat → ClassId} {A : Nat → Prop} {aa : Nat → Nat} {x1₀ : Int32} {x2₀ : Int32} {r0 : Int32} {S' : Tr} {L' : Lo} (F : tF p s m ([.ref (aa 0), .int x1₀, .int x2₀] : List Value).toArray meth c G cA A RX8 cX8_mine 7 (some .int))    (x2 : Int32) (x3 : Int32) (x4 : Int32) (S : Tr) (L : Lo) (H : Heap) (locs : List Loc) (ls : Array Slot) (h : fJ_X8_mine_J166 x2 x3 x4 S L = some (r0, S', L')) (hP : va_P G vwCl (wM cA aa S L) H) (hD : va_D A (wM cA aa S L)) (hS : va_S A s.heap H locs) (hl : lv_has ls 7 [(2, .int x2), (3, .int x3), (4, .int x4)]) : G_X8_mine p l e s m below meth c G cA A aa x1₀ x2₀ r0 S' L' H locs (F0 m 166 ls []) := by
  obtain ⟨hx, hb, hr, hml, hT, hown, hlocks, hK, hN, hA⟩ := id F
  unfold fJ_X8_mine_J166 at h
  refine lv_iload_n hx hb dX8_mine_166 rfl (lv_at hl 0 rfl) ?_
  refine lv_iconst (v := 2) hx hb dX8_mine_167 (by decide) ?_
  refine lv_irem hx hb dX8_mine_168 (by decide) ?_
  refine lv_if_ne (tgt := 176) hx hb dX8_mine_169 (by decide) (fun c16 => ?_) (fun c16 => ?_)
  · have h := tx_neg c16 h
    refine lv_iload hx hb dX8_mine_176 (lv_at hl 2 rfl) ?_
    obtain ⟨rfl, rfl, rfl⟩ := tx_3 h
    exact W.iret hx hb hr (fun t ht hW => ⟨⟨_, (), rfl, rfl, by rw [ht]; exact hP, hD⟩, hS.F ht⟩) hS.2.2 dX8_mine_178
  · have h := tx_pos c16 h
    refine lv_iload_n hx hb dX8_mine_172 rfl (lv_at hl 1 rfl) ?_
    refine lv_goto (tgt := 178) hx hb dX8_mine_173 (by decide) ?_
    obtain ⟨rfl, rfl, rfl⟩ := tx_3 h
    exact W.iret hx hb hr (fun t ht hW => ⟨⟨_, (), rfl, rfl, by rw [ht]; exact hP, hD⟩, hS.F ht⟩) hS.2.2 dX8_mine_178
set_option maxHeartbeats 4000000 in
set_option maxRecDepth 100000 in
theorem w_X8_mine_J153 {p : Program} {l : Launch} {e : Env} {s : State} {m : MethodId} {below : List Frame} {meth : Method} {c : Code} {G : va_G} {cA : Nat → ClassId} {A : Nat → Prop} {aa : Nat → Nat} {x1₀ : Int32} {x2₀ : Int32} {r0 : Int32} {S' : Tr} {L' : Lo} {x1 : Int32} {x2 : Int32} (F : tF p s m ([.ref (aa 0), .int x1₀, .int x2₀] : List Value).toArray meth c G cA A RX8 cX8_mine 7 (some .int))  (k53 : Int32 → Int32 → Int32 → Tr → Lo → Option (Int32 × Tr × Lo)) (hk53 : ∀ (x3 : Int32) (x4 : Int32) (x5 : Int32) (S : Tr) (L : Lo) (H : Heap) (locs : List Loc) (ls : Array Slot), k53 x3 x4 x5 S L = some (r0, S', L') → va_P G vwCl (wM cA aa S L) H → va_D A (wM cA aa S L) → va_S A s.heap H locs → lv_has ls 7 [(0, .ref (aa 0)), (1, .int x1), (2, .int x2), (3, .int x3), (4, .int x4), (5, .int x5)] → G_X8_mine p l e s m below meth c G cA A aa x1₀ x2₀ r0 S' L' H locs (F0 m 53 ls [])) (x5 : Int32) (x6 : Int32) (S : Tr) (L : Lo) (H : Heap) (locs : List Loc) (ls : Array Slot) (h : fJ_X8_mine_J153 k53 x1 x2 x5 x6 S L = some (r0, S', L')) (hP : va_P G vwCl (wM cA aa S L) H) (hD : va_D A (wM cA aa S L)) (hS : va_S A s.heap H locs) (hl : lv_has ls 7 [(5, .int y37), (4, .int x6), (3, .int x5), (0, .ref (aa 0)), (1, .int x1), (2, .int x2), (6, .int x6)]) : G_X8_mine p l e s m below meth c G cA A aa x1₀ x2₀ r0 S' L' H locs (F0 m 153 ls []) := by
  obtain ⟨hx, hb, hr, hml, hT, hown, hlocks, hK, hN, hA⟩ := id F
  unfold fJ_X8_mine_J153 at h
  refine lv_iload hx hb dX8_mine_153 (lv_at hl 3 rfl) ?_
  refine lv_istore_n (lv' := [(3, .int x5), (0, .ref (aa 0)), (1, .int x1), (2, .int x2), (5, .int x5), (6, .int x6)]) hx hb dX8_mine_155 rfl hl (by decide) rfl (fun ls hl => ?_)
  refine lv_iload hx hb dX8_mine_156 (lv_at hl 5 rfl) ?_
  refine lv_istore (lv' := [(4, .int x6), (3, .int x5), (0, .ref (aa 0)), (1, .int x1), (2, .int x2), (5, .int x5), (6, .int x6)]) hx hb dX8_mine_158 hl (by decide) rfl (fun ls hl => ?_)
  obtain ⟨y37, ey37, h⟩ := tx_lt h
  refine lv_iinc (v := y37) (lv' := [(5, .int y37), (4, .int x6), (3, .int x5), (0, .ref (aa 0)), (1, .int x1), (2, .int x2), (6, .int x6)]) hx hb dX8_mine_160 hl (k := 5) rfl ey37 (by decide) rfl (fun ls hl => ?_)
  refine lv_goto (tgt := 53) hx hb dX8_mine_163 (by decide) ?_
  exact hk53 x5 x6 y37 S L H locs ls h hP hD hS (lv_sub hl [3, 4, 5, 2, 1, 0] rfl)
set_option maxHeartbeats 4000000 in
set_option maxRecDepth 100000 in
theorem w_X8_mine_J137 {p : Program} {l : Launch} {e : Env} {s : State} {m : MethodId} {below : List Frame} {meth : Method} {c : Code} {G : va_G} {cA : Nat → ClassId} {A : Nat → Prop} {aa : Nat → Nat} {x1₀ : Int32} {x2₀ : Int32} {r0 : Int32} {S' : Tr} {L' : Lo} {x1 : Int32} {x2 : Int32} (F : tF p s m ([.ref (aa 0), .int x1₀, .int x2₀] : List Value).toArray meth c G cA A RX8 cX8_mine 7 (some .int))  (k53 : Int32 → Int32 → Int32 → Tr → Lo → Option (Int32 × Tr × Lo)) (hk53 : ∀ (x3 : Int32) (x4 : Int32) (x5 : Int32) (S : Tr) (L : Lo) (H : Heap) (locs : List Loc) (ls : Array Slot), k53 x3 x4 x5 S L = some (r0, S', L') → va_P G vwCl (wM cA aa S L) H → va_D A (wM cA aa S L) → va_S A s.heap H locs → lv_has ls 7 [(0, .ref (aa 0)), (1, .int x1), (2, .int x2), (3, .int x3), (4, .int x4), (5, .int x5)] → G_X8_mine p l e s m below meth c G cA A aa x1₀ x2₀ r0 S' L' H locs (F0 m 53 ls [])) (x3 : Int32) (x4 : Int32) (x5 : Int32) (s0 : Int32) (S : Tr) (L : Lo) (H : Heap) (locs : List Loc) (ls : Array Slot) (h : fJ_X8_mine_J137 k53 x1 x2 x3 x4 x5 s0 S L = some (r0, S', L')) (hP : va_P G vwCl (wM cA aa S L) H) (hD : va_D A (wM cA aa S L)) (hS : va_S A s.heap H locs) (hl : lv_has ls 7 [(6, .int s0), (0, .ref (aa 0)), (1, .int x1), (2, .int x2), (3, .int x3), (4, .int x4), (5, .int x5)]) : G_X8_mine p l e s m below meth c G cA A aa x1₀ x2₀ r0 S' L' H locs (F0 m 137 ls []) := by
  obtain ⟨hx, hb, hr, hml, hT, hown, hlocks, hK, hN, hA⟩ := id F
  unfold fJ_X8_mine_J137 at h
  refine lv_istore (lv' := [(6, .int s0), (0, .ref (aa 0)), (1, .int x1), (2, .int x2), (3, .int x3), (4, .int x4), (5, .int x5)]) hx hb dX8_mine_137 hl (by decide) rfl (fun ls hl => ?_)
  refine lv_iload_n hx hb dX8_mine_139 rfl (lv_at hl 4 rfl) ?_
  refine lv_if_lt (tgt := 153) hx hb dX8_mine_140 (by decide) (fun c36 => ?_) (fun c36 => ?_)
  · have h := tx_pos c36 h
    exact w_X8_mine_J153 F k53 hk53 x5 s0 S L H locs ls h hP hD hS (lv_sub hl [1, 2, 3, 6, 0] rfl)
  · have h := tx_neg c36 h
    refine lv_iload hx hb dX8_mine_143 (lv_at hl 0 rfl) ?_
    refine lv_iload hx hb dX8_mine_145 (lv_at hl 5 rfl) ?_
    refine lv_icmp_lt (tgt := 153) hx hb dX8_mine_147 (by decide) (fun c38 => ?_) (fun c38 => ?_)
    · have h := tx_pos c38 h
      exact w_X8_mine_J153 F k53 hk53 x5 s0 S L H locs ls h hP hD hS (lv_sub hl [1, 2, 3, 6, 0] rfl)
    · have h := tx_neg c38 h
      refine lv_goto (tgt := 160) hx hb dX8_mine_150 (by decide) ?_
      obtain ⟨y39, ey39, h⟩ := tx_lt h
      refine lv_iinc (v := y39) (lv' := [(5, .int y39), (6, .int s0), (0, .ref (aa 0)), (1, .int x1), (2, .int x2), (3, .int x3), (4, .int x4)]) hx hb dX8_mine_160 hl (k := 6) rfl ey39 (by decide) rfl (fun ls hl => ?_)
      refine lv_goto (tgt := 53) hx hb dX8_mine_163 (by decide) ?_
      exact hk53 x3 x4 y39 S L H locs ls h hP hD hS (lv_sub hl [2, 3, 4, 5, 6, 0] rfl)
set_option maxHeartbeats 4000000 in
set_option maxRecDepth 100000 in
theorem w_X8_mine_L53 {p : Program} {l : Launch} {e : Env} {s : State} {m : MethodId} {below : List Frame} {meth : Method} {c : Code} {G : va_G} {cA : Nat → ClassId} {A : Nat → Prop} {aa : Nat → Nat} {x1₀ : Int32} {x2₀ : Int32} {r0 : Int32} {S' : Tr} {L' : Lo} {x1 : Int32} {x2 : Int32} (F : tF p s m ([.ref (aa 0), .int x1₀, .int x2₀] : List Value).toArray meth c G cA A RX8 cX8_mine 7 (some .int))    (N : Nat) : ∀ (x3 : Int32) (x4 : Int32) (x5 : Int32) (S : Tr) (L : Lo) (H : Heap) (locs : List Loc) (ls : Array Slot), lpF (fun _ _ _ _ _ => none) (fB_X8_mine_L53 x1 x2) N x3 x4 x5 S L = some (r0, S', L') → va_P G vwCl (wM cA aa S L) H → va_D A (wM cA aa S L) → va_S A s.heap H locs → lv_has ls 7 [(0, .ref (aa 0)), (1, .int x1), (2, .int x2), (3, .int x3), (4, .int x4), (5, .int x5)] → G_X8_mine p l e s m below meth c G cA A aa x1₀ x2₀ r0 S' L' H locs (F0 m 53 ls []) := by
  obtain ⟨hx, hb, hr, hml, hT, hown, hlocks, hK, hN, hA⟩ := id F
  induction N with
  | zero =>
    intro x3 x4 x5 S L H locs ls h
    have h : (none : Option (Int32 × Tr × Lo)) = some (r0, S', L') := h
    cases h
  | succ N hk53 =>
    intro x3 x4 x5 S L H locs ls h hP hD hS hl
    have h : fB_X8_mine_L53 x1 x2 (lpF (fun _ _ _ _ _ => none) (fB_X8_mine_L53 x1 x2) N) x3 x4 x5 S L = some (r0, S', L') := h
    generalize hk53e : lpF (fun _ _ _ _ _ => none) (fB_X8_mine_L53 x1 x2) N = k53 at h hk53
    unfold fB_X8_mine_L53 at h
    refine lv_iload hx hb dX8_mine_53 (lv_at hl 5 rfl) ?_
    refine lv_aload_n hx hb dX8_mine_55 rfl (lv_at hl 0 rfl) ?_
    refine va_get (D := G) (ci := 8) (v := .int (S 0 12)) (C := RX8) (T := TX8) (N := 91) hx hb hT ku_8 hown hK hP 0 rfl rfl 12 (by decide) (hT _ kw_12_3) (fun _ h9 => h9) rfl dX8_mine_56 ?_
    refine lv_icmp_ge (tgt := 166) hx hb dX8_mine_59 (by decide) (fun c15 => ?_) (fun c15 => ?_)
    · have h := tx_pos c15 h
      exact w_X8_mine_J166 F x2 x3 x4 S L H locs ls h hP hD hS (lv_sub hl [2, 3, 4] rfl)
    · have h := tx_neg c15 h
      refine lv_aload_n hx hb dX8_mine_62 rfl (lv_at hl 0 rfl) ?_
      obtain ⟨S_17, hc18, h⟩ := tx_bd h
      refine tw_cv tw_all hP hD hS hA (va_runV (As := []) (rest := []) ⟨hx, hb, hml, hown, hT⟩ (c_X8_layTried l G cA H.size aa S L  S_17 hc18) (cwV 0 hT (tq_gV kw_39_5 kw_39_6 kw_39_7 kw_1_5 kw_39_8) rfl rfl rfl (by decide +kernel) ⟨Nat.le_of_ble_eq_true rfl, Nat.le_of_ble_eq_true rfl⟩) ⟨(tw_pre tw_all hP hD hK hN).1, va_recv hK hP (ci := 8) (q0 := 0) rfl rfl, (tw_pre tw_all hP hD hK hN).2⟩ rfl rfl hl.1 rfl (lv_room (Nat.le_of_ble_eq_true rfl)) dX8_mine_63 ⟨Nat.le_of_ble_eq_true rfl, Nat.le_of_ble_eq_true rfl⟩) (fun _ H locs z19 hP hD hS => ?_)
      rw [List.append_nil] at hP hD
      have hP : va_P G vwCl (wM cA aa S_17 L) H := hP
      have hD : va_D A (wM cA aa S_17 L) := hD
      refine lv_aload_n hx hb dX8_mine_66 rfl (lv_at hl 0 rfl) ?_
      refine va_get (D := G) (ci := 8) (v := .ref (aa 72)) (C := RX8) (T := TX8) (N := 91) hx hb hT ku_8 hown hK hP 0 rfl rfl 71 (by decide) (hT _ kw_11_0) (fun _ h9 => h9) rfl dX8_mine_67 ?_
      refine lv_iload_n hx hb dX8_mine_70 rfl (lv_at hl 1 rfl) ?_
      refine lv_iload hx hb dX8_mine_71 (lv_at hl 5 rfl) ?_
      obtain ⟨g20, h⟩ := tx_ck h
      refine va_iast (i := x1) hx hb hK hP hD hS 38 0 rfl rfl (tx_in g20) dX8_mine_73 (fun H locs hP hD hS => ?_)
      obtain ⟨S_21, eS_21, h⟩ := tx_lt h
      rw [sM_a71, eS_21] at hP hD
      refine lv_aload_n hx hb dX8_mine_74 rfl (lv_at hl 0 rfl) ?_
      refine lv_iconst (v := 1) hx hb dX8_mine_75 (by decide) ?_
      obtain ⟨⟨S_22, L_23⟩, hc24, h⟩ := tx_bd h
      replace h := tx_let (y := S_22) rfl h
      replace h := tx_let (y := L_23) rfl h
      refine tw_cv tw_all hP hD hS hA (va_runV (As := [.int 1]) (rest := []) ⟨hx, hb, hml, hown, hT⟩ (c_X8_goOn l G cA H.size aa S_21 L (1 : Int32)  S_22 L_23 hc24) (cwV 1 hT (tq_gV kw_43_14 kw_43_15 kw_43_16 kw_1_5 kw_43_17) rfl rfl rfl (by decide +kernel) ⟨Nat.le_of_ble_eq_true rfl, Nat.le_of_ble_eq_true rfl⟩) ⟨(tw_pre tw_all hP hD hK hN).1, va_recv hK hP (ci := 8) (q0 := 0) rfl rfl, (tw_pre tw_all hP hD hK hN).2⟩ rfl rfl hl.1 rfl (lv_room (Nat.le_of_ble_eq_true rfl)) dX8_mine_76 ⟨Nat.le_of_ble_eq_true rfl, Nat.le_of_ble_eq_true rfl⟩) (fun _ H locs z25 hP hD hS => ?_)
      rw [List.append_nil] at hP hD
      have hP : va_P G vwCl (wM cA aa S_22 L_23) H := hP
      have hD : va_D A (wM cA aa S_22 L_23) := hD
      refine lv_aload_n hx hb dX8_mine_79 rfl (lv_at hl 0 rfl) ?_
      refine va_get (D := G) (ci := 8) (v := .ref (aa 53)) (C := RX8) (T := TX8) (N := 91) hx hb hT ku_8 hown hK hP 0 rfl rfl 52 (by decide) (hT _ kw_10_13) (fun _ h9 => h9) rfl dX8_mine_80 ?_
      refine lv_bipush (v := 10) hx hb dX8_mine_83 (by decide) ?_
      refine lv_iload_n hx hb dX8_mine_85 rfl (lv_at hl 1 rfl) ?_
      refine lv_iadd hx hb dX8_mine_86 ?_
      obtain ⟨g26, h⟩ := tx_ck h
      refine va_iald (i := ((10 : Int32) + x1)) hx hb hK hP 27 0 rfl rfl (tx_in g26) dX8_mine_87 ?_
      refine lv_iconst (v := 5) hx hb dX8_mine_88 (by decide) ?_
      refine lv_icmp_ne (tgt := 95) hx hb dX8_mine_89 (by decide) (fun c27 => ?_) (fun c27 => ?_)
      · have h := tx_neg c27 h
        refine lv_aload_n hx hb dX8_mine_95 rfl (lv_at hl 0 rfl) ?_
        obtain ⟨⟨S_28, L_29⟩, hc30, h⟩ := tx_bd h
        replace h := tx_let (y := S_28) rfl h
        replace h := tx_let (y := L_29) rfl h
        refine tw_cv tw_all hP hD hS hA (va_runV (As := []) (rest := []) ⟨hx, hb, hml, hown, hT⟩ (c_X8_toEnd l G cA H.size aa S_22 L_23  S_28 L_29 hc30) (cwV 0 hT (tq_gV kw_48_5 kw_48_6 kw_48_7 kw_1_5 kw_48_8) rfl rfl rfl (by decide +kernel) ⟨Nat.le_of_ble_eq_true rfl, Nat.le_of_ble_eq_true rfl⟩) ⟨(tw_pre tw_all hP hD hK hN).1, va_recv hK hP (ci := 8) (q0 := 0) rfl rfl, (tw_pre tw_all hP hD hK hN).2⟩ rfl rfl hl.1 rfl (lv_room (Nat.le_of_ble_eq_true rfl)) dX8_mine_96 ⟨Nat.le_of_ble_eq_true rfl, Nat.le_of_ble_eq_true rfl⟩) (fun _ H locs z31 hP hD hS => ?_)
        rw [List.append_nil] at hP hD
        have hP : va_P G vwCl (wM cA aa S_28 L_29) H := hP
        have hD : va_D A (wM cA aa S_28 L_29) := hD
        refine lv_iload_n hx hb dX8_mine_99 rfl (lv_at hl 2 rfl) ?_
        refine lv_iconst (v := 2) hx hb dX8_mine_100 (by decide) ?_
        refine lv_icmp_ge (tgt := 133) hx hb dX8_mine_101 (by decide) (fun c32 => ?_) (fun c32 => ?_)
        · have h := tx_pos c32 h
          refine lv_aload_n hx hb dX8_mine_133 rfl (lv_at hl 0 rfl) ?_
          obtain ⟨r33, hc34, h⟩ := tx_bd h
          refine tw_ci tw_all hP hD hS hA (va_runV (As := []) (rest := []) ⟨hx, hb, hml, hown, hT⟩ (c_X8_more l G cA H.size aa S_28 L_29  r33 hc34) (cwV 0 hT (tq_gV kw_48_9 kw_48_10 kw_48_11 kw_1_5 kw_48_12) rfl rfl rfl (by decide +kernel) ⟨Nat.le_of_ble_eq_true rfl, Nat.le_of_ble_eq_true rfl⟩) ⟨(tw_pre tw_all hP hD hK hN).1, va_recv hK hP (ci := 8) (q0 := 0) rfl rfl, (tw_pre tw_all hP hD hK hN).2⟩ rfl rfl hl.1 rfl (lv_room (Nat.le_of_ble_eq_true rfl)) dX8_mine_134 ⟨Nat.le_of_ble_eq_true rfl, Nat.le_of_ble_eq_true rfl⟩) (fun _ _ H locs z35 hP hD hS => ?_)
          subst z35
          rw [List.append_nil] at hP hD
          have hP : va_P G vwCl (wM cA aa S_28 L_29) H := hP
          have hD : va_D A (wM cA aa S_28 L_29) := hD
          exact w_X8_mine_J137 F k53 hk53 x3 x4 x5 r33 S_28 L_29 H locs ls h hP hD hS (lv_sub hl [0, 1, 2, 3, 4, 5] rfl)
        · have h := tx_neg c32 h
          refine lv_aload_n hx hb dX8_mine_104 rfl (lv_at hl 0 rfl) ?_
          refine va_get (D := G) (ci := 8) (v := .ref (aa 60)) (C := RX8) (T := TX8) (N := 91) hx hb hT ku_8 hown hK hP 0 rfl rfl 59 (by decide) (hT _ kw_10_20) (fun _ h9 => h9) rfl dX8_mine_105 ?_
          refine lv_bipush (v := 6) hx hb dX8_mine_108 (by decide) ?_
          refine lv_aload_n hx hb dX8_mine_110 rfl (lv_at hl 0 rfl) ?_
          refine va_get (D := G) (ci := 8) (v := .ref (aa 30)) (C := RX8) (T := TX8) (N := 91) hx hb hT ku_8 hown hK hP 0 rfl rfl 29 (by decide) (hT _ kw_9_21) (fun _ h9 => h9) rfl dX8_mine_111 ?_
          refine lv_iload_n hx hb dX8_mine_114 rfl (lv_at hl 1 rfl) ?_
          obtain ⟨g40, h⟩ := tx_ck h
          refine va_iald (i := x1) hx hb hK hP 11 0 rfl rfl (tx_in g40) dX8_mine_115 ?_
          refine lv_iadd hx hb dX8_mine_116 ?_
          obtain ⟨g41, h⟩ := tx_ck h
          refine va_iald (i := ((6 : Int32) + (S_28 30 x1.toNatClampNeg))) hx hb hK hP 34 0 rfl rfl (tx_in g41) dX8_mine_117 ?_
          refine lv_aload_n hx hb dX8_mine_118 rfl (lv_at hl 0 rfl) ?_
          refine va_get (D := G) (ci := 8) (v := .ref (aa 60)) (C := RX8) (T := TX8) (N := 91) hx hb hT ku_8 hown hK hP 0 rfl rfl 59 (by decide) (hT _ kw_10_20) (fun _ h9 => h9) rfl dX8_mine_119 ?_
          refine lv_aload_n hx hb dX8_mine_122 rfl (lv_at hl 0 rfl) ?_
          refine va_get (D := G) (ci := 8) (v := .ref (aa 30)) (C := RX8) (T := TX8) (N := 91) hx hb hT ku_8 hown hK hP 0 rfl rfl 29 (by decide) (hT _ kw_9_21) (fun _ h9 => h9) rfl dX8_mine_123 ?_
          refine lv_iload_n hx hb dX8_mine_126 rfl (lv_at hl 1 rfl) ?_
          refine va_iald (i := x1) hx hb hK hP 11 0 rfl rfl (tx_in g40) dX8_mine_127 ?_
          obtain ⟨g42, h⟩ := tx_ck h
          refine va_iald (i := (S_28 30 x1.toNatClampNeg)) hx hb hK hP 34 0 rfl rfl (tx_in g42) dX8_mine_128 ?_
          refine lv_isub hx hb dX8_mine_129 ?_
          refine lv_goto (tgt := 137) hx hb dX8_mine_130 (by decide) ?_
          exact w_X8_mine_J137 F k53 hk53 x3 x4 x5 ((S_28 60 ((6 : Int32) + (S_28 30 x1.toNatClampNeg)).toNatClampNeg) - (S_28 60 (S_28 30 x1.toNatClampNeg).toNatClampNeg)) S_28 L_29 H locs ls h hP hD hS (lv_sub hl [0, 1, 2, 3, 4, 5] rfl)
      · have h := tx_pos c27 h
        refine lv_goto (tgt := 160) hx hb dX8_mine_92 (by decide) ?_
        obtain ⟨y43, ey43, h⟩ := tx_lt h
        refine lv_iinc (v := y43) (lv' := [(5, .int y43), (0, .ref (aa 0)), (1, .int x1), (2, .int x2), (3, .int x3), (4, .int x4)]) hx hb dX8_mine_160 hl (k := 5) rfl ey43 (by decide) rfl (fun ls hl => ?_)
        refine lv_goto (tgt := 53) hx hb dX8_mine_163 (by decide) ?_
        exact hk53 x3 x4 y43 S_22 L_23 H locs ls h hP hD hS (lv_sub hl [1, 2, 3, 4, 5, 0] rfl)
set_option maxHeartbeats 4000000 in
set_option maxRecDepth 100000 in
theorem c_X8_mine (l : Launch) (G : va_G) (cA : Nat → ClassId) (sz : Nat) (aa : Nat → Nat) (S : Tr) (L : Lo) (x1 : Int32) (x2 : Int32)  (r0 : Int32) (S' : Tr) (L' : Lo) (h : f_X8_mine S L x1 x2 = some (r0, S', L')) : Met l yX8_mine (.code yX8_mine cX8_mine 7 (some .int) :: T0) ({ frames := 9, cells := 0, slots := 0, locals := 211 } : Room) (tqP G cA [.ref (aa 0), .int x1, .int x2] (wM cA aa S L) sz) (tqQi G cA (fun (r : Int32) (_ : Unit) => r = r0) (fun (_ : Unit) => wM cA aa S' L') (va_A (wM cA aa S L) sz)) 0 0 (va_A (wM cA aa S L) sz) := by
  refine Met.ofW (cc := cX8_mine) (maxL := 7) (ret := (some .int)) (by decide) rfl ?_
  intro p e s m args below meth c s₁ B hml hv
  obtain ⟨rfl, hsz, hP, hK, hD0, hN⟩ := hv
  have hx := B.exec
  have hb := B.bytes
  have hr := B.returns
  have hts := atoms_spec (ws := .code yX8_mine cX8_mine 7 (some .int) :: T0) B.pre
  have hT : ∀ w ∈ T0, w.before _ s = true := fun w h => hts w (List.mem_cons_of_mem _ h)
  have hown : s.vm.findClass RX8 = some m.cls := findClass_of_methodNamed B.named
  have hlocks := B.notSynchronized
  subst hsz
  have hD := hD0.self (sz := s.heap.size)
  generalize hAe : va_A (wM cA aa S L) s.heap.size = A at hD ⊢
  have hA : ∀ q : Nat, s.heap.size ≤ q → A q := fun q h => by rw [← hAe]; exact Or.inr h
  have hS : va_S A s.heap s.heap [] := va_S.rf
  have hl := lv_entry ([.ref (aa 0), .int x1, .int x2]) (n := 7) (Nat.le_of_ble_eq_true rfl)
  rw [lg_entry_eq]
  generalize (lg_sl ([.ref (aa 0), .int x1, .int x2]) ++ List.replicate (7 - (lg_sl ([.ref (aa 0), .int x1, .int x2])).length) Slot.unset).toArray = ls at hl ⊢
  have hl : lv_has ls 7 [(0, .ref (aa 0)), (1, .int x1), (2, .int x2)] := hl
  have F : tF p s m ([.ref (aa 0), .int x1, .int x2] : List Value).toArray meth c G cA A RX8 cX8_mine 7 (some .int) := ⟨hx, hb, hr, hml, hT, hown, hlocks, hK, hN, hA⟩
  obtain ⟨H, hH⟩ : ∃ z, z = s.heap := ⟨_, rfl⟩
  rw [← hH] at hP
  have hS : va_S A s.heap H [] := by rw [hH]; exact hS
  suffices hgo : G_X8_mine p l e s m below meth c G cA A aa x1 x2 r0 S' L' H [] (F0 m 0 ls []) by rw [hH] at hgo; exact hgo
  generalize ([] : List Loc) = locs at hS ⊢
  unfold f_X8_mine at h
  refine lv_aload_n hx hb dX8_mine_0 rfl (lv_at hl 0 rfl) ?_
  refine lv_iconst (v := 0) hx hb dX8_mine_1 (by decide) ?_
  refine va_put (D := G) (ci := 8) (v := .int 0) (ty := .int) (C := RX8) (T := TX8) (N := 91) hx hb hT ku_8 tyX8 tyX8_ok nmX8 hown hK hP hD hS 0 rfl rfl 2 (by decide) (hT _ kw_14_0) (fun _ h9 => h9) rfl (by decide +kernel) rfl rfl (Nat.le_of_ble_eq_true rfl) dX8_mine_2 (fun H locs hP hD hS => ?_)
  obtain ⟨S_1, eS_1, h⟩ := tx_lt h
  rw [sM_f2, eS_1] at hP hD
  refine lv_aload_n hx hb dX8_mine_5 rfl (lv_at hl 0 rfl) ?_
  refine lv_iload_n hx hb dX8_mine_6 rfl (lv_at hl 1 rfl) ?_
  obtain ⟨r2, hc3, h⟩ := tx_bd h
  refine tw_ci tw_all hP hD hS hA (va_runV (As := [.int x1]) (rest := []) ⟨hx, hb, hml, hown, hT⟩ (c_X8_isPiece l G cA H.size aa S_1 L x1  r2 hc3) (cwV 1 hT (tq_gV kw_30_22 kw_30_23 kw_31_0 kw_1_5 kw_31_1) rfl rfl rfl (by decide +kernel) ⟨Nat.le_of_ble_eq_true rfl, Nat.le_of_ble_eq_true rfl⟩) ⟨(tw_pre tw_all hP hD hK hN).1, va_recv hK hP (ci := 8) (q0 := 0) rfl rfl, (tw_pre tw_all hP hD hK hN).2⟩ rfl rfl hl.1 rfl (lv_room (Nat.le_of_ble_eq_true rfl)) dX8_mine_7 ⟨Nat.le_of_ble_eq_true rfl, Nat.le_of_ble_eq_true rfl⟩) (fun _ _ H locs z4 hP hD hS => ?_)
  subst z4
  rw [List.append_nil] at hP hD
  have hP : va_P G vwCl (wM cA aa S_1 L) H := hP
  have hD : va_D A (wM cA aa S_1 L) := hD
  refine lv_if_eq (tgt := 41) hx hb dX8_mine_10 (by decide) (fun c5 => ?_) (fun c5 => ?_)
  · have h := tx_pos c5 h
    refine lv_iconst (v := (-1)) hx hb dX8_mine_41 (by decide) ?_
    obtain ⟨rfl, rfl, rfl⟩ := tx_3 h
    exact W.iret hx hb hr (fun t ht hW => ⟨⟨_, (), rfl, rfl, by rw [ht]; exact hP, hD⟩, hS.F ht⟩) hS.2.2 dX8_mine_42
  · have h := tx_neg c5 h
    refine lv_iload_n hx hb dX8_mine_13 rfl (lv_at hl 2 rfl) ?_
    refine lv_iconst (v := 0) hx hb dX8_mine_14 (by decide) ?_
    refine lv_iconst (v := 3) hx hb dX8_mine_15 (by decide) ?_
    obtain ⟨r6, hc7, h⟩ := tx_bd h
    refine tw_ci (tw_none (ws := wM cA aa S_1 L)) hP hD hS hA (va_runS (As := [.int x2, .int 0, .int 3]) (rest := []) ⟨hx, hb, hml, hown, hT⟩ (c_X8_isIn l G cA H.size x2 (0 : Int32) (3 : Int32)  r6 hc7) (va_cwS 3 hT (tq_gS kw_24_11 kw_24_12 kw_1_5 kw_24_13) rfl rfl rfl (by decide +kernel) ⟨Nat.le_of_ble_eq_true rfl, Nat.le_of_ble_eq_true rfl⟩) (tw_pre (tw_none (ws := wM cA aa S_1 L)) hP hD hK hN) rfl rfl hl.1 rfl (lv_room (Nat.le_of_ble_eq_true rfl)) dX8_mine_16 ⟨Nat.le_of_ble_eq_true rfl, Nat.le_of_ble_eq_true rfl⟩) (fun _ _ H locs z8 hP hD hS => ?_)
    subst z8
    have hP : va_P G vwCl (wM cA aa S_1 L) H := hP
    have hD : va_D A (wM cA aa S_1 L) := hD
    refine lv_if_eq (tgt := 41) hx hb dX8_mine_19 (by decide) (fun c9 => ?_) (fun c9 => ?_)
    · have h := tx_pos c9 h
      refine lv_iconst (v := (-1)) hx hb dX8_mine_41 (by decide) ?_
      obtain ⟨rfl, rfl, rfl⟩ := tx_3 h
      exact W.iret hx hb hr (fun t ht hW => ⟨⟨_, (), rfl, rfl, by rw [ht]; exact hP, hD⟩, hS.F ht⟩) hS.2.2 dX8_mine_42
    · have h := tx_neg c9 h
      refine lv_aload_n hx hb dX8_mine_22 rfl (lv_at hl 0 rfl) ?_
      refine va_get (D := G) (ci := 8) (v := .ref (aa 62)) (C := RX8) (T := TX8) (N := 91) hx hb hT ku_8 hown hK hP 0 rfl rfl 61 (by decide) (hT _ kw_10_22) (fun _ h9 => h9) rfl dX8_mine_23 ?_
      refine lv_iconst (v := 0) hx hb dX8_mine_26 (by decide) ?_
      refine va_iald (i := 0) hx hb hK hP 36 0 rfl rfl (tq_in (by decide)) dX8_mine_27 ?_
      refine tq_i (w := (S_1 62 0)) rfl ?_
      refine lv_bipush (v := 21) hx hb dX8_mine_28 (by decide) ?_
      refine lv_icmp_ge (tgt := 41) hx hb dX8_mine_30 (by decide) (fun c10 => ?_) (fun c10 => ?_)
      · have h := tx_pos c10 h
        refine lv_iconst (v := (-1)) hx hb dX8_mine_41 (by decide) ?_
        obtain ⟨rfl, rfl, rfl⟩ := tx_3 h
        exact W.iret hx hb hr (fun t ht hW => ⟨⟨_, (), rfl, rfl, by rw [ht]; exact hP, hD⟩, hS.F ht⟩) hS.2.2 dX8_mine_42
      · have h := tx_neg c10 h
        refine lv_aload_n hx hb dX8_mine_33 rfl (lv_at hl 0 rfl) ?_
        refine lv_iload_n hx hb dX8_mine_34 rfl (lv_at hl 1 rfl) ?_
        obtain ⟨r11, hc12, h⟩ := tx_bd h
        refine tw_ci tw_all hP hD hS hA (va_runV (As := [.int x1]) (rest := []) ⟨hx, hb, hml, hown, hT⟩ (c_X8_isComing l G cA H.size aa S_1 L x1  r11 hc12) (cwV 1 hT (tq_gV kw_47_22 kw_47_23 kw_48_0 kw_1_5 kw_48_1) rfl rfl rfl (by decide +kernel) ⟨Nat.le_of_ble_eq_true rfl, Nat.le_of_ble_eq_true rfl⟩) ⟨(tw_pre tw_all hP hD hK hN).1, va_recv hK hP (ci := 8) (q0 := 0) rfl rfl, (tw_pre tw_all hP hD hK hN).2⟩ rfl rfl hl.1 rfl (lv_room (Nat.le_of_ble_eq_true rfl)) dX8_mine_35 ⟨Nat.le_of_ble_eq_true rfl, Nat.le_of_ble_eq_true rfl⟩) (fun _ _ H locs z13 hP hD hS => ?_)
        subst z13
        rw [List.append_nil] at hP hD
        have hP : va_P G vwCl (wM cA aa S_1 L) H := hP
        have hD : va_D A (wM cA aa S_1 L) := hD
        refine lv_if_ne (tgt := 43) hx hb dX8_mine_38 (by decide) (fun c14 => ?_) (fun c14 => ?_)
        · have h := tx_neg c14 h
          refine lv_bipush (v := (-2)) hx hb dX8_mine_43 (by decide) ?_
          refine lv_istore_n (lv' := [(3, .int (-2)), (0, .ref (aa 0)), (1, .int x1), (2, .int x2)]) hx hb dX8_mine_45 rfl hl (by decide) rfl (fun ls hl => ?_)
          refine lv_bipush (v := (-2)) hx hb dX8_mine_46 (by decide) ?_
          refine lv_istore (lv' := [(4, .int (-2)), (3, .int (-2)), (0, .ref (aa 0)), (1, .int x1), (2, .int x2)]) hx hb dX8_mine_48 hl (by decide) rfl (fun ls hl => ?_)
          refine lv_iconst (v := 0) hx hb dX8_mine_50 (by decide) ?_
          refine lv_istore (lv' := [(5, .int 0), (4, .int (-2)), (3, .int (-2)), (0, .ref (aa 0)), (1, .int x1), (2, .int x2)]) hx hb dX8_mine_51 hl (by decide) rfl (fun ls hl => ?_)
          exact w_X8_mine_L53 F 2000 (-2) (-2) 0 S_1 L H locs ls h hP hD hS (lv_sub hl [3, 4, 5, 2, 1, 0] rfl)
        · have h := tx_pos c14 h
          refine lv_iconst (v := (-1)) hx hb dX8_mine_41 (by decide) ?_
          obtain ⟨rfl, rfl, rfl⟩ := tx_3 h
          exact W.iret hx hb hr (fun t ht hW => ⟨⟨_, (), rfl, rfl, by rw [ht]; exact hP, hD⟩, hS.F ht⟩) hS.2.2 dX8_mine_42
