abbrev G_X8_byRule (p : Program) (l : Launch) (e : Env) (s : State) (m : MethodId) (below : List Frame) (meth : Method) (c : Code) (G : va_G) (cA : Nat → ClassId) (A : Nat → Prop) (aa : Nat → Nat) (x1 : Int32) (r0 : Int32) (S' : Tr) (L' : Lo) (H : Heap) (locs : List Loc) (g : JFrame) : Prop := W p l e (headSpec (.code yX8_byRule cX8_byRule 2 (some .int) :: T0) ({ frames := 10, cells := 0, slots := 0, locals := 232 } : Room)).room s m ([.ref (aa 0), .int x1] : List Value).toArray below meth c H locs 0 0 (MQ below (tqQi G cA (fun (r : Int32) (_ : Unit) => r = r0) (fun (_ : Unit) => wM cA aa S' L') A) ([.ref (aa 0), .int x1] : List Value).toArray s 0 0 A) g
set_option maxHeartbeats 4000000 in
set_option maxRecDepth 100000 in
theorem c_X8_byRule (l : Launch) (G : va_G) (cA : Nat → ClassId) (sz : Nat) (aa : Nat → Nat) (S : Tr) (L : Lo) (x1 : Int32)  (r0 : Int32) (S' : Tr) (L' : Lo) (h : f_X8_byRule S L x1 = some (r0, S', L')) : Met l yX8_byRule (.code yX8_byRule cX8_byRule 2 (some .int) :: T0) ({ frames := 10, cells := 0, slots := 0, locals := 232 } : Room) (tqP G cA [.ref (aa 0), .int x1] (wM cA aa S L) sz) (tqQi G cA (fun (r : Int32) (_ : Unit) => r = r0) (fun (_ : Unit) => wM cA aa S' L') (va_A (wM cA aa S L) sz)) 0 0 (va_A (wM cA aa S L) sz) := by
  refine Met.ofW (cc := cX8_byRule) (maxL := 2) (ret := (some .int)) (by decide) rfl ?_
  intro p e s m args below meth c s₁ B hml hv
  obtain ⟨rfl, hsz, hP, hK, hD0, hN⟩ := hv
  have hx := B.exec
  have hb := B.bytes
  have hr := B.returns
  have hts := atoms_spec (ws := .code yX8_byRule cX8_byRule 2 (some .int) :: T0) B.pre
  have hT : ∀ w ∈ T0, w.before _ s = true := fun w h => hts w (List.mem_cons_of_mem _ h)
  have hown : s.vm.findClass RX8 = some m.cls := findClass_of_methodNamed B.named
  have hlocks := B.notSynchronized
  subst hsz
  have hD := hD0.self (sz := s.heap.size)
  generalize hAe : va_A (wM cA aa S L) s.heap.size = A at hD ⊢
  have hA : ∀ q : Nat, s.heap.size ≤ q → A q := fun q h => by rw [← hAe]; exact Or.inr h
  have hS : va_S A s.heap s.heap [] := va_S.rf
  have hl := lv_entry ([.ref (aa 0), .int x1]) (n := 2) (Nat.le_of_ble_eq_true rfl)
  rw [lg_entry_eq]
  generalize (lg_sl ([.ref (aa 0), .int x1]) ++ List.replicate (2 - (lg_sl ([.ref (aa 0), .int x1])).length) Slot.unset).toArray = ls at hl ⊢
  have hl : lv_has ls 2 [(0, .ref (aa 0)), (1, .int x1)] := hl
  have F : tF p s m ([.ref (aa 0), .int x1] : List Value).toArray meth c G cA A RX8 cX8_byRule 2 (some .int) := ⟨hx, hb, hr, hml, hT, hown, hlocks, hK, hN, hA⟩
  obtain ⟨H, hH⟩ : ∃ z, z = s.heap := ⟨_, rfl⟩
  rw [← hH] at hP
  have hS : va_S A s.heap H [] := by rw [hH]; exact hS
  suffices hgo : G_X8_byRule p l e s m below meth c G cA A aa x1 r0 S' L' H [] (F0 m 0 ls []) by rw [hH] at hgo; exact hgo
  generalize ([] : List Loc) = locs at hS ⊢
  unfold f_X8_byRule at h
  refine lv_aload_n hx hb dX8_byRule_0 rfl (lv_at hl 0 rfl) ?_
  refine lv_iconst (v := 0) hx hb dX8_byRule_1 (by decide) ?_
  refine va_put (D := G) (ci := 8) (v := .int 0) (ty := .int) (C := RX8) (T := TX8) (N := 91) hx hb hT ku_8 tyX8 tyX8_ok nmX8 hown hK hP hD hS 0 rfl rfl 2 (by decide) (hT _ kw_14_0) (fun _ h9 => h9) rfl (by decide +kernel) rfl rfl (Nat.le_of_ble_eq_true rfl) dX8_byRule_2 (fun H locs hP hD hS => ?_)
  obtain ⟨S_1, eS_1, h⟩ := tx_lt h
  rw [sM_f2, eS_1] at hP hD
  refine lv_iload_n hx hb dX8_byRule_5 rfl (lv_at hl 1 rfl) ?_
  refine lv_iconst (v := 0) hx hb dX8_byRule_6 (by decide) ?_
  refine lv_iconst (v := 2) hx hb dX8_byRule_7 (by decide) ?_
  obtain ⟨r2, hc3, h⟩ := tx_bd h
  refine tw_ci (tw_none (ws := wM cA aa S_1 L)) hP hD hS hA (va_runS (As := [.int x1, .int 0, .int 2]) (rest := []) ⟨hx, hb, hml, hown, hT⟩ (c_X8_isIn l G cA H.size x1 (0 : Int32) (2 : Int32)  r2 hc3) (va_cwS 3 hT (tq_gS kw_24_11 kw_24_12 kw_1_5 kw_24_13) rfl rfl rfl (by decide +kernel) ⟨Nat.le_of_ble_eq_true rfl, Nat.le_of_ble_eq_true rfl⟩) (tw_pre (tw_none (ws := wM cA aa S_1 L)) hP hD hK hN) rfl rfl hl.1 rfl (lv_room (Nat.le_of_ble_eq_true rfl)) dX8_byRule_8 ⟨Nat.le_of_ble_eq_true rfl, Nat.le_of_ble_eq_true rfl⟩) (fun _ _ H locs z4 hP hD hS => ?_)
  subst z4
  have hP : va_P G vwCl (wM cA aa S_1 L) H := hP
  have hD : va_D A (wM cA aa S_1 L) := hD
  refine lv_if_eq (tgt := 22) hx hb dX8_byRule_11 (by decide) (fun c5 => ?_) (fun c5 => ?_)
  · have h := tx_pos c5 h
    refine lv_iconst (v := (-1)) hx hb dX8_byRule_22 (by decide) ?_
    obtain ⟨rfl, rfl, rfl⟩ := tx_3 h
    exact W.iret hx hb hr (fun t ht hW => ⟨⟨_, (), rfl, rfl, by rw [ht]; exact hP, hD⟩, hS.F ht⟩) hS.2.2 dX8_byRule_23
  · have h := tx_neg c5 h
    refine lv_aload_n hx hb dX8_byRule_14 rfl (lv_at hl 0 rfl) ?_
    refine lv_iload_n hx hb dX8_byRule_15 rfl (lv_at hl 1 rfl) ?_
    obtain ⟨⟨r6, S_7, L_8⟩, hc9, h⟩ := tx_bd h
    replace h := tx_let (y := r6) rfl h
    replace h := tx_let (y := S_7) rfl h
    replace h := tx_let (y := L_8) rfl h
    refine tw_ci tw_all hP hD hS hA (va_runV (As := [.int x1]) (rest := []) ⟨hx, hb, hml, hown, hT⟩ (c_X8_liftsBy l G cA H.size aa S_1 L x1  r6 S_7 L_8 hc9) (cwV 1 hT (tq_gV kw_51_18 kw_51_19 kw_51_20 kw_1_5 kw_51_21) rfl rfl rfl (by decide +kernel) ⟨Nat.le_of_ble_eq_true rfl, Nat.le_of_ble_eq_true rfl⟩) ⟨(tw_pre tw_all hP hD hK hN).1, va_recv hK hP (ci := 8) (q0 := 0) rfl rfl, (tw_pre tw_all hP hD hK hN).2⟩ rfl rfl hl.1 rfl (lv_room (Nat.le_of_ble_eq_true rfl)) dX8_byRule_16 ⟨Nat.le_of_ble_eq_true rfl, Nat.le_of_ble_eq_true rfl⟩) (fun _ _ H locs z10 hP hD hS => ?_)
    subst z10
    rw [List.append_nil] at hP hD
    have hP : va_P G vwCl (wM cA aa S_7 L_8) H := hP
    have hD : va_D A (wM cA aa S_7 L_8) := hD
    refine lv_goto (tgt := 23) hx hb dX8_byRule_19 (by decide) ?_
    obtain ⟨rfl, rfl, rfl⟩ := tx_3 h
    exact W.iret hx hb hr (fun t ht hW => ⟨⟨_, (), rfl, rfl, by rw [ht]; exact hP, hD⟩, hS.F ht⟩) hS.2.2 dX8_byRule_23
abbrev G_X8_chance (p : Program) (l : Launch) (e : Env) (s : State) (m : MethodId) (below : List Frame) (meth : Method) (c : Code) (G : va_G) (cA : Nat → ClassId) (A : Nat → Prop) (aa : Nat → Nat) (x1 : Int32) (x2 : Int32) (r0 : Int32) (S' : Tr) (L' : Lo) (H : Heap) (locs : List Loc) (g : JFrame) : Prop := W p l e (headSpec (.code yX8_chance cX8_chance 7 (some .int) :: T0) ({ frames := 9, cells := 0, slots := 0, locals := 211 } : Room)).room s m ([.ref (aa 0), .int x1, .int x2] : List Value).toArray below meth c H locs 0 0 (MQ below (tqQi G cA (fun (r : Int32) (_ : Unit) => r = r0) (fun (_ : Unit) => wM cA aa S' L') A) ([.ref (aa 0), .int x1, .int x2] : List Value).toArray s 0 0 A) g
set_option maxHeartbeats 4000000 in
set_option maxRecDepth 100000 in
theorem w_X8_chance_J85 {p : Program} {l : Launch} {e : Env} {s : State} {m : MethodId} {below : List Frame} {meth : Method} {c : Code} {G : va_G} {cA : Nat → ClassId} {A : Nat → Prop} {aa : Nat → Nat} {x1₀ : Int32} {x2₀ : Int32} {r0 : Int32} {S' : Tr} {L' : Lo} (F : tF p s m ([.ref (aa 0), .int x1₀, .int x2₀] : List Value).toArray meth c G cA A RX8 cX8_chance 7 (some .int))    (x3 : Int64) (x5 : Int32) (S : Tr) (L : Lo) (H : Heap) (locs : List Loc) (ls : Array Slot) (h : fJ_X8_chance_J85 x3 x5 S L = some (r0, S', L')) (hP : va_P G vwCl (wM cA aa S_10 L_11) H) (hD : va_D A (wM cA aa S_10 L_11)) (hS : va_S A s.heap H locs) (hl : lv_has ls 7 [(0, .ref (aa 0)), (3, .long x3), (5, .int x5)]) : G_X8_chance p l e s m below meth c G cA A aa x1₀ x2₀ r0 S' L' H locs (F0 m 85 ls []) := by
  obtain ⟨hx, hb, hr, hml, hT, hown, hlocks, hK, hN, hA⟩ := id F
  unfold fJ_X8_chance_J85 at h
  refine lv_aload_n hx hb dX8_chance_85 rfl (lv_at hl 0 rfl) ?_
  refine lv_iconst (v := 0) hx hb dX8_chance_86 (by decide) ?_
  refine va_put (D := G) (ci := 8) (v := .int 0) (ty := .boolean) (C := RX8) (T := TX8) (N := 91) hx hb hT ku_8 tyX8 tyX8_ok nmX8 hown hK hP hD hS 0 rfl rfl 65 (by decide) (hT _ kw_13_3) (fun _ h9 => h9) rfl (by decide +kernel) rfl rfl (Nat.le_of_ble_eq_true rfl) dX8_chance_87 (fun H locs hP hD hS => ?_)
  obtain ⟨S_10, eS_10, h⟩ := tx_lt h
  rw [sM_f65, eS_10] at hP hD
  refine lv_aload_n hx hb dX8_chance_90 rfl (lv_at hl 0 rfl) ?_
  refine lv_lload_n hx hb dX8_chance_91 rfl (lv_at hl 1 rfl) ?_
  refine va_put (D := G) (ci := 8) (v := .long x3) (ty := .long) (C := RX8) (T := TX8) (N := 91) hx hb hT ku_8 tyX8 tyX8_ok nmX8 hown hK hP hD hS 0 rfl rfl 63 (by decide) (hT _ kw_12_14) (fun _ h9 => h9) rfl (by decide +kernel) rfl rfl (Nat.le_of_ble_eq_true rfl) dX8_chance_92 (fun H locs hP hD hS => ?_)
  obtain ⟨L_11, eL_11, h⟩ := tx_lt h
  rw [sM_f63, eL_11] at hP hD
  refine lv_iload hx hb dX8_chance_95 (lv_at hl 2 rfl) ?_
  obtain ⟨rfl, rfl, rfl⟩ := tx_3 h
  exact W.iret hx hb hr (fun t ht hW => ⟨⟨_, (), rfl, rfl, by rw [ht]; exact hP, hD⟩, hS.F ht⟩) hS.2.2 dX8_chance_97
set_option maxHeartbeats 4000000 in
set_option maxRecDepth 100000 in
theorem w_X8_chance_L36 {p : Program} {l : Launch} {e : Env} {s : State} {m : MethodId} {below : List Frame} {meth : Method} {c : Code} {G : va_G} {cA : Nat → ClassId} {A : Nat → Prop} {aa : Nat → Nat} {x1₀ : Int32} {x2₀ : Int32} {r0 : Int32} {S' : Tr} {L' : Lo} {x2 : Int32} {x3 : Int64} (F : tF p s m ([.ref (aa 0), .int x1₀, .int x2₀] : List Value).toArray meth c G cA A RX8 cX8_chance 7 (some .int))    (N : Nat) : ∀ (x5 : Int32) (x6 : Int32) (S : Tr) (L : Lo) (H : Heap) (locs : List Loc) (ls : Array Slot), lpF (fun _ _ _ _ => none) (fB_X8_chance_L36 x2 x3) N x5 x6 S L = some (r0, S', L') → va_P G vwCl (wM cA aa S L) H → va_D A (wM cA aa S L) → va_S A s.heap H locs → lv_has ls 7 [(0, .ref (aa 0)), (2, .int x2), (3, .long x3), (5, .int x5), (6, .int x6)] → G_X8_chance p l e s m below meth c G cA A aa x1₀ x2₀ r0 S' L' H locs (F0 m 36 ls []) := by
  obtain ⟨hx, hb, hr, hml, hT, hown, hlocks, hK, hN, hA⟩ := id F
  induction N with
  | zero =>
    intro x5 x6 S L H locs ls h
    have h : (none : Option (Int32 × Tr × Lo)) = some (r0, S', L') := h
    cases h
  | succ N hk36 =>
    intro x5 x6 S L H locs ls h hP hD hS hl
    have h : fB_X8_chance_L36 x2 x3 (lpF (fun _ _ _ _ => none) (fB_X8_chance_L36 x2 x3) N) x5 x6 S L = some (r0, S', L') := h
    generalize hk36e : lpF (fun _ _ _ _ => none) (fB_X8_chance_L36 x2 x3) N = k36 at h hk36
    unfold fB_X8_chance_L36 at h
    refine lv_iload hx hb dX8_chance_36 (lv_at hl 4 rfl) ?_
    refine lv_bipush (v := 10) hx hb dX8_chance_38 (by decide) ?_
    refine lv_icmp_ge (tgt := 85) hx hb dX8_chance_40 (by decide) (fun c9 => ?_) (fun c9 => ?_)
    · have h := tx_pos c9 h
      exact w_X8_chance_J85 F x3 x5 S L H locs ls h hP hD hS (lv_sub hl [0, 2, 3] rfl)
    · have h := tx_neg c9 h
      refine lv_aload_n hx hb dX8_chance_43 rfl (lv_at hl 0 rfl) ?_
      obtain ⟨S_12, hc13, h⟩ := tx_bd h
      refine tw_cv tw_all hP hD hS hA (va_runV (As := []) (rest := []) ⟨hx, hb, hml, hown, hT⟩ (c_X8_layTried l G cA H.size aa S L  S_12 hc13) (cwV 0 hT (tq_gV kw_39_5 kw_39_6 kw_39_7 kw_1_5 kw_39_8) rfl rfl rfl (by decide +kernel) ⟨Nat.le_of_ble_eq_true rfl, Nat.le_of_ble_eq_true rfl⟩) ⟨(tw_pre tw_all hP hD hK hN).1, va_recv hK hP (ci := 8) (q0 := 0) rfl rfl, (tw_pre tw_all hP hD hK hN).2⟩ rfl rfl hl.1 rfl (lv_room (Nat.le_of_ble_eq_true rfl)) dX8_chance_44 ⟨Nat.le_of_ble_eq_true rfl, Nat.le_of_ble_eq_true rfl⟩) (fun _ H locs z14 hP hD hS => ?_)
      rw [List.append_nil] at hP hD
      have hP : va_P G vwCl (wM cA aa S_12 L) H := hP
      have hD : va_D A (wM cA aa S_12 L) := hD
      refine lv_aload_n hx hb dX8_chance_47 rfl (lv_at hl 0 rfl) ?_
      refine lv_iconst (v := 1) hx hb dX8_chance_48 (by decide) ?_
      refine va_put (D := G) (ci := 8) (v := .int 1) (ty := .boolean) (C := RX8) (T := TX8) (N := 91) hx hb hT ku_8 tyX8 tyX8_ok nmX8 hown hK hP hD hS 0 rfl rfl 65 (by decide) (hT _ kw_13_3) (fun _ h9 => h9) rfl (by decide +kernel) rfl rfl (Nat.le_of_ble_eq_true rfl) dX8_chance_49 (fun H locs hP hD hS => ?_)
      obtain ⟨S_15, eS_15, h⟩ := tx_lt h
      rw [sM_f65, eS_15] at hP hD
      refine lv_aload_n hx hb dX8_chance_52 rfl (lv_at hl 0 rfl) ?_
      obtain ⟨⟨S_16, L_17⟩, hc18, h⟩ := tx_bd h
      replace h := tx_let (y := S_16) rfl h
      replace h := tx_let (y := L_17) rfl h
      refine tw_cv tw_all hP hD hS hA (va_runV (As := []) (rest := []) ⟨hx, hb, hml, hown, hT⟩ (c_X8_toEnd l G cA H.size aa S_15 L  S_16 L_17 hc18) (cwV 0 hT (tq_gV kw_48_5 kw_48_6 kw_48_7 kw_1_5 kw_48_8) rfl rfl rfl (by decide +kernel) ⟨Nat.le_of_ble_eq_true rfl, Nat.le_of_ble_eq_true rfl⟩) ⟨(tw_pre tw_all hP hD hK hN).1, va_recv hK hP (ci := 8) (q0 := 0) rfl rfl, (tw_pre tw_all hP hD hK hN).2⟩ rfl rfl hl.1 rfl (lv_room (Nat.le_of_ble_eq_true rfl)) dX8_chance_53 ⟨Nat.le_of_ble_eq_true rfl, Nat.le_of_ble_eq_true rfl⟩) (fun _ H locs z19 hP hD hS => ?_)
      rw [List.append_nil] at hP hD
      have hP : va_P G vwCl (wM cA aa S_16 L_17) H := hP
      have hD : va_D A (wM cA aa S_16 L_17) := hD
      refine lv_iload hx hb dX8_chance_56 (lv_at hl 3 rfl) ?_
      refine lv_aload_n hx hb dX8_chance_58 rfl (lv_at hl 0 rfl) ?_
      refine va_get (D := G) (ci := 8) (v := .ref (aa 53)) (C := RX8) (T := TX8) (N := 91) hx hb hT ku_8 hown hK hP 0 rfl rfl 52 (by decide) (hT _ kw_10_13) (fun _ h9 => h9) rfl dX8_chance_59 ?_
      refine lv_bipush (v := 10) hx hb dX8_chance_62 (by decide) ?_
      refine lv_iload_n hx hb dX8_chance_64 rfl (lv_at hl 1 rfl) ?_
      refine lv_iadd hx hb dX8_chance_65 ?_
      obtain ⟨g20, h⟩ := tx_ck h
      refine va_iald (i := ((10 : Int32) + x2)) hx hb hK hP 27 0 rfl rfl (tx_in g20) dX8_chance_66 ?_
      refine lv_iconst (v := 2) hx hb dX8_chance_67 (by decide) ?_
      refine lv_icmp_ne (tgt := 75) hx hb dX8_chance_68 (by decide) (fun c21 => ?_) (fun c21 => ?_)
      · have h := tx_neg c21 h
        refine lv_iconst (v := 0) hx hb dX8_chance_75 (by decide) ?_
        refine lv_iadd hx hb dX8_chance_76 ?_
        refine lv_topi (fun y22 ey22 => ?_)
        have h := tx_let ey22 h
        refine lv_istore (lv' := [(5, .int y22), (0, .ref (aa 0)), (2, .int x2), (3, .long x3), (6, .int x6)]) hx hb dX8_chance_77 hl (by decide) rfl (fun ls hl => ?_)
        obtain ⟨y23, ey23, h⟩ := tx_lt h
        refine lv_iinc (v := y23) (lv' := [(6, .int y23), (5, .int y22), (0, .ref (aa 0)), (2, .int x2), (3, .long x3)]) hx hb dX8_chance_79 hl (k := 4) rfl ey23 (by decide) rfl (fun ls hl => ?_)
        refine lv_goto (tgt := 36) hx hb dX8_chance_82 (by decide) ?_
        exact hk36 y22 y23 S_16 L_17 H locs ls h hP hD hS (lv_sub hl [2, 3, 4, 1, 0] rfl)
      · have h := tx_pos c21 h
        refine lv_iconst (v := 1) hx hb dX8_chance_71 (by decide) ?_
        refine lv_goto (tgt := 76) hx hb dX8_chance_72 (by decide) ?_
        refine lv_iadd hx hb dX8_chance_76 ?_
        refine lv_topi (fun y24 ey24 => ?_)
        have h := tx_let ey24 h
        refine lv_istore (lv' := [(5, .int y24), (0, .ref (aa 0)), (2, .int x2), (3, .long x3), (6, .int x6)]) hx hb dX8_chance_77 hl (by decide) rfl (fun ls hl => ?_)
        obtain ⟨y25, ey25, h⟩ := tx_lt h
        refine lv_iinc (v := y25) (lv' := [(6, .int y25), (5, .int y24), (0, .ref (aa 0)), (2, .int x2), (3, .long x3)]) hx hb dX8_chance_79 hl (k := 4) rfl ey25 (by decide) rfl (fun ls hl => ?_)
        refine lv_goto (tgt := 36) hx hb dX8_chance_82 (by decide) ?_
        exact hk36 y24 y25 S_16 L_17 H locs ls h hP hD hS (lv_sub hl [2, 3, 4, 1, 0] rfl)
set_option maxHeartbeats 4000000 in
set_option maxRecDepth 100000 in
theorem c_X8_chance (l : Launch) (G : va_G) (cA : Nat → ClassId) (sz : Nat) (aa : Nat → Nat) (S : Tr) (L : Lo) (x1 : Int32) (x2 : Int32)  (r0 : Int32) (S' : Tr) (L' : Lo) (h : f_X8_chance S L x1 x2 = some (r0, S', L')) : Met l yX8_chance (.code yX8_chance cX8_chance 7 (some .int) :: T0) ({ frames := 9, cells := 0, slots := 0, locals := 211 } : Room) (tqP G cA [.ref (aa 0), .int x1, .int x2] (wM cA aa S L) sz) (tqQi G cA (fun (r : Int32) (_ : Unit) => r = r0) (fun (_ : Unit) => wM cA aa S' L') (va_A (wM cA aa S L) sz)) 0 0 (va_A (wM cA aa S L) sz) := by
  refine Met.ofW (cc := cX8_chance) (maxL := 7) (ret := (some .int)) (by decide) rfl ?_
  intro p e s m args below meth c s₁ B hml hv
  obtain ⟨rfl, hsz, hP, hK, hD0, hN⟩ := hv
  have hx := B.exec
  have hb := B.bytes
  have hr := B.returns
  have hts := atoms_spec (ws := .code yX8_chance cX8_chance 7 (some .int) :: T0) B.pre
  have hT : ∀ w ∈ T0, w.before _ s = true := fun w h => hts w (List.mem_cons_of_mem _ h)
  have hown : s.vm.findClass RX8 = some m.cls := findClass_of_methodNamed B.named
  have hlocks := B.notSynchronized
  subst hsz
  have hD := hD0.self (sz := s.heap.size)
  generalize hAe : va_A (wM cA aa S L) s.heap.size = A at hD ⊢
  have hA : ∀ q : Nat, s.heap.size ≤ q → A q := fun q h => by rw [← hAe]; exact Or.inr h
  have hS : va_S A s.heap s.heap [] := va_S.rf
  have hl := lv_entry ([.ref (aa 0), .int x1, .int x2]) (n := 7) (Nat.le_of_ble_eq_true rfl)
  rw [lg_entry_eq]
  generalize (lg_sl ([.ref (aa 0), .int x1, .int x2]) ++ List.replicate (7 - (lg_sl ([.ref (aa 0), .int x1, .int x2])).length) Slot.unset).toArray = ls at hl ⊢
  have hl : lv_has ls 7 [(0, .ref (aa 0)), (1, .int x1), (2, .int x2)] := hl
  have F : tF p s m ([.ref (aa 0), .int x1, .int x2] : List Value).toArray meth c G cA A RX8 cX8_chance 7 (some .int) := ⟨hx, hb, hr, hml, hT, hown, hlocks, hK, hN, hA⟩
  obtain ⟨H, hH⟩ : ∃ z, z = s.heap := ⟨_, rfl⟩
  rw [← hH] at hP
  have hS : va_S A s.heap H [] := by rw [hH]; exact hS
  suffices hgo : G_X8_chance p l e s m below meth c G cA A aa x1 x2 r0 S' L' H [] (F0 m 0 ls []) by rw [hH] at hgo; exact hgo
  generalize ([] : List Loc) = locs at hS ⊢
  unfold f_X8_chance at h
  refine lv_aload_n hx hb dX8_chance_0 rfl (lv_at hl 0 rfl) ?_
  refine lv_iconst (v := 0) hx hb dX8_chance_1 (by decide) ?_
  refine va_put (D := G) (ci := 8) (v := .int 0) (ty := .int) (C := RX8) (T := TX8) (N := 91) hx hb hT ku_8 tyX8 tyX8_ok nmX8 hown hK hP hD hS 0 rfl rfl 2 (by decide) (hT _ kw_14_0) (fun _ h9 => h9) rfl (by decide +kernel) rfl rfl (Nat.le_of_ble_eq_true rfl) dX8_chance_2 (fun H locs hP hD hS => ?_)
  obtain ⟨S_1, eS_1, h⟩ := tx_lt h
  rw [sM_f2, eS_1] at hP hD
  refine lv_iload_n hx hb dX8_chance_5 rfl (lv_at hl 1 rfl) ?_
  refine lv_if_lt (tgt := 17) hx hb dX8_chance_6 (by decide) (fun c2 => ?_) (fun c2 => ?_)
  · have h := tx_pos c2 h
    refine lv_iconst (v := (-1)) hx hb dX8_chance_17 (by decide) ?_
    obtain ⟨rfl, rfl, rfl⟩ := tx_3 h
    exact W.iret hx hb hr (fun t ht hW => ⟨⟨_, (), rfl, rfl, by rw [ht]; exact hP, hD⟩, hS.F ht⟩) hS.2.2 dX8_chance_18
  · have h := tx_neg c2 h
    refine lv_aload_n hx hb dX8_chance_9 rfl (lv_at hl 0 rfl) ?_
    refine lv_iload_n hx hb dX8_chance_10 rfl (lv_at hl 2 rfl) ?_
    obtain ⟨r3, hc4, h⟩ := tx_bd h
    refine tw_ci tw_all hP hD hS hA (va_runV (As := [.int x2]) (rest := []) ⟨hx, hb, hml, hown, hT⟩ (c_X8_isPiece l G cA H.size aa S_1 L x2  r3 hc4) (cwV 1 hT (tq_gV kw_30_22 kw_30_23 kw_31_0 kw_1_5 kw_31_1) rfl rfl rfl (by decide +kernel) ⟨Nat.le_of_ble_eq_true rfl, Nat.le_of_ble_eq_true rfl⟩) ⟨(tw_pre tw_all hP hD hK hN).1, va_recv hK hP (ci := 8) (q0 := 0) rfl rfl, (tw_pre tw_all hP hD hK hN).2⟩ rfl rfl hl.1 rfl (lv_room (Nat.le_of_ble_eq_true rfl)) dX8_chance_11 ⟨Nat.le_of_ble_eq_true rfl, Nat.le_of_ble_eq_true rfl⟩) (fun _ _ H locs z5 hP hD hS => ?_)
    subst z5
    rw [List.append_nil] at hP hD
    have hP : va_P G vwCl (wM cA aa S_1 L) H := hP
    have hD : va_D A (wM cA aa S_1 L) := hD
    refine lv_if_ne (tgt := 19) hx hb dX8_chance_14 (by decide) (fun c6 => ?_) (fun c6 => ?_)
    · have h := tx_neg c6 h
      refine lv_aload_n hx hb dX8_chance_19 rfl (lv_at hl 0 rfl) ?_
      refine va_get (D := G) (ci := 8) (v := .long (L 0 63)) (C := RX8) (T := TX8) (N := 91) hx hb hT ku_8 hown hK hP 0 rfl rfl 63 (by decide) (hT _ kw_12_14) (fun _ h9 => h9) rfl dX8_chance_20 ?_
      refine lv_topl (fun y7 ey7 => ?_)
      have h := tx_let ey7 h
      refine lv_lstore_n (lv' := [(3, .long y7), (0, .ref (aa 0)), (1, .int x1), (2, .int x2)]) hx hb dX8_chance_23 rfl hl (by decide) rfl (fun ls hl => ?_)
      refine lv_aload_n hx hb dX8_chance_24 rfl (lv_at hl 1 rfl) ?_
      refine lv_iload_n hx hb dX8_chance_25 rfl (lv_at hl 2 rfl) ?_
      refine lv_i2l hx hb dX8_chance_26 rfl ?_
      refine va_put (D := G) (ci := 8) (v := .long x1.toInt64) (ty := .long) (C := RX8) (T := TX8) (N := 91) hx hb hT ku_8 tyX8 tyX8_ok nmX8 hown hK hP hD hS 0 rfl rfl 63 (by decide) (hT _ kw_12_14) (fun _ h9 => h9) rfl (by decide +kernel) rfl rfl (Nat.le_of_ble_eq_true rfl) dX8_chance_27 (fun H locs hP hD hS => ?_)
      obtain ⟨L_8, eL_8, h⟩ := tx_lt h
      rw [sM_f63, eL_8] at hP hD
      refine lv_iconst (v := 0) hx hb dX8_chance_30 (by decide) ?_
      refine lv_istore (lv' := [(5, .int 0), (3, .long y7), (0, .ref (aa 0)), (1, .int x1), (2, .int x2)]) hx hb dX8_chance_31 hl (by decide) rfl (fun ls hl => ?_)
      refine lv_iconst (v := 0) hx hb dX8_chance_33 (by decide) ?_
      refine lv_istore (lv' := [(6, .int 0), (5, .int 0), (3, .long y7), (0, .ref (aa 0)), (1, .int x1), (2, .int x2)]) hx hb dX8_chance_34 hl (by decide) rfl (fun ls hl => ?_)
      exact w_X8_chance_L36 F 2000 0 0 S_1 L_8 H locs ls h hP hD hS (lv_sub hl [3, 5, 2, 1, 0] rfl)
    · have h := tx_pos c6 h
      refine lv_iconst (v := (-1)) hx hb dX8_chance_17 (by decide) ?_
      obtain ⟨rfl, rfl, rfl⟩ := tx_3 h
      exact W.iret hx hb hr (fun t ht hW => ⟨⟨_, (), rfl, rfl, by rw [ht]; exact hP, hD⟩, hS.F ht⟩) hS.2.2 dX8_chance_18
abbrev G_X8_costOf (p : Program) (l : Launch) (e : Env) (s : State) (m : MethodId) (below : List Frame) (meth : Method) (c : Code) (G : va_G) (cA : Nat → ClassId) (A : Nat → Prop) (aa : Nat → Nat) (S : Tr) (L : Lo) (x1 : Int32) (x2 : Int32) (r0 : Int32) (H : Heap) (locs : List Loc) (g : JFrame) : Prop := W p l e (headSpec (.code yX8_costOf cX8_costOf 3 (some .int) :: T0) ({ frames := 0, cells := 0, slots := 0, locals := 0 } : Room)).room s m ([.ref (aa 0), .int x1, .int x2] : List Value).toArray below meth c H locs 0 0 (MQ below (tqQi G cA (fun (r : Int32) (_ : Unit) => r = r0) (fun (_ : Unit) => wM cA aa S L) A) ([.ref (aa 0), .int x1, .int x2] : List Value).toArray s 0 0 A) g
set_option maxHeartbeats 4000000 in
set_option maxRecDepth 100000 in
theorem c_X8_costOf (l : Launch) (G : va_G) (cA : Nat → ClassId) (sz : Nat) (aa : Nat → Nat) (S : Tr) (L : Lo) (x1 : Int32) (x2 : Int32)  (r0 : Int32) (h : f_X8_costOf S x1 x2 = some r0) : Met l yX8_costOf (.code yX8_costOf cX8_costOf 3 (some .int) :: T0) ({ frames := 0, cells := 0, slots := 0, locals := 0 } : Room) (tqP G cA [.ref (aa 0), .int x1, .int x2] (wM cA aa S L) sz) (tqQi G cA (fun (r : Int32) (_ : Unit) => r = r0) (fun (_ : Unit) => wM cA aa S L) (va_A (wM cA aa S L) sz)) 0 0 (va_A (wM cA aa S L) sz) := by
  refine Met.ofW (cc := cX8_costOf) (maxL := 3) (ret := (some .int)) (by decide) rfl ?_
  intro p e s m args below meth c s₁ B hml hv
  obtain ⟨rfl, hsz, hP, hK, hD0, hN⟩ := hv
  have hx := B.exec
  have hb := B.bytes
  have hr := B.returns
  have hts := atoms_spec (ws := .code yX8_costOf cX8_costOf 3 (some .int) :: T0) B.pre
  have hT : ∀ w ∈ T0, w.before _ s = true := fun w h => hts w (List.mem_cons_of_mem _ h)
  have hown : s.vm.findClass RX8 = some m.cls := findClass_of_methodNamed B.named
  have hlocks := B.notSynchronized
  subst hsz
  have hD := hD0.self (sz := s.heap.size)
  generalize hAe : va_A (wM cA aa S L) s.heap.size = A at hD ⊢
  have hA : ∀ q : Nat, s.heap.size ≤ q → A q := fun q h => by rw [← hAe]; exact Or.inr h
  have hS : va_S A s.heap s.heap [] := va_S.rf
  have hl := lv_entry ([.ref (aa 0), .int x1, .int x2]) (n := 3) (Nat.le_of_ble_eq_true rfl)
  rw [lg_entry_eq]
  generalize (lg_sl ([.ref (aa 0), .int x1, .int x2]) ++ List.replicate (3 - (lg_sl ([.ref (aa 0), .int x1, .int x2])).length) Slot.unset).toArray = ls at hl ⊢
  have hl : lv_has ls 3 [(0, .ref (aa 0)), (1, .int x1), (2, .int x2)] := hl
  have F : tF p s m ([.ref (aa 0), .int x1, .int x2] : List Value).toArray meth c G cA A RX8 cX8_costOf 3 (some .int) := ⟨hx, hb, hr, hml, hT, hown, hlocks, hK, hN, hA⟩
  obtain ⟨H, hH⟩ : ∃ z, z = s.heap := ⟨_, rfl⟩
  rw [← hH] at hP
  have hS : va_S A s.heap H [] := by rw [hH]; exact hS
  suffices hgo : G_X8_costOf p l e s m below meth c G cA A aa S L x1 x2 r0 H [] (F0 m 0 ls []) by rw [hH] at hgo; exact hgo
  generalize ([] : List Loc) = locs at hS ⊢
  unfold f_X8_costOf at h
  refine lv_aload_n hx hb dX8_costOf_0 rfl (lv_at hl 0 rfl) ?_
  refine va_get (D := G) (ci := 8) (v := .ref (aa 60)) (C := RX8) (T := TX8) (N := 91) hx hb hT ku_8 hown hK hP 0 rfl rfl 59 (by decide) (hT _ kw_10_20) (fun _ h9 => h9) rfl dX8_costOf_1 ?_
  refine lv_bipush (v := 6) hx hb dX8_costOf_4 (by decide) ?_
  refine lv_aload_n hx hb dX8_costOf_6 rfl (lv_at hl 0 rfl) ?_
  refine va_get (D := G) (ci := 8) (v := .ref (aa 30)) (C := RX8) (T := TX8) (N := 91) hx hb hT ku_8 hown hK hP 0 rfl rfl 29 (by decide) (hT _ kw_9_21) (fun _ h9 => h9) rfl dX8_costOf_7 ?_
  refine lv_iload_n hx hb dX8_costOf_10 rfl (lv_at hl 1 rfl) ?_
  obtain ⟨g1, h⟩ := tx_ck h
  refine va_iald (i := x1) hx hb hK hP 11 0 rfl rfl (tx_in g1) dX8_costOf_11 ?_
  refine lv_iadd hx hb dX8_costOf_12 ?_
  obtain ⟨g2, h⟩ := tx_ck h
  refine va_iald (i := ((6 : Int32) + (S 30 x1.toNatClampNeg))) hx hb hK hP 34 0 rfl rfl (tx_in g2) dX8_costOf_13 ?_
  refine lv_aload_n hx hb dX8_costOf_14 rfl (lv_at hl 0 rfl) ?_
  refine va_get (D := G) (ci := 8) (v := .ref (aa 60)) (C := RX8) (T := TX8) (N := 91) hx hb hT ku_8 hown hK hP 0 rfl rfl 59 (by decide) (hT _ kw_10_20) (fun _ h9 => h9) rfl dX8_costOf_15 ?_
  refine lv_aload_n hx hb dX8_costOf_18 rfl (lv_at hl 0 rfl) ?_
  refine va_get (D := G) (ci := 8) (v := .ref (aa 30)) (C := RX8) (T := TX8) (N := 91) hx hb hT ku_8 hown hK hP 0 rfl rfl 29 (by decide) (hT _ kw_9_21) (fun _ h9 => h9) rfl dX8_costOf_19 ?_
  refine lv_iload_n hx hb dX8_costOf_22 rfl (lv_at hl 1 rfl) ?_
  refine va_iald (i := x1) hx hb hK hP 11 0 rfl rfl (tx_in g1) dX8_costOf_23 ?_
  obtain ⟨g3, h⟩ := tx_ck h
  refine va_iald (i := (S 30 x1.toNatClampNeg)) hx hb hK hP 34 0 rfl rfl (tx_in g3) dX8_costOf_24 ?_
  refine lv_isub hx hb dX8_costOf_25 ?_
  refine lv_iload_n hx hb dX8_costOf_26 rfl (lv_at hl 2 rfl) ?_
  refine lv_if_eq (tgt := 36) hx hb dX8_costOf_27 (by decide) (fun c4 => ?_) (fun c4 => ?_)
  · have h := tx_pos c4 h
    refine lv_iconst (v := 0) hx hb dX8_costOf_36 (by decide) ?_
    refine lv_iadd hx hb dX8_costOf_37 ?_
    obtain rfl := tx_1 h
    exact W.iret hx hb hr (fun t ht hW => ⟨⟨_, (), rfl, rfl, by rw [ht]; exact hP, hD⟩, hS.F ht⟩) hS.2.2 dX8_costOf_38
  · have h := tx_neg c4 h
    refine lv_sipush (v := 999) hx hb dX8_costOf_30 (by decide) ?_
    refine lv_goto (tgt := 37) hx hb dX8_costOf_33 (by decide) ?_
    refine lv_iadd hx hb dX8_costOf_37 ?_
    obtain rfl := tx_1 h
    exact W.iret hx hb hr (fun t ht hW => ⟨⟨_, (), rfl, rfl, by rw [ht]; exact hP, hD⟩, hS.F ht⟩) hS.2.2 dX8_costOf_38
abbrev G_X8_knownBy (p : Program) (l : Launch) (e : Env) (s : State) (m : MethodId) (below : List Frame) (meth : Method) (c : Code) (G : va_G) (cA : Nat → ClassId) (A : Nat → Prop) (aa : Nat → Nat) (S : Tr) (L : Lo) (r0 : Int32) (H : Heap) (locs : List Loc) (g : JFrame) : Prop := W p l e (headSpec (.code yX8_knownBy cX8_knownBy 1 (some .int) :: T0) ({ frames := 0, cells := 0, slots := 0, locals := 0 } : Room)).room s m ([.ref (aa 0)] : List Value).toArray below meth c H locs 0 0 (MQ below (tqQi G cA (fun (r : Int32) (_ : Unit) => r = r0) (fun (_ : Unit) => wM cA aa S L) A) ([.ref (aa 0)] : List Value).toArray s 0 0 A) g
set_option maxHeartbeats 4000000 in
set_option maxRecDepth 100000 in
theorem c_X8_knownBy (l : Launch) (G : va_G) (cA : Nat → ClassId) (sz : Nat) (aa : Nat → Nat) (S : Tr) (L : Lo)  (r0 : Int32) (h : f_X8_knownBy S = some r0) : Met l yX8_knownBy (.code yX8_knownBy cX8_knownBy 1 (some .int) :: T0) ({ frames := 0, cells := 0, slots := 0, locals := 0 } : Room) (tqP G cA [.ref (aa 0)] (wM cA aa S L) sz) (tqQi G cA (fun (r : Int32) (_ : Unit) => r = r0) (fun (_ : Unit) => wM cA aa S L) (va_A (wM cA aa S L) sz)) 0 0 (va_A (wM cA aa S L) sz) := by
  refine Met.ofW (cc := cX8_knownBy) (maxL := 1) (ret := (some .int)) (by decide) rfl ?_
  intro p e s m args below meth c s₁ B hml hv
  obtain ⟨rfl, hsz, hP, hK, hD0, hN⟩ := hv
  have hx := B.exec
  have hb := B.bytes
  have hr := B.returns
  have hts := atoms_spec (ws := .code yX8_knownBy cX8_knownBy 1 (some .int) :: T0) B.pre
  have hT : ∀ w ∈ T0, w.before _ s = true := fun w h => hts w (List.mem_cons_of_mem _ h)
  have hown : s.vm.findClass RX8 = some m.cls := findClass_of_methodNamed B.named
  have hlocks := B.notSynchronized
  subst hsz
  have hD := hD0.self (sz := s.heap.size)
  generalize hAe : va_A (wM cA aa S L) s.heap.size = A at hD ⊢
  have hA : ∀ q : Nat, s.heap.size ≤ q → A q := fun q h => by rw [← hAe]; exact Or.inr h
  have hS : va_S A s.heap s.heap [] := va_S.rf
  have hl := lv_entry ([.ref (aa 0)]) (n := 1) (Nat.le_of_ble_eq_true rfl)
  rw [lg_entry_eq]
  generalize (lg_sl ([.ref (aa 0)]) ++ List.replicate (1 - (lg_sl ([.ref (aa 0)])).length) Slot.unset).toArray = ls at hl ⊢
  have hl : lv_has ls 1 [(0, .ref (aa 0))] := hl
  have F : tF p s m ([.ref (aa 0)] : List Value).toArray meth c G cA A RX8 cX8_knownBy 1 (some .int) := ⟨hx, hb, hr, hml, hT, hown, hlocks, hK, hN, hA⟩
  obtain ⟨H, hH⟩ : ∃ z, z = s.heap := ⟨_, rfl⟩
  rw [← hH] at hP
  have hS : va_S A s.heap H [] := by rw [hH]; exact hS
  suffices hgo : G_X8_knownBy p l e s m below meth c G cA A aa S L r0 H [] (F0 m 0 ls []) by rw [hH] at hgo; exact hgo
  generalize ([] : List Loc) = locs at hS ⊢
  unfold f_X8_knownBy at h
  refine lv_aload_n hx hb dX8_knownBy_0 rfl (lv_at hl 0 rfl) ?_
  refine va_get (D := G) (ci := 8) (v := .int (S 0 79)) (C := RX8) (T := TX8) (N := 91) hx hb hT ku_8 hown hK hP 0 rfl rfl 79 (by decide) (hT _ kw_11_6) (fun _ h9 => h9) rfl dX8_knownBy_1 ?_
  refine lv_if_ge (tgt := 14) hx hb dX8_knownBy_4 (by decide) (fun c1 => ?_) (fun c1 => ?_)
  · have h := tx_pos c1 h
    refine lv_aload_n hx hb dX8_knownBy_14 rfl (lv_at hl 0 rfl) ?_
    refine va_get (D := G) (ci := 8) (v := .int (S 0 79)) (C := RX8) (T := TX8) (N := 91) hx hb hT ku_8 hown hK hP 0 rfl rfl 79 (by decide) (hT _ kw_11_6) (fun _ h9 => h9) rfl dX8_knownBy_15 ?_
    obtain rfl := tx_1 h
    exact W.iret hx hb hr (fun t ht hW => ⟨⟨_, (), rfl, rfl, by rw [ht]; exact hP, hD⟩, hS.F ht⟩) hS.2.2 dX8_knownBy_18
  · have h := tx_neg c1 h
    refine lv_aload_n hx hb dX8_knownBy_7 rfl (lv_at hl 0 rfl) ?_
    refine va_get (D := G) (ci := 8) (v := .int (S 0 78)) (C := RX8) (T := TX8) (N := 91) hx hb hT ku_8 hown hK hP 0 rfl rfl 78 (by decide) (hT _ kw_12_15) (fun _ h9 => h9) rfl dX8_knownBy_8 ?_
    refine lv_goto (tgt := 18) hx hb dX8_knownBy_11 (by decide) ?_
    obtain rfl := tx_1 h
    exact W.iret hx hb hr (fun t ht hW => ⟨⟨_, (), rfl, rfl, by rw [ht]; exact hP, hD⟩, hS.F ht⟩) hS.2.2 dX8_knownBy_18
abbrev G_X8_manyHow (p : Program) (l : Launch) (e : Env) (s : State) (m : MethodId) (below : List Frame) (meth : Method) (c : Code) (G : va_G) (cA : Nat → ClassId) (A : Nat → Prop) (aa : Nat → Nat) (S : Tr) (L : Lo) (x1 : Int32) (r0 : Int32) (H : Heap) (locs : List Loc) (g : JFrame) : Prop := W p l e (headSpec (.code yX8_manyHow cX8_manyHow 4 (some .int) :: T0) ({ frames := 0, cells := 0, slots := 0, locals := 0 } : Room)).room s m ([.ref (aa 0), .int x1] : List Value).toArray below meth c H locs 0 0 (MQ below (tqQi G cA (fun (r : Int32) (_ : Unit) => r = r0) (fun (_ : Unit) => wM cA aa S L) A) ([.ref (aa 0), .int x1] : List Value).toArray s 0 0 A) g
set_option maxHeartbeats 4000000 in
set_option maxRecDepth 100000 in
theorem w_X8_manyHow_L4 {p : Program} {l : Launch} {e : Env} {s : State} {m : MethodId} {below : List Frame} {meth : Method} {c : Code} {G : va_G} {cA : Nat → ClassId} {A : Nat → Prop} {aa : Nat → Nat} {S : Tr} {L : Lo} {x1₀ : Int32} {r0 : Int32} {x1 : Int32} (F : tF p s m ([.ref (aa 0), .int x1₀] : List Value).toArray meth c G cA A RX8 cX8_manyHow 4 (some .int))    (N : Nat) : ∀ (x2 : Int32) (x3 : Int32) (H : Heap) (locs : List Loc) (ls : Array Slot), lpF (fun _ _ => none) (fB_X8_manyHow_L4 S x1) N x2 x3 = some r0 → va_P G vwCl (wM cA aa S L) H → va_D A (wM cA aa S L) → va_S A s.heap H locs → lv_has ls 4 [(0, .ref (aa 0)), (1, .int x1), (2, .int x2), (3, .int x3)] → G_X8_manyHow p l e s m below meth c G cA A aa S L x1₀ r0 H locs (F0 m 4 ls []) := by
  obtain ⟨hx, hb, hr, hml, hT, hown, hlocks, hK, hN, hA⟩ := id F
  induction N with
  | zero =>
    intro x2 x3 H locs ls h
    have h : (none : Option (Int32)) = some r0 := h
    cases h
  | succ N hk4 =>
    intro x2 x3 H locs ls h hP hD hS hl
    have h : fB_X8_manyHow_L4 S x1 (lpF (fun _ _ => none) (fB_X8_manyHow_L4 S x1) N) x2 x3 = some r0 := h
    generalize hk4e : lpF (fun _ _ => none) (fB_X8_manyHow_L4 S x1) N = k4 at h hk4
    unfold fB_X8_manyHow_L4 at h
    refine lv_iload_n hx hb dX8_manyHow_4 rfl (lv_at hl 3 rfl) ?_
    refine lv_aload_n hx hb dX8_manyHow_5 rfl (lv_at hl 0 rfl) ?_
    refine va_get (D := G) (ci := 8) (v := .int (S 0 14)) (C := RX8) (T := TX8) (N := 91) hx hb hT ku_8 hown hK hP 0 rfl rfl 14 (by decide) (hT _ kw_12_5) (fun _ h9 => h9) rfl dX8_manyHow_6 ?_
    refine lv_icmp_ge (tgt := 36) hx hb dX8_manyHow_9 (by decide) (fun c1 => ?_) (fun c1 => ?_)
    · have h := tx_pos c1 h
      refine lv_iload_n hx hb dX8_manyHow_36 rfl (lv_at hl 2 rfl) ?_
      obtain rfl := tx_1 h
      exact W.iret hx hb hr (fun t ht hW => ⟨⟨_, (), rfl, rfl, by rw [ht]; exact hP, hD⟩, hS.F ht⟩) hS.2.2 dX8_manyHow_37
    · have h := tx_neg c1 h
      refine lv_iload_n hx hb dX8_manyHow_12 rfl (lv_at hl 2 rfl) ?_
      refine lv_aload_n hx hb dX8_manyHow_13 rfl (lv_at hl 0 rfl) ?_
      refine va_get (D := G) (ci := 8) (v := .ref (aa 53)) (C := RX8) (T := TX8) (N := 91) hx hb hT ku_8 hown hK hP 0 rfl rfl 52 (by decide) (hT _ kw_10_13) (fun _ h9 => h9) rfl dX8_manyHow_14 ?_
      refine lv_iload_n hx hb dX8_manyHow_17 rfl (lv_at hl 3 rfl) ?_
      obtain ⟨g2, h⟩ := tx_ck h
      refine va_iald (i := x3) hx hb hK hP 27 0 rfl rfl (tx_in g2) dX8_manyHow_18 ?_
      refine lv_iload_n hx hb dX8_manyHow_19 rfl (lv_at hl 1 rfl) ?_
      refine lv_icmp_ne (tgt := 27) hx hb dX8_manyHow_20 (by decide) (fun c3 => ?_) (fun c3 => ?_)
      · have h := tx_neg c3 h
        refine lv_iconst (v := 0) hx hb dX8_manyHow_27 (by decide) ?_
        refine lv_iadd hx hb dX8_manyHow_28 ?_
        refine lv_topi (fun y4 ey4 => ?_)
        have h := tx_let ey4 h
        refine lv_istore_n (lv' := [(2, .int y4), (0, .ref (aa 0)), (1, .int x1), (3, .int x3)]) hx hb dX8_manyHow_29 rfl hl (by decide) rfl (fun ls hl => ?_)
        obtain ⟨y5, ey5, h⟩ := tx_lt h
        refine lv_iinc (v := y5) (lv' := [(3, .int y5), (2, .int y4), (0, .ref (aa 0)), (1, .int x1)]) hx hb dX8_manyHow_30 hl (k := 3) rfl ey5 (by decide) rfl (fun ls hl => ?_)
        refine lv_goto (tgt := 4) hx hb dX8_manyHow_33 (by decide) ?_
        exact hk4 y4 y5 H locs ls h hP hD hS (lv_sub hl [2, 3, 1, 0] rfl)
      · have h := tx_pos c3 h
        refine lv_iconst (v := 1) hx hb dX8_manyHow_23 (by decide) ?_
        refine lv_goto (tgt := 28) hx hb dX8_manyHow_24 (by decide) ?_
        refine lv_iadd hx hb dX8_manyHow_28 ?_
        refine lv_topi (fun y6 ey6 => ?_)
        have h := tx_let ey6 h
        refine lv_istore_n (lv' := [(2, .int y6), (0, .ref (aa 0)), (1, .int x1), (3, .int x3)]) hx hb dX8_manyHow_29 rfl hl (by decide) rfl (fun ls hl => ?_)
        obtain ⟨y7, ey7, h⟩ := tx_lt h
        refine lv_iinc (v := y7) (lv' := [(3, .int y7), (2, .int y6), (0, .ref (aa 0)), (1, .int x1)]) hx hb dX8_manyHow_30 hl (k := 3) rfl ey7 (by decide) rfl (fun ls hl => ?_)
        refine lv_goto (tgt := 4) hx hb dX8_manyHow_33 (by decide) ?_
        exact hk4 y6 y7 H locs ls h hP hD hS (lv_sub hl [2, 3, 1, 0] rfl)
set_option maxHeartbeats 4000000 in
set_option maxRecDepth 100000 in
theorem c_X8_manyHow (l : Launch) (G : va_G) (cA : Nat → ClassId) (sz : Nat) (aa : Nat → Nat) (S : Tr) (L : Lo) (x1 : Int32)  (r0 : Int32) (h : f_X8_manyHow S x1 = some r0) : Met l yX8_manyHow (.code yX8_manyHow cX8_manyHow 4 (some .int) :: T0) ({ frames := 0, cells := 0, slots := 0, locals := 0 } : Room) (tqP G cA [.ref (aa 0), .int x1] (wM cA aa S L) sz) (tqQi G cA (fun (r : Int32) (_ : Unit) => r = r0) (fun (_ : Unit) => wM cA aa S L) (va_A (wM cA aa S L) sz)) 0 0 (va_A (wM cA aa S L) sz) := by
  refine Met.ofW (cc := cX8_manyHow) (maxL := 4) (ret := (some .int)) (by decide) rfl ?_
  intro p e s m args below meth c s₁ B hml hv
  obtain ⟨rfl, hsz, hP, hK, hD0, hN⟩ := hv
  have hx := B.exec
  have hb := B.bytes
  have hr := B.returns
  have hts := atoms_spec (ws := .code yX8_manyHow cX8_manyHow 4 (some .int) :: T0) B.pre
  have hT : ∀ w ∈ T0, w.before _ s = true := fun w h => hts w (List.mem_cons_of_mem _ h)
  have hown : s.vm.findClass RX8 = some m.cls := findClass_of_methodNamed B.named
  have hlocks := B.notSynchronized
  subst hsz
  have hD := hD0.self (sz := s.heap.size)
  generalize hAe : va_A (wM cA aa S L) s.heap.size = A at hD ⊢
  have hA : ∀ q : Nat, s.heap.size ≤ q → A q := fun q h => by rw [← hAe]; exact Or.inr h
  have hS : va_S A s.heap s.heap [] := va_S.rf
  have hl := lv_entry ([.ref (aa 0), .int x1]) (n := 4) (Nat.le_of_ble_eq_true rfl)
  rw [lg_entry_eq]
  generalize (lg_sl ([.ref (aa 0), .int x1]) ++ List.replicate (4 - (lg_sl ([.ref (aa 0), .int x1])).length) Slot.unset).toArray = ls at hl ⊢
  have hl : lv_has ls 4 [(0, .ref (aa 0)), (1, .int x1)] := hl
  have F : tF p s m ([.ref (aa 0), .int x1] : List Value).toArray meth c G cA A RX8 cX8_manyHow 4 (some .int) := ⟨hx, hb, hr, hml, hT, hown, hlocks, hK, hN, hA⟩
  obtain ⟨H, hH⟩ : ∃ z, z = s.heap := ⟨_, rfl⟩
  rw [← hH] at hP
  have hS : va_S A s.heap H [] := by rw [hH]; exact hS
  suffices hgo : G_X8_manyHow p l e s m below meth c G cA A aa S L x1 r0 H [] (F0 m 0 ls []) by rw [hH] at hgo; exact hgo
  generalize ([] : List Loc) = locs at hS ⊢
  unfold f_X8_manyHow at h
  refine lv_iconst (v := 0) hx hb dX8_manyHow_0 (by decide) ?_
  refine lv_istore_n (lv' := [(2, .int 0), (0, .ref (aa 0)), (1, .int x1)]) hx hb dX8_manyHow_1 rfl hl (by decide) rfl (fun ls hl => ?_)
  refine lv_iconst (v := 0) hx hb dX8_manyHow_2 (by decide) ?_
  refine lv_istore_n (lv' := [(3, .int 0), (2, .int 0), (0, .ref (aa 0)), (1, .int x1)]) hx hb dX8_manyHow_3 rfl hl (by decide) rfl (fun ls hl => ?_)
  exact w_X8_manyHow_L4 F 2000 0 0 H locs ls h hP hD hS (lv_sub hl [2, 3, 1, 0] rfl)
abbrev G_X8_count (p : Program) (l : Launch) (e : Env) (s : State) (m : MethodId) (below : List Frame) (meth : Method) (c : Code) (G : va_G) (cA : Nat → ClassId) (A : Nat → Prop) (aa : Nat → Nat) (L : Lo) (x1 : Int32) (r0 : Int32) (S' : Tr) (H : Heap) (locs : List Loc) (g : JFrame) : Prop := W p l e (headSpec (.code yX8_count cX8_count 4 (some .int) :: T0) ({ frames := 1, cells := 0, slots := 0, locals := 23 } : Room)).room s m ([.ref (aa 0), .int x1] : List Value).toArray below meth c H locs 0 0 (MQ below (tqQi G cA (fun (r : Int32) (_ : Unit) => r = r0) (fun (_ : Unit) => wM cA aa S' L) A) ([.ref (aa 0), .int x1] : List Value).toArray s 0 0 A) g
set_option maxHeartbeats 4000000 in
set_option maxRecDepth 100000 in
theorem w_X8_count_L154 {p : Program} {l : Launch} {e : Env} {s : State} {m : MethodId} {below : List Frame} {meth : Method} {c : Code} {G : va_G} {cA : Nat → ClassId} {A : Nat → Prop} {aa : Nat → Nat} {L : Lo} {x1₀ : Int32} {r0 : Int32} {S' : Tr} {S : Tr} (F : tF p s m ([.ref (aa 0), .int x1₀] : List Value).toArray meth c G cA A RX8 cX8_count 4 (some .int))    (N : Nat) : ∀ (x2 : Int32) (x3 : Int32) (H : Heap) (locs : List Loc) (ls : Array Slot), lpF (fun _ _ => none) (fB_X8_count_L154 S) N x2 x3 = some (r0, S') → va_P G vwCl (wM cA aa S L) H → va_D A (wM cA aa S L) → va_S A s.heap H locs → lv_has ls 4 [(0, .ref (aa 0)), (2, .int x2), (3, .int x3)] → G_X8_count p l e s m below meth c G cA A aa L x1₀ r0 S' H locs (F0 m 154 ls []) := by
  obtain ⟨hx, hb, hr, hml, hT, hown, hlocks, hK, hN, hA⟩ := id F
  induction N with
  | zero =>
    intro x2 x3 H locs ls h
    have h : (none : Option (Int32 × Tr)) = some (r0, S') := h
    cases h
  | succ N hk154 =>
    intro x2 x3 H locs ls h hP hD hS hl
    have h : fB_X8_count_L154 S (lpF (fun _ _ => none) (fB_X8_count_L154 S) N) x2 x3 = some (r0, S') := h
    generalize hk154e : lpF (fun _ _ => none) (fB_X8_count_L154 S) N = k154 at h hk154
    unfold fB_X8_count_L154 at h
    refine lv_iload_n hx hb dX8_count_154 rfl (lv_at hl 2 rfl) ?_
    refine lv_aload_n hx hb dX8_count_155 rfl (lv_at hl 0 rfl) ?_
    refine va_get (D := G) (ci := 8) (v := .int (S 0 13)) (C := RX8) (T := TX8) (N := 91) hx hb hT ku_8 hown hK hP 0 rfl rfl 13 (by decide) (hT _ kw_12_4) (fun _ h9 => h9) rfl dX8_count_156 ?_
    refine lv_icmp_ge (tgt := 186) hx hb dX8_count_159 (by decide) (fun c29 => ?_) (fun c29 => ?_)
    · have h := tx_pos c29 h
      refine lv_iload_n hx hb dX8_count_186 rfl (lv_at hl 1 rfl) ?_
      obtain ⟨rfl, rfl⟩ := tx_2 h
      exact W.iret hx hb hr (fun t ht hW => ⟨⟨_, (), rfl, rfl, by rw [ht]; exact hP, hD⟩, hS.F ht⟩) hS.2.2 dX8_count_187
    · have h := tx_neg c29 h
      refine lv_iload_n hx hb dX8_count_162 rfl (lv_at hl 1 rfl) ?_
      refine lv_aload_n hx hb dX8_count_163 rfl (lv_at hl 0 rfl) ?_
      refine va_get (D := G) (ci := 8) (v := .ref (aa 59)) (C := RX8) (T := TX8) (N := 91) hx hb hT ku_8 hown hK hP 0 rfl rfl 58 (by decide) (hT _ kw_10_19) (fun _ h9 => h9) rfl dX8_count_164 ?_
      refine lv_iload_n hx hb dX8_count_167 rfl (lv_at hl 2 rfl) ?_
      obtain ⟨g30, h⟩ := tx_ck h
      refine va_iald (i := x3) hx hb hK hP 33 0 rfl rfl (tx_in g30) dX8_count_168 ?_
      refine lv_iconst (v := 1) hx hb dX8_count_169 (by decide) ?_
      refine lv_icmp_ne (tgt := 177) hx hb dX8_count_170 (by decide) (fun c31 => ?_) (fun c31 => ?_)
      · have h := tx_neg c31 h
        refine lv_iconst (v := 0) hx hb dX8_count_177 (by decide) ?_
        refine lv_iadd hx hb dX8_count_178 ?_
        refine lv_topi (fun y32 ey32 => ?_)
        have h := tx_let ey32 h
        refine lv_istore_n (lv' := [(2, .int y32), (0, .ref (aa 0)), (3, .int x3)]) hx hb dX8_count_179 rfl hl (by decide) rfl (fun ls hl => ?_)
        obtain ⟨y33, ey33, h⟩ := tx_lt h
        refine lv_iinc (v := y33) (lv' := [(3, .int y33), (2, .int y32), (0, .ref (aa 0))]) hx hb dX8_count_180 hl (k := 2) rfl ey33 (by decide) rfl (fun ls hl => ?_)
        refine lv_goto (tgt := 154) hx hb dX8_count_183 (by decide) ?_
        exact hk154 y32 y33 H locs ls h hP hD hS (lv_sub hl [2, 1, 0] rfl)
      · have h := tx_pos c31 h
        refine lv_iconst (v := 1) hx hb dX8_count_173 (by decide) ?_
        refine lv_goto (tgt := 178) hx hb dX8_count_174 (by decide) ?_
        refine lv_iadd hx hb dX8_count_178 ?_
        refine lv_topi (fun y34 ey34 => ?_)
        have h := tx_let ey34 h
        refine lv_istore_n (lv' := [(2, .int y34), (0, .ref (aa 0)), (3, .int x3)]) hx hb dX8_count_179 rfl hl (by decide) rfl (fun ls hl => ?_)
        obtain ⟨y35, ey35, h⟩ := tx_lt h
        refine lv_iinc (v := y35) (lv' := [(3, .int y35), (2, .int y34), (0, .ref (aa 0))]) hx hb dX8_count_180 hl (k := 2) rfl ey35 (by decide) rfl (fun ls hl => ?_)
        refine lv_goto (tgt := 154) hx hb dX8_count_183 (by decide) ?_
        exact hk154 y34 y35 H locs ls h hP hD hS (lv_sub hl [2, 1, 0] rfl)
set_option maxHeartbeats 4000000 in
set_option maxRecDepth 100000 in
theorem c_X8_count (l : Launch) (G : va_G) (cA : Nat → ClassId) (sz : Nat) (aa : Nat → Nat) (S : Tr) (L : Lo) (x1 : Int32)  (r0 : Int32) (S' : Tr) (h : f_X8_count S x1 = some (r0, S')) : Met l yX8_count (.code yX8_count cX8_count 4 (some .int) :: T0) ({ frames := 1, cells := 0, slots := 0, locals := 23 } : Room) (tqP G cA [.ref (aa 0), .int x1] (wM cA aa S L) sz) (tqQi G cA (fun (r : Int32) (_ : Unit) => r = r0) (fun (_ : Unit) => wM cA aa S' L) (va_A (wM cA aa S L) sz)) 0 0 (va_A (wM cA aa S L) sz) := by
  refine Met.ofW (cc := cX8_count) (maxL := 4) (ret := (some .int)) (by decide) rfl ?_
  intro p e s m args below meth c s₁ B hml hv
  obtain ⟨rfl, hsz, hP, hK, hD0, hN⟩ := hv
  have hx := B.exec
  have hb := B.bytes
  have hr := B.returns
  have hts := atoms_spec (ws := .code yX8_count cX8_count 4 (some .int) :: T0) B.pre
  have hT : ∀ w ∈ T0, w.before _ s = true := fun w h => hts w (List.mem_cons_of_mem _ h)
  have hown : s.vm.findClass RX8 = some m.cls := findClass_of_methodNamed B.named
  have hlocks := B.notSynchronized
  subst hsz
  have hD := hD0.self (sz := s.heap.size)
  generalize hAe : va_A (wM cA aa S L) s.heap.size = A at hD ⊢
  have hA : ∀ q : Nat, s.heap.size ≤ q → A q := fun q h => by rw [← hAe]; exact Or.inr h
  have hS : va_S A s.heap s.heap [] := va_S.rf
  have hl := lv_entry ([.ref (aa 0), .int x1]) (n := 4) (Nat.le_of_ble_eq_true rfl)
  rw [lg_entry_eq]
  generalize (lg_sl ([.ref (aa 0), .int x1]) ++ List.replicate (4 - (lg_sl ([.ref (aa 0), .int x1])).length) Slot.unset).toArray = ls at hl ⊢
  have hl : lv_has ls 4 [(0, .ref (aa 0)), (1, .int x1)] := hl
  have F : tF p s m ([.ref (aa 0), .int x1] : List Value).toArray meth c G cA A RX8 cX8_count 4 (some .int) := ⟨hx, hb, hr, hml, hT, hown, hlocks, hK, hN, hA⟩
  obtain ⟨H, hH⟩ : ∃ z, z = s.heap := ⟨_, rfl⟩
  rw [← hH] at hP
  have hS : va_S A s.heap H [] := by rw [hH]; exact hS
  suffices hgo : G_X8_count p l e s m below meth c G cA A aa L x1 r0 S' H [] (F0 m 0 ls []) by rw [hH] at hgo; exact hgo
  generalize ([] : List Loc) = locs at hS ⊢
  unfold f_X8_count at h
  refine lv_aload_n hx hb dX8_count_0 rfl (lv_at hl 0 rfl) ?_
  refine lv_iconst (v := 0) hx hb dX8_count_1 (by decide) ?_
  refine va_put (D := G) (ci := 8) (v := .int 0) (ty := .int) (C := RX8) (T := TX8) (N := 91) hx hb hT ku_8 tyX8 tyX8_ok nmX8 hown hK hP hD hS 0 rfl rfl 2 (by decide) (hT _ kw_14_0) (fun _ h9 => h9) rfl (by decide +kernel) rfl rfl (Nat.le_of_ble_eq_true rfl) dX8_count_2 (fun H locs hP hD hS => ?_)
  obtain ⟨S_1, eS_1, h⟩ := tx_lt h
  rw [sM_f2, eS_1] at hP hD
  refine lv_iconst (v := 0) hx hb dX8_count_5 (by decide) ?_
  refine lv_istore_n (lv' := [(2, .int 0), (0, .ref (aa 0)), (1, .int x1)]) hx hb dX8_count_6 rfl hl (by decide) rfl (fun ls hl => ?_)
  refine lv_iload_n hx hb dX8_count_7 rfl (lv_at hl 2 rfl) ?_
  by_cases c2 : x1 = 0
  · have h := tx_pos c2 h
    refine lv_tableIn (off := 80) (tgt := 93) hx hb dX8_count_8 (by rw [c2]; decide) (by rw [c2]; decide) (by rw [c2]; decide) (by decide) ?_
    refine lv_aload_n hx hb dX8_count_88 rfl (lv_at hl 1 rfl) ?_
    refine va_get (D := G) (ci := 8) (v := .int (S_1 0 12)) (C := RX8) (T := TX8) (N := 91) hx hb hT ku_8 hown hK hP 0 rfl rfl 12 (by decide) (hT _ kw_12_3) (fun _ h9 => h9) rfl dX8_count_89 ?_
    obtain ⟨rfl, rfl⟩ := tx_2 h
    exact W.iret hx hb hr (fun t ht hW => ⟨⟨_, (), rfl, rfl, by rw [ht]; exact hP, hD⟩, hS.F ht⟩) hS.2.2 dX8_count_92
  · have h := tx_neg c2 h
    by_cases c3 : x1 = 1
    · have h := tx_pos c3 h
      refine lv_tableIn (off := 85) (tgt := 98) hx hb dX8_count_8 (by rw [c3]; decide) (by rw [c3]; decide) (by rw [c3]; decide) (by decide) ?_
      refine lv_aload_n hx hb dX8_count_93 rfl (lv_at hl 1 rfl) ?_
      refine va_get (D := G) (ci := 8) (v := .int (S_1 0 13)) (C := RX8) (T := TX8) (N := 91) hx hb hT ku_8 hown hK hP 0 rfl rfl 13 (by decide) (hT _ kw_12_4) (fun _ h9 => h9) rfl dX8_count_94 ?_
      obtain ⟨rfl, rfl⟩ := tx_2 h
      exact W.iret hx hb hr (fun t ht hW => ⟨⟨_, (), rfl, rfl, by rw [ht]; exact hP, hD⟩, hS.F ht⟩) hS.2.2 dX8_count_97
    · have h := tx_neg c3 h
      by_cases c4 : x1 = 2
      · have h := tx_pos c4 h
        refine lv_tableIn (off := 90) (tgt := 103) hx hb dX8_count_8 (by rw [c4]; decide) (by rw [c4]; decide) (by rw [c4]; decide) (by decide) ?_
        refine lv_aload_n hx hb dX8_count_98 rfl (lv_at hl 1 rfl) ?_
        refine va_get (D := G) (ci := 8) (v := .int (S_1 0 14)) (C := RX8) (T := TX8) (N := 91) hx hb hT ku_8 hown hK hP 0 rfl rfl 14 (by decide) (hT _ kw_12_5) (fun _ h9 => h9) rfl dX8_count_99 ?_
        obtain ⟨rfl, rfl⟩ := tx_2 h
        exact W.iret hx hb hr (fun t ht hW => ⟨⟨_, (), rfl, rfl, by rw [ht]; exact hP, hD⟩, hS.F ht⟩) hS.2.2 dX8_count_102
      · have h := tx_neg c4 h
        by_cases c5 : x1 = 3
        · have h := tx_pos c5 h
          refine lv_tableIn (off := 95) (tgt := 108) hx hb dX8_count_8 (by rw [c5]; decide) (by rw [c5]; decide) (by rw [c5]; decide) (by decide) ?_
          refine lv_aload_n hx hb dX8_count_103 rfl (lv_at hl 1 rfl) ?_
          refine va_get (D := G) (ci := 8) (v := .int (S_1 0 15)) (C := RX8) (T := TX8) (N := 91) hx hb hT ku_8 hown hK hP 0 rfl rfl 15 (by decide) (hT _ kw_12_6) (fun _ h9 => h9) rfl dX8_count_104 ?_
          obtain ⟨rfl, rfl⟩ := tx_2 h
          exact W.iret hx hb hr (fun t ht hW => ⟨⟨_, (), rfl, rfl, by rw [ht]; exact hP, hD⟩, hS.F ht⟩) hS.2.2 dX8_count_107
        · have h := tx_neg c5 h
          by_cases c6 : x1 = 4
          · have h := tx_pos c6 h
            refine lv_tableIn (off := 100) (tgt := 115) hx hb dX8_count_8 (by rw [c6]; decide) (by rw [c6]; decide) (by rw [c6]; decide) (by decide) ?_
            refine lv_aload_n hx hb dX8_count_108 rfl (lv_at hl 1 rfl) ?_
            refine va_get (D := G) (ci := 8) (v := .ref (aa 62)) (C := RX8) (T := TX8) (N := 91) hx hb hT ku_8 hown hK hP 0 rfl rfl 61 (by decide) (hT _ kw_10_22) (fun _ h9 => h9) rfl dX8_count_109 ?_
            refine lv_iconst (v := 0) hx hb dX8_count_112 (by decide) ?_
            refine va_iald (i := 0) hx hb hK hP 36 0 rfl rfl (tq_in (by decide)) dX8_count_113 ?_
            refine tq_i (w := (S_1 62 0)) rfl ?_
            obtain ⟨rfl, rfl⟩ := tx_2 h
            exact W.iret hx hb hr (fun t ht hW => ⟨⟨_, (), rfl, rfl, by rw [ht]; exact hP, hD⟩, hS.F ht⟩) hS.2.2 dX8_count_114
          · have h := tx_neg c6 h
            by_cases c7 : x1 = 5
            · have h := tx_pos c7 h
              refine lv_tableIn (off := 107) (tgt := 122) hx hb dX8_count_8 (by rw [c7]; decide) (by rw [c7]; decide) (by rw [c7]; decide) (by decide) ?_
              refine lv_aload_n hx hb dX8_count_115 rfl (lv_at hl 1 rfl) ?_
              refine va_get (D := G) (ci := 8) (v := .ref (aa 61)) (C := RX8) (T := TX8) (N := 91) hx hb hT ku_8 hown hK hP 0 rfl rfl 60 (by decide) (hT _ kw_10_21) (fun _ h9 => h9) rfl dX8_count_116 ?_
              refine lv_iconst (v := 0) hx hb dX8_count_119 (by decide) ?_
              refine va_iald (i := 0) hx hb hK hP 35 0 rfl rfl (tq_in (by decide)) dX8_count_120 ?_
              refine tq_i (w := (S_1 61 0)) rfl ?_
              obtain ⟨rfl, rfl⟩ := tx_2 h
              exact W.iret hx hb hr (fun t ht hW => ⟨⟨_, (), rfl, rfl, by rw [ht]; exact hP, hD⟩, hS.F ht⟩) hS.2.2 dX8_count_121
            · have h := tx_neg c7 h
              by_cases c8 : x1 = 6
              · have h := tx_pos c8 h
                refine lv_tableIn (off := 114) (tgt := 128) hx hb dX8_count_8 (by rw [c8]; decide) (by rw [c8]; decide) (by rw [c8]; decide) (by decide) ?_
                refine lv_aload_n hx hb dX8_count_122 rfl (lv_at hl 1 rfl) ?_
                refine lv_iconst (v := 1) hx hb dX8_count_123 (by decide) ?_
                obtain ⟨r9, hc10, h⟩ := tx_bd h
                refine tw_ci tw_all hP hD hS hA (va_runV (As := [.int 1]) (rest := []) ⟨hx, hb, hml, hown, hT⟩ (c_X8_manyHow l G cA H.size aa S_1 L (1 : Int32)  r9 hc10) (cwV 1 hT (tq_gV kw_60_10 kw_60_11 kw_60_12 kw_1_5 kw_60_13) rfl rfl rfl (by decide +kernel) ⟨Nat.le_of_ble_eq_true rfl, Nat.le_of_ble_eq_true rfl⟩) ⟨(tw_pre tw_all hP hD hK hN).1, va_recv hK hP (ci := 8) (q0 := 0) rfl rfl, (tw_pre tw_all hP hD hK hN).2⟩ rfl rfl hl.1 rfl (lv_room (Nat.le_of_ble_eq_true rfl)) dX8_count_124 ⟨Nat.le_of_ble_eq_true rfl, Nat.le_of_ble_eq_true rfl⟩) (fun _ _ H locs z11 hP hD hS => ?_)
                subst z11
                rw [List.append_nil] at hP hD
                have hP : va_P G vwCl (wM cA aa S_1 L) H := hP
                have hD : va_D A (wM cA aa S_1 L) := hD
                obtain ⟨rfl, rfl⟩ := tx_2 h
                exact W.iret hx hb hr (fun t ht hW => ⟨⟨_, (), rfl, rfl, by rw [ht]; exact hP, hD⟩, hS.F ht⟩) hS.2.2 dX8_count_127
              · have h := tx_neg c8 h
                by_cases c12 : x1 = 7
                · have h := tx_pos c12 h
                  refine lv_tableIn (off := 120) (tgt := 134) hx hb dX8_count_8 (by rw [c12]; decide) (by rw [c12]; decide) (by rw [c12]; decide) (by decide) ?_
                  refine lv_aload_n hx hb dX8_count_128 rfl (lv_at hl 1 rfl) ?_
                  refine lv_iconst (v := 2) hx hb dX8_count_129 (by decide) ?_
                  obtain ⟨r13, hc14, h⟩ := tx_bd h
                  refine tw_ci tw_all hP hD hS hA (va_runV (As := [.int 2]) (rest := []) ⟨hx, hb, hml, hown, hT⟩ (c_X8_manyHow l G cA H.size aa S_1 L (2 : Int32)  r13 hc14) (cwV 1 hT (tq_gV kw_60_10 kw_60_11 kw_60_12 kw_1_5 kw_60_13) rfl rfl rfl (by decide +kernel) ⟨Nat.le_of_ble_eq_true rfl, Nat.le_of_ble_eq_true rfl⟩) ⟨(tw_pre tw_all hP hD hK hN).1, va_recv hK hP (ci := 8) (q0 := 0) rfl rfl, (tw_pre tw_all hP hD hK hN).2⟩ rfl rfl hl.1 rfl (lv_room (Nat.le_of_ble_eq_true rfl)) dX8_count_130 ⟨Nat.le_of_ble_eq_true rfl, Nat.le_of_ble_eq_true rfl⟩) (fun _ _ H locs z15 hP hD hS => ?_)
                  subst z15
                  rw [List.append_nil] at hP hD
                  have hP : va_P G vwCl (wM cA aa S_1 L) H := hP
                  have hD : va_D A (wM cA aa S_1 L) := hD
                  obtain ⟨rfl, rfl⟩ := tx_2 h
                  exact W.iret hx hb hr (fun t ht hW => ⟨⟨_, (), rfl, rfl, by rw [ht]; exact hP, hD⟩, hS.F ht⟩) hS.2.2 dX8_count_133
                · have h := tx_neg c12 h
                  by_cases c16 : x1 = 8
                  · have h := tx_pos c16 h
                    refine lv_tableIn (off := 126) (tgt := 140) hx hb dX8_count_8 (by rw [c16]; decide) (by rw [c16]; decide) (by rw [c16]; decide) (by decide) ?_
                    refine lv_aload_n hx hb dX8_count_134 rfl (lv_at hl 1 rfl) ?_
                    refine lv_iconst (v := 3) hx hb dX8_count_135 (by decide) ?_
                    obtain ⟨r17, hc18, h⟩ := tx_bd h
                    refine tw_ci tw_all hP hD hS hA (va_runV (As := [.int 3]) (rest := []) ⟨hx, hb, hml, hown, hT⟩ (c_X8_manyHow l G cA H.size aa S_1 L (3 : Int32)  r17 hc18) (cwV 1 hT (tq_gV kw_60_10 kw_60_11 kw_60_12 kw_1_5 kw_60_13) rfl rfl rfl (by decide +kernel) ⟨Nat.le_of_ble_eq_true rfl, Nat.le_of_ble_eq_true rfl⟩) ⟨(tw_pre tw_all hP hD hK hN).1, va_recv hK hP (ci := 8) (q0 := 0) rfl rfl, (tw_pre tw_all hP hD hK hN).2⟩ rfl rfl hl.1 rfl (lv_room (Nat.le_of_ble_eq_true rfl)) dX8_count_136 ⟨Nat.le_of_ble_eq_true rfl, Nat.le_of_ble_eq_true rfl⟩) (fun _ _ H locs z19 hP hD hS => ?_)
                    subst z19
                    rw [List.append_nil] at hP hD
                    have hP : va_P G vwCl (wM cA aa S_1 L) H := hP
                    have hD : va_D A (wM cA aa S_1 L) := hD
                    obtain ⟨rfl, rfl⟩ := tx_2 h
                    exact W.iret hx hb hr (fun t ht hW => ⟨⟨_, (), rfl, rfl, by rw [ht]; exact hP, hD⟩, hS.F ht⟩) hS.2.2 dX8_count_139
                  · have h := tx_neg c16 h
                    by_cases c20 : x1 = 9
                    · have h := tx_pos c20 h
                      refine lv_tableIn (off := 132) (tgt := 146) hx hb dX8_count_8 (by rw [c20]; decide) (by rw [c20]; decide) (by rw [c20]; decide) (by decide) ?_
                      refine lv_aload_n hx hb dX8_count_140 rfl (lv_at hl 1 rfl) ?_
                      refine lv_iconst (v := 4) hx hb dX8_count_141 (by decide) ?_
                      obtain ⟨r21, hc22, h⟩ := tx_bd h
                      refine tw_ci tw_all hP hD hS hA (va_runV (As := [.int 4]) (rest := []) ⟨hx, hb, hml, hown, hT⟩ (c_X8_manyHow l G cA H.size aa S_1 L (4 : Int32)  r21 hc22) (cwV 1 hT (tq_gV kw_60_10 kw_60_11 kw_60_12 kw_1_5 kw_60_13) rfl rfl rfl (by decide +kernel) ⟨Nat.le_of_ble_eq_true rfl, Nat.le_of_ble_eq_true rfl⟩) ⟨(tw_pre tw_all hP hD hK hN).1, va_recv hK hP (ci := 8) (q0 := 0) rfl rfl, (tw_pre tw_all hP hD hK hN).2⟩ rfl rfl hl.1 rfl (lv_room (Nat.le_of_ble_eq_true rfl)) dX8_count_142 ⟨Nat.le_of_ble_eq_true rfl, Nat.le_of_ble_eq_true rfl⟩) (fun _ _ H locs z23 hP hD hS => ?_)
                      subst z23
                      rw [List.append_nil] at hP hD
                      have hP : va_P G vwCl (wM cA aa S_1 L) H := hP
                      have hD : va_D A (wM cA aa S_1 L) := hD
                      obtain ⟨rfl, rfl⟩ := tx_2 h
                      exact W.iret hx hb hr (fun t ht hW => ⟨⟨_, (), rfl, rfl, by rw [ht]; exact hP, hD⟩, hS.F ht⟩) hS.2.2 dX8_count_145
                    · have h := tx_neg c20 h
                      by_cases c24 : x1 = 10
                      · have h := tx_pos c24 h
                        refine lv_tableIn (off := 138) (tgt := 152) hx hb dX8_count_8 (by rw [c24]; decide) (by rw [c24]; decide) (by rw [c24]; decide) (by decide) ?_
                        refine lv_aload_n hx hb dX8_count_146 rfl (lv_at hl 1 rfl) ?_
                        refine lv_iconst (v := 5) hx hb dX8_count_147 (by decide) ?_
                        obtain ⟨r25, hc26, h⟩ := tx_bd h
                        refine tw_ci tw_all hP hD hS hA (va_runV (As := [.int 5]) (rest := []) ⟨hx, hb, hml, hown, hT⟩ (c_X8_manyHow l G cA H.size aa S_1 L (5 : Int32)  r25 hc26) (cwV 1 hT (tq_gV kw_60_10 kw_60_11 kw_60_12 kw_1_5 kw_60_13) rfl rfl rfl (by decide +kernel) ⟨Nat.le_of_ble_eq_true rfl, Nat.le_of_ble_eq_true rfl⟩) ⟨(tw_pre tw_all hP hD hK hN).1, va_recv hK hP (ci := 8) (q0 := 0) rfl rfl, (tw_pre tw_all hP hD hK hN).2⟩ rfl rfl hl.1 rfl (lv_room (Nat.le_of_ble_eq_true rfl)) dX8_count_148 ⟨Nat.le_of_ble_eq_true rfl, Nat.le_of_ble_eq_true rfl⟩) (fun _ _ H locs z27 hP hD hS => ?_)
                        subst z27
                        rw [List.append_nil] at hP hD
                        have hP : va_P G vwCl (wM cA aa S_1 L) H := hP
                        have hD : va_D A (wM cA aa S_1 L) := hD
                        obtain ⟨rfl, rfl⟩ := tx_2 h
                        exact W.iret hx hb hr (fun t ht hW => ⟨⟨_, (), rfl, rfl, by rw [ht]; exact hP, hD⟩, hS.F ht⟩) hS.2.2 dX8_count_151
                      · have h := tx_neg c24 h
                        by_cases c28 : x1 = 11
                        · have h := tx_pos c28 h
                          refine lv_tableIn (off := 144) (tgt := 154) hx hb dX8_count_8 (by rw [c28]; decide) (by rw [c28]; decide) (by rw [c28]; decide) (by decide) ?_
                          refine lv_iconst (v := 0) hx hb dX8_count_152 (by decide) ?_
                          refine lv_istore_n (lv' := [(3, .int 0), (2, .int 0), (0, .ref (aa 0)), (1, .int x1)]) hx hb dX8_count_153 rfl hl (by decide) rfl (fun ls hl => ?_)
                          exact w_X8_count_L154 F 2000 0 0 H locs ls h hP hD hS (lv_sub hl [2, 1, 0] rfl)
                        · have h := tx_neg c28 h
                          by_cases c36 : x1 = 12
                          · have h := tx_pos c36 h
                            refine lv_tableIn (off := 180) (tgt := 195) hx hb dX8_count_8 (by rw [c36]; decide) (by rw [c36]; decide) (by rw [c36]; decide) (by decide) ?_
                            refine lv_aload_n hx hb dX8_count_188 rfl (lv_at hl 1 rfl) ?_
                            refine va_get (D := G) (ci := 8) (v := .ref (aa 23)) (C := RX8) (T := TX8) (N := 91) hx hb hT ku_8 hown hK hP 0 rfl rfl 22 (by decide) (hT _ kw_9_14) (fun _ h9 => h9) rfl dX8_count_189 ?_
                            refine lv_iconst (v := 0) hx hb dX8_count_192 (by decide) ?_
                            refine va_iald (i := 0) hx hb hK hP 4 0 rfl rfl (tq_in (by decide)) dX8_count_193 ?_
                            refine tq_i (w := (S_1 23 0)) rfl ?_
                            obtain ⟨rfl, rfl⟩ := tx_2 h
                            exact W.iret hx hb hr (fun t ht hW => ⟨⟨_, (), rfl, rfl, by rw [ht]; exact hP, hD⟩, hS.F ht⟩) hS.2.2 dX8_count_194
                          · have h := tx_neg c36 h
                            by_cases c37 : x1 = 13
                            · have h := tx_pos c37 h
                              refine lv_tableIn (off := 187) (tgt := 200) hx hb dX8_count_8 (by rw [c37]; decide) (by rw [c37]; decide) (by rw [c37]; decide) (by decide) ?_
                              refine lv_aload_n hx hb dX8_count_195 rfl (lv_at hl 1 rfl) ?_
                              refine va_get (D := G) (ci := 8) (v := .int (S_1 0 78)) (C := RX8) (T := TX8) (N := 91) hx hb hT ku_8 hown hK hP 0 rfl rfl 78 (by decide) (hT _ kw_12_15) (fun _ h9 => h9) rfl dX8_count_196 ?_
                              obtain ⟨rfl, rfl⟩ := tx_2 h
                              exact W.iret hx hb hr (fun t ht hW => ⟨⟨_, (), rfl, rfl, by rw [ht]; exact hP, hD⟩, hS.F ht⟩) hS.2.2 dX8_count_199
                            · have h := tx_neg c37 h
                              by_cases c38 : x1 = 14
                              · have h := tx_pos c38 h
                                refine lv_tableIn (off := 192) (tgt := 205) hx hb dX8_count_8 (by rw [c38]; decide) (by rw [c38]; decide) (by rw [c38]; decide) (by decide) ?_
                                refine lv_aload_n hx hb dX8_count_200 rfl (lv_at hl 1 rfl) ?_
                                obtain ⟨r39, hc40, h⟩ := tx_bd h
                                refine tw_ci tw_all hP hD hS hA (va_runV (As := []) (rest := []) ⟨hx, hb, hml, hown, hT⟩ (c_X8_knownBy l G cA H.size aa S_1 L  r39 hc40) (cwV 0 hT (tq_gV kw_56_10 kw_56_11 kw_56_12 kw_1_5 kw_56_13) rfl rfl rfl (by decide +kernel) ⟨Nat.le_of_ble_eq_true rfl, Nat.le_of_ble_eq_true rfl⟩) ⟨(tw_pre tw_all hP hD hK hN).1, va_recv hK hP (ci := 8) (q0 := 0) rfl rfl, (tw_pre tw_all hP hD hK hN).2⟩ rfl rfl hl.1 rfl (lv_room (Nat.le_of_ble_eq_true rfl)) dX8_count_201 ⟨Nat.le_of_ble_eq_true rfl, Nat.le_of_ble_eq_true rfl⟩) (fun _ _ H locs z41 hP hD hS => ?_)
                                subst z41
                                rw [List.append_nil] at hP hD
                                have hP : va_P G vwCl (wM cA aa S_1 L) H := hP
                                have hD : va_D A (wM cA aa S_1 L) := hD
                                obtain ⟨rfl, rfl⟩ := tx_2 h
                                exact W.iret hx hb hr (fun t ht hW => ⟨⟨_, (), rfl, rfl, by rw [ht]; exact hP, hD⟩, hS.F ht⟩) hS.2.2 dX8_count_204
                              · have h := tx_neg c38 h
                                by_cases c42 : x1 = 15
                                · have h := tx_pos c42 h
                                  refine lv_tableIn (off := 197) (tgt := 210) hx hb dX8_count_8 (by rw [c42]; decide) (by rw [c42]; decide) (by rw [c42]; decide) (by decide) ?_
                                  refine lv_aload_n hx hb dX8_count_205 rfl (lv_at hl 1 rfl) ?_
                                  refine va_get (D := G) (ci := 8) (v := .int (S_1 0 82)) (C := RX8) (T := TX8) (N := 91) hx hb hT ku_8 hown hK hP 0 rfl rfl 82 (by decide) (hT _ kw_12_16) (fun _ h9 => h9) rfl dX8_count_206 ?_
                                  obtain ⟨rfl, rfl⟩ := tx_2 h
                                  exact W.iret hx hb hr (fun t ht hW => ⟨⟨_, (), rfl, rfl, by rw [ht]; exact hP, hD⟩, hS.F ht⟩) hS.2.2 dX8_count_209
                                · have h := tx_neg c42 h
                                  have kc2 := tq_eqn (a := x1.toInt) (b := 0) rfl (by decide) c2
                                  have kc3 := tq_eqn (a := x1.toInt) (b := 1) rfl (by decide) c3
                                  have kc4 := tq_eqn (a := x1.toInt) (b := 2) rfl (by decide) c4
                                  have kc5 := tq_eqn (a := x1.toInt) (b := 3) rfl (by decide) c5
                                  have kc6 := tq_eqn (a := x1.toInt) (b := 4) rfl (by decide) c6
                                  have kc7 := tq_eqn (a := x1.toInt) (b := 5) rfl (by decide) c7
                                  have kc8 := tq_eqn (a := x1.toInt) (b := 6) rfl (by decide) c8
                                  have kc12 := tq_eqn (a := x1.toInt) (b := 7) rfl (by decide) c12
                                  have kc16 := tq_eqn (a := x1.toInt) (b := 8) rfl (by decide) c16
                                  have kc20 := tq_eqn (a := x1.toInt) (b := 9) rfl (by decide) c20
                                  have kc24 := tq_eqn (a := x1.toInt) (b := 10) rfl (by decide) c24
                                  have kc28 := tq_eqn (a := x1.toInt) (b := 11) rfl (by decide) c28
                                  have kc36 := tq_eqn (a := x1.toInt) (b := 12) rfl (by decide) c36
                                  have kc37 := tq_eqn (a := x1.toInt) (b := 13) rfl (by decide) c37
                                  have kc38 := tq_eqn (a := x1.toInt) (b := 14) rfl (by decide) c38
                                  have kc42 := tq_eqn (a := x1.toInt) (b := 15) rfl (by decide) c42
                                  refine lv_tableOut (tgt := 210) hx hb dX8_count_8 (by omega) (by decide) ?_
                                  refine lv_iconst (v := (-1)) hx hb dX8_count_210 (by decide) ?_
                                  obtain ⟨rfl, rfl⟩ := tx_2 h
                                  exact W.iret hx hb hr (fun t ht hW => ⟨⟨_, (), rfl, rfl, by rw [ht]; exact hP, hD⟩, hS.F ht⟩) hS.2.2 dX8_count_211
abbrev G_X8_fails (p : Program) (l : Launch) (e : Env) (s : State) (m : MethodId) (below : List Frame) (meth : Method) (c : Code) (G : va_G) (cA : Nat → ClassId) (A : Nat → Prop) (aa : Nat → Nat) (L : Lo) (x1 : Int32) (r0 : Int32) (S' : Tr) (H : Heap) (locs : List Loc) (g : JFrame) : Prop := W p l e (headSpec (.code yX8_fails cX8_fails 2 (some .int) :: T0) ({ frames := 0, cells := 0, slots := 0, locals := 0 } : Room)).room s m ([.ref (aa 0), .int x1] : List Value).toArray below meth c H locs 0 0 (MQ below (tqQi G cA (fun (r : Int32) (_ : Unit) => r = r0) (fun (_ : Unit) => wM cA aa S' L) A) ([.ref (aa 0), .int x1] : List Value).toArray s 0 0 A) g
set_option maxHeartbeats 4000000 in
set_option maxRecDepth 100000 in
theorem c_X8_fails (l : Launch) (G : va_G) (cA : Nat → ClassId) (sz : Nat) (aa : Nat → Nat) (S : Tr) (L : Lo) (x1 : Int32)  (r0 : Int32) (S' : Tr) (h : f_X8_fails S x1 = some (r0, S')) : Met l yX8_fails (.code yX8_fails cX8_fails 2 (some .int) :: T0) ({ frames := 0, cells := 0, slots := 0, locals := 0 } : Room) (tqP G cA [.ref (aa 0), .int x1] (wM cA aa S L) sz) (tqQi G cA (fun (r : Int32) (_ : Unit) => r = r0) (fun (_ : Unit) => wM cA aa S' L) (va_A (wM cA aa S L) sz)) 0 0 (va_A (wM cA aa S L) sz) := by
  refine Met.ofW (cc := cX8_fails) (maxL := 2) (ret := (some .int)) (by decide) rfl ?_
  intro p e s m args below meth c s₁ B hml hv
  obtain ⟨rfl, hsz, hP, hK, hD0, hN⟩ := hv
  have hx := B.exec
  have hb := B.bytes
  have hr := B.returns
  have hts := atoms_spec (ws := .code yX8_fails cX8_fails 2 (some .int) :: T0) B.pre
  have hT : ∀ w ∈ T0, w.before _ s = true := fun w h => hts w (List.mem_cons_of_mem _ h)
  have hown : s.vm.findClass RX8 = some m.cls := findClass_of_methodNamed B.named
  have hlocks := B.notSynchronized
  subst hsz
  have hD := hD0.self (sz := s.heap.size)
  generalize hAe : va_A (wM cA aa S L) s.heap.size = A at hD ⊢
  have hA : ∀ q : Nat, s.heap.size ≤ q → A q := fun q h => by rw [← hAe]; exact Or.inr h
  have hS : va_S A s.heap s.heap [] := va_S.rf
  have hl := lv_entry ([.ref (aa 0), .int x1]) (n := 2) (Nat.le_of_ble_eq_true rfl)
  rw [lg_entry_eq]
  generalize (lg_sl ([.ref (aa 0), .int x1]) ++ List.replicate (2 - (lg_sl ([.ref (aa 0), .int x1])).length) Slot.unset).toArray = ls at hl ⊢
  have hl : lv_has ls 2 [(0, .ref (aa 0)), (1, .int x1)] := hl
  have F : tF p s m ([.ref (aa 0), .int x1] : List Value).toArray meth c G cA A RX8 cX8_fails 2 (some .int) := ⟨hx, hb, hr, hml, hT, hown, hlocks, hK, hN, hA⟩
  obtain ⟨H, hH⟩ : ∃ z, z = s.heap := ⟨_, rfl⟩
  rw [← hH] at hP
  have hS : va_S A s.heap H [] := by rw [hH]; exact hS
  suffices hgo : G_X8_fails p l e s m below meth c G cA A aa L x1 r0 S' H [] (F0 m 0 ls []) by rw [hH] at hgo; exact hgo
  generalize ([] : List Loc) = locs at hS ⊢
  unfold f_X8_fails at h
  refine lv_aload_n hx hb dX8_fails_0 rfl (lv_at hl 0 rfl) ?_
  refine lv_iload_n hx hb dX8_fails_1 rfl (lv_at hl 1 rfl) ?_
  refine va_put (D := G) (ci := 8) (v := .int x1) (ty := .int) (C := RX8) (T := TX8) (N := 91) hx hb hT ku_8 tyX8 tyX8_ok nmX8 hown hK hP hD hS 0 rfl rfl 2 (by decide) (hT _ kw_14_0) (fun _ h9 => h9) rfl (by decide +kernel) rfl rfl (Nat.le_of_ble_eq_true rfl) dX8_fails_2 (fun H locs hP hD hS => ?_)
  obtain ⟨S_1, eS_1, h⟩ := tx_lt h
  rw [sM_f2, eS_1] at hP hD
  refine lv_iconst (v := 0) hx hb dX8_fails_5 (by decide) ?_
  obtain ⟨rfl, rfl⟩ := tx_2 h
  exact W.iret hx hb hr (fun t ht hW => ⟨⟨_, (), rfl, rfl, by rw [ht]; exact hP, hD⟩, hS.F ht⟩) hS.2.2 dX8_fails_6
abbrev G_X8_falls (p : Program) (l : Launch) (e : Env) (s : State) (m : MethodId) (below : List Frame) (meth : Method) (c : Code) (G : va_G) (cA : Nat → ClassId) (A : Nat → Prop) (aa : Nat → Nat) (r0 : Int32) (S' : Tr) (L' : Lo) (H : Heap) (locs : List Loc) (g : JFrame) : Prop := W p l e (headSpec (.code yX8_falls cX8_falls 3 (some .int) :: T0) ({ frames := 8, cells := 0, slots := 0, locals := 191 } : Room)).room s m ([.ref (aa 0)] : List Value).toArray below meth c H locs 0 0 (MQ below (tqQi G cA (fun (r : Int32) (_ : Unit) => r = r0) (fun (_ : Unit) => wM cA aa S' L') A) ([.ref (aa 0)] : List Value).toArray s 0 0 A) g
set_option maxHeartbeats 4000000 in
set_option maxRecDepth 100000 in
theorem w_X8_falls_L31 {p : Program} {l : Launch} {e : Env} {s : State} {m : MethodId} {below : List Frame} {meth : Method} {c : Code} {G : va_G} {cA : Nat → ClassId} {A : Nat → Prop} {aa : Nat → Nat} {r0 : Int32} {S' : Tr} {L' : Lo} {S : Tr} {L : Lo} (F : tF p s m ([.ref (aa 0)] : List Value).toArray meth c G cA A RX8 cX8_falls 3 (some .int))    (N : Nat) : ∀ (x1 : Int32) (x2 : Int32) (H : Heap) (locs : List Loc) (ls : Array Slot), lpF (fun _ _ => none) (fB_X8_falls_L31 S L) N x1 x2 = some (r0, S', L') → va_P G vwCl (wM cA aa S L) H → va_D A (wM cA aa S L) → va_S A s.heap H locs → lv_has ls 3 [(0, .ref (aa 0)), (1, .int x1), (2, .int x2)] → G_X8_falls p l e s m below meth c G cA A aa r0 S' L' H locs (F0 m 31 ls []) := by
  obtain ⟨hx, hb, hr, hml, hT, hown, hlocks, hK, hN, hA⟩ := id F
  induction N with
  | zero =>
    intro x1 x2 H locs ls h
    have h : (none : Option (Int32 × Tr × Lo)) = some (r0, S', L') := h
    cases h
  | succ N hk31 =>
    intro x1 x2 H locs ls h hP hD hS hl
    have h : fB_X8_falls_L31 S L (lpF (fun _ _ => none) (fB_X8_falls_L31 S L) N) x1 x2 = some (r0, S', L') := h
    generalize hk31e : lpF (fun _ _ => none) (fB_X8_falls_L31 S L) N = k31 at h hk31
    unfold fB_X8_falls_L31 at h
    refine lv_iload_n hx hb dX8_falls_31 rfl (lv_at hl 2 rfl) ?_
    refine lv_aload_n hx hb dX8_falls_32 rfl (lv_at hl 0 rfl) ?_
    refine va_get (D := G) (ci := 8) (v := .int (S 0 14)) (C := RX8) (T := TX8) (N := 91) hx hb hT ku_8 hown hK hP 0 rfl rfl 14 (by decide) (hT _ kw_12_5) (fun _ h9 => h9) rfl dX8_falls_33 ?_
    refine lv_icmp_ge (tgt := 78) hx hb dX8_falls_36 (by decide) (fun c10 => ?_) (fun c10 => ?_)
    · have h := tx_pos c10 h
      refine lv_iload_n hx hb dX8_falls_78 rfl (lv_at hl 1 rfl) ?_
      obtain ⟨rfl, rfl, rfl⟩ := tx_3 h
      exact W.iret hx hb hr (fun t ht hW => ⟨⟨_, (), rfl, rfl, by rw [ht]; exact hP, hD⟩, hS.F ht⟩) hS.2.2 dX8_falls_79
    · have h := tx_neg c10 h
      refine lv_iload_n hx hb dX8_falls_39 rfl (lv_at hl 1 rfl) ?_
      refine lv_aload_n hx hb dX8_falls_40 rfl (lv_at hl 0 rfl) ?_
      refine va_get (D := G) (ci := 8) (v := .ref (aa 53)) (C := RX8) (T := TX8) (N := 91) hx hb hT ku_8 hown hK hP 0 rfl rfl 52 (by decide) (hT _ kw_10_13) (fun _ h9 => h9) rfl dX8_falls_41 ?_
      refine lv_bipush (v := 10) hx hb dX8_falls_44 (by decide) ?_
      refine lv_iload_n hx hb dX8_falls_46 rfl (lv_at hl 2 rfl) ?_
      refine lv_iadd hx hb dX8_falls_47 ?_
      obtain ⟨g11, h⟩ := tx_ck h
      refine va_iald (i := ((10 : Int32) + x2)) hx hb hK hP 27 0 rfl rfl (tx_in g11) dX8_falls_48 ?_
      refine lv_iconst (v := 3) hx hb dX8_falls_49 (by decide) ?_
      refine lv_icmp_ne (tgt := 69) hx hb dX8_falls_50 (by decide) (fun c12 => ?_) (fun c12 => ?_)
      · have h := tx_neg c12 h
        refine lv_iconst (v := 0) hx hb dX8_falls_69 (by decide) ?_
        refine lv_ior hx hb dX8_falls_70 ?_
        refine lv_topi (fun y13 ey13 => ?_)
        have h := tx_let ey13 h
        refine lv_istore_n (lv' := [(1, .int y13), (0, .ref (aa 0)), (2, .int x2)]) hx hb dX8_falls_71 rfl hl (by decide) rfl (fun ls hl => ?_)
        obtain ⟨y14, ey14, h⟩ := tx_lt h
        refine lv_iinc (v := y14) (lv' := [(2, .int y14), (1, .int y13), (0, .ref (aa 0))]) hx hb dX8_falls_72 hl (k := 2) rfl ey14 (by decide) rfl (fun ls hl => ?_)
        refine lv_goto (tgt := 31) hx hb dX8_falls_75 (by decide) ?_
        exact hk31 y13 y14 H locs ls h hP hD hS (lv_sub hl [2, 1, 0] rfl)
      · have h := tx_pos c12 h
        refine lv_aload_n hx hb dX8_falls_53 rfl (lv_at hl 0 rfl) ?_
        refine va_get (D := G) (ci := 8) (v := .ref (aa 53)) (C := RX8) (T := TX8) (N := 91) hx hb hT ku_8 hown hK hP 0 rfl rfl 52 (by decide) (hT _ kw_10_13) (fun _ h9 => h9) rfl dX8_falls_54 ?_
        refine lv_iload_n hx hb dX8_falls_57 rfl (lv_at hl 2 rfl) ?_
        obtain ⟨g15, h⟩ := tx_ck h
        refine va_iald (i := x2) hx hb hK hP 27 0 rfl rfl (tx_in g15) dX8_falls_58 ?_
        refine lv_iconst (v := 3) hx hb dX8_falls_59 (by decide) ?_
        refine lv_icmp_eq (tgt := 69) hx hb dX8_falls_60 (by decide) (fun c16 => ?_) (fun c16 => ?_)
        · have h := tx_pos c16 h
          refine lv_iconst (v := 0) hx hb dX8_falls_69 (by decide) ?_
          refine lv_ior hx hb dX8_falls_70 ?_
          refine lv_topi (fun y17 ey17 => ?_)
          have h := tx_let ey17 h
          refine lv_istore_n (lv' := [(1, .int y17), (0, .ref (aa 0)), (2, .int x2)]) hx hb dX8_falls_71 rfl hl (by decide) rfl (fun ls hl => ?_)
          obtain ⟨y18, ey18, h⟩ := tx_lt h
          refine lv_iinc (v := y18) (lv' := [(2, .int y18), (1, .int y17), (0, .ref (aa 0))]) hx hb dX8_falls_72 hl (k := 2) rfl ey18 (by decide) rfl (fun ls hl => ?_)
          refine lv_goto (tgt := 31) hx hb dX8_falls_75 (by decide) ?_
          exact hk31 y17 y18 H locs ls h hP hD hS (lv_sub hl [2, 1, 0] rfl)
        · have h := tx_neg c16 h
          refine lv_iconst (v := 1) hx hb dX8_falls_63 (by decide) ?_
          refine lv_iload_n hx hb dX8_falls_64 rfl (lv_at hl 2 rfl) ?_
          refine lv_ishl hx hb dX8_falls_65 ?_
          refine lv_goto (tgt := 70) hx hb dX8_falls_66 (by decide) ?_
          refine lv_ior hx hb dX8_falls_70 ?_
          refine lv_topi (fun y19 ey19 => ?_)
          have h := tx_let ey19 h
          refine lv_istore_n (lv' := [(1, .int y19), (0, .ref (aa 0)), (2, .int x2)]) hx hb dX8_falls_71 rfl hl (by decide) rfl (fun ls hl => ?_)
          obtain ⟨y20, ey20, h⟩ := tx_lt h
          refine lv_iinc (v := y20) (lv' := [(2, .int y20), (1, .int y19), (0, .ref (aa 0))]) hx hb dX8_falls_72 hl (k := 2) rfl ey20 (by decide) rfl (fun ls hl => ?_)
          refine lv_goto (tgt := 31) hx hb dX8_falls_75 (by decide) ?_
          exact hk31 y19 y20 H locs ls h hP hD hS (lv_sub hl [2, 1, 0] rfl)
set_option maxHeartbeats 4000000 in
set_option maxRecDepth 100000 in
theorem c_X8_falls (l : Launch) (G : va_G) (cA : Nat → ClassId) (sz : Nat) (aa : Nat → Nat) (S : Tr) (L : Lo)  (r0 : Int32) (S' : Tr) (L' : Lo) (h : f_X8_falls S L = some (r0, S', L')) : Met l yX8_falls (.code yX8_falls cX8_falls 3 (some .int) :: T0) ({ frames := 8, cells := 0, slots := 0, locals := 191 } : Room) (tqP G cA [.ref (aa 0)] (wM cA aa S L) sz) (tqQi G cA (fun (r : Int32) (_ : Unit) => r = r0) (fun (_ : Unit) => wM cA aa S' L') (va_A (wM cA aa S L) sz)) 0 0 (va_A (wM cA aa S L) sz) := by
  refine Met.ofW (cc := cX8_falls) (maxL := 3) (ret := (some .int)) (by decide) rfl ?_
  intro p e s m args below meth c s₁ B hml hv
  obtain ⟨rfl, hsz, hP, hK, hD0, hN⟩ := hv
  have hx := B.exec
  have hb := B.bytes
  have hr := B.returns
  have hts := atoms_spec (ws := .code yX8_falls cX8_falls 3 (some .int) :: T0) B.pre
  have hT : ∀ w ∈ T0, w.before _ s = true := fun w h => hts w (List.mem_cons_of_mem _ h)
  have hown : s.vm.findClass RX8 = some m.cls := findClass_of_methodNamed B.named
  have hlocks := B.notSynchronized
  subst hsz
  have hD := hD0.self (sz := s.heap.size)
  generalize hAe : va_A (wM cA aa S L) s.heap.size = A at hD ⊢
  have hA : ∀ q : Nat, s.heap.size ≤ q → A q := fun q h => by rw [← hAe]; exact Or.inr h
  have hS : va_S A s.heap s.heap [] := va_S.rf
  have hl := lv_entry ([.ref (aa 0)]) (n := 3) (Nat.le_of_ble_eq_true rfl)
  rw [lg_entry_eq]
  generalize (lg_sl ([.ref (aa 0)]) ++ List.replicate (3 - (lg_sl ([.ref (aa 0)])).length) Slot.unset).toArray = ls at hl ⊢
  have hl : lv_has ls 3 [(0, .ref (aa 0))] := hl
  have F : tF p s m ([.ref (aa 0)] : List Value).toArray meth c G cA A RX8 cX8_falls 3 (some .int) := ⟨hx, hb, hr, hml, hT, hown, hlocks, hK, hN, hA⟩
  obtain ⟨H, hH⟩ : ∃ z, z = s.heap := ⟨_, rfl⟩
  rw [← hH] at hP
  have hS : va_S A s.heap H [] := by rw [hH]; exact hS
  suffices hgo : G_X8_falls p l e s m below meth c G cA A aa r0 S' L' H [] (F0 m 0 ls []) by rw [hH] at hgo; exact hgo
  generalize ([] : List Loc) = locs at hS ⊢
  unfold f_X8_falls at h
  refine lv_aload_n hx hb dX8_falls_0 rfl (lv_at hl 0 rfl) ?_
  refine lv_iconst (v := 0) hx hb dX8_falls_1 (by decide) ?_
  refine va_put (D := G) (ci := 8) (v := .int 0) (ty := .int) (C := RX8) (T := TX8) (N := 91) hx hb hT ku_8 tyX8 tyX8_ok nmX8 hown hK hP hD hS 0 rfl rfl 2 (by decide) (hT _ kw_14_0) (fun _ h9 => h9) rfl (by decide +kernel) rfl rfl (Nat.le_of_ble_eq_true rfl) dX8_falls_2 (fun H locs hP hD hS => ?_)
  obtain ⟨S_1, eS_1, h⟩ := tx_lt h
  rw [sM_f2, eS_1] at hP hD
  refine lv_aload_n hx hb dX8_falls_5 rfl (lv_at hl 0 rfl) ?_
  refine va_get (D := G) (ci := 8) (v := .ref (aa 62)) (C := RX8) (T := TX8) (N := 91) hx hb hT ku_8 hown hK hP 0 rfl rfl 61 (by decide) (hT _ kw_10_22) (fun _ h9 => h9) rfl dX8_falls_6 ?_
  refine lv_iconst (v := 0) hx hb dX8_falls_9 (by decide) ?_
  refine va_iald (i := 0) hx hb hK hP 36 0 rfl rfl (tq_in (by decide)) dX8_falls_10 ?_
  refine tq_i (w := (S_1 62 0)) rfl ?_
  refine lv_bipush (v := 21) hx hb dX8_falls_11 (by decide) ?_
  refine lv_icmp_lt (tgt := 18) hx hb dX8_falls_13 (by decide) (fun c2 => ?_) (fun c2 => ?_)
  · have h := tx_pos c2 h
    refine lv_aload_n hx hb dX8_falls_18 rfl (lv_at hl 0 rfl) ?_
    obtain ⟨S_3, hc4, h⟩ := tx_bd h
    refine tw_cv tw_all hP hD hS hA (va_runV (As := []) (rest := []) ⟨hx, hb, hml, hown, hT⟩ (c_X8_layTried l G cA H.size aa S_1 L  S_3 hc4) (cwV 0 hT (tq_gV kw_39_5 kw_39_6 kw_39_7 kw_1_5 kw_39_8) rfl rfl rfl (by decide +kernel) ⟨Nat.le_of_ble_eq_true rfl, Nat.le_of_ble_eq_true rfl⟩) ⟨(tw_pre tw_all hP hD hK hN).1, va_recv hK hP (ci := 8) (q0 := 0) rfl rfl, (tw_pre tw_all hP hD hK hN).2⟩ rfl rfl hl.1 rfl (lv_room (Nat.le_of_ble_eq_true rfl)) dX8_falls_19 ⟨Nat.le_of_ble_eq_true rfl, Nat.le_of_ble_eq_true rfl⟩) (fun _ H locs z5 hP hD hS => ?_)
    rw [List.append_nil] at hP hD
    have hP : va_P G vwCl (wM cA aa S_3 L) H := hP
    have hD : va_D A (wM cA aa S_3 L) := hD
    refine lv_aload_n hx hb dX8_falls_22 rfl (lv_at hl 0 rfl) ?_
    refine lv_iconst (v := 1) hx hb dX8_falls_23 (by decide) ?_
    obtain ⟨⟨S_6, L_7⟩, hc8, h⟩ := tx_bd h
    replace h := tx_let (y := S_6) rfl h
    replace h := tx_let (y := L_7) rfl h
    refine tw_cv tw_all hP hD hS hA (va_runV (As := [.int 1]) (rest := []) ⟨hx, hb, hml, hown, hT⟩ (c_X8_goOn l G cA H.size aa S_3 L (1 : Int32)  S_6 L_7 hc8) (cwV 1 hT (tq_gV kw_43_14 kw_43_15 kw_43_16 kw_1_5 kw_43_17) rfl rfl rfl (by decide +kernel) ⟨Nat.le_of_ble_eq_true rfl, Nat.le_of_ble_eq_true rfl⟩) ⟨(tw_pre tw_all hP hD hK hN).1, va_recv hK hP (ci := 8) (q0 := 0) rfl rfl, (tw_pre tw_all hP hD hK hN).2⟩ rfl rfl hl.1 rfl (lv_room (Nat.le_of_ble_eq_true rfl)) dX8_falls_24 ⟨Nat.le_of_ble_eq_true rfl, Nat.le_of_ble_eq_true rfl⟩) (fun _ H locs z9 hP hD hS => ?_)
    rw [List.append_nil] at hP hD
    have hP : va_P G vwCl (wM cA aa S_6 L_7) H := hP
    have hD : va_D A (wM cA aa S_6 L_7) := hD
    refine lv_iconst (v := 0) hx hb dX8_falls_27 (by decide) ?_
    refine lv_istore_n (lv' := [(1, .int 0), (0, .ref (aa 0))]) hx hb dX8_falls_28 rfl hl (by decide) rfl (fun ls hl => ?_)
    refine lv_iconst (v := 0) hx hb dX8_falls_29 (by decide) ?_
    refine lv_istore_n (lv' := [(2, .int 0), (1, .int 0), (0, .ref (aa 0))]) hx hb dX8_falls_30 rfl hl (by decide) rfl (fun ls hl => ?_)
    exact w_X8_falls_L31 F 2000 0 0 H locs ls h hP hD hS (lv_sub hl [2, 1, 0] rfl)
  · have h := tx_neg c2 h
    refine lv_iconst (v := 0) hx hb dX8_falls_16 (by decide) ?_
    obtain ⟨rfl, rfl, rfl⟩ := tx_3 h
    exact W.iret hx hb hr (fun t ht hW => ⟨⟨_, (), rfl, rfl, by rw [ht]; exact hP, hD⟩, hS.F ht⟩) hS.2.2 dX8_falls_17
abbrev G_X8_fault (p : Program) (l : Launch) (e : Env) (s : State) (m : MethodId) (below : List Frame) (meth : Method) (c : Code) (G : va_G) (cA : Nat → ClassId) (A : Nat → Prop) (aa : Nat → Nat) (L : Lo) (x1 : Int32) (r0 : Int32) (S' : Tr) (H : Heap) (locs : List Loc) (g : JFrame) : Prop := W p l e (headSpec (.code yX8_fault cX8_fault 2 (some .int) :: T0) ({ frames := 0, cells := 0, slots := 0, locals := 0 } : Room)).room s m ([.ref (aa 0), .int x1] : List Value).toArray below meth c H locs 0 0 (MQ below (tqQi G cA (fun (r : Int32) (_ : Unit) => r = r0) (fun (_ : Unit) => wM cA aa S' L) A) ([.ref (aa 0), .int x1] : List Value).toArray s 0 0 A) g
set_option maxHeartbeats 4000000 in
set_option maxRecDepth 100000 in
theorem c_X8_fault (l : Launch) (G : va_G) (cA : Nat → ClassId) (sz : Nat) (aa : Nat → Nat) (S : Tr) (L : Lo) (x1 : Int32)  (r0 : Int32) (S' : Tr) (h : f_X8_fault S x1 = some (r0, S')) : Met l yX8_fault (.code yX8_fault cX8_fault 2 (some .int) :: T0) ({ frames := 0, cells := 0, slots := 0, locals := 0 } : Room) (tqP G cA [.ref (aa 0), .int x1] (wM cA aa S L) sz) (tqQi G cA (fun (r : Int32) (_ : Unit) => r = r0) (fun (_ : Unit) => wM cA aa S' L) (va_A (wM cA aa S L) sz)) 0 0 (va_A (wM cA aa S L) sz) := by
  refine Met.ofW (cc := cX8_fault) (maxL := 2) (ret := (some .int)) (by decide) rfl ?_
  intro p e s m args below meth c s₁ B hml hv
  obtain ⟨rfl, hsz, hP, hK, hD0, hN⟩ := hv
  have hx := B.exec
  have hb := B.bytes
  have hr := B.returns
  have hts := atoms_spec (ws := .code yX8_fault cX8_fault 2 (some .int) :: T0) B.pre
  have hT : ∀ w ∈ T0, w.before _ s = true := fun w h => hts w (List.mem_cons_of_mem _ h)
  have hown : s.vm.findClass RX8 = some m.cls := findClass_of_methodNamed B.named
  have hlocks := B.notSynchronized
  subst hsz
  have hD := hD0.self (sz := s.heap.size)
  generalize hAe : va_A (wM cA aa S L) s.heap.size = A at hD ⊢
  have hA : ∀ q : Nat, s.heap.size ≤ q → A q := fun q h => by rw [← hAe]; exact Or.inr h
  have hS : va_S A s.heap s.heap [] := va_S.rf
  have hl := lv_entry ([.ref (aa 0), .int x1]) (n := 2) (Nat.le_of_ble_eq_true rfl)
  rw [lg_entry_eq]
  generalize (lg_sl ([.ref (aa 0), .int x1]) ++ List.replicate (2 - (lg_sl ([.ref (aa 0), .int x1])).length) Slot.unset).toArray = ls at hl ⊢
  have hl : lv_has ls 2 [(0, .ref (aa 0)), (1, .int x1)] := hl
  have F : tF p s m ([.ref (aa 0), .int x1] : List Value).toArray meth c G cA A RX8 cX8_fault 2 (some .int) := ⟨hx, hb, hr, hml, hT, hown, hlocks, hK, hN, hA⟩
  obtain ⟨H, hH⟩ : ∃ z, z = s.heap := ⟨_, rfl⟩
  rw [← hH] at hP
  have hS : va_S A s.heap H [] := by rw [hH]; exact hS
  suffices hgo : G_X8_fault p l e s m below meth c G cA A aa L x1 r0 S' H [] (F0 m 0 ls []) by rw [hH] at hgo; exact hgo
  generalize ([] : List Loc) = locs at hS ⊢
  unfold f_X8_fault at h
  refine lv_aload_n hx hb dX8_fault_0 rfl (lv_at hl 0 rfl) ?_
  refine lv_iconst (v := 0) hx hb dX8_fault_1 (by decide) ?_
  refine va_put (D := G) (ci := 8) (v := .int 0) (ty := .int) (C := RX8) (T := TX8) (N := 91) hx hb hT ku_8 tyX8 tyX8_ok nmX8 hown hK hP hD hS 0 rfl rfl 2 (by decide) (hT _ kw_14_0) (fun _ h9 => h9) rfl (by decide +kernel) rfl rfl (Nat.le_of_ble_eq_true rfl) dX8_fault_2 (fun H locs hP hD hS => ?_)
  obtain ⟨S_1, eS_1, h⟩ := tx_lt h
  rw [sM_f2, eS_1] at hP hD
  refine lv_iload_n hx hb dX8_fault_5 rfl (lv_at hl 1 rfl) ?_
  refine lv_if_ne (tgt := 16) hx hb dX8_fault_6 (by decide) (fun c2 => ?_) (fun c2 => ?_)
  · have h := tx_neg c2 h
    refine lv_iload_n hx hb dX8_fault_16 rfl (lv_at hl 1 rfl) ?_
    refine lv_iconst (v := 1) hx hb dX8_fault_17 (by decide) ?_
    refine lv_icmp_ne (tgt := 28) hx hb dX8_fault_18 (by decide) (fun c3 => ?_) (fun c3 => ?_)
    · have h := tx_neg c3 h
      refine lv_iconst (v := (-1)) hx hb dX8_fault_28 (by decide) ?_
      obtain ⟨rfl, rfl⟩ := tx_2 h
      exact W.iret hx hb hr (fun t ht hW => ⟨⟨_, (), rfl, rfl, by rw [ht]; exact hP, hD⟩, hS.F ht⟩) hS.2.2 dX8_fault_29
    · have h := tx_pos c3 h
      refine lv_aload_n hx hb dX8_fault_21 rfl (lv_at hl 0 rfl) ?_
      refine va_get (D := G) (ci := 8) (v := .int (S_1 0 5)) (C := RX8) (T := TX8) (N := 91) hx hb hT ku_8 hown hK hP 0 rfl rfl 5 (by decide) (hT _ kw_9_12) (fun _ h9 => h9) rfl dX8_fault_22 ?_
      refine lv_goto (tgt := 29) hx hb dX8_fault_25 (by decide) ?_
      obtain ⟨rfl, rfl⟩ := tx_2 h
      exact W.iret hx hb hr (fun t ht hW => ⟨⟨_, (), rfl, rfl, by rw [ht]; exact hP, hD⟩, hS.F ht⟩) hS.2.2 dX8_fault_29
  · have h := tx_pos c2 h
    refine lv_aload_n hx hb dX8_fault_9 rfl (lv_at hl 0 rfl) ?_
    refine va_get (D := G) (ci := 8) (v := .int (S_1 0 4)) (C := RX8) (T := TX8) (N := 91) hx hb hT ku_8 hown hK hP 0 rfl rfl 4 (by decide) (hT _ kw_22_12) (fun _ h9 => h9) rfl dX8_fault_10 ?_
    refine lv_goto (tgt := 29) hx hb dX8_fault_13 (by decide) ?_
    obtain ⟨rfl, rfl⟩ := tx_2 h
    exact W.iret hx hb hr (fun t ht hW => ⟨⟨_, (), rfl, rfl, by rw [ht]; exact hP, hD⟩, hS.F ht⟩) hS.2.2 dX8_fault_29
abbrev G_X8_feed (p : Program) (l : Launch) (e : Env) (s : State) (m : MethodId) (below : List Frame) (meth : Method) (c : Code) (G : va_G) (cA : Nat → ClassId) (A : Nat → Prop) (aa : Nat → Nat) (L : Lo) (x1 : Int32) (x2 : Int32) (x3 : Int32) (x4 : Int32) (x5 : Int32) (r0 : Int32) (S' : Tr) (H : Heap) (locs : List Loc) (g : JFrame) : Prop := W p l e (headSpec (.code yX8_feed cX8_feed 8 (some .int) :: T0) ({ frames := 0, cells := 0, slots := 0, locals := 0 } : Room)).room s m ([.ref (aa 0), .int x1, .int x2, .int x3, .int x4, .int x5] : List Value).toArray below meth c H locs 0 0 (MQ below (tqQi G cA (fun (r : Int32) (_ : Unit) => r = r0) (fun (_ : Unit) => wM cA aa S' L) A) ([.ref (aa 0), .int x1, .int x2, .int x3, .int x4, .int x5] : List Value).toArray s 0 0 A) g
set_option maxHeartbeats 4000000 in
set_option maxRecDepth 100000 in
theorem w_X8_feed_J113 {p : Program} {l : Launch} {e : Env} {s : State} {m : MethodId} {below : List Frame} {meth : Method} {c : Code} {G : va_G} {cA : Nat → ClassId} {A : Nat → Prop} {aa : Nat → Nat} {L : Lo} {x1₀ : Int32} {x2₀ : Int32} {x3₀ : Int32} {x4₀ : Int32} {x5₀ : Int32} {r0 : Int32} {S' : Tr} (F : tF p s m ([.ref (aa 0), .int x1₀, .int x2₀, .int x3₀, .int x4₀, .int x5₀] : List Value).toArray meth c G cA A RX8 cX8_feed 8 (some .int))    (S : Tr) (H : Heap) (locs : List Loc) (ls : Array Slot) (h : fJ_X8_feed_J113 S = some (r0, S')) (hP : va_P G vwCl (wM cA aa S_4 L) H) (hD : va_D A (wM cA aa S_4 L)) (hS : va_S A s.heap H locs) (hl : lv_has ls 8 [(0, .ref (aa 0))]) : G_X8_feed p l e s m below meth c G cA A aa L x1₀ x2₀ x3₀ x4₀ x5₀ r0 S' H locs (F0 m 113 ls []) := by
  obtain ⟨hx, hb, hr, hml, hT, hown, hlocks, hK, hN, hA⟩ := id F
  unfold fJ_X8_feed_J113 at h
  refine lv_aload_n hx hb dX8_feed_113 rfl (lv_at hl 0 rfl) ?_
  refine lv_dup hx hb dX8_feed_114 rfl ?_
  refine va_get (D := G) (ci := 8) (v := .int (S 0 1)) (C := RX8) (T := TX8) (N := 91) hx hb hT ku_8 hown hK hP 0 rfl rfl 1 (by decide) (hT _ kw_14_1) (fun _ h9 => h9) rfl dX8_feed_115 ?_
  refine lv_bipush (v := 20) hx hb dX8_feed_118 (by decide) ?_
  refine lv_iadd hx hb dX8_feed_120 ?_
  refine va_put (D := G) (ci := 8) (v := .int ((S 0 1) + 20)) (ty := .int) (C := RX8) (T := TX8) (N := 91) hx hb hT ku_8 tyX8 tyX8_ok nmX8 hown hK hP hD hS 0 rfl rfl 1 (by decide) (hT _ kw_14_1) (fun _ h9 => h9) rfl (by decide +kernel) rfl rfl (Nat.le_of_ble_eq_true rfl) dX8_feed_121 (fun H locs hP hD hS => ?_)
  obtain ⟨S_4, eS_4, h⟩ := tx_lt h
  rw [sM_f1, eS_4] at hP hD
  refine lv_aload_n hx hb dX8_feed_124 rfl (lv_at hl 0 rfl) ?_
  refine va_get (D := G) (ci := 8) (v := .int (S_4 0 1)) (C := RX8) (T := TX8) (N := 91) hx hb hT ku_8 hown hK hP 0 rfl rfl 1 (by decide) (hT _ kw_14_1) (fun _ h9 => h9) rfl dX8_feed_125 ?_
  obtain ⟨rfl, rfl⟩ := tx_2 h
  exact W.iret hx hb hr (fun t ht hW => ⟨⟨_, (), rfl, rfl, by rw [ht]; exact hP, hD⟩, hS.F ht⟩) hS.2.2 dX8_feed_128
set_option maxHeartbeats 4000000 in
set_option maxRecDepth 100000 in
theorem w_X8_feed_J76 {p : Program} {l : Launch} {e : Env} {s : State} {m : MethodId} {below : List Frame} {meth : Method} {c : Code} {G : va_G} {cA : Nat → ClassId} {A : Nat → Prop} {aa : Nat → Nat} {L : Lo} {x1₀ : Int32} {x2₀ : Int32} {x3₀ : Int32} {x4₀ : Int32} {x5₀ : Int32} {r0 : Int32} {S' : Tr} {x1 : Int32} {x2 : Int32} {x3 : Int32} {x4 : Int32} {x5 : Int32} (F : tF p s m ([.ref (aa 0), .int x1₀, .int x2₀, .int x3₀, .int x4₀, .int x5₀] : List Value).toArray meth c G cA A RX8 cX8_feed 8 (some .int))  (k23 : Int32 → Tr → Option (Int32 × Tr)) (hk23 : ∀ (x6 : Int32) (S : Tr) (H : Heap) (locs : List Loc) (ls : Array Slot), k23 x6 S = some (r0, S') → va_P G vwCl (wM cA aa S L) H → va_D A (wM cA aa S L) → va_S A s.heap H locs → lv_has ls 8 [(0, .ref (aa 0)), (1, .int x1), (2, .int x2), (3, .int x3), (4, .int x4), (5, .int x5), (6, .int x6)] → G_X8_feed p l e s m below meth c G cA A aa L x1₀ x2₀ x3₀ x4₀ x5₀ r0 S' H locs (F0 m 23 ls [])) (x6 : Int32) (s0 : Int32) (S : Tr) (H : Heap) (locs : List Loc) (ls : Array Slot) (h : fJ_X8_feed_J76 k23 x1 x2 x3 x4 x5 x6 s0 S = some (r0, S')) (hP : va_P G vwCl (wM cA aa S_10 L) H) (hD : va_D A (wM cA aa S_10 L)) (hS : va_S A s.heap H locs) (hl : lv_has ls 8 [(6, .int y11), (7, .int s0), (0, .ref (aa 0)), (1, .int x1), (2, .int x2), (3, .int x3), (4, .int x4), (5, .int x5)]) : G_X8_feed p l e s m below meth c G cA A aa L x1₀ x2₀ x3₀ x4₀ x5₀ r0 S' H locs (F0 m 76 ls []) := by
  obtain ⟨hx, hb, hr, hml, hT, hown, hlocks, hK, hN, hA⟩ := id F
  unfold fJ_X8_feed_J76 at h
  refine lv_istore (lv' := [(7, .int s0), (0, .ref (aa 0)), (1, .int x1), (2, .int x2), (3, .int x3), (4, .int x4), (5, .int x5), (6, .int x6)]) hx hb dX8_feed_76 hl (by decide) rfl (fun ls hl => ?_)
  refine lv_aload_n hx hb dX8_feed_78 rfl (lv_at hl 1 rfl) ?_
  refine va_get (D := G) (ci := 8) (v := .ref (aa 1)) (C := RX8) (T := TX8) (N := 91) hx hb hT ku_8 hown hK hP 0 rfl rfl 0 (by decide) (hT _ kw_9_10) (fun _ h9 => h9) rfl dX8_feed_79 ?_
  refine lv_aload_n hx hb dX8_feed_82 rfl (lv_at hl 1 rfl) ?_
  refine va_get (D := G) (ci := 8) (v := .int (S 0 1)) (C := RX8) (T := TX8) (N := 91) hx hb hT ku_8 hown hK hP 0 rfl rfl 1 (by decide) (hT _ kw_14_1) (fun _ h9 => h9) rfl dX8_feed_83 ?_
  refine lv_iload hx hb dX8_feed_86 (lv_at hl 7 rfl) ?_
  refine lv_iadd hx hb dX8_feed_88 ?_
  refine lv_iload hx hb dX8_feed_89 (lv_at hl 0 rfl) ?_
  refine lv_bipush (v := 24) hx hb dX8_feed_91 (by decide) ?_
  refine lv_bipush (v := 8) hx hb dX8_feed_93 (by decide) ?_
  refine lv_iload hx hb dX8_feed_95 (lv_at hl 7 rfl) ?_
  refine lv_iconst (v := 4) hx hb dX8_feed_97 (by decide) ?_
  refine lv_irem hx hb dX8_feed_98 (by decide) ?_
  refine lv_imul hx hb dX8_feed_99 ?_
  refine lv_isub hx hb dX8_feed_100 ?_
  refine lv_ishr hx hb dX8_feed_101 ?_
  refine lv_sipush (v := 255) hx hb dX8_feed_102 (by decide) ?_
  refine lv_iand hx hb dX8_feed_105 ?_
  obtain ⟨g9, h⟩ := tx_ck h
  refine va_iast (i := ((S 0 1) + x6)) hx hb hK hP hD hS 1 0 rfl rfl (tx_in g9) dX8_feed_106 (fun H locs hP hD hS => ?_)
  obtain ⟨S_10, eS_10, h⟩ := tx_lt h
  rw [sM_a0, eS_10] at hP hD
  obtain ⟨y11, ey11, h⟩ := tx_lt h
  refine lv_iinc (v := y11) (lv' := [(6, .int y11), (7, .int s0), (0, .ref (aa 0)), (1, .int x1), (2, .int x2), (3, .int x3), (4, .int x4), (5, .int x5)]) hx hb dX8_feed_107 hl (k := 7) rfl ey11 (by decide) rfl (fun ls hl => ?_)
  refine lv_goto (tgt := 23) hx hb dX8_feed_110 (by decide) ?_
  exact hk23 y11 S_10 H locs ls h hP hD hS (lv_sub hl [2, 3, 4, 5, 6, 7, 0] rfl)
set_option maxHeartbeats 4000000 in
set_option maxRecDepth 100000 in
theorem w_X8_feed_L23 {p : Program} {l : Launch} {e : Env} {s : State} {m : MethodId} {below : List Frame} {meth : Method} {c : Code} {G : va_G} {cA : Nat → ClassId} {A : Nat → Prop} {aa : Nat → Nat} {L : Lo} {x1₀ : Int32} {x2₀ : Int32} {x3₀ : Int32} {x4₀ : Int32} {x5₀ : Int32} {r0 : Int32} {S' : Tr} {x1 : Int32} {x2 : Int32} {x3 : Int32} {x4 : Int32} {x5 : Int32} (F : tF p s m ([.ref (aa 0), .int x1₀, .int x2₀, .int x3₀, .int x4₀, .int x5₀] : List Value).toArray meth c G cA A RX8 cX8_feed 8 (some .int))    (N : Nat) : ∀ (x6 : Int32) (S : Tr) (H : Heap) (locs : List Loc) (ls : Array Slot), lpF (fun _ _ => none) (fB_X8_feed_L23 x1 x2 x3 x4 x5) N x6 S = some (r0, S') → va_P G vwCl (wM cA aa S L) H → va_D A (wM cA aa S L) → va_S A s.heap H locs → lv_has ls 8 [(0, .ref (aa 0)), (1, .int x1), (2, .int x2), (3, .int x3), (4, .int x4), (5, .int x5), (6, .int x6)] → G_X8_feed p l e s m below meth c G cA A aa L x1₀ x2₀ x3₀ x4₀ x5₀ r0 S' H locs (F0 m 23 ls []) := by
  obtain ⟨hx, hb, hr, hml, hT, hown, hlocks, hK, hN, hA⟩ := id F
  induction N with
  | zero =>
    intro x6 S H locs ls h
    have h : (none : Option (Int32 × Tr)) = some (r0, S') := h
    cases h
  | succ N hk23 =>
    intro x6 S H locs ls h hP hD hS hl
    have h : fB_X8_feed_L23 x1 x2 x3 x4 x5 (lpF (fun _ _ => none) (fB_X8_feed_L23 x1 x2 x3 x4 x5) N) x6 S = some (r0, S') := h
    generalize hk23e : lpF (fun _ _ => none) (fB_X8_feed_L23 x1 x2 x3 x4 x5) N = k23 at h hk23
    unfold fB_X8_feed_L23 at h
    refine lv_iload hx hb dX8_feed_23 (lv_at hl 6 rfl) ?_
    refine lv_bipush (v := 20) hx hb dX8_feed_25 (by decide) ?_
    refine lv_icmp_ge (tgt := 113) hx hb dX8_feed_27 (by decide) (fun c3 => ?_) (fun c3 => ?_)
    · have h := tx_pos c3 h
      exact w_X8_feed_J113 F S H locs ls h hP hD hS (lv_sub hl [0] rfl)
    · have h := tx_neg c3 h
      refine lv_iload hx hb dX8_feed_30 (lv_at hl 6 rfl) ?_
      refine lv_iconst (v := 4) hx hb dX8_feed_32 (by decide) ?_
      refine lv_icmp_ge (tgt := 40) hx hb dX8_feed_33 (by decide) (fun c5 => ?_) (fun c5 => ?_)
      · have h := tx_pos c5 h
        refine lv_iload hx hb dX8_feed_40 (lv_at hl 6 rfl) ?_
        refine lv_bipush (v := 8) hx hb dX8_feed_42 (by decide) ?_
        refine lv_icmp_ge (tgt := 51) hx hb dX8_feed_44 (by decide) (fun c6 => ?_) (fun c6 => ?_)
        · have h := tx_pos c6 h
          refine lv_iload hx hb dX8_feed_51 (lv_at hl 6 rfl) ?_
          refine lv_bipush (v := 12) hx hb dX8_feed_53 (by decide) ?_
          refine lv_icmp_ge (tgt := 62) hx hb dX8_feed_55 (by decide) (fun c7 => ?_) (fun c7 => ?_)
          · have h := tx_pos c7 h
            refine lv_iload hx hb dX8_feed_62 (lv_at hl 6 rfl) ?_
            refine lv_bipush (v := 16) hx hb dX8_feed_64 (by decide) ?_
            refine lv_icmp_ge (tgt := 74) hx hb dX8_feed_66 (by decide) (fun c8 => ?_) (fun c8 => ?_)
            · have h := tx_pos c8 h
              refine lv_iload hx hb dX8_feed_74 (lv_at hl 5 rfl) ?_
              exact w_X8_feed_J76 F k23 hk23 x6 x5 S H locs ls h hP hD hS (lv_sub hl [0, 1, 2, 3, 4, 5, 6] rfl)
            · have h := tx_neg c8 h
              refine lv_iload hx hb dX8_feed_69 (lv_at hl 4 rfl) ?_
              refine lv_goto (tgt := 76) hx hb dX8_feed_71 (by decide) ?_
              exact w_X8_feed_J76 F k23 hk23 x6 x4 S H locs ls h hP hD hS (lv_sub hl [0, 1, 2, 3, 4, 5, 6] rfl)
          · have h := tx_neg c7 h
            refine lv_iload_n hx hb dX8_feed_58 rfl (lv_at hl 3 rfl) ?_
            refine lv_goto (tgt := 76) hx hb dX8_feed_59 (by decide) ?_
            exact w_X8_feed_J76 F k23 hk23 x6 x3 S H locs ls h hP hD hS (lv_sub hl [0, 1, 2, 3, 4, 5, 6] rfl)
        · have h := tx_neg c6 h
          refine lv_iload_n hx hb dX8_feed_47 rfl (lv_at hl 2 rfl) ?_
          refine lv_goto (tgt := 76) hx hb dX8_feed_48 (by decide) ?_
          exact w_X8_feed_J76 F k23 hk23 x6 x2 S H locs ls h hP hD hS (lv_sub hl [0, 1, 2, 3, 4, 5, 6] rfl)
      · have h := tx_neg c5 h
        refine lv_iload_n hx hb dX8_feed_36 rfl (lv_at hl 1 rfl) ?_
        refine lv_goto (tgt := 76) hx hb dX8_feed_37 (by decide) ?_
        exact w_X8_feed_J76 F k23 hk23 x6 x1 S H locs ls h hP hD hS (lv_sub hl [0, 1, 2, 3, 4, 5, 6] rfl)
set_option maxHeartbeats 4000000 in
set_option maxRecDepth 100000 in
theorem c_X8_feed (l : Launch) (G : va_G) (cA : Nat → ClassId) (sz : Nat) (aa : Nat → Nat) (S : Tr) (L : Lo) (x1 : Int32) (x2 : Int32) (x3 : Int32) (x4 : Int32) (x5 : Int32)  (r0 : Int32) (S' : Tr) (h : f_X8_feed S x1 x2 x3 x4 x5 = some (r0, S')) : Met l yX8_feed (.code yX8_feed cX8_feed 8 (some .int) :: T0) ({ frames := 0, cells := 0, slots := 0, locals := 0 } : Room) (tqP G cA [.ref (aa 0), .int x1, .int x2, .int x3, .int x4, .int x5] (wM cA aa S L) sz) (tqQi G cA (fun (r : Int32) (_ : Unit) => r = r0) (fun (_ : Unit) => wM cA aa S' L) (va_A (wM cA aa S L) sz)) 0 0 (va_A (wM cA aa S L) sz) := by
  refine Met.ofW (cc := cX8_feed) (maxL := 8) (ret := (some .int)) (by decide) rfl ?_
  intro p e s m args below meth c s₁ B hml hv
  obtain ⟨rfl, hsz, hP, hK, hD0, hN⟩ := hv
  have hx := B.exec
  have hb := B.bytes
  have hr := B.returns
  have hts := atoms_spec (ws := .code yX8_feed cX8_feed 8 (some .int) :: T0) B.pre
  have hT : ∀ w ∈ T0, w.before _ s = true := fun w h => hts w (List.mem_cons_of_mem _ h)
  have hown : s.vm.findClass RX8 = some m.cls := findClass_of_methodNamed B.named
  have hlocks := B.notSynchronized
  subst hsz
  have hD := hD0.self (sz := s.heap.size)
  generalize hAe : va_A (wM cA aa S L) s.heap.size = A at hD ⊢
  have hA : ∀ q : Nat, s.heap.size ≤ q → A q := fun q h => by rw [← hAe]; exact Or.inr h
  have hS : va_S A s.heap s.heap [] := va_S.rf
  have hl := lv_entry ([.ref (aa 0), .int x1, .int x2, .int x3, .int x4, .int x5]) (n := 8) (Nat.le_of_ble_eq_true rfl)
  rw [lg_entry_eq]
  generalize (lg_sl ([.ref (aa 0), .int x1, .int x2, .int x3, .int x4, .int x5]) ++ List.replicate (8 - (lg_sl ([.ref (aa 0), .int x1, .int x2, .int x3, .int x4, .int x5])).length) Slot.unset).toArray = ls at hl ⊢
  have hl : lv_has ls 8 [(0, .ref (aa 0)), (1, .int x1), (2, .int x2), (3, .int x3), (4, .int x4), (5, .int x5)] := hl
  have F : tF p s m ([.ref (aa 0), .int x1, .int x2, .int x3, .int x4, .int x5] : List Value).toArray meth c G cA A RX8 cX8_feed 8 (some .int) := ⟨hx, hb, hr, hml, hT, hown, hlocks, hK, hN, hA⟩
  obtain ⟨H, hH⟩ : ∃ z, z = s.heap := ⟨_, rfl⟩
  rw [← hH] at hP
  have hS : va_S A s.heap H [] := by rw [hH]; exact hS
  suffices hgo : G_X8_feed p l e s m below meth c G cA A aa L x1 x2 x3 x4 x5 r0 S' H [] (F0 m 0 ls []) by rw [hH] at hgo; exact hgo
  generalize ([] : List Loc) = locs at hS ⊢
  unfold f_X8_feed at h
  refine lv_aload_n hx hb dX8_feed_0 rfl (lv_at hl 0 rfl) ?_
  refine lv_iconst (v := 0) hx hb dX8_feed_1 (by decide) ?_
  refine va_put (D := G) (ci := 8) (v := .int 0) (ty := .int) (C := RX8) (T := TX8) (N := 91) hx hb hT ku_8 tyX8 tyX8_ok nmX8 hown hK hP hD hS 0 rfl rfl 2 (by decide) (hT _ kw_14_0) (fun _ h9 => h9) rfl (by decide +kernel) rfl rfl (Nat.le_of_ble_eq_true rfl) dX8_feed_2 (fun H locs hP hD hS => ?_)
  obtain ⟨S_1, eS_1, h⟩ := tx_lt h
  rw [sM_f2, eS_1] at hP hD
  refine lv_aload_n hx hb dX8_feed_5 rfl (lv_at hl 0 rfl) ?_
  refine va_get (D := G) (ci := 8) (v := .int (S_1 0 1)) (C := RX8) (T := TX8) (N := 91) hx hb hT ku_8 hown hK hP 0 rfl rfl 1 (by decide) (hT _ kw_14_1) (fun _ h9 => h9) rfl dX8_feed_6 ?_
  refine lv_bipush (v := 20) hx hb dX8_feed_9 (by decide) ?_
  refine lv_iadd hx hb dX8_feed_11 ?_
  refine lv_sipush (v := 700) hx hb dX8_feed_12 (by decide) ?_
  refine lv_icmp_le (tgt := 20) hx hb dX8_feed_15 (by decide) (fun c2 => ?_) (fun c2 => ?_)
  · have h := tx_pos c2 h
    refine lv_iconst (v := 0) hx hb dX8_feed_20 (by decide) ?_
    refine lv_istore (lv' := [(6, .int 0), (0, .ref (aa 0)), (1, .int x1), (2, .int x2), (3, .int x3), (4, .int x4), (5, .int x5)]) hx hb dX8_feed_21 hl (by decide) rfl (fun ls hl => ?_)
    exact w_X8_feed_L23 F 2000 0 S_1 H locs ls h hP hD hS (lv_sub hl [1, 2, 3, 4, 5, 6, 0] rfl)
  · have h := tx_neg c2 h
    refine lv_iconst (v := (-1)) hx hb dX8_feed_18 (by decide) ?_
    obtain ⟨rfl, rfl⟩ := tx_2 h
    exact W.iret hx hb hr (fun t ht hW => ⟨⟨_, (), rfl, rfl, by rw [ht]; exact hP, hD⟩, hS.F ht⟩) hS.2.2 dX8_feed_19
abbrev G_X8_feet (p : Program) (l : Launch) (e : Env) (s : State) (m : MethodId) (below : List Frame) (meth : Method) (c : Code) (G : va_G) (cA : Nat → ClassId) (A : Nat → Prop) (aa : Nat → Nat) (r0 : Int32) (S' : Tr) (L' : Lo) (H : Heap) (locs : List Loc) (g : JFrame) : Prop := W p l e (headSpec (.code yX8_feet cX8_feet 1 (some .int) :: T0) ({ frames := 9, cells := 0, slots := 0, locals := 211 } : Room)).room s m ([.ref (aa 0)] : List Value).toArray below meth c H locs 0 0 (MQ below (tqQi G cA (fun (r : Int32) (_ : Unit) => r = r0) (fun (_ : Unit) => wM cA aa S' L') A) ([.ref (aa 0)] : List Value).toArray s 0 0 A) g
set_option maxHeartbeats 4000000 in
set_option maxRecDepth 100000 in
theorem c_X8_feet (l : Launch) (G : va_G) (cA : Nat → ClassId) (sz : Nat) (aa : Nat → Nat) (S : Tr) (L : Lo)  (r0 : Int32) (S' : Tr) (L' : Lo) (h : f_X8_feet S L = some (r0, S', L')) : Met l yX8_feet (.code yX8_feet cX8_feet 1 (some .int) :: T0) ({ frames := 9, cells := 0, slots := 0, locals := 211 } : Room) (tqP G cA [.ref (aa 0)] (wM cA aa S L) sz) (tqQi G cA (fun (r : Int32) (_ : Unit) => r = r0) (fun (_ : Unit) => wM cA aa S' L') (va_A (wM cA aa S L) sz)) 0 0 (va_A (wM cA aa S L) sz) := by
  refine Met.ofW (cc := cX8_feet) (maxL := 1) (ret := (some .int)) (by decide) rfl ?_
  intro p e s m args below meth c s₁ B hml hv
  obtain ⟨rfl, hsz, hP, hK, hD0, hN⟩ := hv
  have hx := B.exec
  have hb := B.bytes
  have hr := B.returns
  have hts := atoms_spec (ws := .code yX8_feet cX8_feet 1 (some .int) :: T0) B.pre
  have hT : ∀ w ∈ T0, w.before _ s = true := fun w h => hts w (List.mem_cons_of_mem _ h)
  have hown : s.vm.findClass RX8 = some m.cls := findClass_of_methodNamed B.named
  have hlocks := B.notSynchronized
  subst hsz
  have hD := hD0.self (sz := s.heap.size)
  generalize hAe : va_A (wM cA aa S L) s.heap.size = A at hD ⊢
  have hA : ∀ q : Nat, s.heap.size ≤ q → A q := fun q h => by rw [← hAe]; exact Or.inr h
  have hS : va_S A s.heap s.heap [] := va_S.rf
  have hl := lv_entry ([.ref (aa 0)]) (n := 1) (Nat.le_of_ble_eq_true rfl)
  rw [lg_entry_eq]
  generalize (lg_sl ([.ref (aa 0)]) ++ List.replicate (1 - (lg_sl ([.ref (aa 0)])).length) Slot.unset).toArray = ls at hl ⊢
  have hl : lv_has ls 1 [(0, .ref (aa 0))] := hl
  have F : tF p s m ([.ref (aa 0)] : List Value).toArray meth c G cA A RX8 cX8_feet 1 (some .int) := ⟨hx, hb, hr, hml, hT, hown, hlocks, hK, hN, hA⟩
  obtain ⟨H, hH⟩ : ∃ z, z = s.heap := ⟨_, rfl⟩
  rw [← hH] at hP
  have hS : va_S A s.heap H [] := by rw [hH]; exact hS
  suffices hgo : G_X8_feet p l e s m below meth c G cA A aa r0 S' L' H [] (F0 m 0 ls []) by rw [hH] at hgo; exact hgo
  generalize ([] : List Loc) = locs at hS ⊢
  unfold f_X8_feet at h
  refine lv_aload_n hx hb dX8_feet_0 rfl (lv_at hl 0 rfl) ?_
  refine lv_iconst (v := 0) hx hb dX8_feet_1 (by decide) ?_
  refine va_put (D := G) (ci := 8) (v := .int 0) (ty := .int) (C := RX8) (T := TX8) (N := 91) hx hb hT ku_8 tyX8 tyX8_ok nmX8 hown hK hP hD hS 0 rfl rfl 2 (by decide) (hT _ kw_14_0) (fun _ h9 => h9) rfl (by decide +kernel) rfl rfl (Nat.le_of_ble_eq_true rfl) dX8_feet_2 (fun H locs hP hD hS => ?_)
  obtain ⟨S_1, eS_1, h⟩ := tx_lt h
  rw [sM_f2, eS_1] at hP hD
  refine lv_aload_n hx hb dX8_feet_5 rfl (lv_at hl 0 rfl) ?_
  obtain ⟨S_2, hc3, h⟩ := tx_bd h
  refine tw_cv tw_all hP hD hS hA (va_runV (As := []) (rest := []) ⟨hx, hb, hml, hown, hT⟩ (c_X8_layTried l G cA H.size aa S_1 L  S_2 hc3) (cwV 0 hT (tq_gV kw_39_5 kw_39_6 kw_39_7 kw_1_5 kw_39_8) rfl rfl rfl (by decide +kernel) ⟨Nat.le_of_ble_eq_true rfl, Nat.le_of_ble_eq_true rfl⟩) ⟨(tw_pre tw_all hP hD hK hN).1, va_recv hK hP (ci := 8) (q0 := 0) rfl rfl, (tw_pre tw_all hP hD hK hN).2⟩ rfl rfl hl.1 rfl (lv_room (Nat.le_of_ble_eq_true rfl)) dX8_feet_6 ⟨Nat.le_of_ble_eq_true rfl, Nat.le_of_ble_eq_true rfl⟩) (fun _ H locs z4 hP hD hS => ?_)
  rw [List.append_nil] at hP hD
  have hP : va_P G vwCl (wM cA aa S_2 L) H := hP
  have hD : va_D A (wM cA aa S_2 L) := hD
  refine lv_aload_n hx hb dX8_feet_9 rfl (lv_at hl 0 rfl) ?_
  obtain ⟨⟨S_5, L_6⟩, hc7, h⟩ := tx_bd h
  replace h := tx_let (y := S_5) rfl h
  replace h := tx_let (y := L_6) rfl h
  refine tw_cv tw_all hP hD hS hA (va_runV (As := []) (rest := []) ⟨hx, hb, hml, hown, hT⟩ (c_X8_toEnd l G cA H.size aa S_2 L  S_5 L_6 hc7) (cwV 0 hT (tq_gV kw_48_5 kw_48_6 kw_48_7 kw_1_5 kw_48_8) rfl rfl rfl (by decide +kernel) ⟨Nat.le_of_ble_eq_true rfl, Nat.le_of_ble_eq_true rfl⟩) ⟨(tw_pre tw_all hP hD hK hN).1, va_recv hK hP (ci := 8) (q0 := 0) rfl rfl, (tw_pre tw_all hP hD hK hN).2⟩ rfl rfl hl.1 rfl (lv_room (Nat.le_of_ble_eq_true rfl)) dX8_feet_10 ⟨Nat.le_of_ble_eq_true rfl, Nat.le_of_ble_eq_true rfl⟩) (fun _ H locs z8 hP hD hS => ?_)
  rw [List.append_nil] at hP hD
  have hP : va_P G vwCl (wM cA aa S_5 L_6) H := hP
  have hD : va_D A (wM cA aa S_5 L_6) := hD
  refine lv_aload_n hx hb dX8_feet_13 rfl (lv_at hl 0 rfl) ?_
  refine va_get (D := G) (ci := 8) (v := .ref (aa 63)) (C := RX8) (T := TX8) (N := 91) hx hb hT ku_8 hown hK hP 0 rfl rfl 62 (by decide) (hT _ kw_10_23) (fun _ h9 => h9) rfl dX8_feet_14 ?_
  refine lv_iconst (v := 1) hx hb dX8_feet_17 (by decide) ?_
  refine va_iald (i := 1) hx hb hK hP 37 0 rfl rfl (tq_in (by decide)) dX8_feet_18 ?_
  refine tq_i (w := (S_5 63 1)) rfl ?_
  obtain ⟨rfl, rfl, rfl⟩ := tx_3 h
  exact W.iret hx hb hr (fun t ht hW => ⟨⟨_, (), rfl, rfl, by rw [ht]; exact hP, hD⟩, hS.F ht⟩) hS.2.2 dX8_feet_19
abbrev G_X8_isSo (p : Program) (l : Launch) (e : Env) (s : State) (m : MethodId) (below : List Frame) (meth : Method) (c : Code) (G : va_G) (cA : Nat → ClassId) (A : Nat → Prop) (aa : Nat → Nat) (S : Tr) (L : Lo) (x1 : Int32) (r0 : Int32) (H : Heap) (locs : List Loc) (g : JFrame) : Prop := W p l e (headSpec (.code yX8_isSo cX8_isSo 4 (some .boolean) :: T0) ({ frames := 1, cells := 0, slots := 0, locals := 20 } : Room)).room s m ([.ref (aa 0), .int x1] : List Value).toArray below meth c H locs 0 0 (MQ below (tqQi G cA (fun (r : Int32) (_ : Unit) => r = r0) (fun (_ : Unit) => wM cA aa S L) A) ([.ref (aa 0), .int x1] : List Value).toArray s 0 0 A) g
set_option maxHeartbeats 4000000 in
set_option maxRecDepth 100000 in
theorem w_X8_isSo_J91 {p : Program} {l : Launch} {e : Env} {s : State} {m : MethodId} {below : List Frame} {meth : Method} {c : Code} {G : va_G} {cA : Nat → ClassId} {A : Nat → Prop} {aa : Nat → Nat} {S : Tr} {L : Lo} {x1₀ : Int32} {r0 : Int32} {x1 : Int32} (F : tF p s m ([.ref (aa 0), .int x1₀] : List Value).toArray meth c G cA A RX8 cX8_isSo 4 (some .boolean))  (k2 : Int32 → Option (Int32)) (hk2 : ∀ (x2 : Int32) (H : Heap) (locs : List Loc) (ls : Array Slot), k2 x2 = some r0 → va_P G vwCl (wM cA aa S L) H → va_D A (wM cA aa S L) → va_S A s.heap H locs → lv_has ls 4 [(0, .ref (aa 0)), (1, .int x1), (2, .int x2)] → G_X8_isSo p l e s m below meth c G cA A aa S L x1₀ r0 H locs (F0 m 2 ls [])) (x2 : Int32) (s0 : Int32) (s1 : Int32) (H : Heap) (locs : List Loc) (ls : Array Slot) (h : fJ_X8_isSo_J91 k2 S x1 x2 s0 s1 = some r0) (hP : va_P G vwCl (wM cA aa S L) H) (hD : va_D A (wM cA aa S L)) (hS : va_S A s.heap H locs) (hl : lv_has ls 4 [(0, .ref (aa 0)), (1, .int x1), (2, .int x2)]) : G_X8_isSo p l e s m below meth c G cA A aa S L x1₀ r0 H locs (F0 m 91 ls []) := by
  obtain ⟨hx, hb, hr, hml, hT, hown, hlocks, hK, hN, hA⟩ := id F
  unfold fJ_X8_isSo_J91 at h
  refine lv_icmp_eq (tgt := 96) hx hb dX8_isSo_91 (by decide) (fun c16 => ?_) (fun c16 => ?_)
  · have h := tx_pos c16 h
    obtain ⟨y17, ey17, h⟩ := tx_lt h
    refine lv_iinc (v := y17) (lv' := [(2, .int y17), (0, .ref (aa 0)), (1, .int x1)]) hx hb dX8_isSo_96 hl (k := 2) rfl ey17 (by decide) rfl (fun ls hl => ?_)
    refine lv_goto (tgt := 2) hx hb dX8_isSo_99 (by decide) ?_
    exact hk2 y17 H locs ls h hP hD hS (lv_sub hl [1, 2, 0] rfl)
  · have h := tx_neg c16 h
    refine lv_iconst (v := 0) hx hb dX8_isSo_94 (by decide) ?_
    obtain rfl := tx_1 h
    exact W.zret (ty := .boolean) hx hb hr rfl (fun t ht hW => ⟨⟨_, (), rfl, rfl, by rw [ht]; exact hP, hD⟩, hS.F ht⟩) hS.2.2 dX8_isSo_95
set_option maxHeartbeats 4000000 in
set_option maxRecDepth 100000 in
theorem w_X8_isSo_J70 {p : Program} {l : Launch} {e : Env} {s : State} {m : MethodId} {below : List Frame} {meth : Method} {c : Code} {G : va_G} {cA : Nat → ClassId} {A : Nat → Prop} {aa : Nat → Nat} {S : Tr} {L : Lo} {x1₀ : Int32} {r0 : Int32} {x1 : Int32} (F : tF p s m ([.ref (aa 0), .int x1₀] : List Value).toArray meth c G cA A RX8 cX8_isSo 4 (some .boolean))  (k2 : Int32 → Option (Int32)) (hk2 : ∀ (x2 : Int32) (H : Heap) (locs : List Loc) (ls : Array Slot), k2 x2 = some r0 → va_P G vwCl (wM cA aa S L) H → va_D A (wM cA aa S L) → va_S A s.heap H locs → lv_has ls 4 [(0, .ref (aa 0)), (1, .int x1), (2, .int x2)] → G_X8_isSo p l e s m below meth c G cA A aa S L x1₀ r0 H locs (F0 m 2 ls [])) (x2 : Int32) (s0 : Int32) (H : Heap) (locs : List Loc) (ls : Array Slot) (h : fJ_X8_isSo_J70 k2 S x1 x2 s0 = some r0) (hP : va_P G vwCl (wM cA aa S L) H) (hD : va_D A (wM cA aa S L)) (hS : va_S A s.heap H locs) (hl : lv_has ls 4 [(3, .int s0), (0, .ref (aa 0)), (1, .int x1), (2, .int x2)]) : G_X8_isSo p l e s m below meth c G cA A aa S L x1₀ r0 H locs (F0 m 70 ls [.int s0]) := by
  obtain ⟨hx, hb, hr, hml, hT, hown, hlocks, hK, hN, hA⟩ := id F
  unfold fJ_X8_isSo_J70 at h
  refine lv_istore_n (lv' := [(3, .int s0), (0, .ref (aa 0)), (1, .int x1), (2, .int x2)]) hx hb dX8_isSo_70 rfl hl (by decide) rfl (fun ls hl => ?_)
  refine lv_iload_n hx hb dX8_isSo_71 rfl (lv_at hl 0 rfl) ?_
  refine lv_aload_n hx hb dX8_isSo_72 rfl (lv_at hl 1 rfl) ?_
  refine va_get (D := G) (ci := 8) (v := .ref (aa 81)) (C := RX8) (T := TX8) (N := 91) hx hb hT ku_8 hown hK hP 0 rfl rfl 80 (by decide) (hT _ kw_11_7) (fun _ h9 => h9) rfl dX8_isSo_73 ?_
  refine lv_iconst (v := 4) hx hb dX8_isSo_76 (by decide) ?_
  refine lv_iload_n hx hb dX8_isSo_77 rfl (lv_at hl 3 rfl) ?_
  refine lv_imul hx hb dX8_isSo_78 ?_
  refine lv_iconst (v := 3) hx hb dX8_isSo_79 (by decide) ?_
  refine lv_iadd hx hb dX8_isSo_80 ?_
  obtain ⟨g14, h⟩ := tx_ck h
  refine va_iald (i := (((4 : Int32) * x2) + 3)) hx hb hK hP 44 0 rfl rfl (tx_in g14) dX8_isSo_81 ?_
  refine lv_iconst (v := 1) hx hb dX8_isSo_82 (by decide) ?_
  refine lv_icmp_ne (tgt := 90) hx hb dX8_isSo_83 (by decide) (fun c15 => ?_) (fun c15 => ?_)
  · have h := tx_neg c15 h
    refine lv_iconst (v := 0) hx hb dX8_isSo_90 (by decide) ?_
    exact w_X8_isSo_J91 F k2 hk2 x2 0 s0 H locs ls h hP hD hS (lv_sub hl [1, 2, 3] rfl)
  · have h := tx_pos c15 h
    refine lv_iconst (v := 1) hx hb dX8_isSo_86 (by decide) ?_
    refine lv_goto (tgt := 91) hx hb dX8_isSo_87 (by decide) ?_
    exact w_X8_isSo_J91 F k2 hk2 x2 1 s0 H locs ls h hP hD hS (lv_sub hl [1, 2, 3] rfl)
set_option maxHeartbeats 4000000 in
set_option maxRecDepth 100000 in
theorem w_X8_isSo_L2 {p : Program} {l : Launch} {e : Env} {s : State} {m : MethodId} {below : List Frame} {meth : Method} {c : Code} {G : va_G} {cA : Nat → ClassId} {A : Nat → Prop} {aa : Nat → Nat} {S : Tr} {L : Lo} {x1₀ : Int32} {r0 : Int32} {x1 : Int32} (F : tF p s m ([.ref (aa 0), .int x1₀] : List Value).toArray meth c G cA A RX8 cX8_isSo 4 (some .boolean))    (N : Nat) : ∀ (x2 : Int32) (H : Heap) (locs : List Loc) (ls : Array Slot), lpF (fun _ => none) (fB_X8_isSo_L2 S x1) N x2 = some r0 → va_P G vwCl (wM cA aa S L) H → va_D A (wM cA aa S L) → va_S A s.heap H locs → lv_has ls 4 [(0, .ref (aa 0)), (1, .int x1), (2, .int x2)] → G_X8_isSo p l e s m below meth c G cA A aa S L x1₀ r0 H locs (F0 m 2 ls []) := by
  obtain ⟨hx, hb, hr, hml, hT, hown, hlocks, hK, hN, hA⟩ := id F
  induction N with
  | zero =>
    intro x2 H locs ls h
    have h : (none : Option (Int32)) = some r0 := h
    cases h
  | succ N hk2 =>
    intro x2 H locs ls h hP hD hS hl
    have h : fB_X8_isSo_L2 S x1 (lpF (fun _ => none) (fB_X8_isSo_L2 S x1) N) x2 = some r0 := h
    generalize hk2e : lpF (fun _ => none) (fB_X8_isSo_L2 S x1) N = k2 at h hk2
    unfold fB_X8_isSo_L2 at h
    refine lv_iload_n hx hb dX8_isSo_2 rfl (lv_at hl 2 rfl) ?_
    refine lv_aload_n hx hb dX8_isSo_3 rfl (lv_at hl 0 rfl) ?_
    obtain ⟨r1, hc2, h⟩ := tx_bd h
    refine tw_ci tw_all hP hD hS hA (va_runV (As := []) (rest := [.int x2]) ⟨hx, hb, hml, hown, hT⟩ (c_X8_knownBy l G cA H.size aa S L  r1 hc2) (cwV 0 hT (tq_gV kw_56_10 kw_56_11 kw_56_12 kw_1_5 kw_56_13) rfl rfl rfl (by decide +kernel) ⟨Nat.le_of_ble_eq_true rfl, Nat.le_of_ble_eq_true rfl⟩) ⟨(tw_pre tw_all hP hD hK hN).1, va_recv hK hP (ci := 8) (q0 := 0) rfl rfl, (tw_pre tw_all hP hD hK hN).2⟩ rfl rfl hl.1 rfl (lv_room (Nat.le_of_ble_eq_true rfl)) dX8_isSo_4 ⟨Nat.le_of_ble_eq_true rfl, Nat.le_of_ble_eq_true rfl⟩) (fun _ _ H locs z3 hP hD hS => ?_)
    subst z3
    rw [List.append_nil] at hP hD
    have hP : va_P G vwCl (wM cA aa S L) H := hP
    have hD : va_D A (wM cA aa S L) := hD
    refine lv_icmp_ge (tgt := 102) hx hb dX8_isSo_7 (by decide) (fun c4 => ?_) (fun c4 => ?_)
    · have h := tx_pos c4 h
      refine lv_iconst (v := 1) hx hb dX8_isSo_102 (by decide) ?_
      obtain rfl := tx_1 h
      exact W.zret (ty := .boolean) hx hb hr rfl (fun t ht hW => ⟨⟨_, (), rfl, rfl, by rw [ht]; exact hP, hD⟩, hS.F ht⟩) hS.2.2 dX8_isSo_103
    · have h := tx_neg c4 h
      refine lv_aload_n hx hb dX8_isSo_10 rfl (lv_at hl 0 rfl) ?_
      refine va_get (D := G) (ci := 8) (v := .ref (aa 82)) (C := RX8) (T := TX8) (N := 91) hx hb hT ku_8 hown hK hP 0 rfl rfl 81 (by decide) (hT _ kw_11_8) (fun _ h9 => h9) rfl dX8_isSo_11 ?_
      refine lv_iload_n hx hb dX8_isSo_14 rfl (lv_at hl 2 rfl) ?_
      obtain ⟨g5, h⟩ := tx_ck h
      refine va_zald (i := x2) hx hb hK hP 45 1 rfl rfl (tx_in g5) dX8_isSo_15 ?_
      refine lv_if_eq (tgt := 96) hx hb dX8_isSo_16 (by decide) (fun c6 => ?_) (fun c6 => ?_)
      · have h := tx_pos c6 h
        obtain ⟨y7, ey7, h⟩ := tx_lt h
        refine lv_iinc (v := y7) (lv' := [(2, .int y7), (0, .ref (aa 0)), (1, .int x1)]) hx hb dX8_isSo_96 hl (k := 2) rfl ey7 (by decide) rfl (fun ls hl => ?_)
        refine lv_goto (tgt := 2) hx hb dX8_isSo_99 (by decide) ?_
        exact hk2 y7 H locs ls h hP hD hS (lv_sub hl [1, 2, 0] rfl)
      · have h := tx_neg c6 h
        refine lv_aload_n hx hb dX8_isSo_19 rfl (lv_at hl 0 rfl) ?_
        refine va_get (D := G) (ci := 8) (v := .ref (aa 81)) (C := RX8) (T := TX8) (N := 91) hx hb hT ku_8 hown hK hP 0 rfl rfl 80 (by decide) (hT _ kw_11_7) (fun _ h9 => h9) rfl dX8_isSo_20 ?_
        refine lv_iconst (v := 4) hx hb dX8_isSo_23 (by decide) ?_
        refine lv_iload_n hx hb dX8_isSo_24 rfl (lv_at hl 2 rfl) ?_
        refine lv_imul hx hb dX8_isSo_25 ?_
        obtain ⟨g8, h⟩ := tx_ck h
        refine va_iald (i := ((4 : Int32) * x2)) hx hb hK hP 44 0 rfl rfl (tx_in g8) dX8_isSo_26 ?_
        refine lv_iload_n hx hb dX8_isSo_27 rfl (lv_at hl 1 rfl) ?_
        refine lv_icmp_eq (tgt := 34) hx hb dX8_isSo_28 (by decide) (fun c9 => ?_) (fun c9 => ?_)
        · have h := tx_pos c9 h
          refine lv_aload_n hx hb dX8_isSo_34 rfl (lv_at hl 0 rfl) ?_
          refine va_get (D := G) (ci := 8) (v := .ref (aa 54)) (C := RX8) (T := TX8) (N := 91) hx hb hT ku_8 hown hK hP 0 rfl rfl 53 (by decide) (hT _ kw_10_14) (fun _ h9 => h9) rfl dX8_isSo_35 ?_
          refine lv_bipush (v := 10) hx hb dX8_isSo_38 (by decide) ?_
          refine lv_aload_n hx hb dX8_isSo_40 rfl (lv_at hl 0 rfl) ?_
          refine va_get (D := G) (ci := 8) (v := .ref (aa 81)) (C := RX8) (T := TX8) (N := 91) hx hb hT ku_8 hown hK hP 0 rfl rfl 80 (by decide) (hT _ kw_11_7) (fun _ h9 => h9) rfl dX8_isSo_41 ?_
          refine lv_iconst (v := 4) hx hb dX8_isSo_44 (by decide) ?_
          refine lv_iload_n hx hb dX8_isSo_45 rfl (lv_at hl 2 rfl) ?_
          refine lv_imul hx hb dX8_isSo_46 ?_
          refine lv_iconst (v := 1) hx hb dX8_isSo_47 (by decide) ?_
          refine lv_iadd hx hb dX8_isSo_48 ?_
          obtain ⟨g10, h⟩ := tx_ck h
          refine va_iald (i := (((4 : Int32) * x2) + 1)) hx hb hK hP 44 0 rfl rfl (tx_in g10) dX8_isSo_49 ?_
          refine lv_iadd hx hb dX8_isSo_50 ?_
          obtain ⟨g11, h⟩ := tx_ck h
          refine va_iald (i := ((10 : Int32) + (S 81 (((4 : Int32) * x2) + 1).toNatClampNeg))) hx hb hK hP 28 0 rfl rfl (tx_in g11) dX8_isSo_51 ?_
          refine lv_aload_n hx hb dX8_isSo_52 rfl (lv_at hl 0 rfl) ?_
          refine va_get (D := G) (ci := 8) (v := .ref (aa 81)) (C := RX8) (T := TX8) (N := 91) hx hb hT ku_8 hown hK hP 0 rfl rfl 80 (by decide) (hT _ kw_11_7) (fun _ h9 => h9) rfl dX8_isSo_53 ?_
          refine lv_iconst (v := 4) hx hb dX8_isSo_56 (by decide) ?_
          refine lv_iload_n hx hb dX8_isSo_57 rfl (lv_at hl 2 rfl) ?_
          refine lv_imul hx hb dX8_isSo_58 ?_
          refine lv_iconst (v := 2) hx hb dX8_isSo_59 (by decide) ?_
          refine lv_iadd hx hb dX8_isSo_60 ?_
          obtain ⟨g12, h⟩ := tx_ck h
          refine va_iald (i := (((4 : Int32) * x2) + 2)) hx hb hK hP 44 0 rfl rfl (tx_in g12) dX8_isSo_61 ?_
          refine lv_icmp_ne (tgt := 69) hx hb dX8_isSo_62 (by decide) (fun c13 => ?_) (fun c13 => ?_)
          · have h := tx_neg c13 h
            refine lv_iconst (v := 0) hx hb dX8_isSo_69 (by decide) ?_
            exact w_X8_isSo_J70 F k2 hk2 x2 0 H locs ls h hP hD hS (lv_sub hl [0, 1, 2] rfl)
          · have h := tx_pos c13 h
            refine lv_iconst (v := 1) hx hb dX8_isSo_65 (by decide) ?_
            refine lv_goto (tgt := 70) hx hb dX8_isSo_66 (by decide) ?_
            exact w_X8_isSo_J70 F k2 hk2 x2 1 H locs ls h hP hD hS (lv_sub hl [0, 1, 2] rfl)
        · have h := tx_neg c9 h
          refine lv_goto (tgt := 96) hx hb dX8_isSo_31 (by decide) ?_
          obtain ⟨y18, ey18, h⟩ := tx_lt h
          refine lv_iinc (v := y18) (lv' := [(2, .int y18), (0, .ref (aa 0)), (1, .int x1)]) hx hb dX8_isSo_96 hl (k := 2) rfl ey18 (by decide) rfl (fun ls hl => ?_)
          refine lv_goto (tgt := 2) hx hb dX8_isSo_99 (by decide) ?_
          exact hk2 y18 H locs ls h hP hD hS (lv_sub hl [1, 2, 0] rfl)
set_option maxHeartbeats 4000000 in
set_option maxRecDepth 100000 in
theorem c_X8_isSo (l : Launch) (G : va_G) (cA : Nat → ClassId) (sz : Nat) (aa : Nat → Nat) (S : Tr) (L : Lo) (x1 : Int32)  (r0 : Int32) (h : f_X8_isSo S x1 = some r0) : Met l yX8_isSo (.code yX8_isSo cX8_isSo 4 (some .boolean) :: T0) ({ frames := 1, cells := 0, slots := 0, locals := 20 } : Room) (tqP G cA [.ref (aa 0), .int x1] (wM cA aa S L) sz) (tqQi G cA (fun (r : Int32) (_ : Unit) => r = r0) (fun (_ : Unit) => wM cA aa S L) (va_A (wM cA aa S L) sz)) 0 0 (va_A (wM cA aa S L) sz) := by
  refine Met.ofW (cc := cX8_isSo) (maxL := 4) (ret := (some .boolean)) (by decide) rfl ?_
  intro p e s m args below meth c s₁ B hml hv
  obtain ⟨rfl, hsz, hP, hK, hD0, hN⟩ := hv
  have hx := B.exec
  have hb := B.bytes
  have hr := B.returns
  have hts := atoms_spec (ws := .code yX8_isSo cX8_isSo 4 (some .boolean) :: T0) B.pre
  have hT : ∀ w ∈ T0, w.before _ s = true := fun w h => hts w (List.mem_cons_of_mem _ h)
  have hown : s.vm.findClass RX8 = some m.cls := findClass_of_methodNamed B.named
  have hlocks := B.notSynchronized
  subst hsz
  have hD := hD0.self (sz := s.heap.size)
  generalize hAe : va_A (wM cA aa S L) s.heap.size = A at hD ⊢
  have hA : ∀ q : Nat, s.heap.size ≤ q → A q := fun q h => by rw [← hAe]; exact Or.inr h
  have hS : va_S A s.heap s.heap [] := va_S.rf
  have hl := lv_entry ([.ref (aa 0), .int x1]) (n := 4) (Nat.le_of_ble_eq_true rfl)
  rw [lg_entry_eq]
  generalize (lg_sl ([.ref (aa 0), .int x1]) ++ List.replicate (4 - (lg_sl ([.ref (aa 0), .int x1])).length) Slot.unset).toArray = ls at hl ⊢
  have hl : lv_has ls 4 [(0, .ref (aa 0)), (1, .int x1)] := hl
  have F : tF p s m ([.ref (aa 0), .int x1] : List Value).toArray meth c G cA A RX8 cX8_isSo 4 (some .boolean) := ⟨hx, hb, hr, hml, hT, hown, hlocks, hK, hN, hA⟩
  obtain ⟨H, hH⟩ : ∃ z, z = s.heap := ⟨_, rfl⟩
  rw [← hH] at hP
  have hS : va_S A s.heap H [] := by rw [hH]; exact hS
  suffices hgo : G_X8_isSo p l e s m below meth c G cA A aa S L x1 r0 H [] (F0 m 0 ls []) by rw [hH] at hgo; exact hgo
  generalize ([] : List Loc) = locs at hS ⊢
  unfold f_X8_isSo at h
  refine lv_iconst (v := 0) hx hb dX8_isSo_0 (by decide) ?_
  refine lv_istore_n (lv' := [(2, .int 0), (0, .ref (aa 0)), (1, .int x1)]) hx hb dX8_isSo_1 rfl hl (by decide) rfl (fun ls hl => ?_)
  exact w_X8_isSo_L2 F 2000 0 H locs ls h hP hD hS (lv_sub hl [1, 2, 0] rfl)
abbrev G_X8_fits (p : Program) (l : Launch) (e : Env) (s : State) (m : MethodId) (below : List Frame) (meth : Method) (c : Code) (G : va_G) (cA : Nat → ClassId) (A : Nat → Prop) (aa : Nat → Nat) (x1 : Int32) (x2 : Int32) (r0 : Int32) (S' : Tr) (L' : Lo) (H : Heap) (locs : List Loc) (g : JFrame) : Prop := W p l e (headSpec (.code yX8_fits cX8_fits 3 (some .boolean) :: T0) ({ frames := 7, cells := 0, slots := 0, locals := 170 } : Room)).room s m ([.ref (aa 0), .int x1, .int x2] : List Value).toArray below meth c H locs 0 0 (MQ below (tqQi G cA (fun (r : Int32) (_ : Unit) => r = r0) (fun (_ : Unit) => wM cA aa S' L') A) ([.ref (aa 0), .int x1, .int x2] : List Value).toArray s 0 0 A) g
set_option maxHeartbeats 4000000 in
set_option maxRecDepth 100000 in
theorem w_X8_fits_L19 {p : Program} {l : Launch} {e : Env} {s : State} {m : MethodId} {below : List Frame} {meth : Method} {c : Code} {G : va_G} {cA : Nat → ClassId} {A : Nat → Prop} {aa : Nat → Nat} {x1₀ : Int32} {x2₀ : Int32} {r0 : Int32} {S' : Tr} {L' : Lo} (F : tF p s m ([.ref (aa 0), .int x1₀, .int x2₀] : List Value).toArray meth c G cA A RX8 cX8_fits 3 (some .boolean))    (N : Nat) : ∀ (S : Tr) (L : Lo) (H : Heap) (locs : List Loc) (ls : Array Slot), lpF (fun _ _ => none) (fB_X8_fits_L19 ) N S L = some (r0, S', L') → va_P G vwCl (wM cA aa S L) H → va_D A (wM cA aa S L) → va_S A s.heap H locs → lv_has ls 3 [(0, .ref (aa 0))] → G_X8_fits p l e s m below meth c G cA A aa x1₀ x2₀ r0 S' L' H locs (F0 m 19 ls []) := by
  obtain ⟨hx, hb, hr, hml, hT, hown, hlocks, hK, hN, hA⟩ := id F
  induction N with
  | zero =>
    intro S L H locs ls h
    have h : (none : Option (Int32 × Tr × Lo)) = some (r0, S', L') := h
    cases h
  | succ N hk19 =>
    intro S L H locs ls h hP hD hS hl
    have h : fB_X8_fits_L19  (lpF (fun _ _ => none) (fB_X8_fits_L19 ) N) S L = some (r0, S', L') := h
    generalize hk19e : lpF (fun _ _ => none) (fB_X8_fits_L19 ) N = k19 at h hk19
    unfold fB_X8_fits_L19 at h
    refine lv_aload_n hx hb dX8_fits_19 rfl (lv_at hl 0 rfl) ?_
    refine va_get (D := G) (ci := 8) (v := .ref (aa 62)) (C := RX8) (T := TX8) (N := 91) hx hb hT ku_8 hown hK hP 0 rfl rfl 61 (by decide) (hT _ kw_10_22) (fun _ h9 => h9) rfl dX8_fits_20 ?_
    refine lv_iconst (v := 1) hx hb dX8_fits_23 (by decide) ?_
    refine va_iald (i := 1) hx hb hK hP 36 0 rfl rfl (tq_in (by decide)) dX8_fits_24 ?_
    refine tq_i (w := (S 62 1)) rfl ?_
    refine lv_bipush (v := 20) hx hb dX8_fits_25 (by decide) ?_
    refine lv_icmp_ge (tgt := 73) hx hb dX8_fits_27 (by decide) (fun c9 => ?_) (fun c9 => ?_)
    · have h := tx_pos c9 h
      refine lv_iconst (v := 1) hx hb dX8_fits_73 (by decide) ?_
      obtain ⟨rfl, rfl, rfl⟩ := tx_3 h
      exact W.zret (ty := .boolean) hx hb hr rfl (fun t ht hW => ⟨⟨_, (), rfl, rfl, by rw [ht]; exact hP, hD⟩, hS.F ht⟩) hS.2.2 dX8_fits_74
    · have h := tx_neg c9 h
      refine lv_aload_n hx hb dX8_fits_30 rfl (lv_at hl 0 rfl) ?_
      refine lv_iconst (v := 1) hx hb dX8_fits_31 (by decide) ?_
      obtain ⟨⟨S_10, L_11⟩, hc12, h⟩ := tx_bd h
      replace h := tx_let (y := S_10) rfl h
      replace h := tx_let (y := L_11) rfl h
      refine tw_cv tw_all hP hD hS hA (va_runV (As := [.int 1]) (rest := []) ⟨hx, hb, hml, hown, hT⟩ (c_X8_outs l G cA H.size aa S L (1 : Int32)  S_10 L_11 hc12) (cwV 1 hT (tq_gV kw_43_18 kw_43_19 kw_43_20 kw_1_5 kw_43_21) rfl rfl rfl (by decide +kernel) ⟨Nat.le_of_ble_eq_true rfl, Nat.le_of_ble_eq_true rfl⟩) ⟨(tw_pre tw_all hP hD hK hN).1, va_recv hK hP (ci := 8) (q0 := 0) rfl rfl, (tw_pre tw_all hP hD hK hN).2⟩ rfl rfl hl.1 rfl (lv_room (Nat.le_of_ble_eq_true rfl)) dX8_fits_32 ⟨Nat.le_of_ble_eq_true rfl, Nat.le_of_ble_eq_true rfl⟩) (fun _ H locs z13 hP hD hS => ?_)
      rw [List.append_nil] at hP hD
      have hP : va_P G vwCl (wM cA aa S_10 L_11) H := hP
      have hD : va_D A (wM cA aa S_10 L_11) := hD
      refine lv_aload_n hx hb dX8_fits_35 rfl (lv_at hl 0 rfl) ?_
      refine lv_iconst (v := 1) hx hb dX8_fits_36 (by decide) ?_
      obtain ⟨S_14, hc15, h⟩ := tx_bd h
      refine tw_cv tw_all hP hD hS hA (va_runV (As := [.int 1]) (rest := []) ⟨hx, hb, hml, hown, hT⟩ (c_X8_ins l G cA H.size aa S_10 L_11 (1 : Int32)  S_14 hc15) (cwV 1 hT (tq_gV kw_44_19 kw_44_20 kw_44_21 kw_1_5 kw_44_22) rfl rfl rfl (by decide +kernel) ⟨Nat.le_of_ble_eq_true rfl, Nat.le_of_ble_eq_true rfl⟩) ⟨(tw_pre tw_all hP hD hK hN).1, va_recv hK hP (ci := 8) (q0 := 0) rfl rfl, (tw_pre tw_all hP hD hK hN).2⟩ rfl rfl hl.1 rfl (lv_room (Nat.le_of_ble_eq_true rfl)) dX8_fits_37 ⟨Nat.le_of_ble_eq_true rfl, Nat.le_of_ble_eq_true rfl⟩) (fun _ H locs z16 hP hD hS => ?_)
      rw [List.append_nil] at hP hD
      have hP : va_P G vwCl (wM cA aa S_14 L_11) H := hP
      have hD : va_D A (wM cA aa S_14 L_11) := hD
      refine lv_aload_n hx hb dX8_fits_40 rfl (lv_at hl 0 rfl) ?_
      refine lv_aload_n hx hb dX8_fits_41 rfl (lv_at hl 0 rfl) ?_
      refine va_get (D := G) (ci := 8) (v := .ref (aa 62)) (C := RX8) (T := TX8) (N := 91) hx hb hT ku_8 hown hK hP 0 rfl rfl 61 (by decide) (hT _ kw_10_22) (fun _ h9 => h9) rfl dX8_fits_42 ?_
      refine lv_iconst (v := 1) hx hb dX8_fits_45 (by decide) ?_
      refine va_iald (i := 1) hx hb hK hP 36 0 rfl rfl (tq_in (by decide)) dX8_fits_46 ?_
      refine tq_i (w := (S_14 62 1)) rfl ?_
      obtain ⟨r17, hc18, h⟩ := tx_bd h
      refine tw_ci tw_all hP hD hS hA (va_runV (As := [.int (S_14 62 1)]) (rest := []) ⟨hx, hb, hml, hown, hT⟩ (c_X8_isSo l G cA H.size aa S_14 L_11 (S_14 62 1)  r17 hc18) (cwV 1 hT (tq_gV kw_56_18 kw_56_19 kw_56_20 kw_1_5 kw_56_21) rfl rfl rfl (by decide +kernel) ⟨Nat.le_of_ble_eq_true rfl, Nat.le_of_ble_eq_true rfl⟩) ⟨(tw_pre tw_all hP hD hK hN).1, va_recv hK hP (ci := 8) (q0 := 0) rfl rfl, (tw_pre tw_all hP hD hK hN).2⟩ rfl rfl hl.1 rfl (lv_room (Nat.le_of_ble_eq_true rfl)) dX8_fits_47 ⟨Nat.le_of_ble_eq_true rfl, Nat.le_of_ble_eq_true rfl⟩) (fun _ _ H locs z19 hP hD hS => ?_)
      subst z19
      rw [List.append_nil] at hP hD
      have hP : va_P G vwCl (wM cA aa S_14 L_11) H := hP
      have hD : va_D A (wM cA aa S_14 L_11) := hD
      refine lv_if_ne (tgt := 55) hx hb dX8_fits_50 (by decide) (fun c20 => ?_) (fun c20 => ?_)
      · have h := tx_neg c20 h
        refine lv_aload_n hx hb dX8_fits_55 rfl (lv_at hl 0 rfl) ?_
        refine lv_iconst (v := 1) hx hb dX8_fits_56 (by decide) ?_
        obtain ⟨⟨S_21, L_22⟩, hc23, h⟩ := tx_bd h
        replace h := tx_let (y := S_21) rfl h
        replace h := tx_let (y := L_22) rfl h
        refine tw_cv tw_all hP hD hS hA (va_runV (As := [.int 1]) (rest := []) ⟨hx, hb, hml, hown, hT⟩ (c_X8_onTheWay l G cA H.size aa S_14 L_11 (1 : Int32)  S_21 L_22 hc23) (cwV 1 hT (tq_gV kw_45_3 kw_45_4 kw_45_5 kw_1_5 kw_45_6) rfl rfl rfl (by decide +kernel) ⟨Nat.le_of_ble_eq_true rfl, Nat.le_of_ble_eq_true rfl⟩) ⟨(tw_pre tw_all hP hD hK hN).1, va_recv hK hP (ci := 8) (q0 := 0) rfl rfl, (tw_pre tw_all hP hD hK hN).2⟩ rfl rfl hl.1 rfl (lv_room (Nat.le_of_ble_eq_true rfl)) dX8_fits_57 ⟨Nat.le_of_ble_eq_true rfl, Nat.le_of_ble_eq_true rfl⟩) (fun _ H locs z24 hP hD hS => ?_)
        rw [List.append_nil] at hP hD
        have hP : va_P G vwCl (wM cA aa S_21 L_22) H := hP
        have hD : va_D A (wM cA aa S_21 L_22) := hD
        refine lv_aload_n hx hb dX8_fits_60 rfl (lv_at hl 0 rfl) ?_
        refine va_get (D := G) (ci := 8) (v := .ref (aa 62)) (C := RX8) (T := TX8) (N := 91) hx hb hT ku_8 hown hK hP 0 rfl rfl 61 (by decide) (hT _ kw_10_22) (fun _ h9 => h9) rfl dX8_fits_61 ?_
        refine lv_iconst (v := 1) hx hb dX8_fits_64 (by decide) ?_
        refine lv_dup2_11 hx hb dX8_fits_65 rfl rfl ?_
        refine va_iald (i := 1) hx hb hK hP 36 0 rfl rfl (tq_in (by decide)) dX8_fits_66 ?_
        refine tq_i (w := (S_21 62 1)) rfl ?_
        refine lv_iconst (v := 1) hx hb dX8_fits_67 (by decide) ?_
        refine lv_iadd hx hb dX8_fits_68 ?_
        refine va_iast (i := 1) hx hb hK hP hD hS 36 0 rfl rfl (tq_in (by decide)) dX8_fits_69 (fun H locs hP hD hS => ?_)
        rw [show (1 : Int32).toNatClampNeg = 1 from rfl] at hP hD
        obtain ⟨S_25, eS_25, h⟩ := tx_lt h
        rw [sM_a61, eS_25] at hP hD
        refine lv_goto (tgt := 19) hx hb dX8_fits_70 (by decide) ?_
        exact hk19 S_25 L_22 H locs ls h hP hD hS (lv_sub hl [0] rfl)
      · have h := tx_pos c20 h
        refine lv_iconst (v := 0) hx hb dX8_fits_53 (by decide) ?_
        obtain ⟨rfl, rfl, rfl⟩ := tx_3 h
        exact W.zret (ty := .boolean) hx hb hr rfl (fun t ht hW => ⟨⟨_, (), rfl, rfl, by rw [ht]; exact hP, hD⟩, hS.F ht⟩) hS.2.2 dX8_fits_54
set_option maxHeartbeats 4000000 in
set_option maxRecDepth 100000 in
theorem c_X8_fits (l : Launch) (G : va_G) (cA : Nat → ClassId) (sz : Nat) (aa : Nat → Nat) (S : Tr) (L : Lo) (x1 : Int32) (x2 : Int32)  (r0 : Int32) (S' : Tr) (L' : Lo) (h : f_X8_fits S L x1 x2 = some (r0, S', L')) : Met l yX8_fits (.code yX8_fits cX8_fits 3 (some .boolean) :: T0) ({ frames := 7, cells := 0, slots := 0, locals := 170 } : Room) (tqP G cA [.ref (aa 0), .int x1, .int x2] (wM cA aa S L) sz) (tqQi G cA (fun (r : Int32) (_ : Unit) => r = r0) (fun (_ : Unit) => wM cA aa S' L') (va_A (wM cA aa S L) sz)) 0 0 (va_A (wM cA aa S L) sz) := by
  refine Met.ofW (cc := cX8_fits) (maxL := 3) (ret := (some .boolean)) (by decide) rfl ?_
  intro p e s m args below meth c s₁ B hml hv
  obtain ⟨rfl, hsz, hP, hK, hD0, hN⟩ := hv
  have hx := B.exec
  have hb := B.bytes
  have hr := B.returns
  have hts := atoms_spec (ws := .code yX8_fits cX8_fits 3 (some .boolean) :: T0) B.pre
  have hT : ∀ w ∈ T0, w.before _ s = true := fun w h => hts w (List.mem_cons_of_mem _ h)
  have hown : s.vm.findClass RX8 = some m.cls := findClass_of_methodNamed B.named
  have hlocks := B.notSynchronized
  subst hsz
  have hD := hD0.self (sz := s.heap.size)
  generalize hAe : va_A (wM cA aa S L) s.heap.size = A at hD ⊢
  have hA : ∀ q : Nat, s.heap.size ≤ q → A q := fun q h => by rw [← hAe]; exact Or.inr h
  have hS : va_S A s.heap s.heap [] := va_S.rf
  have hl := lv_entry ([.ref (aa 0), .int x1, .int x2]) (n := 3) (Nat.le_of_ble_eq_true rfl)
  rw [lg_entry_eq]
  generalize (lg_sl ([.ref (aa 0), .int x1, .int x2]) ++ List.replicate (3 - (lg_sl ([.ref (aa 0), .int x1, .int x2])).length) Slot.unset).toArray = ls at hl ⊢
  have hl : lv_has ls 3 [(0, .ref (aa 0)), (1, .int x1), (2, .int x2)] := hl
  have F : tF p s m ([.ref (aa 0), .int x1, .int x2] : List Value).toArray meth c G cA A RX8 cX8_fits 3 (some .boolean) := ⟨hx, hb, hr, hml, hT, hown, hlocks, hK, hN, hA⟩
  obtain ⟨H, hH⟩ : ∃ z, z = s.heap := ⟨_, rfl⟩
  rw [← hH] at hP
  have hS : va_S A s.heap H [] := by rw [hH]; exact hS
  suffices hgo : G_X8_fits p l e s m below meth c G cA A aa x1 x2 r0 S' L' H [] (F0 m 0 ls []) by rw [hH] at hgo; exact hgo
  generalize ([] : List Loc) = locs at hS ⊢
  unfold f_X8_fits at h
  refine lv_aload_n hx hb dX8_fits_0 rfl (lv_at hl 0 rfl) ?_
  refine lv_iconst (v := 1) hx hb dX8_fits_1 (by decide) ?_
  obtain ⟨S_1, hc2, h⟩ := tx_bd h
  refine tw_cv tw_all hP hD hS hA (va_runV (As := [.int 1]) (rest := []) ⟨hx, hb, hml, hown, hT⟩ (c_X8_atFirst l G cA H.size aa S L (1 : Int32)  S_1 hc2) (cwV 1 hT (tq_gV kw_12_18 kw_12_19 kw_12_20 kw_1_5 kw_12_21) rfl rfl rfl (by decide +kernel) ⟨Nat.le_of_ble_eq_true rfl, Nat.le_of_ble_eq_true rfl⟩) ⟨(tw_pre tw_all hP hD hK hN).1, va_recv hK hP (ci := 8) (q0 := 0) rfl rfl, (tw_pre tw_all hP hD hK hN).2⟩ rfl rfl hl.1 rfl (lv_room (Nat.le_of_ble_eq_true rfl)) dX8_fits_2 ⟨Nat.le_of_ble_eq_true rfl, Nat.le_of_ble_eq_true rfl⟩) (fun _ H locs z3 hP hD hS => ?_)
  rw [List.append_nil] at hP hD
  have hP : va_P G vwCl (wM cA aa S_1 L) H := hP
  have hD : va_D A (wM cA aa S_1 L) := hD
  refine lv_aload_n hx hb dX8_fits_5 rfl (lv_at hl 0 rfl) ?_
  obtain ⟨S_4, hc5, h⟩ := tx_bd h
  refine tw_cv tw_all hP hD hS hA (va_runV (As := []) (rest := []) ⟨hx, hb, hml, hown, hT⟩ (c_X8_plainTried l G cA H.size aa S_1 L  S_4 hc5) (cwV 0 hT (tq_gV kw_12_22 kw_12_23 kw_13_0 kw_1_5 kw_13_1) rfl rfl rfl (by decide +kernel) ⟨Nat.le_of_ble_eq_true rfl, Nat.le_of_ble_eq_true rfl⟩) ⟨(tw_pre tw_all hP hD hK hN).1, va_recv hK hP (ci := 8) (q0 := 0) rfl rfl, (tw_pre tw_all hP hD hK hN).2⟩ rfl rfl hl.1 rfl (lv_room (Nat.le_of_ble_eq_true rfl)) dX8_fits_6 ⟨Nat.le_of_ble_eq_true rfl, Nat.le_of_ble_eq_true rfl⟩) (fun _ H locs z6 hP hD hS => ?_)
  rw [List.append_nil] at hP hD
  have hP : va_P G vwCl (wM cA aa S_4 L) H := hP
  have hD : va_D A (wM cA aa S_4 L) := hD
  refine lv_aload_n hx hb dX8_fits_9 rfl (lv_at hl 0 rfl) ?_
  refine va_get (D := G) (ci := 8) (v := .ref (aa 57)) (C := RX8) (T := TX8) (N := 91) hx hb hT ku_8 hown hK hP 0 rfl rfl 56 (by decide) (hT _ kw_10_17) (fun _ h9 => h9) rfl dX8_fits_10 ?_
  refine lv_bipush (v := 6) hx hb dX8_fits_13 (by decide) ?_
  refine lv_iload_n hx hb dX8_fits_15 rfl (lv_at hl 1 rfl) ?_
  refine lv_iadd hx hb dX8_fits_16 ?_
  refine lv_iload_n hx hb dX8_fits_17 rfl (lv_at hl 2 rfl) ?_
  obtain ⟨g7, h⟩ := tx_ck h
  refine va_iast (i := ((6 : Int32) + x1)) hx hb hK hP hD hS 31 0 rfl rfl (tx_in g7) dX8_fits_18 (fun H locs hP hD hS => ?_)
  obtain ⟨S_8, eS_8, h⟩ := tx_lt h
  rw [sM_a56, eS_8] at hP hD
  exact w_X8_fits_L19 F 2000 S_8 L H locs ls h hP hD hS (lv_sub hl [0] rfl)
abbrev G_X8_go (p : Program) (l : Launch) (e : Env) (s : State) (m : MethodId) (below : List Frame) (meth : Method) (c : Code) (G : va_G) (cA : Nat → ClassId) (A : Nat → Prop) (aa : Nat → Nat) (x1 : Int32) (r0 : Int32) (S' : Tr) (L' : Lo) (H : Heap) (locs : List Loc) (g : JFrame) : Prop := W p l e (headSpec (.code yX8_go cX8_go 3 (some .int) :: T0) ({ frames := 8, cells := 0, slots := 0, locals := 191 } : Room)).room s m ([.ref (aa 0), .int x1] : List Value).toArray below meth c H locs 0 0 (MQ below (tqQi G cA (fun (r : Int32) (_ : Unit) => r = r0) (fun (_ : Unit) => wM cA aa S' L') A) ([.ref (aa 0), .int x1] : List Value).toArray s 0 0 A) g
set_option maxHeartbeats 4000000 in
set_option maxRecDepth 100000 in
theorem w_X8_go_J75 {p : Program} {l : Launch} {e : Env} {s : State} {m : MethodId} {below : List Frame} {meth : Method} {c : Code} {G : va_G} {cA : Nat → ClassId} {A : Nat → Prop} {aa : Nat → Nat} {x1₀ : Int32} {r0 : Int32} {S' : Tr} {L' : Lo} (F : tF p s m ([.ref (aa 0), .int x1₀] : List Value).toArray meth c G cA A RX8 cX8_go 3 (some .int))    (s0 : Int32) (S : Tr) (L : Lo) (H : Heap) (locs : List Loc) (ls : Array Slot) (h : fJ_X8_go_J75 s0 S L = some (r0, S', L')) (hP : va_P G vwCl (wM cA aa S_14 L) H) (hD : va_D A (wM cA aa S_14 L)) (hS : va_S A s.heap H locs) (hl : lv_has ls 3 [(0, .ref (aa 0))]) : G_X8_go p l e s m below meth c G cA A aa x1₀ r0 S' L' H locs (F0 m 75 ls []) := by
  obtain ⟨hx, hb, hr, hml, hT, hown, hlocks, hK, hN, hA⟩ := id F
  unfold fJ_X8_go_J75 at h
  refine va_put (D := G) (ci := 8) (v := .int s0) (ty := .int) (C := RX8) (T := TX8) (N := 91) hx hb hT ku_8 tyX8 tyX8_ok nmX8 hown hK hP hD hS 0 rfl rfl 82 (by decide) (hT _ kw_12_16) (fun _ h9 => h9) rfl (by decide +kernel) rfl rfl (Nat.le_of_ble_eq_true rfl) dX8_go_75 (fun H locs hP hD hS => ?_)
  obtain ⟨S_14, eS_14, h⟩ := tx_lt h
  rw [sM_f82, eS_14] at hP hD
  refine lv_aload_n hx hb dX8_go_78 rfl (lv_at hl 0 rfl) ?_
  refine va_get (D := G) (ci := 8) (v := .ref (aa 62)) (C := RX8) (T := TX8) (N := 91) hx hb hT ku_8 hown hK hP 0 rfl rfl 61 (by decide) (hT _ kw_10_22) (fun _ h9 => h9) rfl dX8_go_79 ?_
  refine lv_iconst (v := 0) hx hb dX8_go_82 (by decide) ?_
  refine va_iald (i := 0) hx hb hK hP 36 0 rfl rfl (tq_in (by decide)) dX8_go_83 ?_
  refine tq_i (w := (S_14 62 0)) rfl ?_
  obtain ⟨rfl, rfl, rfl⟩ := tx_3 h
  exact W.iret hx hb hr (fun t ht hW => ⟨⟨_, (), rfl, rfl, by rw [ht]; exact hP, hD⟩, hS.F ht⟩) hS.2.2 dX8_go_84
set_option maxHeartbeats 4000000 in
set_option maxRecDepth 100000 in
theorem w_X8_go_J57 {p : Program} {l : Launch} {e : Env} {s : State} {m : MethodId} {below : List Frame} {meth : Method} {c : Code} {G : va_G} {cA : Nat → ClassId} {A : Nat → Prop} {aa : Nat → Nat} {x1₀ : Int32} {r0 : Int32} {S' : Tr} {L' : Lo} (F : tF p s m ([.ref (aa 0), .int x1₀] : List Value).toArray meth c G cA A RX8 cX8_go 3 (some .int))    (x1 : Int32) (S : Tr) (L : Lo) (H : Heap) (locs : List Loc) (ls : Array Slot) (h : fJ_X8_go_J57 x1 S L = some (r0, S', L')) (hP : va_P G vwCl (wM cA aa S_12 L) H) (hD : va_D A (wM cA aa S_12 L)) (hS : va_S A s.heap H locs) (hl : lv_has ls 3 [(0, .ref (aa 0)), (1, .int x1)]) : G_X8_go p l e s m below meth c G cA A aa x1₀ r0 S' L' H locs (F0 m 57 ls [.ref (aa 0)]) := by
  obtain ⟨hx, hb, hr, hml, hT, hown, hlocks, hK, hN, hA⟩ := id F
  unfold fJ_X8_go_J57 at h
  refine lv_aload_n hx hb dX8_go_57 rfl (lv_at hl 0 rfl) ?_
  refine lv_iconst (v := 0) hx hb dX8_go_58 (by decide) ?_
  refine va_put (D := G) (ci := 8) (v := .int 0) (ty := .boolean) (C := RX8) (T := TX8) (N := 91) hx hb hT ku_8 tyX8 tyX8_ok nmX8 hown hK hP hD hS 0 rfl rfl 65 (by decide) (hT _ kw_13_3) (fun _ h9 => h9) rfl (by decide +kernel) rfl rfl (Nat.le_of_ble_eq_true rfl) dX8_go_59 (fun H locs hP hD hS => ?_)
  obtain ⟨S_12, eS_12, h⟩ := tx_lt h
  rw [sM_f65, eS_12] at hP hD
  refine lv_aload_n hx hb dX8_go_62 rfl (lv_at hl 0 rfl) ?_
  refine lv_iload_n hx hb dX8_go_63 rfl (lv_at hl 1 rfl) ?_
  refine lv_if_le (tgt := 71) hx hb dX8_go_64 (by decide) (fun c13 => ?_) (fun c13 => ?_)
  · have h := tx_pos c13 h
    refine lv_aload_n hx hb dX8_go_71 rfl (lv_at hl 0 rfl) ?_
    refine va_get (D := G) (ci := 8) (v := .int (S_12 0 82)) (C := RX8) (T := TX8) (N := 91) hx hb hT ku_8 hown hK hP 0 rfl rfl 82 (by decide) (hT _ kw_12_16) (fun _ h9 => h9) rfl dX8_go_72 ?_
    exact w_X8_go_J75 F (S_12 0 82) S_12 L H locs ls h hP hD hS (lv_sub hl [0] rfl)
  · have h := tx_neg c13 h
    refine lv_iconst (v := 0) hx hb dX8_go_67 (by decide) ?_
    refine lv_goto (tgt := 75) hx hb dX8_go_68 (by decide) ?_
    exact w_X8_go_J75 F 0 S_12 L H locs ls h hP hD hS (lv_sub hl [0] rfl)
set_option maxHeartbeats 4000000 in
set_option maxRecDepth 100000 in
theorem w_X8_go_L41 {p : Program} {l : Launch} {e : Env} {s : State} {m : MethodId} {below : List Frame} {meth : Method} {c : Code} {G : va_G} {cA : Nat → ClassId} {A : Nat → Prop} {aa : Nat → Nat} {x1₀ : Int32} {r0 : Int32} {S' : Tr} {L' : Lo} {x1 : Int32} (F : tF p s m ([.ref (aa 0), .int x1₀] : List Value).toArray meth c G cA A RX8 cX8_go 3 (some .int))    (N : Nat) : ∀ (x2 : Int32) (S : Tr) (L : Lo) (H : Heap) (locs : List Loc) (ls : Array Slot), lpF (fun _ _ _ => none) (fB_X8_go_L41 x1) N x2 S L = some (r0, S', L') → va_P G vwCl (wM cA aa S L) H → va_D A (wM cA aa S L) → va_S A s.heap H locs → lv_has ls 3 [(0, .ref (aa 0)), (1, .int x1), (2, .int x2)] → G_X8_go p l e s m below meth c G cA A aa x1₀ r0 S' L' H locs (F0 m 41 ls []) := by
  obtain ⟨hx, hb, hr, hml, hT, hown, hlocks, hK, hN, hA⟩ := id F
  induction N with
  | zero =>
    intro x2 S L H locs ls h
    have h : (none : Option (Int32 × Tr × Lo)) = some (r0, S', L') := h
    cases h
  | succ N hk41 =>
    intro x2 S L H locs ls h hP hD hS hl
    have h : fB_X8_go_L41 x1 (lpF (fun _ _ _ => none) (fB_X8_go_L41 x1) N) x2 S L = some (r0, S', L') := h
    generalize hk41e : lpF (fun _ _ _ => none) (fB_X8_go_L41 x1) N = k41 at h hk41
    unfold fB_X8_go_L41 at h
    refine lv_iload_n hx hb dX8_go_41 rfl (lv_at hl 2 rfl) ?_
    refine lv_iload_n hx hb dX8_go_42 rfl (lv_at hl 1 rfl) ?_
    refine lv_icmp_ge (tgt := 57) hx hb dX8_go_43 (by decide) (fun c11 => ?_) (fun c11 => ?_)
    · have h := tx_pos c11 h
      exact w_X8_go_J57 F x1 S L H locs ls h hP hD hS (lv_sub hl [0, 1] rfl)
    · have h := tx_neg c11 h
      refine lv_aload_n hx hb dX8_go_46 rfl (lv_at hl 0 rfl) ?_
      refine lv_iconst (v := 0) hx hb dX8_go_47 (by decide) ?_
      obtain ⟨⟨S_15, L_16⟩, hc17, h⟩ := tx_bd h
      replace h := tx_let (y := S_15) rfl h
      replace h := tx_let (y := L_16) rfl h
      refine tw_cv tw_all hP hD hS hA (va_runV (As := [.int 0]) (rest := []) ⟨hx, hb, hml, hown, hT⟩ (c_X8_goOn l G cA H.size aa S L (0 : Int32)  S_15 L_16 hc17) (cwV 1 hT (tq_gV kw_43_14 kw_43_15 kw_43_16 kw_1_5 kw_43_17) rfl rfl rfl (by decide +kernel) ⟨Nat.le_of_ble_eq_true rfl, Nat.le_of_ble_eq_true rfl⟩) ⟨(tw_pre tw_all hP hD hK hN).1, va_recv hK hP (ci := 8) (q0 := 0) rfl rfl, (tw_pre tw_all hP hD hK hN).2⟩ rfl rfl hl.1 rfl (lv_room (Nat.le_of_ble_eq_true rfl)) dX8_go_48 ⟨Nat.le_of_ble_eq_true rfl, Nat.le_of_ble_eq_true rfl⟩) (fun _ H locs z18 hP hD hS => ?_)
      rw [List.append_nil] at hP hD
      have hP : va_P G vwCl (wM cA aa S_15 L_16) H := hP
      have hD : va_D A (wM cA aa S_15 L_16) := hD
      obtain ⟨y19, ey19, h⟩ := tx_lt h
      refine lv_iinc (v := y19) (lv' := [(2, .int y19), (0, .ref (aa 0)), (1, .int x1)]) hx hb dX8_go_51 hl (k := 2) rfl ey19 (by decide) rfl (fun ls hl => ?_)
      refine lv_goto (tgt := 41) hx hb dX8_go_54 (by decide) ?_
      exact hk41 y19 S_15 L_16 H locs ls h hP hD hS (lv_sub hl [1, 2, 0] rfl)
set_option maxHeartbeats 4000000 in
set_option maxRecDepth 100000 in
theorem c_X8_go (l : Launch) (G : va_G) (cA : Nat → ClassId) (sz : Nat) (aa : Nat → Nat) (S : Tr) (L : Lo) (x1 : Int32)  (r0 : Int32) (S' : Tr) (L' : Lo) (h : f_X8_go S L x1 = some (r0, S', L')) : Met l yX8_go (.code yX8_go cX8_go 3 (some .int) :: T0) ({ frames := 8, cells := 0, slots := 0, locals := 191 } : Room) (tqP G cA [.ref (aa 0), .int x1] (wM cA aa S L) sz) (tqQi G cA (fun (r : Int32) (_ : Unit) => r = r0) (fun (_ : Unit) => wM cA aa S' L') (va_A (wM cA aa S L) sz)) 0 0 (va_A (wM cA aa S L) sz) := by
  refine Met.ofW (cc := cX8_go) (maxL := 3) (ret := (some .int)) (by decide) rfl ?_
  intro p e s m args below meth c s₁ B hml hv
  obtain ⟨rfl, hsz, hP, hK, hD0, hN⟩ := hv
  have hx := B.exec
  have hb := B.bytes
  have hr := B.returns
  have hts := atoms_spec (ws := .code yX8_go cX8_go 3 (some .int) :: T0) B.pre
  have hT : ∀ w ∈ T0, w.before _ s = true := fun w h => hts w (List.mem_cons_of_mem _ h)
  have hown : s.vm.findClass RX8 = some m.cls := findClass_of_methodNamed B.named
  have hlocks := B.notSynchronized
  subst hsz
  have hD := hD0.self (sz := s.heap.size)
  generalize hAe : va_A (wM cA aa S L) s.heap.size = A at hD ⊢
  have hA : ∀ q : Nat, s.heap.size ≤ q → A q := fun q h => by rw [← hAe]; exact Or.inr h
  have hS : va_S A s.heap s.heap [] := va_S.rf
  have hl := lv_entry ([.ref (aa 0), .int x1]) (n := 3) (Nat.le_of_ble_eq_true rfl)
  rw [lg_entry_eq]
  generalize (lg_sl ([.ref (aa 0), .int x1]) ++ List.replicate (3 - (lg_sl ([.ref (aa 0), .int x1])).length) Slot.unset).toArray = ls at hl ⊢
  have hl : lv_has ls 3 [(0, .ref (aa 0)), (1, .int x1)] := hl
  have F : tF p s m ([.ref (aa 0), .int x1] : List Value).toArray meth c G cA A RX8 cX8_go 3 (some .int) := ⟨hx, hb, hr, hml, hT, hown, hlocks, hK, hN, hA⟩
  obtain ⟨H, hH⟩ : ∃ z, z = s.heap := ⟨_, rfl⟩
  rw [← hH] at hP
  have hS : va_S A s.heap H [] := by rw [hH]; exact hS
  suffices hgo : G_X8_go p l e s m below meth c G cA A aa x1 r0 S' L' H [] (F0 m 0 ls []) by rw [hH] at hgo; exact hgo
  generalize ([] : List Loc) = locs at hS ⊢
  unfold f_X8_go at h
  refine lv_aload_n hx hb dX8_go_0 rfl (lv_at hl 0 rfl) ?_
  refine lv_iconst (v := 0) hx hb dX8_go_1 (by decide) ?_
  refine va_put (D := G) (ci := 8) (v := .int 0) (ty := .int) (C := RX8) (T := TX8) (N := 91) hx hb hT ku_8 tyX8 tyX8_ok nmX8 hown hK hP hD hS 0 rfl rfl 2 (by decide) (hT _ kw_14_0) (fun _ h9 => h9) rfl (by decide +kernel) rfl rfl (Nat.le_of_ble_eq_true rfl) dX8_go_2 (fun H locs hP hD hS => ?_)
  obtain ⟨S_1, eS_1, h⟩ := tx_lt h
  rw [sM_f2, eS_1] at hP hD
  refine lv_iload_n hx hb dX8_go_5 rfl (lv_at hl 1 rfl) ?_
  refine lv_iconst (v := 0) hx hb dX8_go_6 (by decide) ?_
  refine lv_bipush (v := 21) hx hb dX8_go_7 (by decide) ?_
  obtain ⟨r2, hc3, h⟩ := tx_bd h
  refine tw_ci (tw_none (ws := wM cA aa S_1 L)) hP hD hS hA (va_runS (As := [.int x1, .int 0, .int 21]) (rest := []) ⟨hx, hb, hml, hown, hT⟩ (c_X8_isIn l G cA H.size x1 (0 : Int32) (21 : Int32)  r2 hc3) (va_cwS 3 hT (tq_gS kw_24_11 kw_24_12 kw_1_5 kw_24_13) rfl rfl rfl (by decide +kernel) ⟨Nat.le_of_ble_eq_true rfl, Nat.le_of_ble_eq_true rfl⟩) (tw_pre (tw_none (ws := wM cA aa S_1 L)) hP hD hK hN) rfl rfl hl.1 rfl (lv_room (Nat.le_of_ble_eq_true rfl)) dX8_go_9 ⟨Nat.le_of_ble_eq_true rfl, Nat.le_of_ble_eq_true rfl⟩) (fun _ _ H locs z4 hP hD hS => ?_)
  subst z4
  have hP : va_P G vwCl (wM cA aa S_1 L) H := hP
  have hD : va_D A (wM cA aa S_1 L) := hD
  refine lv_if_eq (tgt := 28) hx hb dX8_go_12 (by decide) (fun c5 => ?_) (fun c5 => ?_)
  · have h := tx_pos c5 h
    refine lv_iconst (v := (-1)) hx hb dX8_go_28 (by decide) ?_
    obtain ⟨rfl, rfl, rfl⟩ := tx_3 h
    exact W.iret hx hb hr (fun t ht hW => ⟨⟨_, (), rfl, rfl, by rw [ht]; exact hP, hD⟩, hS.F ht⟩) hS.2.2 dX8_go_29
  · have h := tx_neg c5 h
    refine lv_aload_n hx hb dX8_go_15 rfl (lv_at hl 0 rfl) ?_
    refine va_get (D := G) (ci := 8) (v := .ref (aa 62)) (C := RX8) (T := TX8) (N := 91) hx hb hT ku_8 hown hK hP 0 rfl rfl 61 (by decide) (hT _ kw_10_22) (fun _ h9 => h9) rfl dX8_go_16 ?_
    refine lv_iconst (v := 0) hx hb dX8_go_19 (by decide) ?_
    refine va_iald (i := 0) hx hb hK hP 36 0 rfl rfl (tq_in (by decide)) dX8_go_20 ?_
    refine tq_i (w := (S_1 62 0)) rfl ?_
    refine lv_iload_n hx hb dX8_go_21 rfl (lv_at hl 1 rfl) ?_
    refine lv_iadd hx hb dX8_go_22 ?_
    refine lv_bipush (v := 21) hx hb dX8_go_23 (by decide) ?_
    refine lv_icmp_le (tgt := 30) hx hb dX8_go_25 (by decide) (fun c6 => ?_) (fun c6 => ?_)
    · have h := tx_pos c6 h
      refine lv_aload_n hx hb dX8_go_30 rfl (lv_at hl 0 rfl) ?_
      obtain ⟨S_7, hc8, h⟩ := tx_bd h
      refine tw_cv tw_all hP hD hS hA (va_runV (As := []) (rest := []) ⟨hx, hb, hml, hown, hT⟩ (c_X8_plainTried l G cA H.size aa S_1 L  S_7 hc8) (cwV 0 hT (tq_gV kw_12_22 kw_12_23 kw_13_0 kw_1_5 kw_13_1) rfl rfl rfl (by decide +kernel) ⟨Nat.le_of_ble_eq_true rfl, Nat.le_of_ble_eq_true rfl⟩) ⟨(tw_pre tw_all hP hD hK hN).1, va_recv hK hP (ci := 8) (q0 := 0) rfl rfl, (tw_pre tw_all hP hD hK hN).2⟩ rfl rfl hl.1 rfl (lv_room (Nat.le_of_ble_eq_true rfl)) dX8_go_31 ⟨Nat.le_of_ble_eq_true rfl, Nat.le_of_ble_eq_true rfl⟩) (fun _ H locs z9 hP hD hS => ?_)
      rw [List.append_nil] at hP hD
      have hP : va_P G vwCl (wM cA aa S_7 L) H := hP
      have hD : va_D A (wM cA aa S_7 L) := hD
      refine lv_aload_n hx hb dX8_go_34 rfl (lv_at hl 0 rfl) ?_
      refine lv_iconst (v := 1) hx hb dX8_go_35 (by decide) ?_
      refine va_put (D := G) (ci := 8) (v := .int 1) (ty := .boolean) (C := RX8) (T := TX8) (N := 91) hx hb hT ku_8 tyX8 tyX8_ok nmX8 hown hK hP hD hS 0 rfl rfl 65 (by decide) (hT _ kw_13_3) (fun _ h9 => h9) rfl (by decide +kernel) rfl rfl (Nat.le_of_ble_eq_true rfl) dX8_go_36 (fun H locs hP hD hS => ?_)
      obtain ⟨S_10, eS_10, h⟩ := tx_lt h
      rw [sM_f65, eS_10] at hP hD
      refine lv_iconst (v := 0) hx hb dX8_go_39 (by decide) ?_
      refine lv_istore_n (lv' := [(2, .int 0), (0, .ref (aa 0)), (1, .int x1)]) hx hb dX8_go_40 rfl hl (by decide) rfl (fun ls hl => ?_)
      exact w_X8_go_L41 F 2000 0 S_10 L H locs ls h hP hD hS (lv_sub hl [1, 2, 0] rfl)
    · have h := tx_neg c6 h
      refine lv_iconst (v := (-1)) hx hb dX8_go_28 (by decide) ?_
      obtain ⟨rfl, rfl, rfl⟩ := tx_3 h
      exact W.iret hx hb hr (fun t ht hW => ⟨⟨_, (), rfl, rfl, by rw [ht]; exact hP, hD⟩, hS.F ht⟩) hS.2.2 dX8_go_29
