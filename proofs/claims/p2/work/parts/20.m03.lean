abbrev G_X8_turns (p : Program) (l : Launch) (e : Env) (s : State) (m : MethodId) (below : List Frame) (meth : Method) (c : Code) (G : va_G) (cA : Nat → ClassId) (A : Nat → Prop) (aa : Nat → Nat) (L : Lo) (x1 : Int32) (x2 : Int32) (r0 : Int32) (S' : Tr) (H : Heap) (locs : List Loc) (g : JFrame) : Prop := W p l e (headSpec (.code yX8_turns cX8_turns 9 (some .int) :: T0) ({ frames := 1, cells := 0, slots := 0, locals := 24 } : Room)).room s m ([.ref (aa 0), .int x1, .int x2] : List Value).toArray below meth c H locs 0 0 (MQ below (tqQi G cA (fun (r : Int32) (_ : Unit) => r = r0) (fun (_ : Unit) => wM cA aa S' L) A) ([.ref (aa 0), .int x1, .int x2] : List Value).toArray s 0 0 A) g
set_option maxHeartbeats 4000000 in
set_option maxRecDepth 100000 in
theorem w_X8_turns_L113 {p : Program} {l : Launch} {e : Env} {s : State} {m : MethodId} {below : List Frame} {meth : Method} {c : Code} {G : va_G} {cA : Nat → ClassId} {A : Nat → Prop} {aa : Nat → Nat} {L : Lo} {x1₀ : Int32} {x2₀ : Int32} {r0 : Int32} {S' : Tr} {x1 : Int32} {x2 : Int32} {x3 : Int32} {x4 : Int32} (F : tF p s m ([.ref (aa 0), .int x1₀, .int x2₀] : List Value).toArray meth c G cA A RX8 cX8_turns 9 (some .int))    (N : Nat) : ∀ (x5 : Int32) (S : Tr) (H : Heap) (locs : List Loc) (ls : Array Slot), lpF (fun _ _ => none) (fB_X8_turns_L113 x1 x2 x3 x4) N x5 S = some (r0, S') → va_P G vwCl (wM cA aa S L) H → va_D A (wM cA aa S L) → va_S A s.heap H locs → lv_has ls 9 [(0, .ref (aa 0)), (1, .int x1), (2, .int x2), (3, .int x3), (4, .int x4), (5, .int x5)] → G_X8_turns p l e s m below meth c G cA A aa L x1₀ x2₀ r0 S' H locs (F0 m 113 ls []) := by
  obtain ⟨hx, hb, hr, hml, hT, hown, hlocks, hK, hN, hA⟩ := id F
  induction N with
  | zero =>
    intro x5 S H locs ls h
    have h : (none : Option (Int32 × Tr)) = some (r0, S') := h
    cases h
  | succ N hk113 =>
    intro x5 S H locs ls h hP hD hS hl
    have h : fB_X8_turns_L113 x1 x2 x3 x4 (lpF (fun _ _ => none) (fB_X8_turns_L113 x1 x2 x3 x4) N) x5 S = some (r0, S') := h
    generalize hk113e : lpF (fun _ _ => none) (fB_X8_turns_L113 x1 x2 x3 x4) N = k113 at h hk113
    unfold fB_X8_turns_L113 at h
    refine lv_iload hx hb dX8_turns_113 (lv_at hl 5 rfl) ?_
    refine lv_iload_n hx hb dX8_turns_115 rfl (lv_at hl 3 rfl) ?_
    refine lv_icmp_ge (tgt := 149) hx hb dX8_turns_116 (by decide) (fun c4 => ?_) (fun c4 => ?_)
    · have h := tx_pos c4 h
      refine lv_iload hx hb dX8_turns_149 (lv_at hl 4 rfl) ?_
      obtain ⟨rfl, rfl⟩ := tx_2 h
      exact W.iret hx hb hr (fun t ht hW => ⟨⟨_, (), rfl, rfl, by rw [ht]; exact hP, hD⟩, hS.F ht⟩) hS.2.2 dX8_turns_151
    · have h := tx_neg c4 h
      refine lv_aload_n hx hb dX8_turns_119 rfl (lv_at hl 0 rfl) ?_
      refine va_get (D := G) (ci := 8) (v := .ref (aa 55)) (C := RX8) (T := TX8) (N := 91) hx hb hT ku_8 hown hK hP 0 rfl rfl 54 (by decide) (hT _ kw_10_15) (fun _ h9 => h9) rfl dX8_turns_120 ?_
      refine lv_bipush (v := 50) hx hb dX8_turns_123 (by decide) ?_
      refine lv_iload_n hx hb dX8_turns_125 rfl (lv_at hl 1 rfl) ?_
      refine lv_imul hx hb dX8_turns_126 ?_
      refine lv_bipush (v := 10) hx hb dX8_turns_127 (by decide) ?_
      refine lv_iload_n hx hb dX8_turns_129 rfl (lv_at hl 2 rfl) ?_
      refine lv_imul hx hb dX8_turns_130 ?_
      refine lv_iadd hx hb dX8_turns_131 ?_
      refine lv_iload hx hb dX8_turns_132 (lv_at hl 5 rfl) ?_
      refine lv_iadd hx hb dX8_turns_134 ?_
      refine lv_aload_n hx hb dX8_turns_135 rfl (lv_at hl 0 rfl) ?_
      refine va_get (D := G) (ci := 8) (v := .ref (aa 74)) (C := RX8) (T := TX8) (N := 91) hx hb hT ku_8 hown hK hP 0 rfl rfl 73 (by decide) (hT _ kw_11_1) (fun _ h9 => h9) rfl dX8_turns_136 ?_
      refine lv_iload hx hb dX8_turns_139 (lv_at hl 5 rfl) ?_
      obtain ⟨g5, h⟩ := tx_ck h
      refine va_iald (i := x5) hx hb hK hP 39 0 rfl rfl (tx_in g5) dX8_turns_141 ?_
      obtain ⟨g6, h⟩ := tx_ck h
      refine va_iast (i := ((((50 : Int32) * x1) + ((10 : Int32) * x2)) + x5)) hx hb hK hP hD hS 29 0 rfl rfl (tx_in g6) dX8_turns_142 (fun H locs hP hD hS => ?_)
      obtain ⟨S_7, eS_7, h⟩ := tx_lt h
      rw [sM_a54, eS_7] at hP hD
      obtain ⟨y8, ey8, h⟩ := tx_lt h
      refine lv_iinc (v := y8) (lv' := [(5, .int y8), (0, .ref (aa 0)), (1, .int x1), (2, .int x2), (3, .int x3), (4, .int x4)]) hx hb dX8_turns_143 hl (k := 5) rfl ey8 (by decide) rfl (fun ls hl => ?_)
      refine lv_goto (tgt := 113) hx hb dX8_turns_146 (by decide) ?_
      exact hk113 y8 S_7 H locs ls h hP hD hS (lv_sub hl [1, 2, 3, 4, 5, 0] rfl)
set_option maxHeartbeats 4000000 in
set_option maxRecDepth 100000 in
theorem w_X8_turns_J78 {p : Program} {l : Launch} {e : Env} {s : State} {m : MethodId} {below : List Frame} {meth : Method} {c : Code} {G : va_G} {cA : Nat → ClassId} {A : Nat → Prop} {aa : Nat → Nat} {L : Lo} {x1₀ : Int32} {x2₀ : Int32} {r0 : Int32} {S' : Tr} {x1 : Int32} {x2 : Int32} {x3 : Int32} (F : tF p s m ([.ref (aa 0), .int x1₀, .int x2₀] : List Value).toArray meth c G cA A RX8 cX8_turns 9 (some .int))  (k17 : Int32 → Int32 → Tr → Option (Int32 × Tr)) (hk17 : ∀ (x4 : Int32) (x5 : Int32) (S : Tr) (H : Heap) (locs : List Loc) (ls : Array Slot), k17 x4 x5 S = some (r0, S') → va_P G vwCl (wM cA aa S L) H → va_D A (wM cA aa S L) → va_S A s.heap H locs → lv_has ls 9 [(0, .ref (aa 0)), (1, .int x1), (2, .int x2), (3, .int x3), (4, .int x4), (5, .int x5)] → G_X8_turns p l e s m below meth c G cA A aa L x1₀ x2₀ r0 S' H locs (F0 m 17 ls [])) (x4 : Int32) (x5 : Int32) (x6 : Int32) (x7 : Int32) (S : Tr) (H : Heap) (locs : List Loc) (ls : Array Slot) (h : fJ_X8_turns_J78 k17 x1 x2 x3 x4 x5 x6 x7 S = some (r0, S')) (hP : va_P G vwCl (wM cA aa S_14 L) H) (hD : va_D A (wM cA aa S_14 L)) (hS : va_S A s.heap H locs) (hl : lv_has ls 9 [(0, .ref (aa 0)), (1, .int x1), (2, .int x2), (3, .int x3), (4, .int x4), (5, .int x5), (6, .int x6), (7, .int x7)]) : G_X8_turns p l e s m below meth c G cA A aa L x1₀ x2₀ r0 S' H locs (F0 m 78 ls [.int x4]) := by
  obtain ⟨hx, hb, hr, hml, hT, hown, hlocks, hK, hN, hA⟩ := id F
  unfold fJ_X8_turns_J78 at h
  refine lv_aload_n hx hb dX8_turns_78 rfl (lv_at hl 0 rfl) ?_
  refine va_get (D := G) (ci := 8) (v := .ref (aa 74)) (C := RX8) (T := TX8) (N := 91) hx hb hT ku_8 hown hK hP 0 rfl rfl 73 (by decide) (hT _ kw_11_1) (fun _ h9 => h9) rfl dX8_turns_79 ?_
  refine lv_iload hx hb dX8_turns_82 (lv_at hl 7 rfl) ?_
  refine lv_iload hx hb dX8_turns_84 (lv_at hl 6 rfl) ?_
  obtain ⟨g13, h⟩ := tx_ck h
  refine va_iast (i := x7) hx hb hK hP hD hS 39 0 rfl rfl (tx_in g13) dX8_turns_86 (fun H locs hP hD hS => ?_)
  obtain ⟨S_14, eS_14, h⟩ := tx_lt h
  rw [sM_a73, eS_14] at hP hD
  refine lv_iload hx hb dX8_turns_87 (lv_at hl 4 rfl) ?_
  refine lv_iload hx hb dX8_turns_89 (lv_at hl 7 rfl) ?_
  refine lv_iload hx hb dX8_turns_91 (lv_at hl 5 rfl) ?_
  refine lv_icmp_ne (tgt := 100) hx hb dX8_turns_93 (by decide) (fun c15 => ?_) (fun c15 => ?_)
  · have h := tx_neg c15 h
    refine lv_iconst (v := 1) hx hb dX8_turns_100 (by decide) ?_
    refine lv_iadd hx hb dX8_turns_101 ?_
    refine lv_topi (fun y16 ey16 => ?_)
    have h := tx_let ey16 h
    refine lv_istore (lv' := [(4, .int y16), (0, .ref (aa 0)), (1, .int x1), (2, .int x2), (3, .int x3), (5, .int x5), (6, .int x6), (7, .int x7)]) hx hb dX8_turns_102 hl (by decide) rfl (fun ls hl => ?_)
    obtain ⟨y17, ey17, h⟩ := tx_lt h
    refine lv_iinc (v := y17) (lv' := [(5, .int y17), (4, .int y16), (0, .ref (aa 0)), (1, .int x1), (2, .int x2), (3, .int x3), (6, .int x6), (7, .int x7)]) hx hb dX8_turns_104 hl (k := 5) rfl ey17 (by decide) rfl (fun ls hl => ?_)
    refine lv_goto (tgt := 17) hx hb dX8_turns_107 (by decide) ?_
    exact hk17 y16 y17 S_14 H locs ls h hP hD hS (lv_sub hl [2, 3, 4, 5, 1, 0] rfl)
  · have h := tx_pos c15 h
    refine lv_iconst (v := 0) hx hb dX8_turns_96 (by decide) ?_
    refine lv_goto (tgt := 101) hx hb dX8_turns_97 (by decide) ?_
    refine lv_iadd hx hb dX8_turns_101 ?_
    refine lv_topi (fun y18 ey18 => ?_)
    have h := tx_let ey18 h
    refine lv_istore (lv' := [(4, .int y18), (0, .ref (aa 0)), (1, .int x1), (2, .int x2), (3, .int x3), (5, .int x5), (6, .int x6), (7, .int x7)]) hx hb dX8_turns_102 hl (by decide) rfl (fun ls hl => ?_)
    obtain ⟨y19, ey19, h⟩ := tx_lt h
    refine lv_iinc (v := y19) (lv' := [(5, .int y19), (4, .int y18), (0, .ref (aa 0)), (1, .int x1), (2, .int x2), (3, .int x3), (6, .int x6), (7, .int x7)]) hx hb dX8_turns_104 hl (k := 5) rfl ey19 (by decide) rfl (fun ls hl => ?_)
    refine lv_goto (tgt := 17) hx hb dX8_turns_107 (by decide) ?_
    exact hk17 y18 y19 S_14 H locs ls h hP hD hS (lv_sub hl [2, 3, 4, 5, 1, 0] rfl)
set_option maxHeartbeats 4000000 in
set_option maxRecDepth 100000 in
theorem w_X8_turns_L39 {p : Program} {l : Launch} {e : Env} {s : State} {m : MethodId} {below : List Frame} {meth : Method} {c : Code} {G : va_G} {cA : Nat → ClassId} {A : Nat → Prop} {aa : Nat → Nat} {L : Lo} {x1₀ : Int32} {x2₀ : Int32} {r0 : Int32} {S' : Tr} {S : Tr} {x1 : Int32} {x2 : Int32} {x3 : Int32} {x4 : Int32} {x5 : Int32} {x6 : Int32} (F : tF p s m ([.ref (aa 0), .int x1₀, .int x2₀] : List Value).toArray meth c G cA A RX8 cX8_turns 9 (some .int))  (k17 : Int32 → Int32 → Tr → Option (Int32 × Tr)) (hk17 : ∀ (x4 : Int32) (x5 : Int32) (S : Tr) (H : Heap) (locs : List Loc) (ls : Array Slot), k17 x4 x5 S = some (r0, S') → va_P G vwCl (wM cA aa S L) H → va_D A (wM cA aa S L) → va_S A s.heap H locs → lv_has ls 9 [(0, .ref (aa 0)), (1, .int x1), (2, .int x2), (3, .int x3), (4, .int x4), (5, .int x5)] → G_X8_turns p l e s m below meth c G cA A aa L x1₀ x2₀ r0 S' H locs (F0 m 17 ls [])) (N : Nat) : ∀ (x7 : Int32) (x8 : Int32) (H : Heap) (locs : List Loc) (ls : Array Slot), lpF (fun _ _ => none) (fB_X8_turns_L39 k17 S x1 x2 x3 x4 x5 x6) N x7 x8 = some (r0, S') → va_P G vwCl (wM cA aa S L) H → va_D A (wM cA aa S L) → va_S A s.heap H locs → lv_has ls 9 [(0, .ref (aa 0)), (1, .int x1), (2, .int x2), (3, .int x3), (4, .int x4), (5, .int x5), (6, .int x6), (7, .int x7), (8, .int x8)] → G_X8_turns p l e s m below meth c G cA A aa L x1₀ x2₀ r0 S' H locs (F0 m 39 ls []) := by
  obtain ⟨hx, hb, hr, hml, hT, hown, hlocks, hK, hN, hA⟩ := id F
  induction N with
  | zero =>
    intro x7 x8 H locs ls h
    have h : (none : Option (Int32 × Tr)) = some (r0, S') := h
    cases h
  | succ N hk39 =>
    intro x7 x8 H locs ls h hP hD hS hl
    have h : fB_X8_turns_L39 k17 S x1 x2 x3 x4 x5 x6 (lpF (fun _ _ => none) (fB_X8_turns_L39 k17 S x1 x2 x3 x4 x5 x6) N) x7 x8 = some (r0, S') := h
    generalize hk39e : lpF (fun _ _ => none) (fB_X8_turns_L39 k17 S x1 x2 x3 x4 x5 x6) N = k39 at h hk39
    unfold fB_X8_turns_L39 at h
    refine lv_iload hx hb dX8_turns_39 (lv_at hl 8 rfl) ?_
    refine lv_iload_n hx hb dX8_turns_41 rfl (lv_at hl 3 rfl) ?_
    refine lv_icmp_ge (tgt := 78) hx hb dX8_turns_42 (by decide) (fun c12 => ?_) (fun c12 => ?_)
    · have h := tx_pos c12 h
      exact w_X8_turns_J78 F k17 hk17 x4 x5 x6 x7 S H locs ls h hP hD hS (lv_sub hl [0, 1, 2, 3, 4, 5, 6, 7] rfl)
    · have h := tx_neg c12 h
      refine lv_iload hx hb dX8_turns_45 (lv_at hl 7 rfl) ?_
      refine lv_aload_n hx hb dX8_turns_47 rfl (lv_at hl 0 rfl) ?_
      refine lv_aload_n hx hb dX8_turns_48 rfl (lv_at hl 0 rfl) ?_
      refine lv_iload_n hx hb dX8_turns_49 rfl (lv_at hl 1 rfl) ?_
      refine lv_iload_n hx hb dX8_turns_50 rfl (lv_at hl 2 rfl) ?_
      refine lv_iload hx hb dX8_turns_51 (lv_at hl 8 rfl) ?_
      obtain ⟨r20, hc21, h⟩ := tx_bd h
      refine tw_ci tw_all hP hD hS hA (va_runV (As := [.int x1, .int x2, .int x8]) (rest := [.ref (aa 0), .int x7]) ⟨hx, hb, hml, hown, hT⟩ (c_X8_stackAt l G cA H.size aa S L x1 x2 x8  r20 hc21) (cwV 3 hT (tq_gV kw_31_10 kw_31_11 kw_31_12 kw_1_5 kw_31_13) rfl rfl rfl (by decide +kernel) ⟨Nat.le_of_ble_eq_true rfl, Nat.le_of_ble_eq_true rfl⟩) ⟨(tw_pre tw_all hP hD hK hN).1, va_recv hK hP (ci := 8) (q0 := 0) rfl rfl, (tw_pre tw_all hP hD hK hN).2⟩ rfl rfl hl.1 rfl (lv_room (Nat.le_of_ble_eq_true rfl)) dX8_turns_53 ⟨Nat.le_of_ble_eq_true rfl, Nat.le_of_ble_eq_true rfl⟩) (fun _ _ H locs z22 hP hD hS => ?_)
      subst z22
      rw [List.append_nil] at hP hD
      have hP : va_P G vwCl (wM cA aa S L) H := hP
      have hD : va_D A (wM cA aa S L) := hD
      refine lv_iload hx hb dX8_turns_56 (lv_at hl 6 rfl) ?_
      obtain ⟨r23, hc24, h⟩ := tx_bd h
      refine tw_ci tw_all hP hD hS hA (va_runV (As := [.int r20, .int x6]) (rest := [.int x7]) ⟨hx, hb, hml, hown, hT⟩ (c_X8_isBelow l G cA H.size aa S L r20 x6  r23 hc24) (cwV 2 hT (tq_gV kw_39_13 kw_39_14 kw_39_15 kw_1_5 kw_39_16) rfl rfl rfl (by decide +kernel) ⟨Nat.le_of_ble_eq_true rfl, Nat.le_of_ble_eq_true rfl⟩) ⟨(tw_pre tw_all hP hD hK hN).1, va_recv hK hP (ci := 8) (q0 := 0) rfl rfl, (tw_pre tw_all hP hD hK hN).2⟩ rfl rfl hl.1 rfl (lv_room (Nat.le_of_ble_eq_true rfl)) dX8_turns_58 ⟨Nat.le_of_ble_eq_true rfl, Nat.le_of_ble_eq_true rfl⟩) (fun _ _ H locs z25 hP hD hS => ?_)
      subst z25
      rw [List.append_nil] at hP hD
      have hP : va_P G vwCl (wM cA aa S L) H := hP
      have hD : va_D A (wM cA aa S L) := hD
      refine lv_if_eq (tgt := 68) hx hb dX8_turns_61 (by decide) (fun c26 => ?_) (fun c26 => ?_)
      · have h := tx_pos c26 h
        refine lv_iconst (v := 0) hx hb dX8_turns_68 (by decide) ?_
        refine lv_iadd hx hb dX8_turns_69 ?_
        refine lv_topi (fun y27 ey27 => ?_)
        have h := tx_let ey27 h
        refine lv_istore (lv' := [(7, .int y27), (0, .ref (aa 0)), (1, .int x1), (2, .int x2), (3, .int x3), (4, .int x4), (5, .int x5), (6, .int x6), (8, .int x8)]) hx hb dX8_turns_70 hl (by decide) rfl (fun ls hl => ?_)
        obtain ⟨y28, ey28, h⟩ := tx_lt h
        refine lv_iinc (v := y28) (lv' := [(8, .int y28), (7, .int y27), (0, .ref (aa 0)), (1, .int x1), (2, .int x2), (3, .int x3), (4, .int x4), (5, .int x5), (6, .int x6)]) hx hb dX8_turns_72 hl (k := 8) rfl ey28 (by decide) rfl (fun ls hl => ?_)
        refine lv_goto (tgt := 39) hx hb dX8_turns_75 (by decide) ?_
        exact hk39 y27 y28 H locs ls h hP hD hS (lv_sub hl [2, 3, 4, 5, 6, 7, 8, 1, 0] rfl)
      · have h := tx_neg c26 h
        refine lv_iconst (v := 1) hx hb dX8_turns_64 (by decide) ?_
        refine lv_goto (tgt := 69) hx hb dX8_turns_65 (by decide) ?_
        refine lv_iadd hx hb dX8_turns_69 ?_
        refine lv_topi (fun y29 ey29 => ?_)
        have h := tx_let ey29 h
        refine lv_istore (lv' := [(7, .int y29), (0, .ref (aa 0)), (1, .int x1), (2, .int x2), (3, .int x3), (4, .int x4), (5, .int x5), (6, .int x6), (8, .int x8)]) hx hb dX8_turns_70 hl (by decide) rfl (fun ls hl => ?_)
        obtain ⟨y30, ey30, h⟩ := tx_lt h
        refine lv_iinc (v := y30) (lv' := [(8, .int y30), (7, .int y29), (0, .ref (aa 0)), (1, .int x1), (2, .int x2), (3, .int x3), (4, .int x4), (5, .int x5), (6, .int x6)]) hx hb dX8_turns_72 hl (k := 8) rfl ey30 (by decide) rfl (fun ls hl => ?_)
        refine lv_goto (tgt := 39) hx hb dX8_turns_75 (by decide) ?_
        exact hk39 y29 y30 H locs ls h hP hD hS (lv_sub hl [2, 3, 4, 5, 6, 7, 8, 1, 0] rfl)
set_option maxHeartbeats 4000000 in
set_option maxRecDepth 100000 in
theorem w_X8_turns_L17 {p : Program} {l : Launch} {e : Env} {s : State} {m : MethodId} {below : List Frame} {meth : Method} {c : Code} {G : va_G} {cA : Nat → ClassId} {A : Nat → Prop} {aa : Nat → Nat} {L : Lo} {x1₀ : Int32} {x2₀ : Int32} {r0 : Int32} {S' : Tr} {x1 : Int32} {x2 : Int32} {x3 : Int32} (F : tF p s m ([.ref (aa 0), .int x1₀, .int x2₀] : List Value).toArray meth c G cA A RX8 cX8_turns 9 (some .int))    (N : Nat) : ∀ (x4 : Int32) (x5 : Int32) (S : Tr) (H : Heap) (locs : List Loc) (ls : Array Slot), lpF (fun _ _ _ => none) (fB_X8_turns_L17 x1 x2 x3) N x4 x5 S = some (r0, S') → va_P G vwCl (wM cA aa S L) H → va_D A (wM cA aa S L) → va_S A s.heap H locs → lv_has ls 9 [(0, .ref (aa 0)), (1, .int x1), (2, .int x2), (3, .int x3), (4, .int x4), (5, .int x5)] → G_X8_turns p l e s m below meth c G cA A aa L x1₀ x2₀ r0 S' H locs (F0 m 17 ls []) := by
  obtain ⟨hx, hb, hr, hml, hT, hown, hlocks, hK, hN, hA⟩ := id F
  induction N with
  | zero =>
    intro x4 x5 S H locs ls h
    have h : (none : Option (Int32 × Tr)) = some (r0, S') := h
    cases h
  | succ N hk17 =>
    intro x4 x5 S H locs ls h hP hD hS hl
    have h : fB_X8_turns_L17 x1 x2 x3 (lpF (fun _ _ _ => none) (fB_X8_turns_L17 x1 x2 x3) N) x4 x5 S = some (r0, S') := h
    generalize hk17e : lpF (fun _ _ _ => none) (fB_X8_turns_L17 x1 x2 x3) N = k17 at h hk17
    unfold fB_X8_turns_L17 at h
    refine lv_iload hx hb dX8_turns_17 (lv_at hl 5 rfl) ?_
    refine lv_iload_n hx hb dX8_turns_19 rfl (lv_at hl 3 rfl) ?_
    refine lv_icmp_ge (tgt := 110) hx hb dX8_turns_20 (by decide) (fun c3 => ?_) (fun c3 => ?_)
    · have h := tx_pos c3 h
      refine lv_iconst (v := 0) hx hb dX8_turns_110 (by decide) ?_
      refine lv_istore (lv' := [(5, .int 0), (0, .ref (aa 0)), (1, .int x1), (2, .int x2), (3, .int x3), (4, .int x4)]) hx hb dX8_turns_111 hl (by decide) rfl (fun ls hl => ?_)
      exact w_X8_turns_L113 F 2000 0 S H locs ls h hP hD hS (lv_sub hl [1, 2, 3, 4, 5, 0] rfl)
    · have h := tx_neg c3 h
      refine lv_aload_n hx hb dX8_turns_23 rfl (lv_at hl 0 rfl) ?_
      refine lv_iload_n hx hb dX8_turns_24 rfl (lv_at hl 1 rfl) ?_
      refine lv_iload_n hx hb dX8_turns_25 rfl (lv_at hl 2 rfl) ?_
      refine lv_iload hx hb dX8_turns_26 (lv_at hl 5 rfl) ?_
      obtain ⟨r9, hc10, h⟩ := tx_bd h
      refine tw_ci tw_all hP hD hS hA (va_runV (As := [.int x1, .int x2, .int x5]) (rest := []) ⟨hx, hb, hml, hown, hT⟩ (c_X8_stackAt l G cA H.size aa S L x1 x2 x5  r9 hc10) (cwV 3 hT (tq_gV kw_31_10 kw_31_11 kw_31_12 kw_1_5 kw_31_13) rfl rfl rfl (by decide +kernel) ⟨Nat.le_of_ble_eq_true rfl, Nat.le_of_ble_eq_true rfl⟩) ⟨(tw_pre tw_all hP hD hK hN).1, va_recv hK hP (ci := 8) (q0 := 0) rfl rfl, (tw_pre tw_all hP hD hK hN).2⟩ rfl rfl hl.1 rfl (lv_room (Nat.le_of_ble_eq_true rfl)) dX8_turns_28 ⟨Nat.le_of_ble_eq_true rfl, Nat.le_of_ble_eq_true rfl⟩) (fun _ _ H locs z11 hP hD hS => ?_)
      subst z11
      rw [List.append_nil] at hP hD
      have hP : va_P G vwCl (wM cA aa S L) H := hP
      have hD : va_D A (wM cA aa S L) := hD
      refine lv_istore (lv' := [(6, .int r9), (0, .ref (aa 0)), (1, .int x1), (2, .int x2), (3, .int x3), (4, .int x4), (5, .int x5)]) hx hb dX8_turns_31 hl (by decide) rfl (fun ls hl => ?_)
      refine lv_iconst (v := 0) hx hb dX8_turns_33 (by decide) ?_
      refine lv_istore (lv' := [(7, .int 0), (6, .int r9), (0, .ref (aa 0)), (1, .int x1), (2, .int x2), (3, .int x3), (4, .int x4), (5, .int x5)]) hx hb dX8_turns_34 hl (by decide) rfl (fun ls hl => ?_)
      refine lv_iconst (v := 0) hx hb dX8_turns_36 (by decide) ?_
      refine lv_istore (lv' := [(8, .int 0), (7, .int 0), (6, .int r9), (0, .ref (aa 0)), (1, .int x1), (2, .int x2), (3, .int x3), (4, .int x4), (5, .int x5)]) hx hb dX8_turns_37 hl (by decide) rfl (fun ls hl => ?_)
      exact w_X8_turns_L39 F k17 hk17 2000 0 0 H locs ls h hP hD hS (lv_sub hl [3, 4, 5, 6, 7, 8, 2, 1, 0] rfl)
set_option maxHeartbeats 4000000 in
set_option maxRecDepth 100000 in
theorem c_X8_turns (l : Launch) (G : va_G) (cA : Nat → ClassId) (sz : Nat) (aa : Nat → Nat) (S : Tr) (L : Lo) (x1 : Int32) (x2 : Int32)  (r0 : Int32) (S' : Tr) (h : f_X8_turns S x1 x2 = some (r0, S')) : Met l yX8_turns (.code yX8_turns cX8_turns 9 (some .int) :: T0) ({ frames := 1, cells := 0, slots := 0, locals := 24 } : Room) (tqP G cA [.ref (aa 0), .int x1, .int x2] (wM cA aa S L) sz) (tqQi G cA (fun (r : Int32) (_ : Unit) => r = r0) (fun (_ : Unit) => wM cA aa S' L) (va_A (wM cA aa S L) sz)) 0 0 (va_A (wM cA aa S L) sz) := by
  refine Met.ofW (cc := cX8_turns) (maxL := 9) (ret := (some .int)) (by decide) rfl ?_
  intro p e s m args below meth c s₁ B hml hv
  obtain ⟨rfl, hsz, hP, hK, hD0, hN⟩ := hv
  have hx := B.exec
  have hb := B.bytes
  have hr := B.returns
  have hts := atoms_spec (ws := .code yX8_turns cX8_turns 9 (some .int) :: T0) B.pre
  have hT : ∀ w ∈ T0, w.before _ s = true := fun w h => hts w (List.mem_cons_of_mem _ h)
  have hown : s.vm.findClass RX8 = some m.cls := findClass_of_methodNamed B.named
  have hlocks := B.notSynchronized
  subst hsz
  have hD := hD0.self (sz := s.heap.size)
  generalize hAe : va_A (wM cA aa S L) s.heap.size = A at hD ⊢
  have hA : ∀ q : Nat, s.heap.size ≤ q → A q := fun q h => by rw [← hAe]; exact Or.inr h
  have hS : va_S A s.heap s.heap [] := va_S.rf
  have hl := lv_entry ([.ref (aa 0), .int x1, .int x2]) (n := 9) (Nat.le_of_ble_eq_true rfl)
  rw [lg_entry_eq]
  generalize (lg_sl ([.ref (aa 0), .int x1, .int x2]) ++ List.replicate (9 - (lg_sl ([.ref (aa 0), .int x1, .int x2])).length) Slot.unset).toArray = ls at hl ⊢
  have hl : lv_has ls 9 [(0, .ref (aa 0)), (1, .int x1), (2, .int x2)] := hl
  have F : tF p s m ([.ref (aa 0), .int x1, .int x2] : List Value).toArray meth c G cA A RX8 cX8_turns 9 (some .int) := ⟨hx, hb, hr, hml, hT, hown, hlocks, hK, hN, hA⟩
  obtain ⟨H, hH⟩ : ∃ z, z = s.heap := ⟨_, rfl⟩
  rw [← hH] at hP
  have hS : va_S A s.heap H [] := by rw [hH]; exact hS
  suffices hgo : G_X8_turns p l e s m below meth c G cA A aa L x1 x2 r0 S' H [] (F0 m 0 ls []) by rw [hH] at hgo; exact hgo
  generalize ([] : List Loc) = locs at hS ⊢
  unfold f_X8_turns at h
  refine lv_aload_n hx hb dX8_turns_0 rfl (lv_at hl 0 rfl) ?_
  refine va_get (D := G) (ci := 8) (v := .ref (aa 56)) (C := RX8) (T := TX8) (N := 91) hx hb hT ku_8 hown hK hP 0 rfl rfl 55 (by decide) (hT _ kw_10_16) (fun _ h9 => h9) rfl dX8_turns_1 ?_
  refine lv_iconst (v := 5) hx hb dX8_turns_4 (by decide) ?_
  refine lv_iload_n hx hb dX8_turns_5 rfl (lv_at hl 1 rfl) ?_
  refine lv_imul hx hb dX8_turns_6 ?_
  refine lv_iload_n hx hb dX8_turns_7 rfl (lv_at hl 2 rfl) ?_
  refine lv_iadd hx hb dX8_turns_8 ?_
  obtain ⟨g1, h⟩ := tx_ck h
  refine va_iald (i := (((5 : Int32) * x1) + x2)) hx hb hK hP 30 0 rfl rfl (tx_in g1) dX8_turns_9 ?_
  refine lv_topi (fun y2 ey2 => ?_)
  have h := tx_let ey2 h
  refine lv_istore_n (lv' := [(3, .int y2), (0, .ref (aa 0)), (1, .int x1), (2, .int x2)]) hx hb dX8_turns_10 rfl hl (by decide) rfl (fun ls hl => ?_)
  refine lv_iconst (v := 0) hx hb dX8_turns_11 (by decide) ?_
  refine lv_istore (lv' := [(4, .int 0), (3, .int y2), (0, .ref (aa 0)), (1, .int x1), (2, .int x2)]) hx hb dX8_turns_12 hl (by decide) rfl (fun ls hl => ?_)
  refine lv_iconst (v := 0) hx hb dX8_turns_14 (by decide) ?_
  refine lv_istore (lv' := [(5, .int 0), (4, .int 0), (3, .int y2), (0, .ref (aa 0)), (1, .int x1), (2, .int x2)]) hx hb dX8_turns_15 hl (by decide) rfl (fun ls hl => ?_)
  exact w_X8_turns_L17 F 2000 0 0 S H locs ls h hP hD hS (lv_sub hl [3, 4, 5, 2, 1, 0] rfl)
abbrev G_X8_asking (p : Program) (l : Launch) (e : Env) (s : State) (m : MethodId) (below : List Frame) (meth : Method) (c : Code) (G : va_G) (cA : Nat → ClassId) (A : Nat → Prop) (aa : Nat → Nat) (r0 : Int32) (S' : Tr) (L' : Lo) (H : Heap) (locs : List Loc) (g : JFrame) : Prop := W p l e (headSpec (.code yX8_asking cX8_asking 4 (some .int) :: T0) ({ frames := 10, cells := 0, slots := 0, locals := 232 } : Room)).room s m ([.ref (aa 0)] : List Value).toArray below meth c H locs 0 0 (MQ below (tqQi G cA (fun (r : Int32) (_ : Unit) => r = r0) (fun (_ : Unit) => wM cA aa S' L') A) ([.ref (aa 0)] : List Value).toArray s 0 0 A) g
set_option maxHeartbeats 4000000 in
set_option maxRecDepth 100000 in
theorem w_X8_asking_J76 {p : Program} {l : Launch} {e : Env} {s : State} {m : MethodId} {below : List Frame} {meth : Method} {c : Code} {G : va_G} {cA : Nat → ClassId} {A : Nat → Prop} {aa : Nat → Nat} {r0 : Int32} {S' : Tr} {L' : Lo} (F : tF p s m ([.ref (aa 0)] : List Value).toArray meth c G cA A RX8 cX8_asking 4 (some .int))    (x1 : Int32) (S : Tr) (L : Lo) (H : Heap) (locs : List Loc) (ls : Array Slot) (h : fJ_X8_asking_J76 x1 S L = some (r0, S', L')) (hP : va_P G vwCl (wM cA aa S L) H) (hD : va_D A (wM cA aa S L)) (hS : va_S A s.heap H locs) (hl : lv_has ls 4 [(0, .ref (aa 0)), (1, .int x1)]) : G_X8_asking p l e s m below meth c G cA A aa r0 S' L' H locs (F0 m 76 ls []) := by
  obtain ⟨hx, hb, hr, hml, hT, hown, hlocks, hK, hN, hA⟩ := id F
  unfold fJ_X8_asking_J76 at h
  refine lv_iload_n hx hb dX8_asking_76 rfl (lv_at hl 1 rfl) ?_
  refine lv_aload_n hx hb dX8_asking_77 rfl (lv_at hl 0 rfl) ?_
  obtain ⟨r11, hc12, h⟩ := tx_bd h
  refine tw_ci tw_all hP hD hS hA (va_runV (As := []) (rest := [.int x1]) ⟨hx, hb, hml, hown, hT⟩ (c_X8_more l G cA H.size aa S L  r11 hc12) (cwV 0 hT (tq_gV kw_48_9 kw_48_10 kw_48_11 kw_1_5 kw_48_12) rfl rfl rfl (by decide +kernel) ⟨Nat.le_of_ble_eq_true rfl, Nat.le_of_ble_eq_true rfl⟩) ⟨(tw_pre tw_all hP hD hK hN).1, va_recv hK hP (ci := 8) (q0 := 0) rfl rfl, (tw_pre tw_all hP hD hK hN).2⟩ rfl rfl hl.1 rfl (lv_room (Nat.le_of_ble_eq_true rfl)) dX8_asking_78 ⟨Nat.le_of_ble_eq_true rfl, Nat.le_of_ble_eq_true rfl⟩) (fun _ _ H locs z13 hP hD hS => ?_)
  subst z13
  rw [List.append_nil] at hP hD
  have hP : va_P G vwCl (wM cA aa S L) H := hP
  have hD : va_D A (wM cA aa S L) := hD
  refine lv_icmp_le (tgt := 93) hx hb dX8_asking_81 (by decide) (fun c14 => ?_) (fun c14 => ?_)
  · have h := tx_pos c14 h
    refine lv_iconst (v := 0) hx hb dX8_asking_93 (by decide) ?_
    obtain ⟨rfl, rfl, rfl⟩ := tx_3 h
    exact W.iret hx hb hr (fun t ht hW => ⟨⟨_, (), rfl, rfl, by rw [ht]; exact hP, hD⟩, hS.F ht⟩) hS.2.2 dX8_asking_94
  · have h := tx_neg c14 h
    refine lv_iload_n hx hb dX8_asking_84 rfl (lv_at hl 1 rfl) ?_
    refine lv_aload_n hx hb dX8_asking_85 rfl (lv_at hl 0 rfl) ?_
    obtain ⟨r15, hc16, h⟩ := tx_bd h
    refine tw_ci tw_all hP hD hS hA (va_runV (As := []) (rest := [.int x1]) ⟨hx, hb, hml, hown, hT⟩ (c_X8_more l G cA H.size aa S L  r15 hc16) (cwV 0 hT (tq_gV kw_48_9 kw_48_10 kw_48_11 kw_1_5 kw_48_12) rfl rfl rfl (by decide +kernel) ⟨Nat.le_of_ble_eq_true rfl, Nat.le_of_ble_eq_true rfl⟩) ⟨(tw_pre tw_all hP hD hK hN).1, va_recv hK hP (ci := 8) (q0 := 0) rfl rfl, (tw_pre tw_all hP hD hK hN).2⟩ rfl rfl hl.1 rfl (lv_room (Nat.le_of_ble_eq_true rfl)) dX8_asking_86 ⟨Nat.le_of_ble_eq_true rfl, Nat.le_of_ble_eq_true rfl⟩) (fun _ _ H locs z17 hP hD hS => ?_)
    subst z17
    rw [List.append_nil] at hP hD
    have hP : va_P G vwCl (wM cA aa S L) H := hP
    have hD : va_D A (wM cA aa S L) := hD
    refine lv_isub hx hb dX8_asking_89 ?_
    refine lv_goto (tgt := 94) hx hb dX8_asking_90 (by decide) ?_
    obtain ⟨rfl, rfl, rfl⟩ := tx_3 h
    exact W.iret hx hb hr (fun t ht hW => ⟨⟨_, (), rfl, rfl, by rw [ht]; exact hP, hD⟩, hS.F ht⟩) hS.2.2 dX8_asking_94
set_option maxHeartbeats 4000000 in
set_option maxRecDepth 100000 in
theorem w_X8_asking_J68 {p : Program} {l : Launch} {e : Env} {s : State} {m : MethodId} {below : List Frame} {meth : Method} {c : Code} {G : va_G} {cA : Nat → ClassId} {A : Nat → Prop} {aa : Nat → Nat} {r0 : Int32} {S' : Tr} {L' : Lo} {x1 : Int32} (F : tF p s m ([.ref (aa 0)] : List Value).toArray meth c G cA A RX8 cX8_asking 4 (some .int))  (k20 : Tr → Lo → Option (Int32 × Tr × Lo)) (hk20 : ∀ (S : Tr) (L : Lo) (H : Heap) (locs : List Loc) (ls : Array Slot), k20 S L = some (r0, S', L') → va_P G vwCl (wM cA aa S L) H → va_D A (wM cA aa S L) → va_S A s.heap H locs → lv_has ls 4 [(0, .ref (aa 0)), (1, .int x1)] → G_X8_asking p l e s m below meth c G cA A aa r0 S' L' H locs (F0 m 20 ls [])) (S : Tr) (L : Lo) (H : Heap) (locs : List Loc) (ls : Array Slot) (h : fJ_X8_asking_J68 k20 x1 S L = some (r0, S', L')) (hP : va_P G vwCl (wM cA aa S_19 L_20) H) (hD : va_D A (wM cA aa S_19 L_20)) (hS : va_S A s.heap H locs) (hl : lv_has ls 4 [(0, .ref (aa 0)), (1, .int x1)]) : G_X8_asking p l e s m below meth c G cA A aa r0 S' L' H locs (F0 m 68 ls []) := by
  obtain ⟨hx, hb, hr, hml, hT, hown, hlocks, hK, hN, hA⟩ := id F
  unfold fJ_X8_asking_J68 at h
  refine lv_aload_n hx hb dX8_asking_68 rfl (lv_at hl 0 rfl) ?_
  refine lv_iconst (v := 1) hx hb dX8_asking_69 (by decide) ?_
  obtain ⟨⟨S_19, L_20⟩, hc21, h⟩ := tx_bd h
  replace h := tx_let (y := S_19) rfl h
  replace h := tx_let (y := L_20) rfl h
  refine tw_cv tw_all hP hD hS hA (va_runV (As := [.int 1]) (rest := []) ⟨hx, hb, hml, hown, hT⟩ (c_X8_goOn l G cA H.size aa S L (1 : Int32)  S_19 L_20 hc21) (cwV 1 hT (tq_gV kw_43_14 kw_43_15 kw_43_16 kw_1_5 kw_43_17) rfl rfl rfl (by decide +kernel) ⟨Nat.le_of_ble_eq_true rfl, Nat.le_of_ble_eq_true rfl⟩) ⟨(tw_pre tw_all hP hD hK hN).1, va_recv hK hP (ci := 8) (q0 := 0) rfl rfl, (tw_pre tw_all hP hD hK hN).2⟩ rfl rfl hl.1 rfl (lv_room (Nat.le_of_ble_eq_true rfl)) dX8_asking_70 ⟨Nat.le_of_ble_eq_true rfl, Nat.le_of_ble_eq_true rfl⟩) (fun _ H locs z22 hP hD hS => ?_)
  rw [List.append_nil] at hP hD
  have hP : va_P G vwCl (wM cA aa S_19 L_20) H := hP
  have hD : va_D A (wM cA aa S_19 L_20) := hD
  refine lv_goto (tgt := 20) hx hb dX8_asking_73 (by decide) ?_
  exact hk20 S_19 L_20 H locs ls h hP hD hS (lv_sub hl [0, 1] rfl)
set_option maxHeartbeats 4000000 in
set_option maxRecDepth 100000 in
theorem w_X8_asking_L33 {p : Program} {l : Launch} {e : Env} {s : State} {m : MethodId} {below : List Frame} {meth : Method} {c : Code} {G : va_G} {cA : Nat → ClassId} {A : Nat → Prop} {aa : Nat → Nat} {r0 : Int32} {S' : Tr} {L' : Lo} {L : Lo} {x1 : Int32} (F : tF p s m ([.ref (aa 0)] : List Value).toArray meth c G cA A RX8 cX8_asking 4 (some .int))  (k20 : Tr → Lo → Option (Int32 × Tr × Lo)) (hk20 : ∀ (S : Tr) (L : Lo) (H : Heap) (locs : List Loc) (ls : Array Slot), k20 S L = some (r0, S', L') → va_P G vwCl (wM cA aa S L) H → va_D A (wM cA aa S L) → va_S A s.heap H locs → lv_has ls 4 [(0, .ref (aa 0)), (1, .int x1)] → G_X8_asking p l e s m below meth c G cA A aa r0 S' L' H locs (F0 m 20 ls [])) (N : Nat) : ∀ (x2 : Int32) (S : Tr) (H : Heap) (locs : List Loc) (ls : Array Slot), lpF (fun _ _ => none) (fB_X8_asking_L33 k20 L x1) N x2 S = some (r0, S', L') → va_P G vwCl (wM cA aa S L) H → va_D A (wM cA aa S L) → va_S A s.heap H locs → lv_has ls 4 [(0, .ref (aa 0)), (1, .int x1), (2, .int x2)] → G_X8_asking p l e s m below meth c G cA A aa r0 S' L' H locs (F0 m 33 ls []) := by
  obtain ⟨hx, hb, hr, hml, hT, hown, hlocks, hK, hN, hA⟩ := id F
  induction N with
  | zero =>
    intro x2 S H locs ls h
    have h : (none : Option (Int32 × Tr × Lo)) = some (r0, S', L') := h
    cases h
  | succ N hk33 =>
    intro x2 S H locs ls h hP hD hS hl
    have h : fB_X8_asking_L33 k20 L x1 (lpF (fun _ _ => none) (fB_X8_asking_L33 k20 L x1) N) x2 S = some (r0, S', L') := h
    generalize hk33e : lpF (fun _ _ => none) (fB_X8_asking_L33 k20 L x1) N = k33 at h hk33
    unfold fB_X8_asking_L33 at h
    refine lv_iload_n hx hb dX8_asking_33 rfl (lv_at hl 2 rfl) ?_
    refine lv_aload_n hx hb dX8_asking_34 rfl (lv_at hl 0 rfl) ?_
    refine va_get (D := G) (ci := 8) (v := .int (S 0 12)) (C := RX8) (T := TX8) (N := 91) hx hb hT ku_8 hown hK hP 0 rfl rfl 12 (by decide) (hT _ kw_12_3) (fun _ h9 => h9) rfl dX8_asking_35 ?_
    refine lv_icmp_ge (tgt := 68) hx hb dX8_asking_38 (by decide) (fun c18 => ?_) (fun c18 => ?_)
    · have h := tx_pos c18 h
      exact w_X8_asking_J68 F k20 hk20 S L H locs ls h hP hD hS (lv_sub hl [0, 1] rfl)
    · have h := tx_neg c18 h
      refine lv_aload_n hx hb dX8_asking_41 rfl (lv_at hl 0 rfl) ?_
      refine va_get (D := G) (ci := 8) (v := .ref (aa 24)) (C := RX8) (T := TX8) (N := 91) hx hb hT ku_8 hown hK hP 0 rfl rfl 23 (by decide) (hT _ kw_9_15) (fun _ h9 => h9) rfl dX8_asking_42 ?_
      refine lv_iload_n hx hb dX8_asking_45 rfl (lv_at hl 2 rfl) ?_
      obtain ⟨g23, h⟩ := tx_ck h
      refine va_iald (i := x2) hx hb hK hP 5 0 rfl rfl (tx_in g23) dX8_asking_46 ?_
      refine lv_iconst (v := 2) hx hb dX8_asking_47 (by decide) ?_
      refine lv_icmp_ge (tgt := 60) hx hb dX8_asking_48 (by decide) (fun c24 => ?_) (fun c24 => ?_)
      · have h := tx_pos c24 h
        refine lv_iconst (v := 0) hx hb dX8_asking_60 (by decide) ?_
        refine lv_istore_n (lv' := [(3, .int 0), (0, .ref (aa 0)), (1, .int x1), (2, .int x2)]) hx hb dX8_asking_61 rfl hl (by decide) rfl (fun ls hl => ?_)
        obtain ⟨y25, ey25, h⟩ := tx_lt h
        refine lv_iinc (v := y25) (lv' := [(2, .int y25), (3, .int 0), (0, .ref (aa 0)), (1, .int x1)]) hx hb dX8_asking_62 hl (k := 3) rfl ey25 (by decide) rfl (fun ls hl => ?_)
        refine lv_goto (tgt := 33) hx hb dX8_asking_65 (by decide) ?_
        exact hk33 y25 S H locs ls h hP hD hS (lv_sub hl [2, 3, 0] rfl)
      · have h := tx_neg c24 h
        refine lv_aload_n hx hb dX8_asking_51 rfl (lv_at hl 0 rfl) ?_
        refine lv_iconst (v := 1) hx hb dX8_asking_52 (by decide) ?_
        refine lv_iload_n hx hb dX8_asking_53 rfl (lv_at hl 2 rfl) ?_
        obtain ⟨⟨r26, S_27⟩, hc28, h⟩ := tx_bd h
        replace h := tx_let (y := r26) rfl h
        replace h := tx_let (y := S_27) rfl h
        refine tw_ci tw_all hP hD hS hA (va_runV (As := [.int 1, .int x2]) (rest := []) ⟨hx, hb, hml, hown, hT⟩ (c_X8_turns l G cA H.size aa S L (1 : Int32) x2  r26 S_27 hc28) (cwV 2 hT (tq_gV kw_39_9 kw_39_10 kw_39_11 kw_1_5 kw_39_12) rfl rfl rfl (by decide +kernel) ⟨Nat.le_of_ble_eq_true rfl, Nat.le_of_ble_eq_true rfl⟩) ⟨(tw_pre tw_all hP hD hK hN).1, va_recv hK hP (ci := 8) (q0 := 0) rfl rfl, (tw_pre tw_all hP hD hK hN).2⟩ rfl rfl hl.1 rfl (lv_room (Nat.le_of_ble_eq_true rfl)) dX8_asking_54 ⟨Nat.le_of_ble_eq_true rfl, Nat.le_of_ble_eq_true rfl⟩) (fun _ _ H locs z29 hP hD hS => ?_)
        subst z29
        rw [List.append_nil] at hP hD
        have hP : va_P G vwCl (wM cA aa S_27 L) H := hP
        have hD : va_D A (wM cA aa S_27 L) := hD
        refine lv_goto (tgt := 61) hx hb dX8_asking_57 (by decide) ?_
        refine lv_istore_n (lv' := [(3, .int r26), (0, .ref (aa 0)), (1, .int x1), (2, .int x2)]) hx hb dX8_asking_61 rfl hl (by decide) rfl (fun ls hl => ?_)
        obtain ⟨y30, ey30, h⟩ := tx_lt h
        refine lv_iinc (v := y30) (lv' := [(2, .int y30), (3, .int r26), (0, .ref (aa 0)), (1, .int x1)]) hx hb dX8_asking_62 hl (k := 3) rfl ey30 (by decide) rfl (fun ls hl => ?_)
        refine lv_goto (tgt := 33) hx hb dX8_asking_65 (by decide) ?_
        exact hk33 y30 S_27 H locs ls h hP hD hS (lv_sub hl [2, 3, 0] rfl)
set_option maxHeartbeats 4000000 in
set_option maxRecDepth 100000 in
theorem w_X8_asking_L20 {p : Program} {l : Launch} {e : Env} {s : State} {m : MethodId} {below : List Frame} {meth : Method} {c : Code} {G : va_G} {cA : Nat → ClassId} {A : Nat → Prop} {aa : Nat → Nat} {r0 : Int32} {S' : Tr} {L' : Lo} {x1 : Int32} (F : tF p s m ([.ref (aa 0)] : List Value).toArray meth c G cA A RX8 cX8_asking 4 (some .int))    (N : Nat) : ∀ (S : Tr) (L : Lo) (H : Heap) (locs : List Loc) (ls : Array Slot), lpF (fun _ _ => none) (fB_X8_asking_L20 x1) N S L = some (r0, S', L') → va_P G vwCl (wM cA aa S L) H → va_D A (wM cA aa S L) → va_S A s.heap H locs → lv_has ls 4 [(0, .ref (aa 0)), (1, .int x1)] → G_X8_asking p l e s m below meth c G cA A aa r0 S' L' H locs (F0 m 20 ls []) := by
  obtain ⟨hx, hb, hr, hml, hT, hown, hlocks, hK, hN, hA⟩ := id F
  induction N with
  | zero =>
    intro S L H locs ls h
    have h : (none : Option (Int32 × Tr × Lo)) = some (r0, S', L') := h
    cases h
  | succ N hk20 =>
    intro S L H locs ls h hP hD hS hl
    have h : fB_X8_asking_L20 x1 (lpF (fun _ _ => none) (fB_X8_asking_L20 x1) N) S L = some (r0, S', L') := h
    generalize hk20e : lpF (fun _ _ => none) (fB_X8_asking_L20 x1) N = k20 at h hk20
    unfold fB_X8_asking_L20 at h
    refine lv_aload_n hx hb dX8_asking_20 rfl (lv_at hl 0 rfl) ?_
    refine va_get (D := G) (ci := 8) (v := .ref (aa 62)) (C := RX8) (T := TX8) (N := 91) hx hb hT ku_8 hown hK hP 0 rfl rfl 61 (by decide) (hT _ kw_10_22) (fun _ h9 => h9) rfl dX8_asking_21 ?_
    refine lv_iconst (v := 1) hx hb dX8_asking_24 (by decide) ?_
    refine va_iald (i := 1) hx hb hK hP 36 0 rfl rfl (tq_in (by decide)) dX8_asking_25 ?_
    refine tq_i (w := (S 62 1)) rfl ?_
    refine lv_bipush (v := 21) hx hb dX8_asking_26 (by decide) ?_
    refine lv_icmp_ge (tgt := 76) hx hb dX8_asking_28 (by decide) (fun c10 => ?_) (fun c10 => ?_)
    · have h := tx_pos c10 h
      exact w_X8_asking_J76 F x1 S L H locs ls h hP hD hS (lv_sub hl [0, 1] rfl)
    · have h := tx_neg c10 h
      refine lv_iconst (v := 0) hx hb dX8_asking_31 (by decide) ?_
      refine lv_istore_n (lv' := [(2, .int 0), (0, .ref (aa 0)), (1, .int x1)]) hx hb dX8_asking_32 rfl hl (by decide) rfl (fun ls hl => ?_)
      exact w_X8_asking_L33 F k20 hk20 2000 0 S H locs ls h hP hD hS (lv_sub hl [1, 2, 0] rfl)
set_option maxHeartbeats 4000000 in
set_option maxRecDepth 100000 in
theorem c_X8_asking (l : Launch) (G : va_G) (cA : Nat → ClassId) (sz : Nat) (aa : Nat → Nat) (S : Tr) (L : Lo)  (r0 : Int32) (S' : Tr) (L' : Lo) (h : f_X8_asking S L = some (r0, S', L')) : Met l yX8_asking (.code yX8_asking cX8_asking 4 (some .int) :: T0) ({ frames := 10, cells := 0, slots := 0, locals := 232 } : Room) (tqP G cA [.ref (aa 0)] (wM cA aa S L) sz) (tqQi G cA (fun (r : Int32) (_ : Unit) => r = r0) (fun (_ : Unit) => wM cA aa S' L') (va_A (wM cA aa S L) sz)) 0 0 (va_A (wM cA aa S L) sz) := by
  refine Met.ofW (cc := cX8_asking) (maxL := 4) (ret := (some .int)) (by decide) rfl ?_
  intro p e s m args below meth c s₁ B hml hv
  obtain ⟨rfl, hsz, hP, hK, hD0, hN⟩ := hv
  have hx := B.exec
  have hb := B.bytes
  have hr := B.returns
  have hts := atoms_spec (ws := .code yX8_asking cX8_asking 4 (some .int) :: T0) B.pre
  have hT : ∀ w ∈ T0, w.before _ s = true := fun w h => hts w (List.mem_cons_of_mem _ h)
  have hown : s.vm.findClass RX8 = some m.cls := findClass_of_methodNamed B.named
  have hlocks := B.notSynchronized
  subst hsz
  have hD := hD0.self (sz := s.heap.size)
  generalize hAe : va_A (wM cA aa S L) s.heap.size = A at hD ⊢
  have hA : ∀ q : Nat, s.heap.size ≤ q → A q := fun q h => by rw [← hAe]; exact Or.inr h
  have hS : va_S A s.heap s.heap [] := va_S.rf
  have hl := lv_entry ([.ref (aa 0)]) (n := 4) (Nat.le_of_ble_eq_true rfl)
  rw [lg_entry_eq]
  generalize (lg_sl ([.ref (aa 0)]) ++ List.replicate (4 - (lg_sl ([.ref (aa 0)])).length) Slot.unset).toArray = ls at hl ⊢
  have hl : lv_has ls 4 [(0, .ref (aa 0))] := hl
  have F : tF p s m ([.ref (aa 0)] : List Value).toArray meth c G cA A RX8 cX8_asking 4 (some .int) := ⟨hx, hb, hr, hml, hT, hown, hlocks, hK, hN, hA⟩
  obtain ⟨H, hH⟩ : ∃ z, z = s.heap := ⟨_, rfl⟩
  rw [← hH] at hP
  have hS : va_S A s.heap H [] := by rw [hH]; exact hS
  suffices hgo : G_X8_asking p l e s m below meth c G cA A aa r0 S' L' H [] (F0 m 0 ls []) by rw [hH] at hgo; exact hgo
  generalize ([] : List Loc) = locs at hS ⊢
  unfold f_X8_asking at h
  refine lv_aload_n hx hb dX8_asking_0 rfl (lv_at hl 0 rfl) ?_
  refine lv_iconst (v := 0) hx hb dX8_asking_1 (by decide) ?_
  refine va_put (D := G) (ci := 8) (v := .int 0) (ty := .int) (C := RX8) (T := TX8) (N := 91) hx hb hT ku_8 tyX8 tyX8_ok nmX8 hown hK hP hD hS 0 rfl rfl 2 (by decide) (hT _ kw_14_0) (fun _ h9 => h9) rfl (by decide +kernel) rfl rfl (Nat.le_of_ble_eq_true rfl) dX8_asking_2 (fun H locs hP hD hS => ?_)
  obtain ⟨S_1, eS_1, h⟩ := tx_lt h
  rw [sM_f2, eS_1] at hP hD
  refine lv_aload_n hx hb dX8_asking_5 rfl (lv_at hl 0 rfl) ?_
  refine lv_aload_n hx hb dX8_asking_6 rfl (lv_at hl 0 rfl) ?_
  refine va_get (D := G) (ci := 8) (v := .ref (aa 23)) (C := RX8) (T := TX8) (N := 91) hx hb hT ku_8 hown hK hP 0 rfl rfl 22 (by decide) (hT _ kw_9_14) (fun _ h9 => h9) rfl dX8_asking_7 ?_
  refine lv_iconst (v := 0) hx hb dX8_asking_10 (by decide) ?_
  refine va_iald (i := 0) hx hb hK hP 4 0 rfl rfl (tq_in (by decide)) dX8_asking_11 ?_
  refine tq_i (w := (S_1 23 0)) rfl ?_
  obtain ⟨⟨r2, S_3, L_4⟩, hc5, h⟩ := tx_bd h
  replace h := tx_let (y := r2) rfl h
  replace h := tx_let (y := S_3) rfl h
  replace h := tx_let (y := L_4) rfl h
  refine tw_ci tw_all hP hD hS hA (va_runV (As := [.int (S_1 23 0)]) (rest := []) ⟨hx, hb, hml, hown, hT⟩ (c_X8_liftsBy l G cA H.size aa S_1 L (S_1 23 0)  r2 S_3 L_4 hc5) (cwV 1 hT (tq_gV kw_51_18 kw_51_19 kw_51_20 kw_1_5 kw_51_21) rfl rfl rfl (by decide +kernel) ⟨Nat.le_of_ble_eq_true rfl, Nat.le_of_ble_eq_true rfl⟩) ⟨(tw_pre tw_all hP hD hK hN).1, va_recv hK hP (ci := 8) (q0 := 0) rfl rfl, (tw_pre tw_all hP hD hK hN).2⟩ rfl rfl hl.1 rfl (lv_room (Nat.le_of_ble_eq_true rfl)) dX8_asking_12 ⟨Nat.le_of_ble_eq_true rfl, Nat.le_of_ble_eq_true rfl⟩) (fun _ _ H locs z6 hP hD hS => ?_)
  subst z6
  rw [List.append_nil] at hP hD
  have hP : va_P G vwCl (wM cA aa S_3 L_4) H := hP
  have hD : va_D A (wM cA aa S_3 L_4) := hD
  refine lv_istore_n (lv' := [(1, .int r2), (0, .ref (aa 0))]) hx hb dX8_asking_15 rfl hl (by decide) rfl (fun ls hl => ?_)
  refine lv_aload_n hx hb dX8_asking_16 rfl (lv_at hl 1 rfl) ?_
  obtain ⟨S_7, hc8, h⟩ := tx_bd h
  refine tw_cv tw_all hP hD hS hA (va_runV (As := []) (rest := []) ⟨hx, hb, hml, hown, hT⟩ (c_X8_layTried l G cA H.size aa S_3 L_4  S_7 hc8) (cwV 0 hT (tq_gV kw_39_5 kw_39_6 kw_39_7 kw_1_5 kw_39_8) rfl rfl rfl (by decide +kernel) ⟨Nat.le_of_ble_eq_true rfl, Nat.le_of_ble_eq_true rfl⟩) ⟨(tw_pre tw_all hP hD hK hN).1, va_recv hK hP (ci := 8) (q0 := 0) rfl rfl, (tw_pre tw_all hP hD hK hN).2⟩ rfl rfl hl.1 rfl (lv_room (Nat.le_of_ble_eq_true rfl)) dX8_asking_17 ⟨Nat.le_of_ble_eq_true rfl, Nat.le_of_ble_eq_true rfl⟩) (fun _ H locs z9 hP hD hS => ?_)
  rw [List.append_nil] at hP hD
  have hP : va_P G vwCl (wM cA aa S_7 L_4) H := hP
  have hD : va_D A (wM cA aa S_7 L_4) := hD
  exact w_X8_asking_L20 F 2000 S_7 L_4 H locs ls h hP hD hS (lv_sub hl [1, 0] rfl)
abbrev G_X8_atFirst (p : Program) (l : Launch) (e : Env) (s : State) (m : MethodId) (below : List Frame) (meth : Method) (c : Code) (G : va_G) (cA : Nat → ClassId) (A : Nat → Prop) (aa : Nat → Nat) (L : Lo) (x1 : Int32) (S' : Tr) (H : Heap) (locs : List Loc) (g : JFrame) : Prop := W p l e (headSpec (.code yX8_atFirst cX8_atFirst 3 none :: T0) ({ frames := 0, cells := 0, slots := 0, locals := 0 } : Room)).room s m ([.ref (aa 0), .int x1] : List Value).toArray below meth c H locs 0 0 (MQ below (tqQv G cA (fun (_ : Unit) => True) (fun (_ : Unit) => wM cA aa S' L) A) ([.ref (aa 0), .int x1] : List Value).toArray s 0 0 A) g
set_option maxHeartbeats 4000000 in
set_option maxRecDepth 100000 in
theorem w_X8_atFirst_J134 {p : Program} {l : Launch} {e : Env} {s : State} {m : MethodId} {below : List Frame} {meth : Method} {c : Code} {G : va_G} {cA : Nat → ClassId} {A : Nat → Prop} {aa : Nat → Nat} {L : Lo} {x1₀ : Int32} {S' : Tr} (F : tF p s m ([.ref (aa 0), .int x1₀] : List Value).toArray meth c G cA A RX8 cX8_atFirst 3 none)    (x1 : Int32) (S : Tr) (H : Heap) (locs : List Loc) (ls : Array Slot) (h : fJ_X8_atFirst_J134 x1 S = some S') (hP : va_P G vwCl (wM cA aa S_7 L) H) (hD : va_D A (wM cA aa S_7 L)) (hS : va_S A s.heap H locs) (hl : lv_has ls 3 [(0, .ref (aa 0)), (1, .int x1)]) : G_X8_atFirst p l e s m below meth c G cA A aa L x1₀ S' H locs (F0 m 134 ls []) := by
  obtain ⟨hx, hb, hr, hml, hT, hown, hlocks, hK, hN, hA⟩ := id F
  unfold fJ_X8_atFirst_J134 at h
  refine lv_aload_n hx hb dX8_atFirst_134 rfl (lv_at hl 0 rfl) ?_
  refine va_get (D := G) (ci := 8) (v := .ref (aa 61)) (C := RX8) (T := TX8) (N := 91) hx hb hT ku_8 hown hK hP 0 rfl rfl 60 (by decide) (hT _ kw_10_21) (fun _ h9 => h9) rfl dX8_atFirst_135 ?_
  refine lv_iload_n hx hb dX8_atFirst_138 rfl (lv_at hl 1 rfl) ?_
  refine lv_iconst (v := 0) hx hb dX8_atFirst_139 (by decide) ?_
  obtain ⟨g4, h⟩ := tx_ck h
  refine va_iast (i := x1) hx hb hK hP hD hS 35 0 rfl rfl (tx_in g4) dX8_atFirst_140 (fun H locs hP hD hS => ?_)
  obtain ⟨S_5, eS_5, h⟩ := tx_lt h
  rw [sM_a60, eS_5] at hP hD
  refine lv_aload_n hx hb dX8_atFirst_141 rfl (lv_at hl 0 rfl) ?_
  refine va_get (D := G) (ci := 8) (v := .ref (aa 62)) (C := RX8) (T := TX8) (N := 91) hx hb hT ku_8 hown hK hP 0 rfl rfl 61 (by decide) (hT _ kw_10_22) (fun _ h9 => h9) rfl dX8_atFirst_142 ?_
  refine lv_iload_n hx hb dX8_atFirst_145 rfl (lv_at hl 1 rfl) ?_
  refine lv_iconst (v := 0) hx hb dX8_atFirst_146 (by decide) ?_
  refine va_iast (i := x1) hx hb hK hP hD hS 36 0 rfl rfl (tx_in g4) dX8_atFirst_147 (fun H locs hP hD hS => ?_)
  obtain ⟨S_6, eS_6, h⟩ := tx_lt h
  rw [sM_a61, eS_6] at hP hD
  refine lv_aload_n hx hb dX8_atFirst_148 rfl (lv_at hl 0 rfl) ?_
  refine va_get (D := G) (ci := 8) (v := .ref (aa 63)) (C := RX8) (T := TX8) (N := 91) hx hb hT ku_8 hown hK hP 0 rfl rfl 62 (by decide) (hT _ kw_10_23) (fun _ h9 => h9) rfl dX8_atFirst_149 ?_
  refine lv_iload_n hx hb dX8_atFirst_152 rfl (lv_at hl 1 rfl) ?_
  refine lv_iconst (v := 0) hx hb dX8_atFirst_153 (by decide) ?_
  refine va_iast (i := x1) hx hb hK hP hD hS 37 0 rfl rfl (tx_in g4) dX8_atFirst_154 (fun H locs hP hD hS => ?_)
  obtain ⟨S_7, eS_7, h⟩ := tx_lt h
  rw [sM_a62, eS_7] at hP hD
  obtain rfl := tx_1 h
  exact W.vret hx hb hr (fun t ht hW => ⟨⟨(), rfl, trivial, by rw [ht]; exact hP, hD⟩, hS.F ht⟩) hS.2.2 dX8_atFirst_155
set_option maxHeartbeats 4000000 in
set_option maxRecDepth 100000 in
theorem w_X8_atFirst_L64 {p : Program} {l : Launch} {e : Env} {s : State} {m : MethodId} {below : List Frame} {meth : Method} {c : Code} {G : va_G} {cA : Nat → ClassId} {A : Nat → Prop} {aa : Nat → Nat} {L : Lo} {x1₀ : Int32} {S' : Tr} {x1 : Int32} (F : tF p s m ([.ref (aa 0), .int x1₀] : List Value).toArray meth c G cA A RX8 cX8_atFirst 3 none)    (N : Nat) : ∀ (x2 : Int32) (S : Tr) (H : Heap) (locs : List Loc) (ls : Array Slot), lpF (fun _ _ => none) (fB_X8_atFirst_L64 x1) N x2 S = some S' → va_P G vwCl (wM cA aa S L) H → va_D A (wM cA aa S L) → va_S A s.heap H locs → lv_has ls 3 [(0, .ref (aa 0)), (1, .int x1), (2, .int x2)] → G_X8_atFirst p l e s m below meth c G cA A aa L x1₀ S' H locs (F0 m 64 ls []) := by
  obtain ⟨hx, hb, hr, hml, hT, hown, hlocks, hK, hN, hA⟩ := id F
  induction N with
  | zero =>
    intro x2 S H locs ls h
    have h : (none : Option (Tr)) = some S' := h
    cases h
  | succ N hk64 =>
    intro x2 S H locs ls h hP hD hS hl
    have h : fB_X8_atFirst_L64 x1 (lpF (fun _ _ => none) (fB_X8_atFirst_L64 x1) N) x2 S = some S' := h
    generalize hk64e : lpF (fun _ _ => none) (fB_X8_atFirst_L64 x1) N = k64 at h hk64
    unfold fB_X8_atFirst_L64 at h
    refine lv_iload_n hx hb dX8_atFirst_64 rfl (lv_at hl 2 rfl) ?_
    refine lv_bipush (v := 6) hx hb dX8_atFirst_65 (by decide) ?_
    refine lv_icmp_ge (tgt := 134) hx hb dX8_atFirst_67 (by decide) (fun c3 => ?_) (fun c3 => ?_)
    · have h := tx_pos c3 h
      exact w_X8_atFirst_J134 F x1 S H locs ls h hP hD hS (lv_sub hl [0, 1] rfl)
    · have h := tx_neg c3 h
      refine lv_aload_n hx hb dX8_atFirst_70 rfl (lv_at hl 0 rfl) ?_
      refine va_get (D := G) (ci := 8) (v := .ref (aa 57)) (C := RX8) (T := TX8) (N := 91) hx hb hT ku_8 hown hK hP 0 rfl rfl 56 (by decide) (hT _ kw_10_17) (fun _ h9 => h9) rfl dX8_atFirst_71 ?_
      refine lv_bipush (v := 6) hx hb dX8_atFirst_74 (by decide) ?_
      refine lv_iload_n hx hb dX8_atFirst_76 rfl (lv_at hl 1 rfl) ?_
      refine lv_imul hx hb dX8_atFirst_77 ?_
      refine lv_iload_n hx hb dX8_atFirst_78 rfl (lv_at hl 2 rfl) ?_
      refine lv_iadd hx hb dX8_atFirst_79 ?_
      refine lv_aload_n hx hb dX8_atFirst_80 rfl (lv_at hl 0 rfl) ?_
      refine va_get (D := G) (ci := 8) (v := .ref (aa 27)) (C := RX8) (T := TX8) (N := 91) hx hb hT ku_8 hown hK hP 0 rfl rfl 26 (by decide) (hT _ kw_9_18) (fun _ h9 => h9) rfl dX8_atFirst_81 ?_
      refine lv_iload_n hx hb dX8_atFirst_84 rfl (lv_at hl 2 rfl) ?_
      obtain ⟨g8, h⟩ := tx_ck h
      refine va_iald (i := x2) hx hb hK hP 8 0 rfl rfl (tx_in g8) dX8_atFirst_85 ?_
      obtain ⟨g9, h⟩ := tx_ck h
      refine va_iast (i := (((6 : Int32) * x1) + x2)) hx hb hK hP hD hS 31 0 rfl rfl (tx_in g9) dX8_atFirst_86 (fun H locs hP hD hS => ?_)
      obtain ⟨S_10, eS_10, h⟩ := tx_lt h
      rw [sM_a56, eS_10] at hP hD
      refine lv_aload_n hx hb dX8_atFirst_87 rfl (lv_at hl 0 rfl) ?_
      refine va_get (D := G) (ci := 8) (v := .ref (aa 58)) (C := RX8) (T := TX8) (N := 91) hx hb hT ku_8 hown hK hP 0 rfl rfl 57 (by decide) (hT _ kw_10_18) (fun _ h9 => h9) rfl dX8_atFirst_88 ?_
      refine lv_bipush (v := 6) hx hb dX8_atFirst_91 (by decide) ?_
      refine lv_iload_n hx hb dX8_atFirst_93 rfl (lv_at hl 1 rfl) ?_
      refine lv_imul hx hb dX8_atFirst_94 ?_
      refine lv_iload_n hx hb dX8_atFirst_95 rfl (lv_at hl 2 rfl) ?_
      refine lv_iadd hx hb dX8_atFirst_96 ?_
      refine lv_aload_n hx hb dX8_atFirst_97 rfl (lv_at hl 0 rfl) ?_
      refine va_get (D := G) (ci := 8) (v := .ref (aa 29)) (C := RX8) (T := TX8) (N := 91) hx hb hT ku_8 hown hK hP 0 rfl rfl 28 (by decide) (hT _ kw_9_20) (fun _ h9 => h9) rfl dX8_atFirst_98 ?_
      refine lv_iload_n hx hb dX8_atFirst_101 rfl (lv_at hl 2 rfl) ?_
      refine va_iald (i := x2) hx hb hK hP 10 0 rfl rfl (tx_in g8) dX8_atFirst_102 ?_
      refine va_iast (i := (((6 : Int32) * x1) + x2)) hx hb hK hP hD hS 32 0 rfl rfl (tx_in g9) dX8_atFirst_103 (fun H locs hP hD hS => ?_)
      obtain ⟨S_11, eS_11, h⟩ := tx_lt h
      rw [sM_a57, eS_11] at hP hD
      refine lv_aload_n hx hb dX8_atFirst_104 rfl (lv_at hl 0 rfl) ?_
      refine va_get (D := G) (ci := 8) (v := .ref (aa 59)) (C := RX8) (T := TX8) (N := 91) hx hb hT ku_8 hown hK hP 0 rfl rfl 58 (by decide) (hT _ kw_10_19) (fun _ h9 => h9) rfl dX8_atFirst_105 ?_
      refine lv_bipush (v := 6) hx hb dX8_atFirst_108 (by decide) ?_
      refine lv_iload_n hx hb dX8_atFirst_110 rfl (lv_at hl 1 rfl) ?_
      refine lv_imul hx hb dX8_atFirst_111 ?_
      refine lv_iload_n hx hb dX8_atFirst_112 rfl (lv_at hl 2 rfl) ?_
      refine lv_iadd hx hb dX8_atFirst_113 ?_
      refine lv_iconst (v := 0) hx hb dX8_atFirst_114 (by decide) ?_
      refine va_iast (i := (((6 : Int32) * x1) + x2)) hx hb hK hP hD hS 33 0 rfl rfl (tx_in g9) dX8_atFirst_115 (fun H locs hP hD hS => ?_)
      obtain ⟨S_12, eS_12, h⟩ := tx_lt h
      rw [sM_a58, eS_12] at hP hD
      refine lv_aload_n hx hb dX8_atFirst_116 rfl (lv_at hl 0 rfl) ?_
      refine va_get (D := G) (ci := 8) (v := .ref (aa 60)) (C := RX8) (T := TX8) (N := 91) hx hb hT ku_8 hown hK hP 0 rfl rfl 59 (by decide) (hT _ kw_10_20) (fun _ h9 => h9) rfl dX8_atFirst_117 ?_
      refine lv_bipush (v := 6) hx hb dX8_atFirst_120 (by decide) ?_
      refine lv_iload_n hx hb dX8_atFirst_122 rfl (lv_at hl 1 rfl) ?_
      refine lv_imul hx hb dX8_atFirst_123 ?_
      refine lv_iload_n hx hb dX8_atFirst_124 rfl (lv_at hl 2 rfl) ?_
      refine lv_iadd hx hb dX8_atFirst_125 ?_
      refine lv_iconst (v := 0) hx hb dX8_atFirst_126 (by decide) ?_
      refine va_iast (i := (((6 : Int32) * x1) + x2)) hx hb hK hP hD hS 34 0 rfl rfl (tx_in g9) dX8_atFirst_127 (fun H locs hP hD hS => ?_)
      obtain ⟨S_13, eS_13, h⟩ := tx_lt h
      rw [sM_a59, eS_13] at hP hD
      obtain ⟨y14, ey14, h⟩ := tx_lt h
      refine lv_iinc (v := y14) (lv' := [(2, .int y14), (0, .ref (aa 0)), (1, .int x1)]) hx hb dX8_atFirst_128 hl (k := 2) rfl ey14 (by decide) rfl (fun ls hl => ?_)
      refine lv_goto (tgt := 64) hx hb dX8_atFirst_131 (by decide) ?_
      exact hk64 y14 S_13 H locs ls h hP hD hS (lv_sub hl [1, 2, 0] rfl)
set_option maxHeartbeats 4000000 in
set_option maxRecDepth 100000 in
theorem w_X8_atFirst_L40 {p : Program} {l : Launch} {e : Env} {s : State} {m : MethodId} {below : List Frame} {meth : Method} {c : Code} {G : va_G} {cA : Nat → ClassId} {A : Nat → Prop} {aa : Nat → Nat} {L : Lo} {x1₀ : Int32} {S' : Tr} {x1 : Int32} (F : tF p s m ([.ref (aa 0), .int x1₀] : List Value).toArray meth c G cA A RX8 cX8_atFirst 3 none)    (N : Nat) : ∀ (x2 : Int32) (S : Tr) (H : Heap) (locs : List Loc) (ls : Array Slot), lpF (fun _ _ => none) (fB_X8_atFirst_L40 x1) N x2 S = some S' → va_P G vwCl (wM cA aa S L) H → va_D A (wM cA aa S L) → va_S A s.heap H locs → lv_has ls 3 [(0, .ref (aa 0)), (1, .int x1), (2, .int x2)] → G_X8_atFirst p l e s m below meth c G cA A aa L x1₀ S' H locs (F0 m 40 ls []) := by
  obtain ⟨hx, hb, hr, hml, hT, hown, hlocks, hK, hN, hA⟩ := id F
  induction N with
  | zero =>
    intro x2 S H locs ls h
    have h : (none : Option (Tr)) = some S' := h
    cases h
  | succ N hk40 =>
    intro x2 S H locs ls h hP hD hS hl
    have h : fB_X8_atFirst_L40 x1 (lpF (fun _ _ => none) (fB_X8_atFirst_L40 x1) N) x2 S = some S' := h
    generalize hk40e : lpF (fun _ _ => none) (fB_X8_atFirst_L40 x1) N = k40 at h hk40
    unfold fB_X8_atFirst_L40 at h
    refine lv_iload_n hx hb dX8_atFirst_40 rfl (lv_at hl 2 rfl) ?_
    refine lv_iconst (v := 5) hx hb dX8_atFirst_41 (by decide) ?_
    refine lv_icmp_ge (tgt := 62) hx hb dX8_atFirst_42 (by decide) (fun c2 => ?_) (fun c2 => ?_)
    · have h := tx_pos c2 h
      refine lv_iconst (v := 0) hx hb dX8_atFirst_62 (by decide) ?_
      refine lv_istore_n (lv' := [(2, .int 0), (0, .ref (aa 0)), (1, .int x1)]) hx hb dX8_atFirst_63 rfl hl (by decide) rfl (fun ls hl => ?_)
      exact w_X8_atFirst_L64 F 2000 0 S H locs ls h hP hD hS (lv_sub hl [1, 2, 0] rfl)
    · have h := tx_neg c2 h
      refine lv_aload_n hx hb dX8_atFirst_45 rfl (lv_at hl 0 rfl) ?_
      refine va_get (D := G) (ci := 8) (v := .ref (aa 56)) (C := RX8) (T := TX8) (N := 91) hx hb hT ku_8 hown hK hP 0 rfl rfl 55 (by decide) (hT _ kw_10_16) (fun _ h9 => h9) rfl dX8_atFirst_46 ?_
      refine lv_iconst (v := 5) hx hb dX8_atFirst_49 (by decide) ?_
      refine lv_iload_n hx hb dX8_atFirst_50 rfl (lv_at hl 1 rfl) ?_
      refine lv_imul hx hb dX8_atFirst_51 ?_
      refine lv_iload_n hx hb dX8_atFirst_52 rfl (lv_at hl 2 rfl) ?_
      refine lv_iadd hx hb dX8_atFirst_53 ?_
      refine lv_iconst (v := 0) hx hb dX8_atFirst_54 (by decide) ?_
      obtain ⟨g15, h⟩ := tx_ck h
      refine va_iast (i := (((5 : Int32) * x1) + x2)) hx hb hK hP hD hS 30 0 rfl rfl (tx_in g15) dX8_atFirst_55 (fun H locs hP hD hS => ?_)
      obtain ⟨S_16, eS_16, h⟩ := tx_lt h
      rw [sM_a55, eS_16] at hP hD
      obtain ⟨y17, ey17, h⟩ := tx_lt h
      refine lv_iinc (v := y17) (lv' := [(2, .int y17), (0, .ref (aa 0)), (1, .int x1)]) hx hb dX8_atFirst_56 hl (k := 2) rfl ey17 (by decide) rfl (fun ls hl => ?_)
      refine lv_goto (tgt := 40) hx hb dX8_atFirst_59 (by decide) ?_
      exact hk40 y17 S_16 H locs ls h hP hD hS (lv_sub hl [1, 2, 0] rfl)
set_option maxHeartbeats 4000000 in
set_option maxRecDepth 100000 in
theorem w_X8_atFirst_L2 {p : Program} {l : Launch} {e : Env} {s : State} {m : MethodId} {below : List Frame} {meth : Method} {c : Code} {G : va_G} {cA : Nat → ClassId} {A : Nat → Prop} {aa : Nat → Nat} {L : Lo} {x1₀ : Int32} {S' : Tr} {x1 : Int32} (F : tF p s m ([.ref (aa 0), .int x1₀] : List Value).toArray meth c G cA A RX8 cX8_atFirst 3 none)    (N : Nat) : ∀ (x2 : Int32) (S : Tr) (H : Heap) (locs : List Loc) (ls : Array Slot), lpF (fun _ _ => none) (fB_X8_atFirst_L2 x1) N x2 S = some S' → va_P G vwCl (wM cA aa S L) H → va_D A (wM cA aa S L) → va_S A s.heap H locs → lv_has ls 3 [(0, .ref (aa 0)), (1, .int x1), (2, .int x2)] → G_X8_atFirst p l e s m below meth c G cA A aa L x1₀ S' H locs (F0 m 2 ls []) := by
  obtain ⟨hx, hb, hr, hml, hT, hown, hlocks, hK, hN, hA⟩ := id F
  induction N with
  | zero =>
    intro x2 S H locs ls h
    have h : (none : Option (Tr)) = some S' := h
    cases h
  | succ N hk2 =>
    intro x2 S H locs ls h hP hD hS hl
    have h : fB_X8_atFirst_L2 x1 (lpF (fun _ _ => none) (fB_X8_atFirst_L2 x1) N) x2 S = some S' := h
    generalize hk2e : lpF (fun _ _ => none) (fB_X8_atFirst_L2 x1) N = k2 at h hk2
    unfold fB_X8_atFirst_L2 at h
    refine lv_iload_n hx hb dX8_atFirst_2 rfl (lv_at hl 2 rfl) ?_
    refine lv_bipush (v := 10) hx hb dX8_atFirst_3 (by decide) ?_
    refine lv_icmp_ge (tgt := 38) hx hb dX8_atFirst_5 (by decide) (fun c1 => ?_) (fun c1 => ?_)
    · have h := tx_pos c1 h
      refine lv_iconst (v := 0) hx hb dX8_atFirst_38 (by decide) ?_
      refine lv_istore_n (lv' := [(2, .int 0), (0, .ref (aa 0)), (1, .int x1)]) hx hb dX8_atFirst_39 rfl hl (by decide) rfl (fun ls hl => ?_)
      exact w_X8_atFirst_L40 F 2000 0 S H locs ls h hP hD hS (lv_sub hl [1, 2, 0] rfl)
    · have h := tx_neg c1 h
      refine lv_aload_n hx hb dX8_atFirst_8 rfl (lv_at hl 0 rfl) ?_
      refine va_get (D := G) (ci := 8) (v := .ref (aa 53)) (C := RX8) (T := TX8) (N := 91) hx hb hT ku_8 hown hK hP 0 rfl rfl 52 (by decide) (hT _ kw_10_13) (fun _ h9 => h9) rfl dX8_atFirst_9 ?_
      refine lv_bipush (v := 10) hx hb dX8_atFirst_12 (by decide) ?_
      refine lv_iload_n hx hb dX8_atFirst_14 rfl (lv_at hl 1 rfl) ?_
      refine lv_imul hx hb dX8_atFirst_15 ?_
      refine lv_iload_n hx hb dX8_atFirst_16 rfl (lv_at hl 2 rfl) ?_
      refine lv_iadd hx hb dX8_atFirst_17 ?_
      refine lv_iconst (v := 0) hx hb dX8_atFirst_18 (by decide) ?_
      obtain ⟨g18, h⟩ := tx_ck h
      refine va_iast (i := (((10 : Int32) * x1) + x2)) hx hb hK hP hD hS 27 0 rfl rfl (tx_in g18) dX8_atFirst_19 (fun H locs hP hD hS => ?_)
      obtain ⟨S_19, eS_19, h⟩ := tx_lt h
      rw [sM_a52, eS_19] at hP hD
      refine lv_aload_n hx hb dX8_atFirst_20 rfl (lv_at hl 0 rfl) ?_
      refine va_get (D := G) (ci := 8) (v := .ref (aa 54)) (C := RX8) (T := TX8) (N := 91) hx hb hT ku_8 hown hK hP 0 rfl rfl 53 (by decide) (hT _ kw_10_14) (fun _ h9 => h9) rfl dX8_atFirst_21 ?_
      refine lv_bipush (v := 10) hx hb dX8_atFirst_24 (by decide) ?_
      refine lv_iload_n hx hb dX8_atFirst_26 rfl (lv_at hl 1 rfl) ?_
      refine lv_imul hx hb dX8_atFirst_27 ?_
      refine lv_iload_n hx hb dX8_atFirst_28 rfl (lv_at hl 2 rfl) ?_
      refine lv_iadd hx hb dX8_atFirst_29 ?_
      refine lv_iconst (v := (-1)) hx hb dX8_atFirst_30 (by decide) ?_
      refine va_iast (i := (((10 : Int32) * x1) + x2)) hx hb hK hP hD hS 28 0 rfl rfl (tx_in g18) dX8_atFirst_31 (fun H locs hP hD hS => ?_)
      obtain ⟨S_20, eS_20, h⟩ := tx_lt h
      rw [sM_a53, eS_20] at hP hD
      obtain ⟨y21, ey21, h⟩ := tx_lt h
      refine lv_iinc (v := y21) (lv' := [(2, .int y21), (0, .ref (aa 0)), (1, .int x1)]) hx hb dX8_atFirst_32 hl (k := 2) rfl ey21 (by decide) rfl (fun ls hl => ?_)
      refine lv_goto (tgt := 2) hx hb dX8_atFirst_35 (by decide) ?_
      exact hk2 y21 S_20 H locs ls h hP hD hS (lv_sub hl [1, 2, 0] rfl)
set_option maxHeartbeats 4000000 in
set_option maxRecDepth 100000 in
theorem c_X8_atFirst (l : Launch) (G : va_G) (cA : Nat → ClassId) (sz : Nat) (aa : Nat → Nat) (S : Tr) (L : Lo) (x1 : Int32)  (S' : Tr) (h : f_X8_atFirst S x1 = some S') : Met l yX8_atFirst (.code yX8_atFirst cX8_atFirst 3 none :: T0) ({ frames := 0, cells := 0, slots := 0, locals := 0 } : Room) (tqP G cA [.ref (aa 0), .int x1] (wM cA aa S L) sz) (tqQv G cA (fun (_ : Unit) => True) (fun (_ : Unit) => wM cA aa S' L) (va_A (wM cA aa S L) sz)) 0 0 (va_A (wM cA aa S L) sz) := by
  refine Met.ofW (cc := cX8_atFirst) (maxL := 3) (ret := none) (by decide) rfl ?_
  intro p e s m args below meth c s₁ B hml hv
  obtain ⟨rfl, hsz, hP, hK, hD0, hN⟩ := hv
  have hx := B.exec
  have hb := B.bytes
  have hr := B.returns
  have hts := atoms_spec (ws := .code yX8_atFirst cX8_atFirst 3 none :: T0) B.pre
  have hT : ∀ w ∈ T0, w.before _ s = true := fun w h => hts w (List.mem_cons_of_mem _ h)
  have hown : s.vm.findClass RX8 = some m.cls := findClass_of_methodNamed B.named
  have hlocks := B.notSynchronized
  subst hsz
  have hD := hD0.self (sz := s.heap.size)
  generalize hAe : va_A (wM cA aa S L) s.heap.size = A at hD ⊢
  have hA : ∀ q : Nat, s.heap.size ≤ q → A q := fun q h => by rw [← hAe]; exact Or.inr h
  have hS : va_S A s.heap s.heap [] := va_S.rf
  have hl := lv_entry ([.ref (aa 0), .int x1]) (n := 3) (Nat.le_of_ble_eq_true rfl)
  rw [lg_entry_eq]
  generalize (lg_sl ([.ref (aa 0), .int x1]) ++ List.replicate (3 - (lg_sl ([.ref (aa 0), .int x1])).length) Slot.unset).toArray = ls at hl ⊢
  have hl : lv_has ls 3 [(0, .ref (aa 0)), (1, .int x1)] := hl
  have F : tF p s m ([.ref (aa 0), .int x1] : List Value).toArray meth c G cA A RX8 cX8_atFirst 3 none := ⟨hx, hb, hr, hml, hT, hown, hlocks, hK, hN, hA⟩
  obtain ⟨H, hH⟩ : ∃ z, z = s.heap := ⟨_, rfl⟩
  rw [← hH] at hP
  have hS : va_S A s.heap H [] := by rw [hH]; exact hS
  suffices hgo : G_X8_atFirst p l e s m below meth c G cA A aa L x1 S' H [] (F0 m 0 ls []) by rw [hH] at hgo; exact hgo
  generalize ([] : List Loc) = locs at hS ⊢
  unfold f_X8_atFirst at h
  refine lv_iconst (v := 0) hx hb dX8_atFirst_0 (by decide) ?_
  refine lv_istore_n (lv' := [(2, .int 0), (0, .ref (aa 0)), (1, .int x1)]) hx hb dX8_atFirst_1 rfl hl (by decide) rfl (fun ls hl => ?_)
  exact w_X8_atFirst_L2 F 2000 0 S H locs ls h hP hD hS (lv_sub hl [1, 2, 0] rfl)
abbrev G_X8_take_86 (p : Program) (l : Launch) (e : Env) (s : State) (m : MethodId) (below : List Frame) (meth : Method) (c : Code) (G : va_G) (cA : Nat → ClassId) (A : Nat → Prop) (aa : Nat → Nat) (L : Lo) (x2 : Int32) (S' : Tr) (H : Heap) (locs : List Loc) (g : JFrame) : Prop := W p l e (headSpec (.code yX8_take cX8_take 4 none :: T0) ({ frames := 0, cells := 0, slots := 0, locals := 0 } : Room)).room s m ([.ref (aa 0), .ref (aa 86), .int x2] : List Value).toArray below meth c H locs 0 0 (MQ below (tqQv G cA (fun (_ : Unit) => True) (fun (_ : Unit) => wM cA aa S' L) A) ([.ref (aa 0), .ref (aa 86), .int x2] : List Value).toArray s 0 0 A) g
set_option maxHeartbeats 4000000 in
set_option maxRecDepth 100000 in
theorem w_X8_take_86_L103 {p : Program} {l : Launch} {e : Env} {s : State} {m : MethodId} {below : List Frame} {meth : Method} {c : Code} {G : va_G} {cA : Nat → ClassId} {A : Nat → Prop} {aa : Nat → Nat} {L : Lo} {x2₀ : Int32} {S' : Tr} (F : tF p s m ([.ref (aa 0), .ref (aa 86), .int x2₀] : List Value).toArray meth c G cA A RX8 cX8_take 4 none)    (N : Nat) : ∀ (x3 : Int32) (S : Tr) (H : Heap) (locs : List Loc) (ls : Array Slot), lpF (fun _ _ => none) (fB_X8_take_86_L103 ) N x3 S = some S' → va_P G vwCl (wM cA aa S L) H → va_D A (wM cA aa S L) → va_S A s.heap H locs → lv_has ls 4 [(0, .ref (aa 0)), (3, .int x3)] → G_X8_take_86 p l e s m below meth c G cA A aa L x2₀ S' H locs (F0 m 103 ls []) := by
  obtain ⟨hx, hb, hr, hml, hT, hown, hlocks, hK, hN, hA⟩ := id F
  induction N with
  | zero =>
    intro x3 S H locs ls h
    have h : (none : Option (Tr)) = some S' := h
    cases h
  | succ N hk103 =>
    intro x3 S H locs ls h hP hD hS hl
    have h : fB_X8_take_86_L103  (lpF (fun _ _ => none) (fB_X8_take_86_L103 ) N) x3 S = some S' := h
    generalize hk103e : lpF (fun _ _ => none) (fB_X8_take_86_L103 ) N = k103 at h hk103
    unfold fB_X8_take_86_L103 at h
    refine lv_iload_n hx hb dX8_take_103 rfl (lv_at hl 1 rfl) ?_
    refine lv_bipush (v := 50) hx hb dX8_take_104 (by decide) ?_
    refine lv_icmp_ge (tgt := 146) hx hb dX8_take_106 (by decide) (fun c5 => ?_) (fun c5 => ?_)
    · have h := tx_pos c5 h
      obtain rfl := tx_1 h
      exact W.vret hx hb hr (fun t ht hW => ⟨⟨(), rfl, trivial, by rw [ht]; exact hP, hD⟩, hS.F ht⟩) hS.2.2 dX8_take_146
    · have h := tx_neg c5 h
      refine lv_iload_n hx hb dX8_take_109 rfl (lv_at hl 1 rfl) ?_
      refine lv_bipush (v := 10) hx hb dX8_take_110 (by decide) ?_
      refine lv_irem hx hb dX8_take_112 (by decide) ?_
      refine lv_aload_n hx hb dX8_take_113 rfl (lv_at hl 0 rfl) ?_
      refine va_get (D := G) (ci := 8) (v := .ref (aa 56)) (C := RX8) (T := TX8) (N := 91) hx hb hT ku_8 hown hK hP 0 rfl rfl 55 (by decide) (hT _ kw_10_16) (fun _ h9 => h9) rfl dX8_take_114 ?_
      refine lv_iload_n hx hb dX8_take_117 rfl (lv_at hl 1 rfl) ?_
      refine lv_bipush (v := 10) hx hb dX8_take_118 (by decide) ?_
      refine lv_idiv hx hb dX8_take_120 (by decide) ?_
      obtain ⟨g6, h⟩ := tx_ck h
      refine va_iald (i := (x3 / 10)) hx hb hK hP 30 0 rfl rfl (tx_in g6) dX8_take_121 ?_
      refine lv_icmp_ge (tgt := 140) hx hb dX8_take_122 (by decide) (fun c7 => ?_) (fun c7 => ?_)
      · have h := tx_pos c7 h
        obtain ⟨y8, ey8, h⟩ := tx_lt h
        refine lv_iinc (v := y8) (lv' := [(3, .int y8), (0, .ref (aa 0))]) hx hb dX8_take_140 hl (k := 1) rfl ey8 (by decide) rfl (fun ls hl => ?_)
        refine lv_goto (tgt := 103) hx hb dX8_take_143 (by decide) ?_
        exact hk103 y8 S H locs ls h hP hD hS (lv_sub hl [1, 0] rfl)
      · have h := tx_neg c7 h
        refine lv_aload_n hx hb dX8_take_125 rfl (lv_at hl 0 rfl) ?_
        refine va_get (D := G) (ci := 8) (v := .ref (aa 54)) (C := RX8) (T := TX8) (N := 91) hx hb hT ku_8 hown hK hP 0 rfl rfl 53 (by decide) (hT _ kw_10_14) (fun _ h9 => h9) rfl dX8_take_126 ?_
        refine lv_aload_n hx hb dX8_take_129 rfl (lv_at hl 0 rfl) ?_
        refine va_get (D := G) (ci := 8) (v := .ref (aa 55)) (C := RX8) (T := TX8) (N := 91) hx hb hT ku_8 hown hK hP 0 rfl rfl 54 (by decide) (hT _ kw_10_15) (fun _ h9 => h9) rfl dX8_take_130 ?_
        refine lv_iload_n hx hb dX8_take_133 rfl (lv_at hl 1 rfl) ?_
        obtain ⟨g9, h⟩ := tx_ck h
        refine va_iald (i := x3) hx hb hK hP 29 0 rfl rfl (tx_in g9) dX8_take_134 ?_
        refine lv_iload_n hx hb dX8_take_135 rfl (lv_at hl 1 rfl) ?_
        refine lv_bipush (v := 10) hx hb dX8_take_136 (by decide) ?_
        refine lv_idiv hx hb dX8_take_138 (by decide) ?_
        obtain ⟨g10, h⟩ := tx_ck h
        refine va_iast (i := (S 55 x3.toNatClampNeg)) hx hb hK hP hD hS 28 0 rfl rfl (tx_in g10) dX8_take_139 (fun H locs hP hD hS => ?_)
        obtain ⟨S_11, eS_11, h⟩ := tx_lt h
        rw [sM_a53, eS_11] at hP hD
        obtain ⟨y12, ey12, h⟩ := tx_lt h
        refine lv_iinc (v := y12) (lv' := [(3, .int y12), (0, .ref (aa 0))]) hx hb dX8_take_140 hl (k := 1) rfl ey12 (by decide) rfl (fun ls hl => ?_)
        refine lv_goto (tgt := 103) hx hb dX8_take_143 (by decide) ?_
        exact hk103 y12 S_11 H locs ls h hP hD hS (lv_sub hl [1, 0] rfl)
set_option maxHeartbeats 4000000 in
set_option maxRecDepth 100000 in
theorem w_X8_take_86_L82 {p : Program} {l : Launch} {e : Env} {s : State} {m : MethodId} {below : List Frame} {meth : Method} {c : Code} {G : va_G} {cA : Nat → ClassId} {A : Nat → Prop} {aa : Nat → Nat} {L : Lo} {x2₀ : Int32} {S' : Tr} (F : tF p s m ([.ref (aa 0), .ref (aa 86), .int x2₀] : List Value).toArray meth c G cA A RX8 cX8_take 4 none)    (N : Nat) : ∀ (x3 : Int32) (S : Tr) (H : Heap) (locs : List Loc) (ls : Array Slot), lpF (fun _ _ => none) (fB_X8_take_86_L82 ) N x3 S = some S' → va_P G vwCl (wM cA aa S L) H → va_D A (wM cA aa S L) → va_S A s.heap H locs → lv_has ls 4 [(0, .ref (aa 0)), (3, .int x3)] → G_X8_take_86 p l e s m below meth c G cA A aa L x2₀ S' H locs (F0 m 82 ls []) := by
  obtain ⟨hx, hb, hr, hml, hT, hown, hlocks, hK, hN, hA⟩ := id F
  induction N with
  | zero =>
    intro x3 S H locs ls h
    have h : (none : Option (Tr)) = some S' := h
    cases h
  | succ N hk82 =>
    intro x3 S H locs ls h hP hD hS hl
    have h : fB_X8_take_86_L82  (lpF (fun _ _ => none) (fB_X8_take_86_L82 ) N) x3 S = some S' := h
    generalize hk82e : lpF (fun _ _ => none) (fB_X8_take_86_L82 ) N = k82 at h hk82
    unfold fB_X8_take_86_L82 at h
    refine lv_iload_n hx hb dX8_take_82 rfl (lv_at hl 1 rfl) ?_
    refine lv_bipush (v := 10) hx hb dX8_take_83 (by decide) ?_
    refine lv_icmp_ge (tgt := 101) hx hb dX8_take_85 (by decide) (fun c4 => ?_) (fun c4 => ?_)
    · have h := tx_pos c4 h
      refine lv_iconst (v := 0) hx hb dX8_take_101 (by decide) ?_
      refine lv_istore_n (lv' := [(3, .int 0), (0, .ref (aa 0))]) hx hb dX8_take_102 rfl hl (by decide) rfl (fun ls hl => ?_)
      exact w_X8_take_86_L103 F 2000 0 S H locs ls h hP hD hS (lv_sub hl [1, 0] rfl)
    · have h := tx_neg c4 h
      refine lv_aload_n hx hb dX8_take_88 rfl (lv_at hl 0 rfl) ?_
      refine va_get (D := G) (ci := 8) (v := .ref (aa 54)) (C := RX8) (T := TX8) (N := 91) hx hb hT ku_8 hown hK hP 0 rfl rfl 53 (by decide) (hT _ kw_10_14) (fun _ h9 => h9) rfl dX8_take_89 ?_
      refine lv_iload_n hx hb dX8_take_92 rfl (lv_at hl 1 rfl) ?_
      refine lv_iconst (v := (-1)) hx hb dX8_take_93 (by decide) ?_
      obtain ⟨g13, h⟩ := tx_ck h
      refine va_iast (i := x3) hx hb hK hP hD hS 28 0 rfl rfl (tx_in g13) dX8_take_94 (fun H locs hP hD hS => ?_)
      obtain ⟨S_14, eS_14, h⟩ := tx_lt h
      rw [sM_a53, eS_14] at hP hD
      obtain ⟨y15, ey15, h⟩ := tx_lt h
      refine lv_iinc (v := y15) (lv' := [(3, .int y15), (0, .ref (aa 0))]) hx hb dX8_take_95 hl (k := 1) rfl ey15 (by decide) rfl (fun ls hl => ?_)
      refine lv_goto (tgt := 82) hx hb dX8_take_98 (by decide) ?_
      exact hk82 y15 S_14 H locs ls h hP hD hS (lv_sub hl [1, 0] rfl)
set_option maxHeartbeats 4000000 in
set_option maxRecDepth 100000 in
theorem w_X8_take_86_L54 {p : Program} {l : Launch} {e : Env} {s : State} {m : MethodId} {below : List Frame} {meth : Method} {c : Code} {G : va_G} {cA : Nat → ClassId} {A : Nat → Prop} {aa : Nat → Nat} {L : Lo} {x2₀ : Int32} {S' : Tr} {x2 : Int32} (F : tF p s m ([.ref (aa 0), .ref (aa 86), .int x2₀] : List Value).toArray meth c G cA A RX8 cX8_take 4 none)    (N : Nat) : ∀ (x3 : Int32) (S : Tr) (H : Heap) (locs : List Loc) (ls : Array Slot), lpF (fun _ _ => none) (fB_X8_take_86_L54 x2) N x3 S = some S' → va_P G vwCl (wM cA aa S L) H → va_D A (wM cA aa S L) → va_S A s.heap H locs → lv_has ls 4 [(0, .ref (aa 0)), (1, .ref (aa 86)), (2, .int x2), (3, .int x3)] → G_X8_take_86 p l e s m below meth c G cA A aa L x2₀ S' H locs (F0 m 54 ls []) := by
  obtain ⟨hx, hb, hr, hml, hT, hown, hlocks, hK, hN, hA⟩ := id F
  induction N with
  | zero =>
    intro x3 S H locs ls h
    have h : (none : Option (Tr)) = some S' := h
    cases h
  | succ N hk54 =>
    intro x3 S H locs ls h hP hD hS hl
    have h : fB_X8_take_86_L54 x2 (lpF (fun _ _ => none) (fB_X8_take_86_L54 x2) N) x3 S = some S' := h
    generalize hk54e : lpF (fun _ _ => none) (fB_X8_take_86_L54 x2) N = k54 at h hk54
    unfold fB_X8_take_86_L54 at h
    refine lv_iload_n hx hb dX8_take_54 rfl (lv_at hl 3 rfl) ?_
    refine lv_bipush (v := 6) hx hb dX8_take_55 (by decide) ?_
    refine lv_icmp_ge (tgt := 80) hx hb dX8_take_57 (by decide) (fun c3 => ?_) (fun c3 => ?_)
    · have h := tx_pos c3 h
      refine lv_iconst (v := 0) hx hb dX8_take_80 (by decide) ?_
      refine lv_istore_n (lv' := [(3, .int 0), (0, .ref (aa 0)), (1, .ref (aa 86)), (2, .int x2)]) hx hb dX8_take_81 rfl hl (by decide) rfl (fun ls hl => ?_)
      exact w_X8_take_86_L82 F 2000 0 S H locs ls h hP hD hS (lv_sub hl [1, 0] rfl)
    · have h := tx_neg c3 h
      refine lv_aload_n hx hb dX8_take_60 rfl (lv_at hl 0 rfl) ?_
      refine va_get (D := G) (ci := 8) (v := .ref (aa 58)) (C := RX8) (T := TX8) (N := 91) hx hb hT ku_8 hown hK hP 0 rfl rfl 57 (by decide) (hT _ kw_10_18) (fun _ h9 => h9) rfl dX8_take_61 ?_
      refine lv_iload_n hx hb dX8_take_64 rfl (lv_at hl 3 rfl) ?_
      refine lv_aload_n hx hb dX8_take_65 rfl (lv_at hl 1 rfl) ?_
      refine lv_iload_n hx hb dX8_take_66 rfl (lv_at hl 2 rfl) ?_
      refine lv_bipush (v := 55) hx hb dX8_take_67 (by decide) ?_
      refine lv_iadd hx hb dX8_take_69 ?_
      refine lv_iload_n hx hb dX8_take_70 rfl (lv_at hl 3 rfl) ?_
      refine lv_iadd hx hb dX8_take_71 ?_
      obtain ⟨g16, h⟩ := tx_ck h
      refine va_iald (i := ((x2 + 55) + x3)) hx hb hK hP 47 0 rfl rfl (tx_in g16) dX8_take_72 ?_
      obtain ⟨g17, h⟩ := tx_ck h
      refine va_iast (i := x3) hx hb hK hP hD hS 32 0 rfl rfl (tx_in g17) dX8_take_73 (fun H locs hP hD hS => ?_)
      obtain ⟨S_18, eS_18, h⟩ := tx_lt h
      rw [sM_a57, eS_18] at hP hD
      obtain ⟨y19, ey19, h⟩ := tx_lt h
      refine lv_iinc (v := y19) (lv' := [(3, .int y19), (0, .ref (aa 0)), (1, .ref (aa 86)), (2, .int x2)]) hx hb dX8_take_74 hl (k := 3) rfl ey19 (by decide) rfl (fun ls hl => ?_)
      refine lv_goto (tgt := 54) hx hb dX8_take_77 (by decide) ?_
      exact hk54 y19 S_18 H locs ls h hP hD hS (lv_sub hl [1, 2, 3, 0] rfl)
set_option maxHeartbeats 4000000 in
set_option maxRecDepth 100000 in
theorem w_X8_take_86_L27 {p : Program} {l : Launch} {e : Env} {s : State} {m : MethodId} {below : List Frame} {meth : Method} {c : Code} {G : va_G} {cA : Nat → ClassId} {A : Nat → Prop} {aa : Nat → Nat} {L : Lo} {x2₀ : Int32} {S' : Tr} {x2 : Int32} (F : tF p s m ([.ref (aa 0), .ref (aa 86), .int x2₀] : List Value).toArray meth c G cA A RX8 cX8_take 4 none)    (N : Nat) : ∀ (x3 : Int32) (S : Tr) (H : Heap) (locs : List Loc) (ls : Array Slot), lpF (fun _ _ => none) (fB_X8_take_86_L27 x2) N x3 S = some S' → va_P G vwCl (wM cA aa S L) H → va_D A (wM cA aa S L) → va_S A s.heap H locs → lv_has ls 4 [(0, .ref (aa 0)), (1, .ref (aa 86)), (2, .int x2), (3, .int x3)] → G_X8_take_86 p l e s m below meth c G cA A aa L x2₀ S' H locs (F0 m 27 ls []) := by
  obtain ⟨hx, hb, hr, hml, hT, hown, hlocks, hK, hN, hA⟩ := id F
  induction N with
  | zero =>
    intro x3 S H locs ls h
    have h : (none : Option (Tr)) = some S' := h
    cases h
  | succ N hk27 =>
    intro x3 S H locs ls h hP hD hS hl
    have h : fB_X8_take_86_L27 x2 (lpF (fun _ _ => none) (fB_X8_take_86_L27 x2) N) x3 S = some S' := h
    generalize hk27e : lpF (fun _ _ => none) (fB_X8_take_86_L27 x2) N = k27 at h hk27
    unfold fB_X8_take_86_L27 at h
    refine lv_iload_n hx hb dX8_take_27 rfl (lv_at hl 3 rfl) ?_
    refine lv_iconst (v := 5) hx hb dX8_take_28 (by decide) ?_
    refine lv_icmp_ge (tgt := 52) hx hb dX8_take_29 (by decide) (fun c2 => ?_) (fun c2 => ?_)
    · have h := tx_pos c2 h
      refine lv_iconst (v := 0) hx hb dX8_take_52 (by decide) ?_
      refine lv_istore_n (lv' := [(3, .int 0), (0, .ref (aa 0)), (1, .ref (aa 86)), (2, .int x2)]) hx hb dX8_take_53 rfl hl (by decide) rfl (fun ls hl => ?_)
      exact w_X8_take_86_L54 F 2000 0 S H locs ls h hP hD hS (lv_sub hl [1, 2, 3, 0] rfl)
    · have h := tx_neg c2 h
      refine lv_aload_n hx hb dX8_take_32 rfl (lv_at hl 0 rfl) ?_
      refine va_get (D := G) (ci := 8) (v := .ref (aa 56)) (C := RX8) (T := TX8) (N := 91) hx hb hT ku_8 hown hK hP 0 rfl rfl 55 (by decide) (hT _ kw_10_16) (fun _ h9 => h9) rfl dX8_take_33 ?_
      refine lv_iload_n hx hb dX8_take_36 rfl (lv_at hl 3 rfl) ?_
      refine lv_aload_n hx hb dX8_take_37 rfl (lv_at hl 1 rfl) ?_
      refine lv_iload_n hx hb dX8_take_38 rfl (lv_at hl 2 rfl) ?_
      refine lv_bipush (v := 50) hx hb dX8_take_39 (by decide) ?_
      refine lv_iadd hx hb dX8_take_41 ?_
      refine lv_iload_n hx hb dX8_take_42 rfl (lv_at hl 3 rfl) ?_
      refine lv_iadd hx hb dX8_take_43 ?_
      obtain ⟨g20, h⟩ := tx_ck h
      refine va_iald (i := ((x2 + 50) + x3)) hx hb hK hP 47 0 rfl rfl (tx_in g20) dX8_take_44 ?_
      obtain ⟨g21, h⟩ := tx_ck h
      refine va_iast (i := x3) hx hb hK hP hD hS 30 0 rfl rfl (tx_in g21) dX8_take_45 (fun H locs hP hD hS => ?_)
      obtain ⟨S_22, eS_22, h⟩ := tx_lt h
      rw [sM_a55, eS_22] at hP hD
      obtain ⟨y23, ey23, h⟩ := tx_lt h
      refine lv_iinc (v := y23) (lv' := [(3, .int y23), (0, .ref (aa 0)), (1, .ref (aa 86)), (2, .int x2)]) hx hb dX8_take_46 hl (k := 3) rfl ey23 (by decide) rfl (fun ls hl => ?_)
      refine lv_goto (tgt := 27) hx hb dX8_take_49 (by decide) ?_
      exact hk27 y23 S_22 H locs ls h hP hD hS (lv_sub hl [1, 2, 3, 0] rfl)
set_option maxHeartbeats 4000000 in
set_option maxRecDepth 100000 in
theorem w_X8_take_86_L2 {p : Program} {l : Launch} {e : Env} {s : State} {m : MethodId} {below : List Frame} {meth : Method} {c : Code} {G : va_G} {cA : Nat → ClassId} {A : Nat → Prop} {aa : Nat → Nat} {L : Lo} {x2₀ : Int32} {S' : Tr} {x2 : Int32} (F : tF p s m ([.ref (aa 0), .ref (aa 86), .int x2₀] : List Value).toArray meth c G cA A RX8 cX8_take 4 none)    (N : Nat) : ∀ (x3 : Int32) (S : Tr) (H : Heap) (locs : List Loc) (ls : Array Slot), lpF (fun _ _ => none) (fB_X8_take_86_L2 x2) N x3 S = some S' → va_P G vwCl (wM cA aa S L) H → va_D A (wM cA aa S L) → va_S A s.heap H locs → lv_has ls 4 [(0, .ref (aa 0)), (1, .ref (aa 86)), (2, .int x2), (3, .int x3)] → G_X8_take_86 p l e s m below meth c G cA A aa L x2₀ S' H locs (F0 m 2 ls []) := by
  obtain ⟨hx, hb, hr, hml, hT, hown, hlocks, hK, hN, hA⟩ := id F
  induction N with
  | zero =>
    intro x3 S H locs ls h
    have h : (none : Option (Tr)) = some S' := h
    cases h
  | succ N hk2 =>
    intro x3 S H locs ls h hP hD hS hl
    have h : fB_X8_take_86_L2 x2 (lpF (fun _ _ => none) (fB_X8_take_86_L2 x2) N) x3 S = some S' := h
    generalize hk2e : lpF (fun _ _ => none) (fB_X8_take_86_L2 x2) N = k2 at h hk2
    unfold fB_X8_take_86_L2 at h
    refine lv_iload_n hx hb dX8_take_2 rfl (lv_at hl 3 rfl) ?_
    refine lv_bipush (v := 50) hx hb dX8_take_3 (by decide) ?_
    refine lv_icmp_ge (tgt := 25) hx hb dX8_take_5 (by decide) (fun c1 => ?_) (fun c1 => ?_)
    · have h := tx_pos c1 h
      refine lv_iconst (v := 0) hx hb dX8_take_25 (by decide) ?_
      refine lv_istore_n (lv' := [(3, .int 0), (0, .ref (aa 0)), (1, .ref (aa 86)), (2, .int x2)]) hx hb dX8_take_26 rfl hl (by decide) rfl (fun ls hl => ?_)
      exact w_X8_take_86_L27 F 2000 0 S H locs ls h hP hD hS (lv_sub hl [1, 2, 3, 0] rfl)
    · have h := tx_neg c1 h
      refine lv_aload_n hx hb dX8_take_8 rfl (lv_at hl 0 rfl) ?_
      refine va_get (D := G) (ci := 8) (v := .ref (aa 55)) (C := RX8) (T := TX8) (N := 91) hx hb hT ku_8 hown hK hP 0 rfl rfl 54 (by decide) (hT _ kw_10_15) (fun _ h9 => h9) rfl dX8_take_9 ?_
      refine lv_iload_n hx hb dX8_take_12 rfl (lv_at hl 3 rfl) ?_
      refine lv_aload_n hx hb dX8_take_13 rfl (lv_at hl 1 rfl) ?_
      refine lv_iload_n hx hb dX8_take_14 rfl (lv_at hl 2 rfl) ?_
      refine lv_iload_n hx hb dX8_take_15 rfl (lv_at hl 3 rfl) ?_
      refine lv_iadd hx hb dX8_take_16 ?_
      obtain ⟨g24, h⟩ := tx_ck h
      refine va_iald (i := (x2 + x3)) hx hb hK hP 47 0 rfl rfl (tx_in g24) dX8_take_17 ?_
      obtain ⟨g25, h⟩ := tx_ck h
      refine va_iast (i := x3) hx hb hK hP hD hS 29 0 rfl rfl (tx_in g25) dX8_take_18 (fun H locs hP hD hS => ?_)
      obtain ⟨S_26, eS_26, h⟩ := tx_lt h
      rw [sM_a54, eS_26] at hP hD
      obtain ⟨y27, ey27, h⟩ := tx_lt h
      refine lv_iinc (v := y27) (lv' := [(3, .int y27), (0, .ref (aa 0)), (1, .ref (aa 86)), (2, .int x2)]) hx hb dX8_take_19 hl (k := 3) rfl ey27 (by decide) rfl (fun ls hl => ?_)
      refine lv_goto (tgt := 2) hx hb dX8_take_22 (by decide) ?_
      exact hk2 y27 S_26 H locs ls h hP hD hS (lv_sub hl [1, 2, 3, 0] rfl)
set_option maxHeartbeats 4000000 in
set_option maxRecDepth 100000 in
theorem c_X8_take_86 (l : Launch) (G : va_G) (cA : Nat → ClassId) (sz : Nat) (aa : Nat → Nat) (S : Tr) (L : Lo) (x2 : Int32)  (S' : Tr) (h : f_X8_take_86 S x2 = some S') : Met l yX8_take (.code yX8_take cX8_take 4 none :: T0) ({ frames := 0, cells := 0, slots := 0, locals := 0 } : Room) (tqP G cA [.ref (aa 0), .ref (aa 86), .int x2] (wM cA aa S L) sz) (tqQv G cA (fun (_ : Unit) => True) (fun (_ : Unit) => wM cA aa S' L) (va_A (wM cA aa S L) sz)) 0 0 (va_A (wM cA aa S L) sz) := by
  refine Met.ofW (cc := cX8_take) (maxL := 4) (ret := none) (by decide) rfl ?_
  intro p e s m args below meth c s₁ B hml hv
  obtain ⟨rfl, hsz, hP, hK, hD0, hN⟩ := hv
  have hx := B.exec
  have hb := B.bytes
  have hr := B.returns
  have hts := atoms_spec (ws := .code yX8_take cX8_take 4 none :: T0) B.pre
  have hT : ∀ w ∈ T0, w.before _ s = true := fun w h => hts w (List.mem_cons_of_mem _ h)
  have hown : s.vm.findClass RX8 = some m.cls := findClass_of_methodNamed B.named
  have hlocks := B.notSynchronized
  subst hsz
  have hD := hD0.self (sz := s.heap.size)
  generalize hAe : va_A (wM cA aa S L) s.heap.size = A at hD ⊢
  have hA : ∀ q : Nat, s.heap.size ≤ q → A q := fun q h => by rw [← hAe]; exact Or.inr h
  have hS : va_S A s.heap s.heap [] := va_S.rf
  have hl := lv_entry ([.ref (aa 0), .ref (aa 86), .int x2]) (n := 4) (Nat.le_of_ble_eq_true rfl)
  rw [lg_entry_eq]
  generalize (lg_sl ([.ref (aa 0), .ref (aa 86), .int x2]) ++ List.replicate (4 - (lg_sl ([.ref (aa 0), .ref (aa 86), .int x2])).length) Slot.unset).toArray = ls at hl ⊢
  have hl : lv_has ls 4 [(0, .ref (aa 0)), (1, .ref (aa 86)), (2, .int x2)] := hl
  have F : tF p s m ([.ref (aa 0), .ref (aa 86), .int x2] : List Value).toArray meth c G cA A RX8 cX8_take 4 none := ⟨hx, hb, hr, hml, hT, hown, hlocks, hK, hN, hA⟩
  obtain ⟨H, hH⟩ : ∃ z, z = s.heap := ⟨_, rfl⟩
  rw [← hH] at hP
  have hS : va_S A s.heap H [] := by rw [hH]; exact hS
  suffices hgo : G_X8_take_86 p l e s m below meth c G cA A aa L x2 S' H [] (F0 m 0 ls []) by rw [hH] at hgo; exact hgo
  generalize ([] : List Loc) = locs at hS ⊢
  unfold f_X8_take_86 at h
  refine lv_iconst (v := 0) hx hb dX8_take_0 (by decide) ?_
  refine lv_istore_n (lv' := [(3, .int 0), (0, .ref (aa 0)), (1, .ref (aa 86)), (2, .int x2)]) hx hb dX8_take_1 rfl hl (by decide) rfl (fun ls hl => ?_)
  exact w_X8_take_86_L2 F 2000 0 S H locs ls h hP hD hS (lv_sub hl [1, 2, 3, 0] rfl)
abbrev G_X8_back (p : Program) (l : Launch) (e : Env) (s : State) (m : MethodId) (below : List Frame) (meth : Method) (c : Code) (G : va_G) (cA : Nat → ClassId) (A : Nat → Prop) (aa : Nat → Nat) (r0 : Int32) (S' : Tr) (L' : Lo) (H : Heap) (locs : List Loc) (g : JFrame) : Prop := W p l e (headSpec (.code yX8_back cX8_back 2 (some .int) :: T0) ({ frames := 1, cells := 0, slots := 0, locals := 23 } : Room)).room s m ([.ref (aa 0)] : List Value).toArray below meth c H locs 0 0 (MQ below (tqQi G cA (fun (r : Int32) (_ : Unit) => r = r0) (fun (_ : Unit) => wM cA aa S' L') A) ([.ref (aa 0)] : List Value).toArray s 0 0 A) g
set_option maxHeartbeats 4000000 in
set_option maxRecDepth 100000 in
theorem w_X8_back_J90 {p : Program} {l : Launch} {e : Env} {s : State} {m : MethodId} {below : List Frame} {meth : Method} {c : Code} {G : va_G} {cA : Nat → ClassId} {A : Nat → Prop} {aa : Nat → Nat} {r0 : Int32} {S' : Tr} {L' : Lo} (F : tF p s m ([.ref (aa 0)] : List Value).toArray meth c G cA A RX8 cX8_back 2 (some .int))    (S : Tr) (L : Lo) (H : Heap) (locs : List Loc) (ls : Array Slot) (h : fJ_X8_back_J90 S L = some (r0, S', L')) (hP : va_P G vwCl (wM cA aa S_11 L_10) H) (hD : va_D A (wM cA aa S_11 L_10)) (hS : va_S A s.heap H locs) (hl : lv_has ls 2 [(0, .ref (aa 0))]) : G_X8_back p l e s m below meth c G cA A aa r0 S' L' H locs (F0 m 90 ls []) := by
  obtain ⟨hx, hb, hr, hml, hT, hown, hlocks, hK, hN, hA⟩ := id F
  unfold fJ_X8_back_J90 at h
  refine lv_aload_n hx hb dX8_back_90 rfl (lv_at hl 0 rfl) ?_
  refine va_get (D := G) (ci := 8) (v := .ref (aa 61)) (C := RX8) (T := TX8) (N := 91) hx hb hT ku_8 hown hK hP 0 rfl rfl 60 (by decide) (hT _ kw_10_21) (fun _ h9 => h9) rfl dX8_back_91 ?_
  refine lv_iconst (v := 0) hx hb dX8_back_94 (by decide) ?_
  refine lv_aload_n hx hb dX8_back_95 rfl (lv_at hl 0 rfl) ?_
  refine va_get (D := G) (ci := 8) (v := .int (S 0 88)) (C := RX8) (T := TX8) (N := 91) hx hb hT ku_8 hown hK hP 0 rfl rfl 88 (by decide) (hT _ kw_59_4) (fun _ h9 => h9) rfl dX8_back_96 ?_
  refine va_iast (i := 0) hx hb hK hP hD hS 35 0 rfl rfl (tq_in (by decide)) dX8_back_99 (fun H locs hP hD hS => ?_)
  rw [show (0 : Int32).toNatClampNeg = 0 from rfl] at hP hD
  obtain ⟨S_8, eS_8, h⟩ := tx_lt h
  rw [sM_a60, eS_8] at hP hD
  refine lv_aload_n hx hb dX8_back_100 rfl (lv_at hl 0 rfl) ?_
  refine va_get (D := G) (ci := 8) (v := .ref (aa 62)) (C := RX8) (T := TX8) (N := 91) hx hb hT ku_8 hown hK hP 0 rfl rfl 61 (by decide) (hT _ kw_10_22) (fun _ h9 => h9) rfl dX8_back_101 ?_
  refine lv_iconst (v := 0) hx hb dX8_back_104 (by decide) ?_
  refine lv_aload_n hx hb dX8_back_105 rfl (lv_at hl 0 rfl) ?_
  refine va_get (D := G) (ci := 8) (v := .int (S_8 0 89)) (C := RX8) (T := TX8) (N := 91) hx hb hT ku_8 hown hK hP 0 rfl rfl 89 (by decide) (hT _ kw_59_5) (fun _ h9 => h9) rfl dX8_back_106 ?_
  refine va_iast (i := 0) hx hb hK hP hD hS 36 0 rfl rfl (tq_in (by decide)) dX8_back_109 (fun H locs hP hD hS => ?_)
  rw [show (0 : Int32).toNatClampNeg = 0 from rfl] at hP hD
  obtain ⟨S_9, eS_9, h⟩ := tx_lt h
  rw [sM_a61, eS_9] at hP hD
  refine lv_aload_n hx hb dX8_back_110 rfl (lv_at hl 0 rfl) ?_
  refine lv_aload_n hx hb dX8_back_111 rfl (lv_at hl 0 rfl) ?_
  refine va_get (D := G) (ci := 8) (v := .long (L 0 90)) (C := RX8) (T := TX8) (N := 91) hx hb hT ku_8 hown hK hP 0 rfl rfl 90 (by decide) (hT _ kw_59_6) (fun _ h9 => h9) rfl dX8_back_112 ?_
  refine va_put (D := G) (ci := 8) (v := .long (L 0 90)) (ty := .long) (C := RX8) (T := TX8) (N := 91) hx hb hT ku_8 tyX8 tyX8_ok nmX8 hown hK hP hD hS 0 rfl rfl 63 (by decide) (hT _ kw_12_14) (fun _ h9 => h9) rfl (by decide +kernel) rfl rfl (Nat.le_of_ble_eq_true rfl) dX8_back_115 (fun H locs hP hD hS => ?_)
  obtain ⟨L_10, eL_10, h⟩ := tx_lt h
  rw [sM_f63, eL_10] at hP hD
  refine lv_aload_n hx hb dX8_back_118 rfl (lv_at hl 0 rfl) ?_
  refine lv_iconst (v := 0) hx hb dX8_back_119 (by decide) ?_
  refine va_put (D := G) (ci := 8) (v := .int 0) (ty := .int) (C := RX8) (T := TX8) (N := 91) hx hb hT ku_8 tyX8 tyX8_ok nmX8 hown hK hP hD hS 0 rfl rfl 82 (by decide) (hT _ kw_12_16) (fun _ h9 => h9) rfl (by decide +kernel) rfl rfl (Nat.le_of_ble_eq_true rfl) dX8_back_120 (fun H locs hP hD hS => ?_)
  obtain ⟨S_11, eS_11, h⟩ := tx_lt h
  rw [sM_f82, eS_11] at hP hD
  refine lv_aload_n hx hb dX8_back_123 rfl (lv_at hl 0 rfl) ?_
  refine va_get (D := G) (ci := 8) (v := .ref (aa 62)) (C := RX8) (T := TX8) (N := 91) hx hb hT ku_8 hown hK hP 0 rfl rfl 61 (by decide) (hT _ kw_10_22) (fun _ h9 => h9) rfl dX8_back_124 ?_
  refine lv_iconst (v := 0) hx hb dX8_back_127 (by decide) ?_
  refine va_iald (i := 0) hx hb hK hP 36 0 rfl rfl (tq_in (by decide)) dX8_back_128 ?_
  refine tq_i (w := (S_11 62 0)) rfl ?_
  obtain ⟨rfl, rfl, rfl⟩ := tx_3 h
  exact W.iret hx hb hr (fun t ht hW => ⟨⟨_, (), rfl, rfl, by rw [ht]; exact hP, hD⟩, hS.F ht⟩) hS.2.2 dX8_back_129
set_option maxHeartbeats 4000000 in
set_option maxRecDepth 100000 in
theorem w_X8_back_L51 {p : Program} {l : Launch} {e : Env} {s : State} {m : MethodId} {below : List Frame} {meth : Method} {c : Code} {G : va_G} {cA : Nat → ClassId} {A : Nat → Prop} {aa : Nat → Nat} {r0 : Int32} {S' : Tr} {L' : Lo} {L : Lo} (F : tF p s m ([.ref (aa 0)] : List Value).toArray meth c G cA A RX8 cX8_back 2 (some .int))    (N : Nat) : ∀ (x1 : Int32) (S : Tr) (H : Heap) (locs : List Loc) (ls : Array Slot), lpF (fun _ _ => none) (fB_X8_back_L51 L) N x1 S = some (r0, S', L') → va_P G vwCl (wM cA aa S L) H → va_D A (wM cA aa S L) → va_S A s.heap H locs → lv_has ls 2 [(0, .ref (aa 0)), (1, .int x1)] → G_X8_back p l e s m below meth c G cA A aa r0 S' L' H locs (F0 m 51 ls []) := by
  obtain ⟨hx, hb, hr, hml, hT, hown, hlocks, hK, hN, hA⟩ := id F
  induction N with
  | zero =>
    intro x1 S H locs ls h
    have h : (none : Option (Int32 × Tr × Lo)) = some (r0, S', L') := h
    cases h
  | succ N hk51 =>
    intro x1 S H locs ls h hP hD hS hl
    have h : fB_X8_back_L51 L (lpF (fun _ _ => none) (fB_X8_back_L51 L) N) x1 S = some (r0, S', L') := h
    generalize hk51e : lpF (fun _ _ => none) (fB_X8_back_L51 L) N = k51 at h hk51
    unfold fB_X8_back_L51 at h
    refine lv_iload_n hx hb dX8_back_51 rfl (lv_at hl 1 rfl) ?_
    refine lv_bipush (v := 6) hx hb dX8_back_52 (by decide) ?_
    refine lv_icmp_ge (tgt := 90) hx hb dX8_back_54 (by decide) (fun c7 => ?_) (fun c7 => ?_)
    · have h := tx_pos c7 h
      exact w_X8_back_J90 F S L H locs ls h hP hD hS (lv_sub hl [0] rfl)
    · have h := tx_neg c7 h
      refine lv_aload_n hx hb dX8_back_57 rfl (lv_at hl 0 rfl) ?_
      refine va_get (D := G) (ci := 8) (v := .ref (aa 59)) (C := RX8) (T := TX8) (N := 91) hx hb hT ku_8 hown hK hP 0 rfl rfl 58 (by decide) (hT _ kw_10_19) (fun _ h9 => h9) rfl dX8_back_58 ?_
      refine lv_iload_n hx hb dX8_back_61 rfl (lv_at hl 1 rfl) ?_
      refine lv_aload_n hx hb dX8_back_62 rfl (lv_at hl 0 rfl) ?_
      refine va_get (D := G) (ci := 8) (v := .ref (aa 88)) (C := RX8) (T := TX8) (N := 91) hx hb hT ku_8 hown hK hP 0 rfl rfl 87 (by decide) (hT _ kw_11_12) (fun _ h9 => h9) rfl dX8_back_63 ?_
      refine lv_iload_n hx hb dX8_back_66 rfl (lv_at hl 1 rfl) ?_
      obtain ⟨g12, h⟩ := tx_ck h
      refine va_iald (i := x1) hx hb hK hP 49 0 rfl rfl (tx_in g12) dX8_back_67 ?_
      refine va_iast (i := x1) hx hb hK hP hD hS 33 0 rfl rfl (tx_in g12) dX8_back_68 (fun H locs hP hD hS => ?_)
      obtain ⟨S_13, eS_13, h⟩ := tx_lt h
      rw [sM_a58, eS_13] at hP hD
      refine lv_aload_n hx hb dX8_back_69 rfl (lv_at hl 0 rfl) ?_
      refine va_get (D := G) (ci := 8) (v := .ref (aa 60)) (C := RX8) (T := TX8) (N := 91) hx hb hT ku_8 hown hK hP 0 rfl rfl 59 (by decide) (hT _ kw_10_20) (fun _ h9 => h9) rfl dX8_back_70 ?_
      refine lv_iload_n hx hb dX8_back_73 rfl (lv_at hl 1 rfl) ?_
      refine lv_aload_n hx hb dX8_back_74 rfl (lv_at hl 0 rfl) ?_
      refine va_get (D := G) (ci := 8) (v := .ref (aa 88)) (C := RX8) (T := TX8) (N := 91) hx hb hT ku_8 hown hK hP 0 rfl rfl 87 (by decide) (hT _ kw_11_12) (fun _ h9 => h9) rfl dX8_back_75 ?_
      refine lv_bipush (v := 6) hx hb dX8_back_78 (by decide) ?_
      refine lv_iload_n hx hb dX8_back_80 rfl (lv_at hl 1 rfl) ?_
      refine lv_iadd hx hb dX8_back_81 ?_
      obtain ⟨g14, h⟩ := tx_ck h
      refine va_iald (i := ((6 : Int32) + x1)) hx hb hK hP 49 0 rfl rfl (tx_in g14) dX8_back_82 ?_
      refine va_iast (i := x1) hx hb hK hP hD hS 34 0 rfl rfl (tx_in g12) dX8_back_83 (fun H locs hP hD hS => ?_)
      obtain ⟨S_15, eS_15, h⟩ := tx_lt h
      rw [sM_a59, eS_15] at hP hD
      obtain ⟨y16, ey16, h⟩ := tx_lt h
      refine lv_iinc (v := y16) (lv' := [(1, .int y16), (0, .ref (aa 0))]) hx hb dX8_back_84 hl (k := 1) rfl ey16 (by decide) rfl (fun ls hl => ?_)
      refine lv_goto (tgt := 51) hx hb dX8_back_87 (by decide) ?_
      exact hk51 y16 S_15 H locs ls h hP hD hS (lv_sub hl [1, 0] rfl)
set_option maxHeartbeats 4000000 in
set_option maxRecDepth 100000 in
theorem w_X8_back_L25 {p : Program} {l : Launch} {e : Env} {s : State} {m : MethodId} {below : List Frame} {meth : Method} {c : Code} {G : va_G} {cA : Nat → ClassId} {A : Nat → Prop} {aa : Nat → Nat} {r0 : Int32} {S' : Tr} {L' : Lo} {L : Lo} (F : tF p s m ([.ref (aa 0)] : List Value).toArray meth c G cA A RX8 cX8_back 2 (some .int))    (N : Nat) : ∀ (x1 : Int32) (S : Tr) (H : Heap) (locs : List Loc) (ls : Array Slot), lpF (fun _ _ => none) (fB_X8_back_L25 L) N x1 S = some (r0, S', L') → va_P G vwCl (wM cA aa S L) H → va_D A (wM cA aa S L) → va_S A s.heap H locs → lv_has ls 2 [(0, .ref (aa 0)), (1, .int x1)] → G_X8_back p l e s m below meth c G cA A aa r0 S' L' H locs (F0 m 25 ls []) := by
  obtain ⟨hx, hb, hr, hml, hT, hown, hlocks, hK, hN, hA⟩ := id F
  induction N with
  | zero =>
    intro x1 S H locs ls h
    have h : (none : Option (Int32 × Tr × Lo)) = some (r0, S', L') := h
    cases h
  | succ N hk25 =>
    intro x1 S H locs ls h hP hD hS hl
    have h : fB_X8_back_L25 L (lpF (fun _ _ => none) (fB_X8_back_L25 L) N) x1 S = some (r0, S', L') := h
    generalize hk25e : lpF (fun _ _ => none) (fB_X8_back_L25 L) N = k25 at h hk25
    unfold fB_X8_back_L25 at h
    refine lv_iload_n hx hb dX8_back_25 rfl (lv_at hl 1 rfl) ?_
    refine lv_bipush (v := 10) hx hb dX8_back_26 (by decide) ?_
    refine lv_icmp_ge (tgt := 49) hx hb dX8_back_28 (by decide) (fun c6 => ?_) (fun c6 => ?_)
    · have h := tx_pos c6 h
      refine lv_iconst (v := 0) hx hb dX8_back_49 (by decide) ?_
      refine lv_istore_n (lv' := [(1, .int 0), (0, .ref (aa 0))]) hx hb dX8_back_50 rfl hl (by decide) rfl (fun ls hl => ?_)
      exact w_X8_back_L51 F 2000 0 S H locs ls h hP hD hS (lv_sub hl [1, 0] rfl)
    · have h := tx_neg c6 h
      refine lv_aload_n hx hb dX8_back_31 rfl (lv_at hl 0 rfl) ?_
      refine va_get (D := G) (ci := 8) (v := .ref (aa 53)) (C := RX8) (T := TX8) (N := 91) hx hb hT ku_8 hown hK hP 0 rfl rfl 52 (by decide) (hT _ kw_10_13) (fun _ h9 => h9) rfl dX8_back_32 ?_
      refine lv_iload_n hx hb dX8_back_35 rfl (lv_at hl 1 rfl) ?_
      refine lv_aload_n hx hb dX8_back_36 rfl (lv_at hl 0 rfl) ?_
      refine va_get (D := G) (ci := 8) (v := .ref (aa 87)) (C := RX8) (T := TX8) (N := 91) hx hb hT ku_8 hown hK hP 0 rfl rfl 86 (by decide) (hT _ kw_11_11) (fun _ h9 => h9) rfl dX8_back_37 ?_
      refine lv_iload_n hx hb dX8_back_40 rfl (lv_at hl 1 rfl) ?_
      obtain ⟨g17, h⟩ := tx_ck h
      refine va_iald (i := x1) hx hb hK hP 48 0 rfl rfl (tx_in g17) dX8_back_41 ?_
      obtain ⟨g18, h⟩ := tx_ck h
      refine va_iast (i := x1) hx hb hK hP hD hS 27 0 rfl rfl (tx_in g18) dX8_back_42 (fun H locs hP hD hS => ?_)
      obtain ⟨S_19, eS_19, h⟩ := tx_lt h
      rw [sM_a52, eS_19] at hP hD
      obtain ⟨y20, ey20, h⟩ := tx_lt h
      refine lv_iinc (v := y20) (lv' := [(1, .int y20), (0, .ref (aa 0))]) hx hb dX8_back_43 hl (k := 1) rfl ey20 (by decide) rfl (fun ls hl => ?_)
      refine lv_goto (tgt := 25) hx hb dX8_back_46 (by decide) ?_
      exact hk25 y20 S_19 H locs ls h hP hD hS (lv_sub hl [1, 0] rfl)
set_option maxHeartbeats 4000000 in
set_option maxRecDepth 100000 in
theorem c_X8_back (l : Launch) (G : va_G) (cA : Nat → ClassId) (sz : Nat) (aa : Nat → Nat) (S : Tr) (L : Lo)  (r0 : Int32) (S' : Tr) (L' : Lo) (h : f_X8_back S L = some (r0, S', L')) : Met l yX8_back (.code yX8_back cX8_back 2 (some .int) :: T0) ({ frames := 1, cells := 0, slots := 0, locals := 23 } : Room) (tqP G cA [.ref (aa 0)] (wM cA aa S L) sz) (tqQi G cA (fun (r : Int32) (_ : Unit) => r = r0) (fun (_ : Unit) => wM cA aa S' L') (va_A (wM cA aa S L) sz)) 0 0 (va_A (wM cA aa S L) sz) := by
  refine Met.ofW (cc := cX8_back) (maxL := 2) (ret := (some .int)) (by decide) rfl ?_
  intro p e s m args below meth c s₁ B hml hv
  obtain ⟨rfl, hsz, hP, hK, hD0, hN⟩ := hv
  have hx := B.exec
  have hb := B.bytes
  have hr := B.returns
  have hts := atoms_spec (ws := .code yX8_back cX8_back 2 (some .int) :: T0) B.pre
  have hT : ∀ w ∈ T0, w.before _ s = true := fun w h => hts w (List.mem_cons_of_mem _ h)
  have hown : s.vm.findClass RX8 = some m.cls := findClass_of_methodNamed B.named
  have hlocks := B.notSynchronized
  subst hsz
  have hD := hD0.self (sz := s.heap.size)
  generalize hAe : va_A (wM cA aa S L) s.heap.size = A at hD ⊢
  have hA : ∀ q : Nat, s.heap.size ≤ q → A q := fun q h => by rw [← hAe]; exact Or.inr h
  have hS : va_S A s.heap s.heap [] := va_S.rf
  have hl := lv_entry ([.ref (aa 0)]) (n := 2) (Nat.le_of_ble_eq_true rfl)
  rw [lg_entry_eq]
  generalize (lg_sl ([.ref (aa 0)]) ++ List.replicate (2 - (lg_sl ([.ref (aa 0)])).length) Slot.unset).toArray = ls at hl ⊢
  have hl : lv_has ls 2 [(0, .ref (aa 0))] := hl
  have F : tF p s m ([.ref (aa 0)] : List Value).toArray meth c G cA A RX8 cX8_back 2 (some .int) := ⟨hx, hb, hr, hml, hT, hown, hlocks, hK, hN, hA⟩
  obtain ⟨H, hH⟩ : ∃ z, z = s.heap := ⟨_, rfl⟩
  rw [← hH] at hP
  have hS : va_S A s.heap H [] := by rw [hH]; exact hS
  suffices hgo : G_X8_back p l e s m below meth c G cA A aa r0 S' L' H [] (F0 m 0 ls []) by rw [hH] at hgo; exact hgo
  generalize ([] : List Loc) = locs at hS ⊢
  unfold f_X8_back at h
  refine lv_aload_n hx hb dX8_back_0 rfl (lv_at hl 0 rfl) ?_
  refine lv_iconst (v := 0) hx hb dX8_back_1 (by decide) ?_
  refine va_put (D := G) (ci := 8) (v := .int 0) (ty := .int) (C := RX8) (T := TX8) (N := 91) hx hb hT ku_8 tyX8 tyX8_ok nmX8 hown hK hP hD hS 0 rfl rfl 2 (by decide) (hT _ kw_14_0) (fun _ h9 => h9) rfl (by decide +kernel) rfl rfl (Nat.le_of_ble_eq_true rfl) dX8_back_2 (fun H locs hP hD hS => ?_)
  obtain ⟨S_1, eS_1, h⟩ := tx_lt h
  rw [sM_f2, eS_1] at hP hD
  refine lv_aload_n hx hb dX8_back_5 rfl (lv_at hl 0 rfl) ?_
  refine va_get (D := G) (ci := 8) (v := .int (S_1 0 84)) (C := RX8) (T := TX8) (N := 91) hx hb hT ku_8 hown hK hP 0 rfl rfl 84 (by decide) (hT _ kw_12_17) (fun _ h9 => h9) rfl dX8_back_6 ?_
  refine lv_if_ne (tgt := 14) hx hb dX8_back_9 (by decide) (fun c2 => ?_) (fun c2 => ?_)
  · have h := tx_neg c2 h
    refine lv_aload_n hx hb dX8_back_14 rfl (lv_at hl 0 rfl) ?_
    refine lv_aload_n hx hb dX8_back_15 rfl (lv_at hl 0 rfl) ?_
    refine va_get (D := G) (ci := 8) (v := .ref (aa 86)) (C := RX8) (T := TX8) (N := 91) hx hb hT ku_8 hown hK hP 0 rfl rfl 85 (by decide) (hT _ kw_11_10) (fun _ h9 => h9) rfl dX8_back_16 ?_
    refine lv_iconst (v := 0) hx hb dX8_back_19 (by decide) ?_
    obtain ⟨S_3, hc4, h⟩ := tx_bd h
    refine tw_cv tw_all hP hD hS hA (va_runV (As := [.ref (aa 86), .int 0]) (rest := []) ⟨hx, hb, hml, hown, hT⟩ (c_X8_take_86 l G cA H.size aa S_1 L (0 : Int32)  S_3 hc4) (cwV 2 hT (tq_gV kw_58_16 kw_58_17 kw_58_18 kw_1_5 kw_58_19) rfl rfl rfl (by decide +kernel) ⟨Nat.le_of_ble_eq_true rfl, Nat.le_of_ble_eq_true rfl⟩) ⟨(tw_pre tw_all hP hD hK hN).1, va_recv hK hP (ci := 8) (q0 := 0) rfl rfl, (tw_pre tw_all hP hD hK hN).2⟩ rfl rfl hl.1 rfl (lv_room (Nat.le_of_ble_eq_true rfl)) dX8_back_20 ⟨Nat.le_of_ble_eq_true rfl, Nat.le_of_ble_eq_true rfl⟩) (fun _ H locs z5 hP hD hS => ?_)
    rw [List.append_nil] at hP hD
    have hP : va_P G vwCl (wM cA aa S_3 L) H := hP
    have hD : va_D A (wM cA aa S_3 L) := hD
    refine lv_iconst (v := 0) hx hb dX8_back_23 (by decide) ?_
    refine lv_istore_n (lv' := [(1, .int 0), (0, .ref (aa 0))]) hx hb dX8_back_24 rfl hl (by decide) rfl (fun ls hl => ?_)
    exact w_X8_back_L25 F 2000 0 S_3 H locs ls h hP hD hS (lv_sub hl [1, 0] rfl)
  · have h := tx_pos c2 h
    refine lv_iconst (v := (-1)) hx hb dX8_back_12 (by decide) ?_
    obtain ⟨rfl, rfl, rfl⟩ := tx_3 h
    exact W.iret hx hb hr (fun t ht hW => ⟨⟨_, (), rfl, rfl, by rw [ht]; exact hP, hD⟩, hS.F ht⟩) hS.2.2 dX8_back_13
abbrev G_X8_begin (p : Program) (l : Launch) (e : Env) (s : State) (m : MethodId) (below : List Frame) (meth : Method) (c : Code) (G : va_G) (cA : Nat → ClassId) (A : Nat → Prop) (aa : Nat → Nat) (S' : Tr) (L' : Lo) (H : Heap) (locs : List Loc) (g : JFrame) : Prop := W p l e (headSpec (.code yX8_begin cX8_begin 1 none :: T0) ({ frames := 1, cells := 0, slots := 0, locals := 22 } : Room)).room s m ([.ref (aa 0)] : List Value).toArray below meth c H locs 0 0 (MQ below (tqQv G cA (fun (_ : Unit) => True) (fun (_ : Unit) => wM cA aa S' L') A) ([.ref (aa 0)] : List Value).toArray s 0 0 A) g
set_option maxHeartbeats 4000000 in
set_option maxRecDepth 100000 in
theorem c_X8_begin (l : Launch) (G : va_G) (cA : Nat → ClassId) (sz : Nat) (aa : Nat → Nat) (S : Tr) (L : Lo)  (S' : Tr) (L' : Lo) (h : f_X8_begin S L = some (S', L')) : Met l yX8_begin (.code yX8_begin cX8_begin 1 none :: T0) ({ frames := 1, cells := 0, slots := 0, locals := 22 } : Room) (tqP G cA [.ref (aa 0)] (wM cA aa S L) sz) (tqQv G cA (fun (_ : Unit) => True) (fun (_ : Unit) => wM cA aa S' L') (va_A (wM cA aa S L) sz)) 0 0 (va_A (wM cA aa S L) sz) := by
  refine Met.ofW (cc := cX8_begin) (maxL := 1) (ret := none) (by decide) rfl ?_
  intro p e s m args below meth c s₁ B hml hv
  obtain ⟨rfl, hsz, hP, hK, hD0, hN⟩ := hv
  have hx := B.exec
  have hb := B.bytes
  have hr := B.returns
  have hts := atoms_spec (ws := .code yX8_begin cX8_begin 1 none :: T0) B.pre
  have hT : ∀ w ∈ T0, w.before _ s = true := fun w h => hts w (List.mem_cons_of_mem _ h)
  have hown : s.vm.findClass RX8 = some m.cls := findClass_of_methodNamed B.named
  have hlocks := B.notSynchronized
  subst hsz
  have hD := hD0.self (sz := s.heap.size)
  generalize hAe : va_A (wM cA aa S L) s.heap.size = A at hD ⊢
  have hA : ∀ q : Nat, s.heap.size ≤ q → A q := fun q h => by rw [← hAe]; exact Or.inr h
  have hS : va_S A s.heap s.heap [] := va_S.rf
  have hl := lv_entry ([.ref (aa 0)]) (n := 1) (Nat.le_of_ble_eq_true rfl)
  rw [lg_entry_eq]
  generalize (lg_sl ([.ref (aa 0)]) ++ List.replicate (1 - (lg_sl ([.ref (aa 0)])).length) Slot.unset).toArray = ls at hl ⊢
  have hl : lv_has ls 1 [(0, .ref (aa 0))] := hl
  have F : tF p s m ([.ref (aa 0)] : List Value).toArray meth c G cA A RX8 cX8_begin 1 none := ⟨hx, hb, hr, hml, hT, hown, hlocks, hK, hN, hA⟩
  obtain ⟨H, hH⟩ : ∃ z, z = s.heap := ⟨_, rfl⟩
  rw [← hH] at hP
  have hS : va_S A s.heap H [] := by rw [hH]; exact hS
  suffices hgo : G_X8_begin p l e s m below meth c G cA A aa S' L' H [] (F0 m 0 ls []) by rw [hH] at hgo; exact hgo
  generalize ([] : List Loc) = locs at hS ⊢
  unfold f_X8_begin at h
  refine lv_aload_n hx hb dX8_begin_0 rfl (lv_at hl 0 rfl) ?_
  refine lv_iconst (v := 0) hx hb dX8_begin_1 (by decide) ?_
  obtain ⟨S_1, hc2, h⟩ := tx_bd h
  refine tw_cv tw_all hP hD hS hA (va_runV (As := [.int 0]) (rest := []) ⟨hx, hb, hml, hown, hT⟩ (c_X8_atFirst l G cA H.size aa S L (0 : Int32)  S_1 hc2) (cwV 1 hT (tq_gV kw_12_18 kw_12_19 kw_12_20 kw_1_5 kw_12_21) rfl rfl rfl (by decide +kernel) ⟨Nat.le_of_ble_eq_true rfl, Nat.le_of_ble_eq_true rfl⟩) ⟨(tw_pre tw_all hP hD hK hN).1, va_recv hK hP (ci := 8) (q0 := 0) rfl rfl, (tw_pre tw_all hP hD hK hN).2⟩ rfl rfl hl.1 rfl (lv_room (Nat.le_of_ble_eq_true rfl)) dX8_begin_2 ⟨Nat.le_of_ble_eq_true rfl, Nat.le_of_ble_eq_true rfl⟩) (fun _ H locs z3 hP hD hS => ?_)
  rw [List.append_nil] at hP hD
  have hP : va_P G vwCl (wM cA aa S_1 L) H := hP
  have hD : va_D A (wM cA aa S_1 L) := hD
  refine lv_aload_n hx hb dX8_begin_5 rfl (lv_at hl 0 rfl) ?_
  refine lv_aload_n hx hb dX8_begin_6 rfl (lv_at hl 0 rfl) ?_
  refine va_get (D := G) (ci := 8) (v := .ref (aa 23)) (C := RX8) (T := TX8) (N := 91) hx hb hT ku_8 hown hK hP 0 rfl rfl 22 (by decide) (hT _ kw_9_14) (fun _ h9 => h9) rfl dX8_begin_7 ?_
  refine lv_iconst (v := 2) hx hb dX8_begin_10 (by decide) ?_
  refine va_iald (i := 2) hx hb hK hP 4 0 rfl rfl (tq_in (by decide)) dX8_begin_11 ?_
  refine tq_i (w := (S_1 23 2)) rfl ?_
  refine lv_i2l hx hb dX8_begin_12 rfl ?_
  refine va_put (D := G) (ci := 8) (v := .long ((S_1 23 2).toInt64)) (ty := .long) (C := RX8) (T := TX8) (N := 91) hx hb hT ku_8 tyX8 tyX8_ok nmX8 hown hK hP hD hS 0 rfl rfl 63 (by decide) (hT _ kw_12_14) (fun _ h9 => h9) rfl (by decide +kernel) rfl rfl (Nat.le_of_ble_eq_true rfl) dX8_begin_13 (fun H locs hP hD hS => ?_)
  obtain ⟨L_4, eL_4, h⟩ := tx_lt h
  rw [sM_f63, eL_4] at hP hD
  refine lv_aload_n hx hb dX8_begin_16 rfl (lv_at hl 0 rfl) ?_
  obtain ⟨S_5, hc6, h⟩ := tx_bd h
  refine tw_cv tw_all hP hD hS hA (va_runV (As := []) (rest := []) ⟨hx, hb, hml, hown, hT⟩ (c_X8_plainTried l G cA H.size aa S_1 L_4  S_5 hc6) (cwV 0 hT (tq_gV kw_12_22 kw_12_23 kw_13_0 kw_1_5 kw_13_1) rfl rfl rfl (by decide +kernel) ⟨Nat.le_of_ble_eq_true rfl, Nat.le_of_ble_eq_true rfl⟩) ⟨(tw_pre tw_all hP hD hK hN).1, va_recv hK hP (ci := 8) (q0 := 0) rfl rfl, (tw_pre tw_all hP hD hK hN).2⟩ rfl rfl hl.1 rfl (lv_room (Nat.le_of_ble_eq_true rfl)) dX8_begin_17 ⟨Nat.le_of_ble_eq_true rfl, Nat.le_of_ble_eq_true rfl⟩) (fun _ H locs z7 hP hD hS => ?_)
  rw [List.append_nil] at hP hD
  have hP : va_P G vwCl (wM cA aa S_5 L_4) H := hP
  have hD : va_D A (wM cA aa S_5 L_4) := hD
  refine lv_aload_n hx hb dX8_begin_20 rfl (lv_at hl 0 rfl) ?_
  refine lv_iconst (v := 0) hx hb dX8_begin_21 (by decide) ?_
  refine va_put (D := G) (ci := 8) (v := .int 0) (ty := .int) (C := RX8) (T := TX8) (N := 91) hx hb hT ku_8 tyX8 tyX8_ok nmX8 hown hK hP hD hS 0 rfl rfl 78 (by decide) (hT _ kw_12_15) (fun _ h9 => h9) rfl (by decide +kernel) rfl rfl (Nat.le_of_ble_eq_true rfl) dX8_begin_22 (fun H locs hP hD hS => ?_)
  obtain ⟨S_8, eS_8, h⟩ := tx_lt h
  rw [sM_f78, eS_8] at hP hD
  refine lv_aload_n hx hb dX8_begin_25 rfl (lv_at hl 0 rfl) ?_
  refine lv_iconst (v := (-1)) hx hb dX8_begin_26 (by decide) ?_
  refine va_put (D := G) (ci := 8) (v := .int (-1)) (ty := .int) (C := RX8) (T := TX8) (N := 91) hx hb hT ku_8 tyX8 tyX8_ok nmX8 hown hK hP hD hS 0 rfl rfl 79 (by decide) (hT _ kw_11_6) (fun _ h9 => h9) rfl (by decide +kernel) rfl rfl (Nat.le_of_ble_eq_true rfl) dX8_begin_27 (fun H locs hP hD hS => ?_)
  obtain ⟨S_9, eS_9, h⟩ := tx_lt h
  rw [sM_f79, eS_9] at hP hD
  refine lv_aload_n hx hb dX8_begin_30 rfl (lv_at hl 0 rfl) ?_
  refine lv_iconst (v := 0) hx hb dX8_begin_31 (by decide) ?_
  refine va_put (D := G) (ci := 8) (v := .int 0) (ty := .int) (C := RX8) (T := TX8) (N := 91) hx hb hT ku_8 tyX8 tyX8_ok nmX8 hown hK hP hD hS 0 rfl rfl 82 (by decide) (hT _ kw_12_16) (fun _ h9 => h9) rfl (by decide +kernel) rfl rfl (Nat.le_of_ble_eq_true rfl) dX8_begin_32 (fun H locs hP hD hS => ?_)
  obtain ⟨S_10, eS_10, h⟩ := tx_lt h
  rw [sM_f82, eS_10] at hP hD
  refine lv_aload_n hx hb dX8_begin_35 rfl (lv_at hl 0 rfl) ?_
  refine lv_iconst (v := 0) hx hb dX8_begin_36 (by decide) ?_
  refine va_put (D := G) (ci := 8) (v := .int 0) (ty := .boolean) (C := RX8) (T := TX8) (N := 91) hx hb hT ku_8 tyX8 tyX8_ok nmX8 hown hK hP hD hS 0 rfl rfl 84 (by decide) (hT _ kw_12_17) (fun _ h9 => h9) rfl (by decide +kernel) rfl rfl (Nat.le_of_ble_eq_true rfl) dX8_begin_37 (fun H locs hP hD hS => ?_)
  obtain ⟨S_11, eS_11, h⟩ := tx_lt h
  rw [sM_f84, eS_11] at hP hD
  obtain ⟨rfl, rfl⟩ := tx_2 h
  exact W.vret hx hb hr (fun t ht hW => ⟨⟨(), rfl, trivial, by rw [ht]; exact hP, hD⟩, hS.F ht⟩) hS.2.2 dX8_begin_40
abbrev G_X8_bestRule (p : Program) (l : Launch) (e : Env) (s : State) (m : MethodId) (below : List Frame) (meth : Method) (c : Code) (G : va_G) (cA : Nat → ClassId) (A : Nat → Prop) (aa : Nat → Nat) (r0 : Int32) (S' : Tr) (L' : Lo) (H : Heap) (locs : List Loc) (g : JFrame) : Prop := W p l e (headSpec (.code yX8_bestRule cX8_bestRule 3 (some .int) :: T0) ({ frames := 10, cells := 0, slots := 0, locals := 232 } : Room)).room s m ([.ref (aa 0)] : List Value).toArray below meth c H locs 0 0 (MQ below (tqQi G cA (fun (r : Int32) (_ : Unit) => r = r0) (fun (_ : Unit) => wM cA aa S' L') A) ([.ref (aa 0)] : List Value).toArray s 0 0 A) g
set_option maxHeartbeats 4000000 in
set_option maxRecDepth 100000 in
theorem w_X8_bestRule_L9 {p : Program} {l : Launch} {e : Env} {s : State} {m : MethodId} {below : List Frame} {meth : Method} {c : Code} {G : va_G} {cA : Nat → ClassId} {A : Nat → Prop} {aa : Nat → Nat} {r0 : Int32} {S' : Tr} {L' : Lo} (F : tF p s m ([.ref (aa 0)] : List Value).toArray meth c G cA A RX8 cX8_bestRule 3 (some .int))    (N : Nat) : ∀ (x1 : Int32) (x2 : Int32) (S : Tr) (L : Lo) (H : Heap) (locs : List Loc) (ls : Array Slot), lpF (fun _ _ _ _ => none) (fB_X8_bestRule_L9 ) N x1 x2 S L = some (r0, S', L') → va_P G vwCl (wM cA aa S L) H → va_D A (wM cA aa S L) → va_S A s.heap H locs → lv_has ls 3 [(0, .ref (aa 0)), (1, .int x1), (2, .int x2)] → G_X8_bestRule p l e s m below meth c G cA A aa r0 S' L' H locs (F0 m 9 ls []) := by
  obtain ⟨hx, hb, hr, hml, hT, hown, hlocks, hK, hN, hA⟩ := id F
  induction N with
  | zero =>
    intro x1 x2 S L H locs ls h
    have h : (none : Option (Int32 × Tr × Lo)) = some (r0, S', L') := h
    cases h
  | succ N hk9 =>
    intro x1 x2 S L H locs ls h hP hD hS hl
    have h : fB_X8_bestRule_L9  (lpF (fun _ _ _ _ => none) (fB_X8_bestRule_L9 ) N) x1 x2 S L = some (r0, S', L') := h
    generalize hk9e : lpF (fun _ _ _ _ => none) (fB_X8_bestRule_L9 ) N = k9 at h hk9
    unfold fB_X8_bestRule_L9 at h
    refine lv_iload_n hx hb dX8_bestRule_9 rfl (lv_at hl 2 rfl) ?_
    refine lv_iconst (v := 3) hx hb dX8_bestRule_10 (by decide) ?_
    refine lv_icmp_ge (tgt := 39) hx hb dX8_bestRule_11 (by decide) (fun c2 => ?_) (fun c2 => ?_)
    · have h := tx_pos c2 h
      refine lv_iload_n hx hb dX8_bestRule_39 rfl (lv_at hl 1 rfl) ?_
      obtain ⟨rfl, rfl, rfl⟩ := tx_3 h
      exact W.iret hx hb hr (fun t ht hW => ⟨⟨_, (), rfl, rfl, by rw [ht]; exact hP, hD⟩, hS.F ht⟩) hS.2.2 dX8_bestRule_40
    · have h := tx_neg c2 h
      refine lv_aload_n hx hb dX8_bestRule_14 rfl (lv_at hl 0 rfl) ?_
      refine lv_iload_n hx hb dX8_bestRule_15 rfl (lv_at hl 2 rfl) ?_
      obtain ⟨⟨r3, S_4, L_5⟩, hc6, h⟩ := tx_bd h
      replace h := tx_let (y := r3) rfl h
      replace h := tx_let (y := S_4) rfl h
      replace h := tx_let (y := L_5) rfl h
      refine tw_ci tw_all hP hD hS hA (va_runV (As := [.int x2]) (rest := []) ⟨hx, hb, hml, hown, hT⟩ (c_X8_liftsBy l G cA H.size aa S L x2  r3 S_4 L_5 hc6) (cwV 1 hT (tq_gV kw_51_18 kw_51_19 kw_51_20 kw_1_5 kw_51_21) rfl rfl rfl (by decide +kernel) ⟨Nat.le_of_ble_eq_true rfl, Nat.le_of_ble_eq_true rfl⟩) ⟨(tw_pre tw_all hP hD hK hN).1, va_recv hK hP (ci := 8) (q0 := 0) rfl rfl, (tw_pre tw_all hP hD hK hN).2⟩ rfl rfl hl.1 rfl (lv_room (Nat.le_of_ble_eq_true rfl)) dX8_bestRule_16 ⟨Nat.le_of_ble_eq_true rfl, Nat.le_of_ble_eq_true rfl⟩) (fun _ _ H locs z7 hP hD hS => ?_)
      subst z7
      rw [List.append_nil] at hP hD
      have hP : va_P G vwCl (wM cA aa S_4 L_5) H := hP
      have hD : va_D A (wM cA aa S_4 L_5) := hD
      refine lv_aload_n hx hb dX8_bestRule_19 rfl (lv_at hl 0 rfl) ?_
      refine lv_iload_n hx hb dX8_bestRule_20 rfl (lv_at hl 1 rfl) ?_
      obtain ⟨⟨r8, S_9, L_10⟩, hc11, h⟩ := tx_bd h
      replace h := tx_let (y := r8) rfl h
      replace h := tx_let (y := S_9) rfl h
      replace h := tx_let (y := L_10) rfl h
      refine tw_ci tw_all hP hD hS hA (va_runV (As := [.int x1]) (rest := [.int r3]) ⟨hx, hb, hml, hown, hT⟩ (c_X8_liftsBy l G cA H.size aa S_4 L_5 x1  r8 S_9 L_10 hc11) (cwV 1 hT (tq_gV kw_51_18 kw_51_19 kw_51_20 kw_1_5 kw_51_21) rfl rfl rfl (by decide +kernel) ⟨Nat.le_of_ble_eq_true rfl, Nat.le_of_ble_eq_true rfl⟩) ⟨(tw_pre tw_all hP hD hK hN).1, va_recv hK hP (ci := 8) (q0 := 0) rfl rfl, (tw_pre tw_all hP hD hK hN).2⟩ rfl rfl hl.1 rfl (lv_room (Nat.le_of_ble_eq_true rfl)) dX8_bestRule_21 ⟨Nat.le_of_ble_eq_true rfl, Nat.le_of_ble_eq_true rfl⟩) (fun _ _ H locs z12 hP hD hS => ?_)
      subst z12
      rw [List.append_nil] at hP hD
      have hP : va_P G vwCl (wM cA aa S_9 L_10) H := hP
      have hD : va_D A (wM cA aa S_9 L_10) := hD
      refine lv_icmp_ge (tgt := 31) hx hb dX8_bestRule_24 (by decide) (fun c13 => ?_) (fun c13 => ?_)
      · have h := tx_pos c13 h
        refine lv_iload_n hx hb dX8_bestRule_31 rfl (lv_at hl 1 rfl) ?_
        refine lv_istore_n (lv' := [(1, .int x1), (0, .ref (aa 0)), (2, .int x2)]) hx hb dX8_bestRule_32 rfl hl (by decide) rfl (fun ls hl => ?_)
        obtain ⟨y14, ey14, h⟩ := tx_lt h
        refine lv_iinc (v := y14) (lv' := [(2, .int y14), (1, .int x1), (0, .ref (aa 0))]) hx hb dX8_bestRule_33 hl (k := 2) rfl ey14 (by decide) rfl (fun ls hl => ?_)
        refine lv_goto (tgt := 9) hx hb dX8_bestRule_36 (by decide) ?_
        exact hk9 x1 y14 S_9 L_10 H locs ls h hP hD hS (lv_sub hl [2, 1, 0] rfl)
      · have h := tx_neg c13 h
        refine lv_iload_n hx hb dX8_bestRule_27 rfl (lv_at hl 2 rfl) ?_
        refine lv_goto (tgt := 32) hx hb dX8_bestRule_28 (by decide) ?_
        refine lv_istore_n (lv' := [(1, .int x2), (0, .ref (aa 0)), (2, .int x2)]) hx hb dX8_bestRule_32 rfl hl (by decide) rfl (fun ls hl => ?_)
        obtain ⟨y15, ey15, h⟩ := tx_lt h
        refine lv_iinc (v := y15) (lv' := [(2, .int y15), (1, .int x2), (0, .ref (aa 0))]) hx hb dX8_bestRule_33 hl (k := 2) rfl ey15 (by decide) rfl (fun ls hl => ?_)
        refine lv_goto (tgt := 9) hx hb dX8_bestRule_36 (by decide) ?_
        exact hk9 x2 y15 S_9 L_10 H locs ls h hP hD hS (lv_sub hl [2, 1, 0] rfl)
set_option maxHeartbeats 4000000 in
set_option maxRecDepth 100000 in
theorem c_X8_bestRule (l : Launch) (G : va_G) (cA : Nat → ClassId) (sz : Nat) (aa : Nat → Nat) (S : Tr) (L : Lo)  (r0 : Int32) (S' : Tr) (L' : Lo) (h : f_X8_bestRule S L = some (r0, S', L')) : Met l yX8_bestRule (.code yX8_bestRule cX8_bestRule 3 (some .int) :: T0) ({ frames := 10, cells := 0, slots := 0, locals := 232 } : Room) (tqP G cA [.ref (aa 0)] (wM cA aa S L) sz) (tqQi G cA (fun (r : Int32) (_ : Unit) => r = r0) (fun (_ : Unit) => wM cA aa S' L') (va_A (wM cA aa S L) sz)) 0 0 (va_A (wM cA aa S L) sz) := by
  refine Met.ofW (cc := cX8_bestRule) (maxL := 3) (ret := (some .int)) (by decide) rfl ?_
  intro p e s m args below meth c s₁ B hml hv
  obtain ⟨rfl, hsz, hP, hK, hD0, hN⟩ := hv
  have hx := B.exec
  have hb := B.bytes
  have hr := B.returns
  have hts := atoms_spec (ws := .code yX8_bestRule cX8_bestRule 3 (some .int) :: T0) B.pre
  have hT : ∀ w ∈ T0, w.before _ s = true := fun w h => hts w (List.mem_cons_of_mem _ h)
  have hown : s.vm.findClass RX8 = some m.cls := findClass_of_methodNamed B.named
  have hlocks := B.notSynchronized
  subst hsz
  have hD := hD0.self (sz := s.heap.size)
  generalize hAe : va_A (wM cA aa S L) s.heap.size = A at hD ⊢
  have hA : ∀ q : Nat, s.heap.size ≤ q → A q := fun q h => by rw [← hAe]; exact Or.inr h
  have hS : va_S A s.heap s.heap [] := va_S.rf
  have hl := lv_entry ([.ref (aa 0)]) (n := 3) (Nat.le_of_ble_eq_true rfl)
  rw [lg_entry_eq]
  generalize (lg_sl ([.ref (aa 0)]) ++ List.replicate (3 - (lg_sl ([.ref (aa 0)])).length) Slot.unset).toArray = ls at hl ⊢
  have hl : lv_has ls 3 [(0, .ref (aa 0))] := hl
  have F : tF p s m ([.ref (aa 0)] : List Value).toArray meth c G cA A RX8 cX8_bestRule 3 (some .int) := ⟨hx, hb, hr, hml, hT, hown, hlocks, hK, hN, hA⟩
  obtain ⟨H, hH⟩ : ∃ z, z = s.heap := ⟨_, rfl⟩
  rw [← hH] at hP
  have hS : va_S A s.heap H [] := by rw [hH]; exact hS
  suffices hgo : G_X8_bestRule p l e s m below meth c G cA A aa r0 S' L' H [] (F0 m 0 ls []) by rw [hH] at hgo; exact hgo
  generalize ([] : List Loc) = locs at hS ⊢
  unfold f_X8_bestRule at h
  refine lv_aload_n hx hb dX8_bestRule_0 rfl (lv_at hl 0 rfl) ?_
  refine lv_iconst (v := 0) hx hb dX8_bestRule_1 (by decide) ?_
  refine va_put (D := G) (ci := 8) (v := .int 0) (ty := .int) (C := RX8) (T := TX8) (N := 91) hx hb hT ku_8 tyX8 tyX8_ok nmX8 hown hK hP hD hS 0 rfl rfl 2 (by decide) (hT _ kw_14_0) (fun _ h9 => h9) rfl (by decide +kernel) rfl rfl (Nat.le_of_ble_eq_true rfl) dX8_bestRule_2 (fun H locs hP hD hS => ?_)
  obtain ⟨S_1, eS_1, h⟩ := tx_lt h
  rw [sM_f2, eS_1] at hP hD
  refine lv_iconst (v := 0) hx hb dX8_bestRule_5 (by decide) ?_
  refine lv_istore_n (lv' := [(1, .int 0), (0, .ref (aa 0))]) hx hb dX8_bestRule_6 rfl hl (by decide) rfl (fun ls hl => ?_)
  refine lv_iconst (v := 1) hx hb dX8_bestRule_7 (by decide) ?_
  refine lv_istore_n (lv' := [(2, .int 1), (1, .int 0), (0, .ref (aa 0))]) hx hb dX8_bestRule_8 rfl hl (by decide) rfl (fun ls hl => ?_)
  exact w_X8_bestRule_L9 F 2000 0 1 S_1 L H locs ls h hP hD hS (lv_sub hl [2, 1, 0] rfl)
abbrev G_X8_rank (p : Program) (l : Launch) (e : Env) (s : State) (m : MethodId) (below : List Frame) (meth : Method) (c : Code) (G : va_G) (cA : Nat → ClassId) (A : Nat → Prop) (x0 : Int32) (r0 : Int32) (H : Heap) (locs : List Loc) (g : JFrame) : Prop := W p l e (headSpec (.code yX8_rank cX8_rank 1 (some .int) :: T0) ({ frames := 0, cells := 0, slots := 0, locals := 0 } : Room)).room s m ([.int x0] : List Value).toArray below meth c H locs 0 0 (MQ below (tqQi G cA (fun (r : Int32) (_ : Unit) => r = r0) (fun (_ : Unit) => ([] : va_W)) A) ([.int x0] : List Value).toArray s 0 0 A) g
set_option maxHeartbeats 4000000 in
set_option maxRecDepth 100000 in
theorem c_X8_rank (l : Launch) (G : va_G) (cA : Nat → ClassId) (sz : Nat) (x0 : Int32)  (r0 : Int32) (h : f_X8_rank x0 = some r0) : Met l yX8_rank (.code yX8_rank cX8_rank 1 (some .int) :: T0) ({ frames := 0, cells := 0, slots := 0, locals := 0 } : Room) (tqP G cA [.int x0] (([] : va_W)) sz) (tqQi G cA (fun (r : Int32) (_ : Unit) => r = r0) (fun (_ : Unit) => ([] : va_W)) (va_A (([] : va_W)) sz)) 0 0 (va_A (([] : va_W)) sz) := by
  refine Met.ofW (cc := cX8_rank) (maxL := 1) (ret := (some .int)) (by decide) rfl ?_
  intro p e s m args below meth c s₁ B hml hv
  obtain ⟨rfl, hsz, hP, hK, hD0, hN⟩ := hv
  have hx := B.exec
  have hb := B.bytes
  have hr := B.returns
  have hts := atoms_spec (ws := .code yX8_rank cX8_rank 1 (some .int) :: T0) B.pre
  have hT : ∀ w ∈ T0, w.before _ s = true := fun w h => hts w (List.mem_cons_of_mem _ h)
  have hown : s.vm.findClass RX8 = some m.cls := findClass_of_methodNamed B.named
  have hlocks := B.notSynchronized
  subst hsz
  have hD := hD0.self (sz := s.heap.size)
  generalize hAe : va_A (([] : va_W)) s.heap.size = A at hD ⊢
  have hA : ∀ q : Nat, s.heap.size ≤ q → A q := fun q h => by rw [← hAe]; exact Or.inr h
  have hS : va_S A s.heap s.heap [] := va_S.rf
  have hl := lv_entry ([.int x0]) (n := 1) (Nat.le_of_ble_eq_true rfl)
  rw [lg_entry_eq]
  generalize (lg_sl ([.int x0]) ++ List.replicate (1 - (lg_sl ([.int x0])).length) Slot.unset).toArray = ls at hl ⊢
  have hl : lv_has ls 1 [(0, .int x0)] := hl
  have F : tF p s m ([.int x0] : List Value).toArray meth c G cA A RX8 cX8_rank 1 (some .int) := ⟨hx, hb, hr, hml, hT, hown, hlocks, hK, hN, hA⟩
  obtain ⟨H, hH⟩ : ∃ z, z = s.heap := ⟨_, rfl⟩
  rw [← hH] at hP
  have hS : va_S A s.heap H [] := by rw [hH]; exact hS
  suffices hgo : G_X8_rank p l e s m below meth c G cA A x0 r0 H [] (F0 m 0 ls []) by rw [hH] at hgo; exact hgo
  generalize ([] : List Loc) = locs at hS ⊢
  unfold f_X8_rank at h
  refine lv_iload_n hx hb dX8_rank_0 rfl (lv_at hl 0 rfl) ?_
  refine lv_bipush (v := 13) hx hb dX8_rank_1 (by decide) ?_
  refine lv_icmp_lt (tgt := 11) hx hb dX8_rank_3 (by decide) (fun c1 => ?_) (fun c1 => ?_)
  · have h := tx_pos c1 h
    refine lv_iload_n hx hb dX8_rank_11 rfl (lv_at hl 0 rfl) ?_
    refine lv_bipush (v := 11) hx hb dX8_rank_12 (by decide) ?_
    refine lv_icmp_lt (tgt := 21) hx hb dX8_rank_14 (by decide) (fun c2 => ?_) (fun c2 => ?_)
    · have h := tx_pos c2 h
      refine lv_iload_n hx hb dX8_rank_21 rfl (lv_at hl 0 rfl) ?_
      refine lv_iconst (v := 5) hx hb dX8_rank_22 (by decide) ?_
      refine lv_icmp_lt (tgt := 30) hx hb dX8_rank_23 (by decide) (fun c3 => ?_) (fun c3 => ?_)
      · have h := tx_pos c3 h
        refine lv_iload_n hx hb dX8_rank_30 rfl (lv_at hl 0 rfl) ?_
        refine lv_iconst (v := 2) hx hb dX8_rank_31 (by decide) ?_
        refine lv_icmp_ne (tgt := 39) hx hb dX8_rank_32 (by decide) (fun c4 => ?_) (fun c4 => ?_)
        · have h := tx_neg c4 h
          refine lv_iload_n hx hb dX8_rank_39 rfl (lv_at hl 0 rfl) ?_
          refine lv_iconst (v := 3) hx hb dX8_rank_40 (by decide) ?_
          refine lv_icmp_ne (tgt := 48) hx hb dX8_rank_41 (by decide) (fun c5 => ?_) (fun c5 => ?_)
          · have h := tx_neg c5 h
            refine lv_iload_n hx hb dX8_rank_48 rfl (lv_at hl 0 rfl) ?_
            refine lv_iconst (v := 4) hx hb dX8_rank_49 (by decide) ?_
            refine lv_icmp_ne (tgt := 57) hx hb dX8_rank_50 (by decide) (fun c6 => ?_) (fun c6 => ?_)
            · have h := tx_neg c6 h
              refine lv_iconst (v := 0) hx hb dX8_rank_57 (by decide) ?_
              obtain rfl := tx_1 h
              exact W.iret hx hb hr (fun t ht hW => ⟨⟨_, (), rfl, rfl, by rw [ht]; exact hP, hD⟩, hS.F ht⟩) hS.2.2 dX8_rank_58
            · have h := tx_pos c6 h
              refine lv_iconst (v := 1) hx hb dX8_rank_53 (by decide) ?_
              refine lv_goto (tgt := 58) hx hb dX8_rank_54 (by decide) ?_
              obtain rfl := tx_1 h
              exact W.iret hx hb hr (fun t ht hW => ⟨⟨_, (), rfl, rfl, by rw [ht]; exact hP, hD⟩, hS.F ht⟩) hS.2.2 dX8_rank_58
          · have h := tx_pos c5 h
            refine lv_iconst (v := 2) hx hb dX8_rank_44 (by decide) ?_
            refine lv_goto (tgt := 58) hx hb dX8_rank_45 (by decide) ?_
            obtain rfl := tx_1 h
            exact W.iret hx hb hr (fun t ht hW => ⟨⟨_, (), rfl, rfl, by rw [ht]; exact hP, hD⟩, hS.F ht⟩) hS.2.2 dX8_rank_58
        · have h := tx_pos c4 h
          refine lv_iconst (v := 3) hx hb dX8_rank_35 (by decide) ?_
          refine lv_goto (tgt := 58) hx hb dX8_rank_36 (by decide) ?_
          obtain rfl := tx_1 h
          exact W.iret hx hb hr (fun t ht hW => ⟨⟨_, (), rfl, rfl, by rw [ht]; exact hP, hD⟩, hS.F ht⟩) hS.2.2 dX8_rank_58
      · have h := tx_neg c3 h
        refine lv_iconst (v := 4) hx hb dX8_rank_26 (by decide) ?_
        refine lv_goto (tgt := 58) hx hb dX8_rank_27 (by decide) ?_
        obtain rfl := tx_1 h
        exact W.iret hx hb hr (fun t ht hW => ⟨⟨_, (), rfl, rfl, by rw [ht]; exact hP, hD⟩, hS.F ht⟩) hS.2.2 dX8_rank_58
    · have h := tx_neg c2 h
      refine lv_iconst (v := 5) hx hb dX8_rank_17 (by decide) ?_
      refine lv_goto (tgt := 58) hx hb dX8_rank_18 (by decide) ?_
      obtain rfl := tx_1 h
      exact W.iret hx hb hr (fun t ht hW => ⟨⟨_, (), rfl, rfl, by rw [ht]; exact hP, hD⟩, hS.F ht⟩) hS.2.2 dX8_rank_58
  · have h := tx_neg c1 h
    refine lv_bipush (v := 6) hx hb dX8_rank_6 (by decide) ?_
    refine lv_goto (tgt := 58) hx hb dX8_rank_8 (by decide) ?_
    obtain rfl := tx_1 h
    exact W.iret hx hb hr (fun t ht hW => ⟨⟨_, (), rfl, rfl, by rw [ht]; exact hP, hD⟩, hS.F ht⟩) hS.2.2 dX8_rank_58
abbrev G_X8_dropHeld (p : Program) (l : Launch) (e : Env) (s : State) (m : MethodId) (below : List Frame) (meth : Method) (c : Code) (G : va_G) (cA : Nat → ClassId) (A : Nat → Prop) (aa : Nat → Nat) (L : Lo) (r0 : Int32) (S' : Tr) (H : Heap) (locs : List Loc) (g : JFrame) : Prop := W p l e (headSpec (.code yX8_dropHeld cX8_dropHeld 1 (some .int) :: T0) ({ frames := 0, cells := 0, slots := 0, locals := 0 } : Room)).room s m ([.ref (aa 0)] : List Value).toArray below meth c H locs 0 0 (MQ below (tqQi G cA (fun (r : Int32) (_ : Unit) => r = r0) (fun (_ : Unit) => wM cA aa S' L) A) ([.ref (aa 0)] : List Value).toArray s 0 0 A) g
set_option maxHeartbeats 4000000 in
set_option maxRecDepth 100000 in
theorem c_X8_dropHeld (l : Launch) (G : va_G) (cA : Nat → ClassId) (sz : Nat) (aa : Nat → Nat) (S : Tr) (L : Lo)  (r0 : Int32) (S' : Tr) (h : f_X8_dropHeld S = some (r0, S')) : Met l yX8_dropHeld (.code yX8_dropHeld cX8_dropHeld 1 (some .int) :: T0) ({ frames := 0, cells := 0, slots := 0, locals := 0 } : Room) (tqP G cA [.ref (aa 0)] (wM cA aa S L) sz) (tqQi G cA (fun (r : Int32) (_ : Unit) => r = r0) (fun (_ : Unit) => wM cA aa S' L) (va_A (wM cA aa S L) sz)) 0 0 (va_A (wM cA aa S L) sz) := by
  refine Met.ofW (cc := cX8_dropHeld) (maxL := 1) (ret := (some .int)) (by decide) rfl ?_
  intro p e s m args below meth c s₁ B hml hv
  obtain ⟨rfl, hsz, hP, hK, hD0, hN⟩ := hv
  have hx := B.exec
  have hb := B.bytes
  have hr := B.returns
  have hts := atoms_spec (ws := .code yX8_dropHeld cX8_dropHeld 1 (some .int) :: T0) B.pre
  have hT : ∀ w ∈ T0, w.before _ s = true := fun w h => hts w (List.mem_cons_of_mem _ h)
  have hown : s.vm.findClass RX8 = some m.cls := findClass_of_methodNamed B.named
  have hlocks := B.notSynchronized
  subst hsz
  have hD := hD0.self (sz := s.heap.size)
  generalize hAe : va_A (wM cA aa S L) s.heap.size = A at hD ⊢
  have hA : ∀ q : Nat, s.heap.size ≤ q → A q := fun q h => by rw [← hAe]; exact Or.inr h
  have hS : va_S A s.heap s.heap [] := va_S.rf
  have hl := lv_entry ([.ref (aa 0)]) (n := 1) (Nat.le_of_ble_eq_true rfl)
  rw [lg_entry_eq]
  generalize (lg_sl ([.ref (aa 0)]) ++ List.replicate (1 - (lg_sl ([.ref (aa 0)])).length) Slot.unset).toArray = ls at hl ⊢
  have hl : lv_has ls 1 [(0, .ref (aa 0))] := hl
  have F : tF p s m ([.ref (aa 0)] : List Value).toArray meth c G cA A RX8 cX8_dropHeld 1 (some .int) := ⟨hx, hb, hr, hml, hT, hown, hlocks, hK, hN, hA⟩
  obtain ⟨H, hH⟩ : ∃ z, z = s.heap := ⟨_, rfl⟩
  rw [← hH] at hP
  have hS : va_S A s.heap H [] := by rw [hH]; exact hS
  suffices hgo : G_X8_dropHeld p l e s m below meth c G cA A aa L r0 S' H [] (F0 m 0 ls []) by rw [hH] at hgo; exact hgo
  generalize ([] : List Loc) = locs at hS ⊢
  unfold f_X8_dropHeld at h
  refine lv_aload_n hx hb dX8_dropHeld_0 rfl (lv_at hl 0 rfl) ?_
  refine lv_dup hx hb dX8_dropHeld_1 rfl ?_
  refine va_get (D := G) (ci := 8) (v := .int (S 0 44)) (C := RX8) (T := TX8) (N := 91) hx hb hT ku_8 hown hK hP 0 rfl rfl 44 (by decide) (hT _ kw_25_14) (fun _ h9 => h9) rfl dX8_dropHeld_2 ?_
  refine lv_iconst (v := 1) hx hb dX8_dropHeld_5 (by decide) ?_
  refine lv_isub hx hb dX8_dropHeld_6 ?_
  refine va_put (D := G) (ci := 8) (v := .int ((S 0 44) - 1)) (ty := .int) (C := RX8) (T := TX8) (N := 91) hx hb hT ku_8 tyX8 tyX8_ok nmX8 hown hK hP hD hS 0 rfl rfl 44 (by decide) (hT _ kw_25_14) (fun _ h9 => h9) rfl (by decide +kernel) rfl rfl (Nat.le_of_ble_eq_true rfl) dX8_dropHeld_7 (fun H locs hP hD hS => ?_)
  obtain ⟨S_1, eS_1, h⟩ := tx_lt h
  rw [sM_f44, eS_1] at hP hD
  refine lv_aload_n hx hb dX8_dropHeld_10 rfl (lv_at hl 0 rfl) ?_
  refine va_get (D := G) (ci := 8) (v := .ref (aa 43)) (C := RX8) (T := TX8) (N := 91) hx hb hT ku_8 hown hK hP 0 rfl rfl 42 (by decide) (hT _ kw_10_10) (fun _ h9 => h9) rfl dX8_dropHeld_11 ?_
  refine lv_aload_n hx hb dX8_dropHeld_14 rfl (lv_at hl 0 rfl) ?_
  refine va_get (D := G) (ci := 8) (v := .int (S_1 0 44)) (C := RX8) (T := TX8) (N := 91) hx hb hT ku_8 hown hK hP 0 rfl rfl 44 (by decide) (hT _ kw_25_14) (fun _ h9 => h9) rfl dX8_dropHeld_15 ?_
  obtain ⟨g2, h⟩ := tx_ck h
  refine va_iald (i := (S_1 0 44)) hx hb hK hP 24 0 rfl rfl (tx_in g2) dX8_dropHeld_18 ?_
  obtain ⟨rfl, rfl⟩ := tx_2 h
  exact W.iret hx hb hr (fun t ht hW => ⟨⟨_, (), rfl, rfl, by rw [ht]; exact hP, hD⟩, hS.F ht⟩) hS.2.2 dX8_dropHeld_19
abbrev G_X8_grown (p : Program) (l : Launch) (e : Env) (s : State) (m : MethodId) (below : List Frame) (meth : Method) (c : Code) (G : va_G) (cA : Nat → ClassId) (A : Nat → Prop) (aa : Nat → Nat) (L : Lo) (x1 : Int32) (x2 : Int32) (x3 : Int32) (S' : Tr) (H : Heap) (locs : List Loc) (g : JFrame) : Prop := W p l e (headSpec (.code yX8_grown cX8_grown 4 none :: T0) ({ frames := 0, cells := 0, slots := 0, locals := 0 } : Room)).room s m ([.ref (aa 0), .int x1, .int x2, .int x3] : List Value).toArray below meth c H locs 0 0 (MQ below (tqQv G cA (fun (_ : Unit) => True) (fun (_ : Unit) => wM cA aa S' L) A) ([.ref (aa 0), .int x1, .int x2, .int x3] : List Value).toArray s 0 0 A) g
set_option maxHeartbeats 4000000 in
set_option maxRecDepth 100000 in
theorem c_X8_grown (l : Launch) (G : va_G) (cA : Nat → ClassId) (sz : Nat) (aa : Nat → Nat) (S : Tr) (L : Lo) (x1 : Int32) (x2 : Int32) (x3 : Int32)  (S' : Tr) (h : f_X8_grown S x1 x2 x3 = some S') : Met l yX8_grown (.code yX8_grown cX8_grown 4 none :: T0) ({ frames := 0, cells := 0, slots := 0, locals := 0 } : Room) (tqP G cA [.ref (aa 0), .int x1, .int x2, .int x3] (wM cA aa S L) sz) (tqQv G cA (fun (_ : Unit) => True) (fun (_ : Unit) => wM cA aa S' L) (va_A (wM cA aa S L) sz)) 0 0 (va_A (wM cA aa S L) sz) := by
  refine Met.ofW (cc := cX8_grown) (maxL := 4) (ret := none) (by decide) rfl ?_
  intro p e s m args below meth c s₁ B hml hv
  obtain ⟨rfl, hsz, hP, hK, hD0, hN⟩ := hv
  have hx := B.exec
  have hb := B.bytes
  have hr := B.returns
  have hts := atoms_spec (ws := .code yX8_grown cX8_grown 4 none :: T0) B.pre
  have hT : ∀ w ∈ T0, w.before _ s = true := fun w h => hts w (List.mem_cons_of_mem _ h)
  have hown : s.vm.findClass RX8 = some m.cls := findClass_of_methodNamed B.named
  have hlocks := B.notSynchronized
  subst hsz
  have hD := hD0.self (sz := s.heap.size)
  generalize hAe : va_A (wM cA aa S L) s.heap.size = A at hD ⊢
  have hA : ∀ q : Nat, s.heap.size ≤ q → A q := fun q h => by rw [← hAe]; exact Or.inr h
  have hS : va_S A s.heap s.heap [] := va_S.rf
  have hl := lv_entry ([.ref (aa 0), .int x1, .int x2, .int x3]) (n := 4) (Nat.le_of_ble_eq_true rfl)
  rw [lg_entry_eq]
  generalize (lg_sl ([.ref (aa 0), .int x1, .int x2, .int x3]) ++ List.replicate (4 - (lg_sl ([.ref (aa 0), .int x1, .int x2, .int x3])).length) Slot.unset).toArray = ls at hl ⊢
  have hl : lv_has ls 4 [(0, .ref (aa 0)), (1, .int x1), (2, .int x2), (3, .int x3)] := hl
  have F : tF p s m ([.ref (aa 0), .int x1, .int x2, .int x3] : List Value).toArray meth c G cA A RX8 cX8_grown 4 none := ⟨hx, hb, hr, hml, hT, hown, hlocks, hK, hN, hA⟩
  obtain ⟨H, hH⟩ : ∃ z, z = s.heap := ⟨_, rfl⟩
  rw [← hH] at hP
  have hS : va_S A s.heap H [] := by rw [hH]; exact hS
  suffices hgo : G_X8_grown p l e s m below meth c G cA A aa L x1 x2 x3 S' H [] (F0 m 0 ls []) by rw [hH] at hgo; exact hgo
  generalize ([] : List Loc) = locs at hS ⊢
  unfold f_X8_grown at h
  refine lv_aload_n hx hb dX8_grown_0 rfl (lv_at hl 0 rfl) ?_
  refine va_get (D := G) (ci := 8) (v := .ref (aa 39)) (C := RX8) (T := TX8) (N := 91) hx hb hT ku_8 hown hK hP 0 rfl rfl 38 (by decide) (hT _ kw_10_6) (fun _ h9 => h9) rfl dX8_grown_1 ?_
  refine lv_bipush (v := 64) hx hb dX8_grown_4 (by decide) ?_
  refine lv_aload_n hx hb dX8_grown_6 rfl (lv_at hl 0 rfl) ?_
  refine va_get (D := G) (ci := 8) (v := .int (S 0 19)) (C := RX8) (T := TX8) (N := 91) hx hb hT ku_8 hown hK hP 0 rfl rfl 19 (by decide) (hT _ kw_11_20) (fun _ h9 => h9) rfl dX8_grown_7 ?_
  refine lv_iadd hx hb dX8_grown_10 ?_
  refine lv_iload_n hx hb dX8_grown_11 rfl (lv_at hl 1 rfl) ?_
  obtain ⟨g1, h⟩ := tx_ck h
  refine va_iast (i := ((64 : Int32) + (S 0 19))) hx hb hK hP hD hS 20 0 rfl rfl (tx_in g1) dX8_grown_12 (fun H locs hP hD hS => ?_)
  obtain ⟨S_2, eS_2, h⟩ := tx_lt h
  rw [sM_a38, eS_2] at hP hD
  refine lv_aload_n hx hb dX8_grown_13 rfl (lv_at hl 0 rfl) ?_
  refine va_get (D := G) (ci := 8) (v := .ref (aa 40)) (C := RX8) (T := TX8) (N := 91) hx hb hT ku_8 hown hK hP 0 rfl rfl 39 (by decide) (hT _ kw_10_7) (fun _ h9 => h9) rfl dX8_grown_14 ?_
  refine lv_bipush (v := 64) hx hb dX8_grown_17 (by decide) ?_
  refine lv_aload_n hx hb dX8_grown_19 rfl (lv_at hl 0 rfl) ?_
  refine va_get (D := G) (ci := 8) (v := .int (S_2 0 19)) (C := RX8) (T := TX8) (N := 91) hx hb hT ku_8 hown hK hP 0 rfl rfl 19 (by decide) (hT _ kw_11_20) (fun _ h9 => h9) rfl dX8_grown_20 ?_
  refine lv_iadd hx hb dX8_grown_23 ?_
  refine lv_iload_n hx hb dX8_grown_24 rfl (lv_at hl 2 rfl) ?_
  obtain ⟨g3, h⟩ := tx_ck h
  refine va_iast (i := ((64 : Int32) + (S_2 0 19))) hx hb hK hP hD hS 21 0 rfl rfl (tx_in g3) dX8_grown_25 (fun H locs hP hD hS => ?_)
  obtain ⟨S_4, eS_4, h⟩ := tx_lt h
  rw [sM_a39, eS_4] at hP hD
  refine lv_aload_n hx hb dX8_grown_26 rfl (lv_at hl 0 rfl) ?_
  refine va_get (D := G) (ci := 8) (v := .ref (aa 41)) (C := RX8) (T := TX8) (N := 91) hx hb hT ku_8 hown hK hP 0 rfl rfl 40 (by decide) (hT _ kw_10_8) (fun _ h9 => h9) rfl dX8_grown_27 ?_
  refine lv_bipush (v := 64) hx hb dX8_grown_30 (by decide) ?_
  refine lv_aload_n hx hb dX8_grown_32 rfl (lv_at hl 0 rfl) ?_
  refine va_get (D := G) (ci := 8) (v := .int (S_4 0 19)) (C := RX8) (T := TX8) (N := 91) hx hb hT ku_8 hown hK hP 0 rfl rfl 19 (by decide) (hT _ kw_11_20) (fun _ h9 => h9) rfl dX8_grown_33 ?_
  refine lv_iadd hx hb dX8_grown_36 ?_
  refine lv_iload_n hx hb dX8_grown_37 rfl (lv_at hl 3 rfl) ?_
  obtain ⟨g5, h⟩ := tx_ck h
  refine va_iast (i := ((64 : Int32) + (S_4 0 19))) hx hb hK hP hD hS 22 0 rfl rfl (tx_in g5) dX8_grown_38 (fun H locs hP hD hS => ?_)
  obtain ⟨S_6, eS_6, h⟩ := tx_lt h
  rw [sM_a40, eS_6] at hP hD
  refine lv_aload_n hx hb dX8_grown_39 rfl (lv_at hl 0 rfl) ?_
  refine va_get (D := G) (ci := 8) (v := .ref (aa 43)) (C := RX8) (T := TX8) (N := 91) hx hb hT ku_8 hown hK hP 0 rfl rfl 42 (by decide) (hT _ kw_10_10) (fun _ h9 => h9) rfl dX8_grown_40 ?_
  refine lv_aload_n hx hb dX8_grown_43 rfl (lv_at hl 0 rfl) ?_
  refine va_get (D := G) (ci := 8) (v := .int (S_6 0 44)) (C := RX8) (T := TX8) (N := 91) hx hb hT ku_8 hown hK hP 0 rfl rfl 44 (by decide) (hT _ kw_25_14) (fun _ h9 => h9) rfl dX8_grown_44 ?_
  refine lv_aload_n hx hb dX8_grown_47 rfl (lv_at hl 0 rfl) ?_
  refine va_get (D := G) (ci := 8) (v := .int (S_6 0 19)) (C := RX8) (T := TX8) (N := 91) hx hb hT ku_8 hown hK hP 0 rfl rfl 19 (by decide) (hT _ kw_11_20) (fun _ h9 => h9) rfl dX8_grown_48 ?_
  obtain ⟨g7, h⟩ := tx_ck h
  refine va_iast (i := (S_6 0 44)) hx hb hK hP hD hS 24 0 rfl rfl (tx_in g7) dX8_grown_51 (fun H locs hP hD hS => ?_)
  obtain ⟨S_8, eS_8, h⟩ := tx_lt h
  rw [sM_a42, eS_8] at hP hD
  refine lv_aload_n hx hb dX8_grown_52 rfl (lv_at hl 0 rfl) ?_
  refine lv_dup hx hb dX8_grown_53 rfl ?_
  refine va_get (D := G) (ci := 8) (v := .int (S_8 0 44)) (C := RX8) (T := TX8) (N := 91) hx hb hT ku_8 hown hK hP 0 rfl rfl 44 (by decide) (hT _ kw_25_14) (fun _ h9 => h9) rfl dX8_grown_54 ?_
  refine lv_iconst (v := 1) hx hb dX8_grown_57 (by decide) ?_
  refine lv_iadd hx hb dX8_grown_58 ?_
  refine va_put (D := G) (ci := 8) (v := .int ((S_8 0 44) + 1)) (ty := .int) (C := RX8) (T := TX8) (N := 91) hx hb hT ku_8 tyX8 tyX8_ok nmX8 hown hK hP hD hS 0 rfl rfl 44 (by decide) (hT _ kw_25_14) (fun _ h9 => h9) rfl (by decide +kernel) rfl rfl (Nat.le_of_ble_eq_true rfl) dX8_grown_59 (fun H locs hP hD hS => ?_)
  obtain ⟨S_9, eS_9, h⟩ := tx_lt h
  rw [sM_f44, eS_9] at hP hD
  refine lv_aload_n hx hb dX8_grown_62 rfl (lv_at hl 0 rfl) ?_
  refine lv_dup hx hb dX8_grown_63 rfl ?_
  refine va_get (D := G) (ci := 8) (v := .int (S_9 0 19)) (C := RX8) (T := TX8) (N := 91) hx hb hT ku_8 hown hK hP 0 rfl rfl 19 (by decide) (hT _ kw_11_20) (fun _ h9 => h9) rfl dX8_grown_64 ?_
  refine lv_iconst (v := 1) hx hb dX8_grown_67 (by decide) ?_
  refine lv_iadd hx hb dX8_grown_68 ?_
  refine va_put (D := G) (ci := 8) (v := .int ((S_9 0 19) + 1)) (ty := .int) (C := RX8) (T := TX8) (N := 91) hx hb hT ku_8 tyX8 tyX8_ok nmX8 hown hK hP hD hS 0 rfl rfl 19 (by decide) (hT _ kw_11_20) (fun _ h9 => h9) rfl (by decide +kernel) rfl rfl (Nat.le_of_ble_eq_true rfl) dX8_grown_69 (fun H locs hP hD hS => ?_)
  obtain ⟨S_10, eS_10, h⟩ := tx_lt h
  rw [sM_f19, eS_10] at hP hD
  obtain rfl := tx_1 h
  exact W.vret hx hb hr (fun t ht hW => ⟨⟨(), rfl, trivial, by rw [ht]; exact hP, hD⟩, hS.F ht⟩) hS.2.2 dX8_grown_72
abbrev G_X8_bind (p : Program) (l : Launch) (e : Env) (s : State) (m : MethodId) (below : List Frame) (meth : Method) (c : Code) (G : va_G) (cA : Nat → ClassId) (A : Nat → Prop) (aa : Nat → Nat) (L : Lo) (x1 : Int32) (S' : Tr) (H : Heap) (locs : List Loc) (g : JFrame) : Prop := W p l e (headSpec (.code yX8_bind cX8_bind 5 none :: T0) ({ frames := 1, cells := 0, slots := 0, locals := 23 } : Room)).room s m ([.ref (aa 0), .int x1] : List Value).toArray below meth c H locs 0 0 (MQ below (tqQv G cA (fun (_ : Unit) => True) (fun (_ : Unit) => wM cA aa S' L) A) ([.ref (aa 0), .int x1] : List Value).toArray s 0 0 A) g
set_option maxHeartbeats 4000000 in
set_option maxRecDepth 100000 in
theorem w_X8_bind_J58 {p : Program} {l : Launch} {e : Env} {s : State} {m : MethodId} {below : List Frame} {meth : Method} {c : Code} {G : va_G} {cA : Nat → ClassId} {A : Nat → Prop} {aa : Nat → Nat} {L : Lo} {x1₀ : Int32} {S' : Tr} {x1 : Int32} (F : tF p s m ([.ref (aa 0), .int x1₀] : List Value).toArray meth c G cA A RX8 cX8_bind 5 none)  (k0 : Tr → Option (Tr)) (hk0 : ∀ (S : Tr) (H : Heap) (locs : List Loc) (ls : Array Slot), k0 S = some S' → va_P G vwCl (wM cA aa S L) H → va_D A (wM cA aa S L) → va_S A s.heap H locs → lv_has ls 5 [(0, .ref (aa 0)), (1, .int x1)] → G_X8_bind p l e s m below meth c G cA A aa L x1₀ S' H locs (F0 m 0 ls [])) (x2 : Int32) (s0 : Int32) (S : Tr) (H : Heap) (locs : List Loc) (ls : Array Slot) (h : fJ_X8_bind_J58 k0 x1 x2 s0 S = some S') (hP : va_P G vwCl (wM cA aa S_19 L) H) (hD : va_D A (wM cA aa S_19 L)) (hS : va_S A s.heap H locs) (hl : lv_has ls 5 [(4, .int r15), (3, .int s0), (0, .ref (aa 0)), (1, .int x1), (2, .int x2)]) : G_X8_bind p l e s m below meth c G cA A aa L x1₀ S' H locs (F0 m 58 ls []) := by
  obtain ⟨hx, hb, hr, hml, hT, hown, hlocks, hK, hN, hA⟩ := id F
  unfold fJ_X8_bind_J58 at h
  refine lv_istore_n (lv' := [(3, .int s0), (0, .ref (aa 0)), (1, .int x1), (2, .int x2)]) hx hb dX8_bind_58 rfl hl (by decide) rfl (fun ls hl => ?_)
  refine lv_aload_n hx hb dX8_bind_59 rfl (lv_at hl 1 rfl) ?_
  obtain ⟨⟨r15, S_16⟩, hc17, h⟩ := tx_bd h
  replace h := tx_let (y := r15) rfl h
  replace h := tx_let (y := S_16) rfl h
  refine tw_ci tw_all hP hD hS hA (va_runV (As := []) (rest := []) ⟨hx, hb, hml, hown, hT⟩ (c_X8_dropHeld l G cA H.size aa S L  r15 S_16 hc17) (cwV 0 hT (tq_gV kw_27_9 kw_27_10 kw_27_11 kw_1_5 kw_27_12) rfl rfl rfl (by decide +kernel) ⟨Nat.le_of_ble_eq_true rfl, Nat.le_of_ble_eq_true rfl⟩) ⟨(tw_pre tw_all hP hD hK hN).1, va_recv hK hP (ci := 8) (q0 := 0) rfl rfl, (tw_pre tw_all hP hD hK hN).2⟩ rfl rfl hl.1 rfl (lv_room (Nat.le_of_ble_eq_true rfl)) dX8_bind_60 ⟨Nat.le_of_ble_eq_true rfl, Nat.le_of_ble_eq_true rfl⟩) (fun _ _ H locs z18 hP hD hS => ?_)
  subst z18
  rw [List.append_nil] at hP hD
  have hP : va_P G vwCl (wM cA aa S_16 L) H := hP
  have hD : va_D A (wM cA aa S_16 L) := hD
  refine lv_istore (lv' := [(4, .int r15), (3, .int s0), (0, .ref (aa 0)), (1, .int x1), (2, .int x2)]) hx hb dX8_bind_63 hl (by decide) rfl (fun ls hl => ?_)
  refine lv_aload_n hx hb dX8_bind_65 rfl (lv_at hl 2 rfl) ?_
  refine lv_iload_n hx hb dX8_bind_66 rfl (lv_at hl 4 rfl) ?_
  refine lv_iload hx hb dX8_bind_67 (lv_at hl 0 rfl) ?_
  refine lv_iload_n hx hb dX8_bind_69 rfl (lv_at hl 1 rfl) ?_
  obtain ⟨S_19, hc20, h⟩ := tx_bd h
  refine tw_cv tw_all hP hD hS hA (va_runV (As := [.int x2, .int r15, .int s0]) (rest := []) ⟨hx, hb, hml, hown, hT⟩ (c_X8_grown l G cA H.size aa S_16 L x2 r15 s0  S_19 hc20) (cwV 3 hT (tq_gV kw_26_18 kw_26_19 kw_26_20 kw_1_5 kw_26_21) rfl rfl rfl (by decide +kernel) ⟨Nat.le_of_ble_eq_true rfl, Nat.le_of_ble_eq_true rfl⟩) ⟨(tw_pre tw_all hP hD hK hN).1, va_recv hK hP (ci := 8) (q0 := 0) rfl rfl, (tw_pre tw_all hP hD hK hN).2⟩ rfl rfl hl.1 rfl (lv_room (Nat.le_of_ble_eq_true rfl)) dX8_bind_70 ⟨Nat.le_of_ble_eq_true rfl, Nat.le_of_ble_eq_true rfl⟩) (fun _ H locs z21 hP hD hS => ?_)
  rw [List.append_nil] at hP hD
  have hP : va_P G vwCl (wM cA aa S_19 L) H := hP
  have hD : va_D A (wM cA aa S_19 L) := hD
  refine lv_goto (tgt := 0) hx hb dX8_bind_73 (by decide) ?_
  exact hk0 S_19 H locs ls h hP hD hS (lv_sub hl [2, 3] rfl)
set_option maxHeartbeats 4000000 in
set_option maxRecDepth 100000 in
theorem w_X8_bind_L0 {p : Program} {l : Launch} {e : Env} {s : State} {m : MethodId} {below : List Frame} {meth : Method} {c : Code} {G : va_G} {cA : Nat → ClassId} {A : Nat → Prop} {aa : Nat → Nat} {L : Lo} {x1₀ : Int32} {S' : Tr} {x1 : Int32} (F : tF p s m ([.ref (aa 0), .int x1₀] : List Value).toArray meth c G cA A RX8 cX8_bind 5 none)    (N : Nat) : ∀ (S : Tr) (H : Heap) (locs : List Loc) (ls : Array Slot), lpF (fun _ => none) (fB_X8_bind_L0 x1) N S = some S' → va_P G vwCl (wM cA aa S L) H → va_D A (wM cA aa S L) → va_S A s.heap H locs → lv_has ls 5 [(0, .ref (aa 0)), (1, .int x1)] → G_X8_bind p l e s m below meth c G cA A aa L x1₀ S' H locs (F0 m 0 ls []) := by
  obtain ⟨hx, hb, hr, hml, hT, hown, hlocks, hK, hN, hA⟩ := id F
  induction N with
  | zero =>
    intro S H locs ls h
    have h : (none : Option (Tr)) = some S' := h
    cases h
  | succ N hk0 =>
    intro S H locs ls h hP hD hS hl
    have h : fB_X8_bind_L0 x1 (lpF (fun _ => none) (fB_X8_bind_L0 x1) N) S = some S' := h
    generalize hk0e : lpF (fun _ => none) (fB_X8_bind_L0 x1) N = k0 at h hk0
    unfold fB_X8_bind_L0 at h
    refine lv_aload_n hx hb dX8_bind_0 rfl (lv_at hl 0 rfl) ?_
    refine va_get (D := G) (ci := 8) (v := .int (S 0 43)) (C := RX8) (T := TX8) (N := 91) hx hb hT ku_8 hown hK hP 0 rfl rfl 43 (by decide) (hT _ kw_25_13) (fun _ h9 => h9) rfl dX8_bind_1 ?_
    refine lv_if_le (tgt := 76) hx hb dX8_bind_4 (by decide) (fun c1 => ?_) (fun c1 => ?_)
    · have h := tx_pos c1 h
      obtain rfl := tx_1 h
      exact W.vret hx hb hr (fun t ht hW => ⟨⟨(), rfl, trivial, by rw [ht]; exact hP, hD⟩, hS.F ht⟩) hS.2.2 dX8_bind_76
    · have h := tx_neg c1 h
      refine lv_aload_n hx hb dX8_bind_7 rfl (lv_at hl 0 rfl) ?_
      refine va_get (D := G) (ci := 8) (v := .ref (aa 42)) (C := RX8) (T := TX8) (N := 91) hx hb hT ku_8 hown hK hP 0 rfl rfl 41 (by decide) (hT _ kw_10_9) (fun _ h9 => h9) rfl dX8_bind_8 ?_
      refine lv_aload_n hx hb dX8_bind_11 rfl (lv_at hl 0 rfl) ?_
      refine va_get (D := G) (ci := 8) (v := .int (S 0 43)) (C := RX8) (T := TX8) (N := 91) hx hb hT ku_8 hown hK hP 0 rfl rfl 43 (by decide) (hT _ kw_25_13) (fun _ h9 => h9) rfl dX8_bind_12 ?_
      refine lv_iconst (v := 1) hx hb dX8_bind_15 (by decide) ?_
      refine lv_isub hx hb dX8_bind_16 ?_
      obtain ⟨g2, h⟩ := tx_ck h
      refine va_iald (i := ((S 0 43) - 1)) hx hb hK hP 23 0 rfl rfl (tx_in g2) dX8_bind_17 ?_
      obtain ⟨r3, hc4, h⟩ := tx_bd h
      refine tw_ci (tw_none (ws := wM cA aa S L)) hP hD hS hA (va_runS (As := [.int (S 42 ((S 0 43) - 1).toNatClampNeg)]) (rest := []) ⟨hx, hb, hml, hown, hT⟩ (c_X8_rank l G cA H.size (S 42 ((S 0 43) - 1).toNatClampNeg)  r3 hc4) (va_cwS 1 hT (tq_gS kw_27_6 kw_27_7 kw_1_5 kw_27_8) rfl rfl rfl (by decide +kernel) ⟨Nat.le_of_ble_eq_true rfl, Nat.le_of_ble_eq_true rfl⟩) (tw_pre (tw_none (ws := wM cA aa S L)) hP hD hK hN) rfl rfl hl.1 rfl (lv_room (Nat.le_of_ble_eq_true rfl)) dX8_bind_18 ⟨Nat.le_of_ble_eq_true rfl, Nat.le_of_ble_eq_true rfl⟩) (fun _ _ H locs z5 hP hD hS => ?_)
      subst z5
      have hP : va_P G vwCl (wM cA aa S L) H := hP
      have hD : va_D A (wM cA aa S L) := hD
      refine lv_iload_n hx hb dX8_bind_21 rfl (lv_at hl 1 rfl) ?_
      refine lv_icmp_lt (tgt := 76) hx hb dX8_bind_22 (by decide) (fun c6 => ?_) (fun c6 => ?_)
      · have h := tx_pos c6 h
        obtain rfl := tx_1 h
        exact W.vret hx hb hr (fun t ht hW => ⟨⟨(), rfl, trivial, by rw [ht]; exact hP, hD⟩, hS.F ht⟩) hS.2.2 dX8_bind_76
      · have h := tx_neg c6 h
        refine lv_aload_n hx hb dX8_bind_25 rfl (lv_at hl 0 rfl) ?_
        refine lv_dup hx hb dX8_bind_26 rfl ?_
        refine va_get (D := G) (ci := 8) (v := .int (S 0 43)) (C := RX8) (T := TX8) (N := 91) hx hb hT ku_8 hown hK hP 0 rfl rfl 43 (by decide) (hT _ kw_25_13) (fun _ h9 => h9) rfl dX8_bind_27 ?_
        refine lv_iconst (v := 1) hx hb dX8_bind_30 (by decide) ?_
        refine lv_isub hx hb dX8_bind_31 ?_
        refine va_put (D := G) (ci := 8) (v := .int ((S 0 43) - 1)) (ty := .int) (C := RX8) (T := TX8) (N := 91) hx hb hT ku_8 tyX8 tyX8_ok nmX8 hown hK hP hD hS 0 rfl rfl 43 (by decide) (hT _ kw_25_13) (fun _ h9 => h9) rfl (by decide +kernel) rfl rfl (Nat.le_of_ble_eq_true rfl) dX8_bind_32 (fun H locs hP hD hS => ?_)
        obtain ⟨S_7, eS_7, h⟩ := tx_lt h
        rw [sM_f43, eS_7] at hP hD
        refine lv_aload_n hx hb dX8_bind_35 rfl (lv_at hl 0 rfl) ?_
        refine va_get (D := G) (ci := 8) (v := .ref (aa 42)) (C := RX8) (T := TX8) (N := 91) hx hb hT ku_8 hown hK hP 0 rfl rfl 41 (by decide) (hT _ kw_10_9) (fun _ h9 => h9) rfl dX8_bind_36 ?_
        refine lv_aload_n hx hb dX8_bind_39 rfl (lv_at hl 0 rfl) ?_
        refine va_get (D := G) (ci := 8) (v := .int (S_7 0 43)) (C := RX8) (T := TX8) (N := 91) hx hb hT ku_8 hown hK hP 0 rfl rfl 43 (by decide) (hT _ kw_25_13) (fun _ h9 => h9) rfl dX8_bind_40 ?_
        obtain ⟨g8, h⟩ := tx_ck h
        refine va_iald (i := (S_7 0 43)) hx hb hK hP 23 0 rfl rfl (tx_in g8) dX8_bind_43 ?_
        refine lv_topi (fun y9 ey9 => ?_)
        have h := tx_let ey9 h
        refine lv_istore_n (lv' := [(2, .int y9), (0, .ref (aa 0)), (1, .int x1)]) hx hb dX8_bind_44 rfl hl (by decide) rfl (fun ls hl => ?_)
        refine lv_iload_n hx hb dX8_bind_45 rfl (lv_at hl 0 rfl) ?_
        refine lv_iconst (v := 2) hx hb dX8_bind_46 (by decide) ?_
        refine lv_icmp_ne (tgt := 54) hx hb dX8_bind_47 (by decide) (fun c10 => ?_) (fun c10 => ?_)
        · have h := tx_neg c10 h
          refine lv_aload_n hx hb dX8_bind_54 rfl (lv_at hl 1 rfl) ?_
          obtain ⟨⟨r11, S_12⟩, hc13, h⟩ := tx_bd h
          replace h := tx_let (y := r11) rfl h
          replace h := tx_let (y := S_12) rfl h
          refine tw_ci tw_all hP hD hS hA (va_runV (As := []) (rest := []) ⟨hx, hb, hml, hown, hT⟩ (c_X8_dropHeld l G cA H.size aa S_7 L  r11 S_12 hc13) (cwV 0 hT (tq_gV kw_27_9 kw_27_10 kw_27_11 kw_1_5 kw_27_12) rfl rfl rfl (by decide +kernel) ⟨Nat.le_of_ble_eq_true rfl, Nat.le_of_ble_eq_true rfl⟩) ⟨(tw_pre tw_all hP hD hK hN).1, va_recv hK hP (ci := 8) (q0 := 0) rfl rfl, (tw_pre tw_all hP hD hK hN).2⟩ rfl rfl hl.1 rfl (lv_room (Nat.le_of_ble_eq_true rfl)) dX8_bind_55 ⟨Nat.le_of_ble_eq_true rfl, Nat.le_of_ble_eq_true rfl⟩) (fun _ _ H locs z14 hP hD hS => ?_)
          subst z14
          rw [List.append_nil] at hP hD
          have hP : va_P G vwCl (wM cA aa S_12 L) H := hP
          have hD : va_D A (wM cA aa S_12 L) := hD
          exact w_X8_bind_J58 F k0 hk0 y9 r11 S_12 H locs ls h hP hD hS (lv_sub hl [1, 2, 0] rfl)
        · have h := tx_pos c10 h
          refine lv_iconst (v := (-1)) hx hb dX8_bind_50 (by decide) ?_
          refine lv_goto (tgt := 58) hx hb dX8_bind_51 (by decide) ?_
          exact w_X8_bind_J58 F k0 hk0 y9 (-1) S_7 H locs ls h hP hD hS (lv_sub hl [1, 2, 0] rfl)
set_option maxHeartbeats 4000000 in
set_option maxRecDepth 100000 in
theorem c_X8_bind (l : Launch) (G : va_G) (cA : Nat → ClassId) (sz : Nat) (aa : Nat → Nat) (S : Tr) (L : Lo) (x1 : Int32)  (S' : Tr) (h : f_X8_bind S x1 = some S') : Met l yX8_bind (.code yX8_bind cX8_bind 5 none :: T0) ({ frames := 1, cells := 0, slots := 0, locals := 23 } : Room) (tqP G cA [.ref (aa 0), .int x1] (wM cA aa S L) sz) (tqQv G cA (fun (_ : Unit) => True) (fun (_ : Unit) => wM cA aa S' L) (va_A (wM cA aa S L) sz)) 0 0 (va_A (wM cA aa S L) sz) := by
  refine Met.ofW (cc := cX8_bind) (maxL := 5) (ret := none) (by decide) rfl ?_
  intro p e s m args below meth c s₁ B hml hv
  obtain ⟨rfl, hsz, hP, hK, hD0, hN⟩ := hv
  have hx := B.exec
  have hb := B.bytes
  have hr := B.returns
  have hts := atoms_spec (ws := .code yX8_bind cX8_bind 5 none :: T0) B.pre
  have hT : ∀ w ∈ T0, w.before _ s = true := fun w h => hts w (List.mem_cons_of_mem _ h)
  have hown : s.vm.findClass RX8 = some m.cls := findClass_of_methodNamed B.named
  have hlocks := B.notSynchronized
  subst hsz
  have hD := hD0.self (sz := s.heap.size)
  generalize hAe : va_A (wM cA aa S L) s.heap.size = A at hD ⊢
  have hA : ∀ q : Nat, s.heap.size ≤ q → A q := fun q h => by rw [← hAe]; exact Or.inr h
  have hS : va_S A s.heap s.heap [] := va_S.rf
  have hl := lv_entry ([.ref (aa 0), .int x1]) (n := 5) (Nat.le_of_ble_eq_true rfl)
  rw [lg_entry_eq]
  generalize (lg_sl ([.ref (aa 0), .int x1]) ++ List.replicate (5 - (lg_sl ([.ref (aa 0), .int x1])).length) Slot.unset).toArray = ls at hl ⊢
  have hl : lv_has ls 5 [(0, .ref (aa 0)), (1, .int x1)] := hl
  have F : tF p s m ([.ref (aa 0), .int x1] : List Value).toArray meth c G cA A RX8 cX8_bind 5 none := ⟨hx, hb, hr, hml, hT, hown, hlocks, hK, hN, hA⟩
  obtain ⟨H, hH⟩ : ∃ z, z = s.heap := ⟨_, rfl⟩
  rw [← hH] at hP
  have hS : va_S A s.heap H [] := by rw [hH]; exact hS
  suffices hgo : G_X8_bind p l e s m below meth c G cA A aa L x1 S' H [] (F0 m 0 ls []) by rw [hH] at hgo; exact hgo
  generalize ([] : List Loc) = locs at hS ⊢
  unfold f_X8_bind at h
  exact w_X8_bind_L0 F 2000 S H locs ls h hP hD hS (lv_sub hl [0, 1] rfl)
abbrev G_X8_isIn (p : Program) (l : Launch) (e : Env) (s : State) (m : MethodId) (below : List Frame) (meth : Method) (c : Code) (G : va_G) (cA : Nat → ClassId) (A : Nat → Prop) (x0 : Int32) (x1 : Int32) (x2 : Int32) (r0 : Int32) (H : Heap) (locs : List Loc) (g : JFrame) : Prop := W p l e (headSpec (.code yX8_isIn cX8_isIn 3 (some .boolean) :: T0) ({ frames := 0, cells := 0, slots := 0, locals := 0 } : Room)).room s m ([.int x0, .int x1, .int x2] : List Value).toArray below meth c H locs 0 0 (MQ below (tqQi G cA (fun (r : Int32) (_ : Unit) => r = r0) (fun (_ : Unit) => ([] : va_W)) A) ([.int x0, .int x1, .int x2] : List Value).toArray s 0 0 A) g
set_option maxHeartbeats 4000000 in
set_option maxRecDepth 100000 in
theorem c_X8_isIn (l : Launch) (G : va_G) (cA : Nat → ClassId) (sz : Nat) (x0 : Int32) (x1 : Int32) (x2 : Int32)  (r0 : Int32) (h : f_X8_isIn x0 x1 x2 = some r0) : Met l yX8_isIn (.code yX8_isIn cX8_isIn 3 (some .boolean) :: T0) ({ frames := 0, cells := 0, slots := 0, locals := 0 } : Room) (tqP G cA [.int x0, .int x1, .int x2] (([] : va_W)) sz) (tqQi G cA (fun (r : Int32) (_ : Unit) => r = r0) (fun (_ : Unit) => ([] : va_W)) (va_A (([] : va_W)) sz)) 0 0 (va_A (([] : va_W)) sz) := by
  refine Met.ofW (cc := cX8_isIn) (maxL := 3) (ret := (some .boolean)) (by decide) rfl ?_
  intro p e s m args below meth c s₁ B hml hv
  obtain ⟨rfl, hsz, hP, hK, hD0, hN⟩ := hv
  have hx := B.exec
  have hb := B.bytes
  have hr := B.returns
  have hts := atoms_spec (ws := .code yX8_isIn cX8_isIn 3 (some .boolean) :: T0) B.pre
  have hT : ∀ w ∈ T0, w.before _ s = true := fun w h => hts w (List.mem_cons_of_mem _ h)
  have hown : s.vm.findClass RX8 = some m.cls := findClass_of_methodNamed B.named
  have hlocks := B.notSynchronized
  subst hsz
  have hD := hD0.self (sz := s.heap.size)
  generalize hAe : va_A (([] : va_W)) s.heap.size = A at hD ⊢
  have hA : ∀ q : Nat, s.heap.size ≤ q → A q := fun q h => by rw [← hAe]; exact Or.inr h
  have hS : va_S A s.heap s.heap [] := va_S.rf
  have hl := lv_entry ([.int x0, .int x1, .int x2]) (n := 3) (Nat.le_of_ble_eq_true rfl)
  rw [lg_entry_eq]
  generalize (lg_sl ([.int x0, .int x1, .int x2]) ++ List.replicate (3 - (lg_sl ([.int x0, .int x1, .int x2])).length) Slot.unset).toArray = ls at hl ⊢
  have hl : lv_has ls 3 [(0, .int x0), (1, .int x1), (2, .int x2)] := hl
  have F : tF p s m ([.int x0, .int x1, .int x2] : List Value).toArray meth c G cA A RX8 cX8_isIn 3 (some .boolean) := ⟨hx, hb, hr, hml, hT, hown, hlocks, hK, hN, hA⟩
  obtain ⟨H, hH⟩ : ∃ z, z = s.heap := ⟨_, rfl⟩
  rw [← hH] at hP
  have hS : va_S A s.heap H [] := by rw [hH]; exact hS
  suffices hgo : G_X8_isIn p l e s m below meth c G cA A x0 x1 x2 r0 H [] (F0 m 0 ls []) by rw [hH] at hgo; exact hgo
  generalize ([] : List Loc) = locs at hS ⊢
  unfold f_X8_isIn at h
  refine lv_iload_n hx hb dX8_isIn_0 rfl (lv_at hl 0 rfl) ?_
  refine lv_iload_n hx hb dX8_isIn_1 rfl (lv_at hl 1 rfl) ?_
  refine lv_icmp_lt (tgt := 14) hx hb dX8_isIn_2 (by decide) (fun c1 => ?_) (fun c1 => ?_)
  · have h := tx_pos c1 h
    refine lv_iconst (v := 0) hx hb dX8_isIn_14 (by decide) ?_
    obtain rfl := tx_1 h
    exact W.zret (ty := .boolean) hx hb hr rfl (fun t ht hW => ⟨⟨_, (), rfl, rfl, by rw [ht]; exact hP, hD⟩, hS.F ht⟩) hS.2.2 dX8_isIn_15
  · have h := tx_neg c1 h
    refine lv_iload_n hx hb dX8_isIn_5 rfl (lv_at hl 0 rfl) ?_
    refine lv_iload_n hx hb dX8_isIn_6 rfl (lv_at hl 2 rfl) ?_
    refine lv_icmp_gt (tgt := 14) hx hb dX8_isIn_7 (by decide) (fun c2 => ?_) (fun c2 => ?_)
    · have h := tx_pos c2 h
      refine lv_iconst (v := 0) hx hb dX8_isIn_14 (by decide) ?_
      obtain rfl := tx_1 h
      exact W.zret (ty := .boolean) hx hb hr rfl (fun t ht hW => ⟨⟨_, (), rfl, rfl, by rw [ht]; exact hP, hD⟩, hS.F ht⟩) hS.2.2 dX8_isIn_15
    · have h := tx_neg c2 h
      refine lv_iconst (v := 1) hx hb dX8_isIn_10 (by decide) ?_
      refine lv_goto (tgt := 15) hx hb dX8_isIn_11 (by decide) ?_
      obtain rfl := tx_1 h
      exact W.zret (ty := .boolean) hx hb hr rfl (fun t ht hW => ⟨⟨_, (), rfl, rfl, by rw [ht]; exact hP, hD⟩, hS.F ht⟩) hS.2.2 dX8_isIn_15
