abbrev G_X8_missed (p : Program) (l : Launch) (e : Env) (s : State) (m : MethodId) (below : List Frame) (meth : Method) (c : Code) (G : va_G) (cA : Nat → ClassId) (A : Nat → Prop) (aa : Nat → Nat) (x1 : Int32) (r0 : Int32) (S' : Tr) (L' : Lo) (H : Heap) (locs : List Loc) (g : JFrame) : Prop := W p l e (headSpec (.code yX8_missed cX8_missed 4 (some .int) :: T0) ({ frames := 8, cells := 0, slots := 0, locals := 191 } : Room)).room s m ([.ref (aa 0), .int x1] : List Value).toArray below meth c H locs 0 0 (MQ below (tqQi G cA (fun (r : Int32) (_ : Unit) => r = r0) (fun (_ : Unit) => wM cA aa S' L') A) ([.ref (aa 0), .int x1] : List Value).toArray s 0 0 A) g
set_option maxHeartbeats 4000000 in
set_option maxRecDepth 100000 in
theorem w_X8_missed_J163 {p : Program} {l : Launch} {e : Env} {s : State} {m : MethodId} {below : List Frame} {meth : Method} {c : Code} {G : va_G} {cA : Nat → ClassId} {A : Nat → Prop} {aa : Nat → Nat} {x1₀ : Int32} {r0 : Int32} {S' : Tr} {L' : Lo} (F : tF p s m ([.ref (aa 0), .int x1₀] : List Value).toArray meth c G cA A RX8 cX8_missed 4 (some .int))    (x3 : Int32) (S : Tr) (L : Lo) (H : Heap) (locs : List Loc) (ls : Array Slot) (h : fJ_X8_missed_J163 x3 S L = some (r0, S', L')) (hP : va_P G vwCl (wM cA aa S_23 L_20) H) (hD : va_D A (wM cA aa S_23 L_20)) (hS : va_S A s.heap H locs) (hl : lv_has ls 4 [(0, .ref (aa 0)), (3, .int x3)]) : G_X8_missed p l e s m below meth c G cA A aa x1₀ r0 S' L' H locs (F0 m 163 ls []) := by
  obtain ⟨hx, hb, hr, hml, hT, hown, hlocks, hK, hN, hA⟩ := id F
  unfold fJ_X8_missed_J163 at h
  refine lv_aload_n hx hb dX8_missed_163 rfl (lv_at hl 0 rfl) ?_
  refine lv_iconst (v := 1) hx hb dX8_missed_164 (by decide) ?_
  refine va_put (D := G) (ci := 8) (v := .int 1) (ty := .boolean) (C := RX8) (T := TX8) (N := 91) hx hb hT ku_8 tyX8 tyX8_ok nmX8 hown hK hP hD hS 0 rfl rfl 70 (by decide) (hT _ kw_13_8) (fun _ h9 => h9) rfl (by decide +kernel) rfl rfl (Nat.le_of_ble_eq_true rfl) dX8_missed_165 (fun H locs hP hD hS => ?_)
  obtain ⟨S_18, eS_18, h⟩ := tx_lt h
  rw [sM_f70, eS_18] at hP hD
  refine lv_aload_n hx hb dX8_missed_168 rfl (lv_at hl 0 rfl) ?_
  refine lv_iconst (v := 1) hx hb dX8_missed_169 (by decide) ?_
  obtain ⟨⟨S_19, L_20⟩, hc21, h⟩ := tx_bd h
  replace h := tx_let (y := S_19) rfl h
  replace h := tx_let (y := L_20) rfl h
  refine tw_cv tw_all hP hD hS hA (va_runV (As := [.int 1]) (rest := []) ⟨hx, hb, hml, hown, hT⟩ (c_X8_outs l G cA H.size aa S_18 L (1 : Int32)  S_19 L_20 hc21) (cwV 1 hT (tq_gV kw_43_18 kw_43_19 kw_43_20 kw_1_5 kw_43_21) rfl rfl rfl (by decide +kernel) ⟨Nat.le_of_ble_eq_true rfl, Nat.le_of_ble_eq_true rfl⟩) ⟨(tw_pre tw_all hP hD hK hN).1, va_recv hK hP (ci := 8) (q0 := 0) rfl rfl, (tw_pre tw_all hP hD hK hN).2⟩ rfl rfl hl.1 rfl (lv_room (Nat.le_of_ble_eq_true rfl)) dX8_missed_170 ⟨Nat.le_of_ble_eq_true rfl, Nat.le_of_ble_eq_true rfl⟩) (fun _ H locs z22 hP hD hS => ?_)
  rw [List.append_nil] at hP hD
  have hP : va_P G vwCl (wM cA aa S_19 L_20) H := hP
  have hD : va_D A (wM cA aa S_19 L_20) := hD
  refine lv_aload_n hx hb dX8_missed_173 rfl (lv_at hl 0 rfl) ?_
  refine lv_iconst (v := 0) hx hb dX8_missed_174 (by decide) ?_
  refine va_put (D := G) (ci := 8) (v := .int 0) (ty := .boolean) (C := RX8) (T := TX8) (N := 91) hx hb hT ku_8 tyX8 tyX8_ok nmX8 hown hK hP hD hS 0 rfl rfl 70 (by decide) (hT _ kw_13_8) (fun _ h9 => h9) rfl (by decide +kernel) rfl rfl (Nat.le_of_ble_eq_true rfl) dX8_missed_175 (fun H locs hP hD hS => ?_)
  obtain ⟨S_23, eS_23, h⟩ := tx_lt h
  rw [sM_f70, eS_23] at hP hD
  refine lv_aload_n hx hb dX8_missed_178 rfl (lv_at hl 0 rfl) ?_
  refine va_get (D := G) (ci := 8) (v := .int (S_23 0 72)) (C := RX8) (T := TX8) (N := 91) hx hb hT ku_8 hown hK hP 0 rfl rfl 72 (by decide) (hT _ kw_43_22) (fun _ h9 => h9) rfl dX8_missed_179 ?_
  refine lv_aload_n hx hb dX8_missed_182 rfl (lv_at hl 0 rfl) ?_
  refine va_get (D := G) (ci := 8) (v := .ref (aa 34)) (C := RX8) (T := TX8) (N := 91) hx hb hT ku_8 hown hK hP 0 rfl rfl 33 (by decide) (hT _ kw_10_1) (fun _ h9 => h9) rfl dX8_missed_183 ?_
  refine lv_iload_n hx hb dX8_missed_186 rfl (lv_at hl 1 rfl) ?_
  obtain ⟨g24, h⟩ := tx_ck h
  refine va_iald (i := x3) hx hb hK hP 15 0 rfl rfl (tx_in g24) dX8_missed_187 ?_
  refine lv_isub hx hb dX8_missed_188 ?_
  obtain ⟨rfl, rfl, rfl⟩ := tx_3 h
  exact W.iret hx hb hr (fun t ht hW => ⟨⟨_, (), rfl, rfl, by rw [ht]; exact hP, hD⟩, hS.F ht⟩) hS.2.2 dX8_missed_189
set_option maxHeartbeats 4000000 in
set_option maxRecDepth 100000 in
theorem w_X8_missed_L145 {p : Program} {l : Launch} {e : Env} {s : State} {m : MethodId} {below : List Frame} {meth : Method} {c : Code} {G : va_G} {cA : Nat → ClassId} {A : Nat → Prop} {aa : Nat → Nat} {x1₀ : Int32} {r0 : Int32} {S' : Tr} {L' : Lo} {x3 : Int32} (F : tF p s m ([.ref (aa 0), .int x1₀] : List Value).toArray meth c G cA A RX8 cX8_missed 4 (some .int))    (N : Nat) : ∀ (S : Tr) (L : Lo) (H : Heap) (locs : List Loc) (ls : Array Slot), lpF (fun _ _ => none) (fB_X8_missed_L145 x3) N S L = some (r0, S', L') → va_P G vwCl (wM cA aa S L) H → va_D A (wM cA aa S L) → va_S A s.heap H locs → lv_has ls 4 [(0, .ref (aa 0)), (3, .int x3)] → G_X8_missed p l e s m below meth c G cA A aa x1₀ r0 S' L' H locs (F0 m 145 ls []) := by
  obtain ⟨hx, hb, hr, hml, hT, hown, hlocks, hK, hN, hA⟩ := id F
  induction N with
  | zero =>
    intro S L H locs ls h
    have h : (none : Option (Int32 × Tr × Lo)) = some (r0, S', L') := h
    cases h
  | succ N hk145 =>
    intro S L H locs ls h hP hD hS hl
    have h : fB_X8_missed_L145 x3 (lpF (fun _ _ => none) (fB_X8_missed_L145 x3) N) S L = some (r0, S', L') := h
    generalize hk145e : lpF (fun _ _ => none) (fB_X8_missed_L145 x3) N = k145 at h hk145
    unfold fB_X8_missed_L145 at h
    refine lv_aload_n hx hb dX8_missed_145 rfl (lv_at hl 0 rfl) ?_
    refine va_get (D := G) (ci := 8) (v := .ref (aa 62)) (C := RX8) (T := TX8) (N := 91) hx hb hT ku_8 hown hK hP 0 rfl rfl 61 (by decide) (hT _ kw_10_22) (fun _ h9 => h9) rfl dX8_missed_146 ?_
    refine lv_iconst (v := 1) hx hb dX8_missed_149 (by decide) ?_
    refine va_iald (i := 1) hx hb hK hP 36 0 rfl rfl (tq_in (by decide)) dX8_missed_150 ?_
    refine tq_i (w := (S 62 1)) rfl ?_
    refine lv_iload_n hx hb dX8_missed_151 rfl (lv_at hl 1 rfl) ?_
    refine lv_icmp_ge (tgt := 163) hx hb dX8_missed_152 (by decide) (fun c17 => ?_) (fun c17 => ?_)
    · have h := tx_pos c17 h
      exact w_X8_missed_J163 F x3 S L H locs ls h hP hD hS (lv_sub hl [0, 1] rfl)
    · have h := tx_neg c17 h
      refine lv_aload_n hx hb dX8_missed_155 rfl (lv_at hl 0 rfl) ?_
      refine lv_iconst (v := 1) hx hb dX8_missed_156 (by decide) ?_
      obtain ⟨⟨S_25, L_26⟩, hc27, h⟩ := tx_bd h
      replace h := tx_let (y := S_25) rfl h
      replace h := tx_let (y := L_26) rfl h
      refine tw_cv tw_all hP hD hS hA (va_runV (As := [.int 1]) (rest := []) ⟨hx, hb, hml, hown, hT⟩ (c_X8_goOn l G cA H.size aa S L (1 : Int32)  S_25 L_26 hc27) (cwV 1 hT (tq_gV kw_43_14 kw_43_15 kw_43_16 kw_1_5 kw_43_17) rfl rfl rfl (by decide +kernel) ⟨Nat.le_of_ble_eq_true rfl, Nat.le_of_ble_eq_true rfl⟩) ⟨(tw_pre tw_all hP hD hK hN).1, va_recv hK hP (ci := 8) (q0 := 0) rfl rfl, (tw_pre tw_all hP hD hK hN).2⟩ rfl rfl hl.1 rfl (lv_room (Nat.le_of_ble_eq_true rfl)) dX8_missed_157 ⟨Nat.le_of_ble_eq_true rfl, Nat.le_of_ble_eq_true rfl⟩) (fun _ H locs z28 hP hD hS => ?_)
      rw [List.append_nil] at hP hD
      have hP : va_P G vwCl (wM cA aa S_25 L_26) H := hP
      have hD : va_D A (wM cA aa S_25 L_26) := hD
      refine lv_goto (tgt := 145) hx hb dX8_missed_160 (by decide) ?_
      exact hk145 S_25 L_26 H locs ls h hP hD hS (lv_sub hl [0, 1] rfl)
set_option maxHeartbeats 4000000 in
set_option maxRecDepth 100000 in
theorem w_X8_missed_J124 {p : Program} {l : Launch} {e : Env} {s : State} {m : MethodId} {below : List Frame} {meth : Method} {c : Code} {G : va_G} {cA : Nat → ClassId} {A : Nat → Prop} {aa : Nat → Nat} {x1₀ : Int32} {r0 : Int32} {S' : Tr} {L' : Lo} (F : tF p s m ([.ref (aa 0), .int x1₀] : List Value).toArray meth c G cA A RX8 cX8_missed 4 (some .int))    (x1 : Int32) (x2 : Int32) (S : Tr) (L : Lo) (H : Heap) (locs : List Loc) (ls : Array Slot) (h : fJ_X8_missed_J124 x1 x2 S L = some (r0, S', L')) (hP : va_P G vwCl (wM cA aa S L) H) (hD : va_D A (wM cA aa S L)) (hS : va_S A s.heap H locs) (hl : lv_has ls 4 [(0, .ref (aa 0)), (1, .int x1), (2, .int x2)]) : G_X8_missed p l e s m below meth c G cA A aa x1₀ r0 S' L' H locs (F0 m 124 ls []) := by
  obtain ⟨hx, hb, hr, hml, hT, hown, hlocks, hK, hN, hA⟩ := id F
  unfold fJ_X8_missed_J124 at h
  refine lv_iload_n hx hb dX8_missed_124 rfl (lv_at hl 2 rfl) ?_
  refine lv_if_lt (tgt := 132) hx hb dX8_missed_125 (by decide) (fun c10 => ?_) (fun c10 => ?_)
  · have h := tx_pos c10 h
    refine lv_iload_n hx hb dX8_missed_132 rfl (lv_at hl 2 rfl) ?_
    obtain ⟨rfl, rfl, rfl⟩ := tx_3 h
    exact W.iret hx hb hr (fun t ht hW => ⟨⟨_, (), rfl, rfl, by rw [ht]; exact hP, hD⟩, hS.F ht⟩) hS.2.2 dX8_missed_133
  · have h := tx_neg c10 h
    refine lv_iload_n hx hb dX8_missed_128 rfl (lv_at hl 1 rfl) ?_
    refine lv_if_ne (tgt := 134) hx hb dX8_missed_129 (by decide) (fun c11 => ?_) (fun c11 => ?_)
    · have h := tx_neg c11 h
      refine lv_aload_n hx hb dX8_missed_134 rfl (lv_at hl 0 rfl) ?_
      refine va_get (D := G) (ci := 8) (v := .ref (aa 28)) (C := RX8) (T := TX8) (N := 91) hx hb hT ku_8 hown hK hP 0 rfl rfl 27 (by decide) (hT _ kw_9_19) (fun _ h9 => h9) rfl dX8_missed_135 ?_
      refine lv_iload_n hx hb dX8_missed_138 rfl (lv_at hl 2 rfl) ?_
      obtain ⟨g12, h⟩ := tx_ck h
      refine va_iald (i := x2) hx hb hK hP 9 0 rfl rfl (tx_in g12) dX8_missed_139 ?_
      refine lv_topi (fun y13 ey13 => ?_)
      have h := tx_let ey13 h
      refine lv_istore_n (lv' := [(3, .int y13), (0, .ref (aa 0)), (1, .int x1), (2, .int x2)]) hx hb dX8_missed_140 rfl hl (by decide) rfl (fun ls hl => ?_)
      refine lv_aload_n hx hb dX8_missed_141 rfl (lv_at hl 1 rfl) ?_
      obtain ⟨S_14, hc15, h⟩ := tx_bd h
      refine tw_cv tw_all hP hD hS hA (va_runV (As := []) (rest := []) ⟨hx, hb, hml, hown, hT⟩ (c_X8_layTried l G cA H.size aa S L  S_14 hc15) (cwV 0 hT (tq_gV kw_39_5 kw_39_6 kw_39_7 kw_1_5 kw_39_8) rfl rfl rfl (by decide +kernel) ⟨Nat.le_of_ble_eq_true rfl, Nat.le_of_ble_eq_true rfl⟩) ⟨(tw_pre tw_all hP hD hK hN).1, va_recv hK hP (ci := 8) (q0 := 0) rfl rfl, (tw_pre tw_all hP hD hK hN).2⟩ rfl rfl hl.1 rfl (lv_room (Nat.le_of_ble_eq_true rfl)) dX8_missed_142 ⟨Nat.le_of_ble_eq_true rfl, Nat.le_of_ble_eq_true rfl⟩) (fun _ H locs z16 hP hD hS => ?_)
      rw [List.append_nil] at hP hD
      have hP : va_P G vwCl (wM cA aa S_14 L) H := hP
      have hD : va_D A (wM cA aa S_14 L) := hD
      exact w_X8_missed_L145 F 2000 S_14 L H locs ls h hP hD hS (lv_sub hl [1, 0] rfl)
    · have h := tx_pos c11 h
      refine lv_iload_n hx hb dX8_missed_132 rfl (lv_at hl 2 rfl) ?_
      obtain ⟨rfl, rfl, rfl⟩ := tx_3 h
      exact W.iret hx hb hr (fun t ht hW => ⟨⟨_, (), rfl, rfl, by rw [ht]; exact hP, hD⟩, hS.F ht⟩) hS.2.2 dX8_missed_133
set_option maxHeartbeats 4000000 in
set_option maxRecDepth 100000 in
theorem w_X8_missed_J111 {p : Program} {l : Launch} {e : Env} {s : State} {m : MethodId} {below : List Frame} {meth : Method} {c : Code} {G : va_G} {cA : Nat → ClassId} {A : Nat → Prop} {aa : Nat → Nat} {x1₀ : Int32} {r0 : Int32} {S' : Tr} {L' : Lo} {x1 : Int32} (F : tF p s m ([.ref (aa 0), .int x1₀] : List Value).toArray meth c G cA A RX8 cX8_missed 4 (some .int))  (k23 : Int32 → Tr → Lo → Option (Int32 × Tr × Lo)) (hk23 : ∀ (x2 : Int32) (S : Tr) (L : Lo) (H : Heap) (locs : List Loc) (ls : Array Slot), k23 x2 S L = some (r0, S', L') → va_P G vwCl (wM cA aa S L) H → va_D A (wM cA aa S L) → va_S A s.heap H locs → lv_has ls 4 [(0, .ref (aa 0)), (1, .int x1), (2, .int x2)] → G_X8_missed p l e s m below meth c G cA A aa x1₀ r0 S' L' H locs (F0 m 23 ls [])) (x2 : Int32) (S : Tr) (L : Lo) (H : Heap) (locs : List Loc) (ls : Array Slot) (h : fJ_X8_missed_J111 k23 x1 x2 S L = some (r0, S', L')) (hP : va_P G vwCl (wM cA aa S_40 L) H) (hD : va_D A (wM cA aa S_40 L)) (hS : va_S A s.heap H locs) (hl : lv_has ls 4 [(0, .ref (aa 0)), (1, .int x1), (2, .int x2)]) : G_X8_missed p l e s m below meth c G cA A aa x1₀ r0 S' L' H locs (F0 m 111 ls []) := by
  obtain ⟨hx, hb, hr, hml, hT, hown, hlocks, hK, hN, hA⟩ := id F
  unfold fJ_X8_missed_J111 at h
  refine lv_aload_n hx hb dX8_missed_111 rfl (lv_at hl 0 rfl) ?_
  refine va_get (D := G) (ci := 8) (v := .ref (aa 62)) (C := RX8) (T := TX8) (N := 91) hx hb hT ku_8 hown hK hP 0 rfl rfl 61 (by decide) (hT _ kw_10_22) (fun _ h9 => h9) rfl dX8_missed_112 ?_
  refine lv_iconst (v := 1) hx hb dX8_missed_115 (by decide) ?_
  refine lv_dup2_11 hx hb dX8_missed_116 rfl rfl ?_
  refine va_iald (i := 1) hx hb hK hP 36 0 rfl rfl (tq_in (by decide)) dX8_missed_117 ?_
  refine tq_i (w := (S 62 1)) rfl ?_
  refine lv_iconst (v := 1) hx hb dX8_missed_118 (by decide) ?_
  refine lv_iadd hx hb dX8_missed_119 ?_
  refine va_iast (i := 1) hx hb hK hP hD hS 36 0 rfl rfl (tq_in (by decide)) dX8_missed_120 (fun H locs hP hD hS => ?_)
  rw [show (1 : Int32).toNatClampNeg = 1 from rfl] at hP hD
  obtain ⟨S_40, eS_40, h⟩ := tx_lt h
  rw [sM_a61, eS_40] at hP hD
  refine lv_goto (tgt := 23) hx hb dX8_missed_121 (by decide) ?_
  exact hk23 x2 S_40 L H locs ls h hP hD hS (lv_sub hl [0, 1, 2] rfl)
set_option maxHeartbeats 4000000 in
set_option maxRecDepth 100000 in
theorem w_X8_missed_J90 {p : Program} {l : Launch} {e : Env} {s : State} {m : MethodId} {below : List Frame} {meth : Method} {c : Code} {G : va_G} {cA : Nat → ClassId} {A : Nat → Prop} {aa : Nat → Nat} {x1₀ : Int32} {r0 : Int32} {S' : Tr} {L' : Lo} {x1 : Int32} (F : tF p s m ([.ref (aa 0), .int x1₀] : List Value).toArray meth c G cA A RX8 cX8_missed 4 (some .int))  (k23 : Int32 → Tr → Lo → Option (Int32 × Tr × Lo)) (hk23 : ∀ (x2 : Int32) (S : Tr) (L : Lo) (H : Heap) (locs : List Loc) (ls : Array Slot), k23 x2 S L = some (r0, S', L') → va_P G vwCl (wM cA aa S L) H → va_D A (wM cA aa S L) → va_S A s.heap H locs → lv_has ls 4 [(0, .ref (aa 0)), (1, .int x1), (2, .int x2)] → G_X8_missed p l e s m below meth c G cA A aa x1₀ r0 S' L' H locs (F0 m 23 ls [])) (x2 : Int32) (S : Tr) (L : Lo) (H : Heap) (locs : List Loc) (ls : Array Slot) (h : fJ_X8_missed_J90 k23 x1 x2 S L = some (r0, S', L')) (hP : va_P G vwCl (wM cA aa S_36 L) H) (hD : va_D A (wM cA aa S_36 L)) (hS : va_S A s.heap H locs) (hl : lv_has ls 4 [(0, .ref (aa 0)), (1, .int x1), (2, .int x2)]) : G_X8_missed p l e s m below meth c G cA A aa x1₀ r0 S' L' H locs (F0 m 90 ls []) := by
  obtain ⟨hx, hb, hr, hml, hT, hown, hlocks, hK, hN, hA⟩ := id F
  unfold fJ_X8_missed_J90 at h
  refine lv_aload_n hx hb dX8_missed_90 rfl (lv_at hl 0 rfl) ?_
  refine lv_iconst (v := 1) hx hb dX8_missed_91 (by decide) ?_
  obtain ⟨S_36, hc37, h⟩ := tx_bd h
  refine tw_cv tw_all hP hD hS hA (va_runV (As := [.int 1]) (rest := []) ⟨hx, hb, hml, hown, hT⟩ (c_X8_ins l G cA H.size aa S L (1 : Int32)  S_36 hc37) (cwV 1 hT (tq_gV kw_44_19 kw_44_20 kw_44_21 kw_1_5 kw_44_22) rfl rfl rfl (by decide +kernel) ⟨Nat.le_of_ble_eq_true rfl, Nat.le_of_ble_eq_true rfl⟩) ⟨(tw_pre tw_all hP hD hK hN).1, va_recv hK hP (ci := 8) (q0 := 0) rfl rfl, (tw_pre tw_all hP hD hK hN).2⟩ rfl rfl hl.1 rfl (lv_room (Nat.le_of_ble_eq_true rfl)) dX8_missed_92 ⟨Nat.le_of_ble_eq_true rfl, Nat.le_of_ble_eq_true rfl⟩) (fun _ H locs z38 hP hD hS => ?_)
  rw [List.append_nil] at hP hD
  have hP : va_P G vwCl (wM cA aa S_36 L) H := hP
  have hD : va_D A (wM cA aa S_36 L) := hD
  refine lv_aload_n hx hb dX8_missed_95 rfl (lv_at hl 0 rfl) ?_
  refine va_get (D := G) (ci := 8) (v := .ref (aa 62)) (C := RX8) (T := TX8) (N := 91) hx hb hT ku_8 hown hK hP 0 rfl rfl 61 (by decide) (hT _ kw_10_22) (fun _ h9 => h9) rfl dX8_missed_96 ?_
  refine lv_iconst (v := 1) hx hb dX8_missed_99 (by decide) ?_
  refine va_iald (i := 1) hx hb hK hP 36 0 rfl rfl (tq_in (by decide)) dX8_missed_100 ?_
  refine tq_i (w := (S_36 62 1)) rfl ?_
  refine lv_bipush (v := 20) hx hb dX8_missed_101 (by decide) ?_
  refine lv_icmp_ge (tgt := 111) hx hb dX8_missed_103 (by decide) (fun c39 => ?_) (fun c39 => ?_)
  · have h := tx_pos c39 h
    exact w_X8_missed_J111 F k23 hk23 x2 S_36 L H locs ls h hP hD hS (lv_sub hl [0, 1, 2] rfl)
  · have h := tx_neg c39 h
    refine lv_aload_n hx hb dX8_missed_106 rfl (lv_at hl 0 rfl) ?_
    refine lv_iconst (v := 1) hx hb dX8_missed_107 (by decide) ?_
    obtain ⟨⟨S_41, L_42⟩, hc43, h⟩ := tx_bd h
    replace h := tx_let (y := S_41) rfl h
    replace h := tx_let (y := L_42) rfl h
    refine tw_cv tw_all hP hD hS hA (va_runV (As := [.int 1]) (rest := []) ⟨hx, hb, hml, hown, hT⟩ (c_X8_onTheWay l G cA H.size aa S_36 L (1 : Int32)  S_41 L_42 hc43) (cwV 1 hT (tq_gV kw_45_3 kw_45_4 kw_45_5 kw_1_5 kw_45_6) rfl rfl rfl (by decide +kernel) ⟨Nat.le_of_ble_eq_true rfl, Nat.le_of_ble_eq_true rfl⟩) ⟨(tw_pre tw_all hP hD hK hN).1, va_recv hK hP (ci := 8) (q0 := 0) rfl rfl, (tw_pre tw_all hP hD hK hN).2⟩ rfl rfl hl.1 rfl (lv_room (Nat.le_of_ble_eq_true rfl)) dX8_missed_108 ⟨Nat.le_of_ble_eq_true rfl, Nat.le_of_ble_eq_true rfl⟩) (fun _ H locs z44 hP hD hS => ?_)
    rw [List.append_nil] at hP hD
    have hP : va_P G vwCl (wM cA aa S_41 L_42) H := hP
    have hD : va_D A (wM cA aa S_41 L_42) := hD
    exact w_X8_missed_J111 F k23 hk23 x2 S_41 L_42 H locs ls h hP hD hS (lv_sub hl [0, 1, 2] rfl)
set_option maxHeartbeats 4000000 in
set_option maxRecDepth 100000 in
theorem w_X8_missed_L50 {p : Program} {l : Launch} {e : Env} {s : State} {m : MethodId} {below : List Frame} {meth : Method} {c : Code} {G : va_G} {cA : Nat → ClassId} {A : Nat → Prop} {aa : Nat → Nat} {x1₀ : Int32} {r0 : Int32} {S' : Tr} {L' : Lo} {S : Tr} {L : Lo} {x1 : Int32} (F : tF p s m ([.ref (aa 0), .int x1₀] : List Value).toArray meth c G cA A RX8 cX8_missed 4 (some .int))  (k23 : Int32 → Tr → Lo → Option (Int32 × Tr × Lo)) (hk23 : ∀ (x2 : Int32) (S : Tr) (L : Lo) (H : Heap) (locs : List Loc) (ls : Array Slot), k23 x2 S L = some (r0, S', L') → va_P G vwCl (wM cA aa S L) H → va_D A (wM cA aa S L) → va_S A s.heap H locs → lv_has ls 4 [(0, .ref (aa 0)), (1, .int x1), (2, .int x2)] → G_X8_missed p l e s m below meth c G cA A aa x1₀ r0 S' L' H locs (F0 m 23 ls [])) (N : Nat) : ∀ (x2 : Int32) (x3 : Int32) (H : Heap) (locs : List Loc) (ls : Array Slot), lpF (fun _ _ => none) (fB_X8_missed_L50 k23 S L x1) N x2 x3 = some (r0, S', L') → va_P G vwCl (wM cA aa S L) H → va_D A (wM cA aa S L) → va_S A s.heap H locs → lv_has ls 4 [(0, .ref (aa 0)), (1, .int x1), (2, .int x2), (3, .int x3)] → G_X8_missed p l e s m below meth c G cA A aa x1₀ r0 S' L' H locs (F0 m 50 ls []) := by
  obtain ⟨hx, hb, hr, hml, hT, hown, hlocks, hK, hN, hA⟩ := id F
  induction N with
  | zero =>
    intro x2 x3 H locs ls h
    have h : (none : Option (Int32 × Tr × Lo)) = some (r0, S', L') := h
    cases h
  | succ N hk50 =>
    intro x2 x3 H locs ls h hP hD hS hl
    have h : fB_X8_missed_L50 k23 S L x1 (lpF (fun _ _ => none) (fB_X8_missed_L50 k23 S L x1) N) x2 x3 = some (r0, S', L') := h
    generalize hk50e : lpF (fun _ _ => none) (fB_X8_missed_L50 k23 S L x1) N = k50 at h hk50
    unfold fB_X8_missed_L50 at h
    refine lv_iload_n hx hb dX8_missed_50 rfl (lv_at hl 3 rfl) ?_
    refine lv_if_lt (tgt := 90) hx hb dX8_missed_51 (by decide) (fun c35 => ?_) (fun c35 => ?_)
    · have h := tx_pos c35 h
      exact w_X8_missed_J90 F k23 hk23 x2 S L H locs ls h hP hD hS (lv_sub hl [0, 1, 2] rfl)
    · have h := tx_neg c35 h
      refine lv_aload_n hx hb dX8_missed_54 rfl (lv_at hl 0 rfl) ?_
      refine va_get (D := G) (ci := 8) (v := .ref (aa 28)) (C := RX8) (T := TX8) (N := 91) hx hb hT ku_8 hown hK hP 0 rfl rfl 27 (by decide) (hT _ kw_9_19) (fun _ h9 => h9) rfl dX8_missed_55 ?_
      refine lv_iload_n hx hb dX8_missed_58 rfl (lv_at hl 3 rfl) ?_
      obtain ⟨g45, h⟩ := tx_ck h
      refine va_iald (i := x3) hx hb hK hP 9 0 rfl rfl (tx_in g45) dX8_missed_59 ?_
      refine lv_aload_n hx hb dX8_missed_60 rfl (lv_at hl 0 rfl) ?_
      refine va_get (D := G) (ci := 8) (v := .ref (aa 62)) (C := RX8) (T := TX8) (N := 91) hx hb hT ku_8 hown hK hP 0 rfl rfl 61 (by decide) (hT _ kw_10_22) (fun _ h9 => h9) rfl dX8_missed_61 ?_
      refine lv_iconst (v := 1) hx hb dX8_missed_64 (by decide) ?_
      refine va_iald (i := 1) hx hb hK hP 36 0 rfl rfl (tq_in (by decide)) dX8_missed_65 ?_
      refine tq_i (w := (S 62 1)) rfl ?_
      refine lv_icmp_ne (tgt := 84) hx hb dX8_missed_66 (by decide) (fun c46 => ?_) (fun c46 => ?_)
      · have h := tx_neg c46 h
        obtain ⟨y47, ey47, h⟩ := tx_lt h
        refine lv_iinc (v := y47) (lv' := [(3, .int y47), (0, .ref (aa 0)), (1, .int x1), (2, .int x2)]) hx hb dX8_missed_84 hl (k := 3) rfl ey47 (by decide) rfl (fun ls hl => ?_)
        refine lv_goto (tgt := 50) hx hb dX8_missed_87 (by decide) ?_
        exact hk50 x2 y47 H locs ls h hP hD hS (lv_sub hl [1, 2, 3, 0] rfl)
      · have h := tx_pos c46 h
        refine lv_aload_n hx hb dX8_missed_69 rfl (lv_at hl 0 rfl) ?_
        refine va_get (D := G) (ci := 8) (v := .ref (aa 59)) (C := RX8) (T := TX8) (N := 91) hx hb hT ku_8 hown hK hP 0 rfl rfl 58 (by decide) (hT _ kw_10_19) (fun _ h9 => h9) rfl dX8_missed_70 ?_
        refine lv_bipush (v := 6) hx hb dX8_missed_73 (by decide) ?_
        refine lv_iload_n hx hb dX8_missed_75 rfl (lv_at hl 3 rfl) ?_
        refine lv_iadd hx hb dX8_missed_76 ?_
        obtain ⟨g48, h⟩ := tx_ck h
        refine va_iald (i := ((6 : Int32) + x3)) hx hb hK hP 33 0 rfl rfl (tx_in g48) dX8_missed_77 ?_
        refine lv_iconst (v := 1) hx hb dX8_missed_78 (by decide) ?_
        refine lv_icmp_ne (tgt := 84) hx hb dX8_missed_79 (by decide) (fun c49 => ?_) (fun c49 => ?_)
        · have h := tx_neg c49 h
          obtain ⟨y50, ey50, h⟩ := tx_lt h
          refine lv_iinc (v := y50) (lv' := [(3, .int y50), (0, .ref (aa 0)), (1, .int x1), (2, .int x2)]) hx hb dX8_missed_84 hl (k := 3) rfl ey50 (by decide) rfl (fun ls hl => ?_)
          refine lv_goto (tgt := 50) hx hb dX8_missed_87 (by decide) ?_
          exact hk50 x2 y50 H locs ls h hP hD hS (lv_sub hl [1, 2, 3, 0] rfl)
        · have h := tx_pos c49 h
          refine lv_iload_n hx hb dX8_missed_82 rfl (lv_at hl 3 rfl) ?_
          refine lv_istore_n (lv' := [(2, .int x3), (0, .ref (aa 0)), (1, .int x1), (3, .int x3)]) hx hb dX8_missed_83 rfl hl (by decide) rfl (fun ls hl => ?_)
          obtain ⟨y51, ey51, h⟩ := tx_lt h
          refine lv_iinc (v := y51) (lv' := [(3, .int y51), (2, .int x3), (0, .ref (aa 0)), (1, .int x1)]) hx hb dX8_missed_84 hl (k := 3) rfl ey51 (by decide) rfl (fun ls hl => ?_)
          refine lv_goto (tgt := 50) hx hb dX8_missed_87 (by decide) ?_
          exact hk50 x3 y51 H locs ls h hP hD hS (lv_sub hl [2, 3, 1, 0] rfl)
set_option maxHeartbeats 4000000 in
set_option maxRecDepth 100000 in
theorem w_X8_missed_L23 {p : Program} {l : Launch} {e : Env} {s : State} {m : MethodId} {below : List Frame} {meth : Method} {c : Code} {G : va_G} {cA : Nat → ClassId} {A : Nat → Prop} {aa : Nat → Nat} {x1₀ : Int32} {r0 : Int32} {S' : Tr} {L' : Lo} {x1 : Int32} (F : tF p s m ([.ref (aa 0), .int x1₀] : List Value).toArray meth c G cA A RX8 cX8_missed 4 (some .int))    (N : Nat) : ∀ (x2 : Int32) (S : Tr) (L : Lo) (H : Heap) (locs : List Loc) (ls : Array Slot), lpF (fun _ _ _ => none) (fB_X8_missed_L23 x1) N x2 S L = some (r0, S', L') → va_P G vwCl (wM cA aa S L) H → va_D A (wM cA aa S L) → va_S A s.heap H locs → lv_has ls 4 [(0, .ref (aa 0)), (1, .int x1), (2, .int x2)] → G_X8_missed p l e s m below meth c G cA A aa x1₀ r0 S' L' H locs (F0 m 23 ls []) := by
  obtain ⟨hx, hb, hr, hml, hT, hown, hlocks, hK, hN, hA⟩ := id F
  induction N with
  | zero =>
    intro x2 S L H locs ls h
    have h : (none : Option (Int32 × Tr × Lo)) = some (r0, S', L') := h
    cases h
  | succ N hk23 =>
    intro x2 S L H locs ls h hP hD hS hl
    have h : fB_X8_missed_L23 x1 (lpF (fun _ _ _ => none) (fB_X8_missed_L23 x1) N) x2 S L = some (r0, S', L') := h
    generalize hk23e : lpF (fun _ _ _ => none) (fB_X8_missed_L23 x1) N = k23 at h hk23
    unfold fB_X8_missed_L23 at h
    refine lv_aload_n hx hb dX8_missed_23 rfl (lv_at hl 0 rfl) ?_
    refine va_get (D := G) (ci := 8) (v := .ref (aa 62)) (C := RX8) (T := TX8) (N := 91) hx hb hT ku_8 hown hK hP 0 rfl rfl 61 (by decide) (hT _ kw_10_22) (fun _ h9 => h9) rfl dX8_missed_24 ?_
    refine lv_iconst (v := 1) hx hb dX8_missed_27 (by decide) ?_
    refine va_iald (i := 1) hx hb hK hP 36 0 rfl rfl (tq_in (by decide)) dX8_missed_28 ?_
    refine tq_i (w := (S 62 1)) rfl ?_
    refine lv_bipush (v := 21) hx hb dX8_missed_29 (by decide) ?_
    refine lv_icmp_ge (tgt := 124) hx hb dX8_missed_31 (by decide) (fun c9 => ?_) (fun c9 => ?_)
    · have h := tx_pos c9 h
      exact w_X8_missed_J124 F x1 x2 S L H locs ls h hP hD hS (lv_sub hl [0, 1, 2] rfl)
    · have h := tx_neg c9 h
      refine lv_iload_n hx hb dX8_missed_34 rfl (lv_at hl 2 rfl) ?_
      refine lv_if_ge (tgt := 124) hx hb dX8_missed_35 (by decide) (fun c29 => ?_) (fun c29 => ?_)
      · have h := tx_pos c29 h
        exact w_X8_missed_J124 F x1 x2 S L H locs ls h hP hD hS (lv_sub hl [0, 1, 2] rfl)
      · have h := tx_neg c29 h
        refine lv_aload_n hx hb dX8_missed_38 rfl (lv_at hl 0 rfl) ?_
        refine lv_iconst (v := 1) hx hb dX8_missed_39 (by decide) ?_
        obtain ⟨⟨S_30, L_31⟩, hc32, h⟩ := tx_bd h
        replace h := tx_let (y := S_30) rfl h
        replace h := tx_let (y := L_31) rfl h
        refine tw_cv tw_all hP hD hS hA (va_runV (As := [.int 1]) (rest := []) ⟨hx, hb, hml, hown, hT⟩ (c_X8_outs l G cA H.size aa S L (1 : Int32)  S_30 L_31 hc32) (cwV 1 hT (tq_gV kw_43_18 kw_43_19 kw_43_20 kw_1_5 kw_43_21) rfl rfl rfl (by decide +kernel) ⟨Nat.le_of_ble_eq_true rfl, Nat.le_of_ble_eq_true rfl⟩) ⟨(tw_pre tw_all hP hD hK hN).1, va_recv hK hP (ci := 8) (q0 := 0) rfl rfl, (tw_pre tw_all hP hD hK hN).2⟩ rfl rfl hl.1 rfl (lv_room (Nat.le_of_ble_eq_true rfl)) dX8_missed_40 ⟨Nat.le_of_ble_eq_true rfl, Nat.le_of_ble_eq_true rfl⟩) (fun _ H locs z33 hP hD hS => ?_)
        rw [List.append_nil] at hP hD
        have hP : va_P G vwCl (wM cA aa S_30 L_31) H := hP
        have hD : va_D A (wM cA aa S_30 L_31) := hD
        refine lv_aload_n hx hb dX8_missed_43 rfl (lv_at hl 0 rfl) ?_
        refine va_get (D := G) (ci := 8) (v := .int (S_30 0 13)) (C := RX8) (T := TX8) (N := 91) hx hb hT ku_8 hown hK hP 0 rfl rfl 13 (by decide) (hT _ kw_12_4) (fun _ h9 => h9) rfl dX8_missed_44 ?_
        refine lv_iconst (v := 1) hx hb dX8_missed_47 (by decide) ?_
        refine lv_isub hx hb dX8_missed_48 ?_
        refine lv_topi (fun y34 ey34 => ?_)
        have h := tx_let ey34 h
        refine lv_istore_n (lv' := [(3, .int y34), (0, .ref (aa 0)), (1, .int x1), (2, .int x2)]) hx hb dX8_missed_49 rfl hl (by decide) rfl (fun ls hl => ?_)
        exact w_X8_missed_L50 F k23 hk23 2000 x2 y34 H locs ls h hP hD hS (lv_sub hl [1, 2, 3, 0] rfl)
set_option maxHeartbeats 4000000 in
set_option maxRecDepth 100000 in
theorem c_X8_missed (l : Launch) (G : va_G) (cA : Nat → ClassId) (sz : Nat) (aa : Nat → Nat) (S : Tr) (L : Lo) (x1 : Int32)  (r0 : Int32) (S' : Tr) (L' : Lo) (h : f_X8_missed S L x1 = some (r0, S', L')) : Met l yX8_missed (.code yX8_missed cX8_missed 4 (some .int) :: T0) ({ frames := 8, cells := 0, slots := 0, locals := 191 } : Room) (tqP G cA [.ref (aa 0), .int x1] (wM cA aa S L) sz) (tqQi G cA (fun (r : Int32) (_ : Unit) => r = r0) (fun (_ : Unit) => wM cA aa S' L') (va_A (wM cA aa S L) sz)) 0 0 (va_A (wM cA aa S L) sz) := by
  refine Met.ofW (cc := cX8_missed) (maxL := 4) (ret := (some .int)) (by decide) rfl ?_
  intro p e s m args below meth c s₁ B hml hv
  obtain ⟨rfl, hsz, hP, hK, hD0, hN⟩ := hv
  have hx := B.exec
  have hb := B.bytes
  have hr := B.returns
  have hts := atoms_spec (ws := .code yX8_missed cX8_missed 4 (some .int) :: T0) B.pre
  have hT : ∀ w ∈ T0, w.before _ s = true := fun w h => hts w (List.mem_cons_of_mem _ h)
  have hown : s.vm.findClass RX8 = some m.cls := findClass_of_methodNamed B.named
  have hlocks := B.notSynchronized
  subst hsz
  have hD := hD0.self (sz := s.heap.size)
  generalize hAe : va_A (wM cA aa S L) s.heap.size = A at hD ⊢
  have hA : ∀ q : Nat, s.heap.size ≤ q → A q := fun q h => by rw [← hAe]; exact Or.inr h
  have hS : va_S A s.heap s.heap [] := va_S.rf
  have hl := lv_entry ([.ref (aa 0), .int x1]) (n := 4) (Nat.le_of_ble_eq_true rfl)
  rw [lg_entry_eq]
  generalize (lg_sl ([.ref (aa 0), .int x1]) ++ List.replicate (4 - (lg_sl ([.ref (aa 0), .int x1])).length) Slot.unset).toArray = ls at hl ⊢
  have hl : lv_has ls 4 [(0, .ref (aa 0)), (1, .int x1)] := hl
  have F : tF p s m ([.ref (aa 0), .int x1] : List Value).toArray meth c G cA A RX8 cX8_missed 4 (some .int) := ⟨hx, hb, hr, hml, hT, hown, hlocks, hK, hN, hA⟩
  obtain ⟨H, hH⟩ : ∃ z, z = s.heap := ⟨_, rfl⟩
  rw [← hH] at hP
  have hS : va_S A s.heap H [] := by rw [hH]; exact hS
  suffices hgo : G_X8_missed p l e s m below meth c G cA A aa x1 r0 S' L' H [] (F0 m 0 ls []) by rw [hH] at hgo; exact hgo
  generalize ([] : List Loc) = locs at hS ⊢
  unfold f_X8_missed at h
  refine lv_aload_n hx hb dX8_missed_0 rfl (lv_at hl 0 rfl) ?_
  refine lv_iconst (v := 0) hx hb dX8_missed_1 (by decide) ?_
  refine va_put (D := G) (ci := 8) (v := .int 0) (ty := .int) (C := RX8) (T := TX8) (N := 91) hx hb hT ku_8 tyX8 tyX8_ok nmX8 hown hK hP hD hS 0 rfl rfl 2 (by decide) (hT _ kw_14_0) (fun _ h9 => h9) rfl (by decide +kernel) rfl rfl (Nat.le_of_ble_eq_true rfl) dX8_missed_2 (fun H locs hP hD hS => ?_)
  obtain ⟨S_1, eS_1, h⟩ := tx_lt h
  rw [sM_f2, eS_1] at hP hD
  refine lv_iload_n hx hb dX8_missed_5 rfl (lv_at hl 1 rfl) ?_
  refine lv_iconst (v := 0) hx hb dX8_missed_6 (by decide) ?_
  refine lv_iconst (v := 1) hx hb dX8_missed_7 (by decide) ?_
  obtain ⟨r2, hc3, h⟩ := tx_bd h
  refine tw_ci (tw_none (ws := wM cA aa S_1 L)) hP hD hS hA (va_runS (As := [.int x1, .int 0, .int 1]) (rest := []) ⟨hx, hb, hml, hown, hT⟩ (c_X8_isIn l G cA H.size x1 (0 : Int32) (1 : Int32)  r2 hc3) (va_cwS 3 hT (tq_gS kw_24_11 kw_24_12 kw_1_5 kw_24_13) rfl rfl rfl (by decide +kernel) ⟨Nat.le_of_ble_eq_true rfl, Nat.le_of_ble_eq_true rfl⟩) (tw_pre (tw_none (ws := wM cA aa S_1 L)) hP hD hK hN) rfl rfl hl.1 rfl (lv_room (Nat.le_of_ble_eq_true rfl)) dX8_missed_8 ⟨Nat.le_of_ble_eq_true rfl, Nat.le_of_ble_eq_true rfl⟩) (fun _ _ H locs z4 hP hD hS => ?_)
  subst z4
  have hP : va_P G vwCl (wM cA aa S_1 L) H := hP
  have hD : va_D A (wM cA aa S_1 L) := hD
  refine lv_if_ne (tgt := 16) hx hb dX8_missed_11 (by decide) (fun c5 => ?_) (fun c5 => ?_)
  · have h := tx_neg c5 h
    refine lv_aload_n hx hb dX8_missed_16 rfl (lv_at hl 0 rfl) ?_
    obtain ⟨S_6, hc7, h⟩ := tx_bd h
    refine tw_cv tw_all hP hD hS hA (va_runV (As := []) (rest := []) ⟨hx, hb, hml, hown, hT⟩ (c_X8_layTried l G cA H.size aa S_1 L  S_6 hc7) (cwV 0 hT (tq_gV kw_39_5 kw_39_6 kw_39_7 kw_1_5 kw_39_8) rfl rfl rfl (by decide +kernel) ⟨Nat.le_of_ble_eq_true rfl, Nat.le_of_ble_eq_true rfl⟩) ⟨(tw_pre tw_all hP hD hK hN).1, va_recv hK hP (ci := 8) (q0 := 0) rfl rfl, (tw_pre tw_all hP hD hK hN).2⟩ rfl rfl hl.1 rfl (lv_room (Nat.le_of_ble_eq_true rfl)) dX8_missed_17 ⟨Nat.le_of_ble_eq_true rfl, Nat.le_of_ble_eq_true rfl⟩) (fun _ H locs z8 hP hD hS => ?_)
    rw [List.append_nil] at hP hD
    have hP : va_P G vwCl (wM cA aa S_6 L) H := hP
    have hD : va_D A (wM cA aa S_6 L) := hD
    refine lv_bipush (v := (-2)) hx hb dX8_missed_20 (by decide) ?_
    refine lv_istore_n (lv' := [(2, .int (-2)), (0, .ref (aa 0)), (1, .int x1)]) hx hb dX8_missed_22 rfl hl (by decide) rfl (fun ls hl => ?_)
    exact w_X8_missed_L23 F 2000 (-2) S_6 L H locs ls h hP hD hS (lv_sub hl [1, 2, 0] rfl)
  · have h := tx_pos c5 h
    refine lv_iconst (v := (-1)) hx hb dX8_missed_14 (by decide) ?_
    obtain ⟨rfl, rfl, rfl⟩ := tx_3 h
    exact W.iret hx hb hr (fun t ht hW => ⟨⟨_, (), rfl, rfl, by rw [ht]; exact hP, hD⟩, hS.F ht⟩) hS.2.2 dX8_missed_15
abbrev G_X8_move (p : Program) (l : Launch) (e : Env) (s : State) (m : MethodId) (below : List Frame) (meth : Method) (c : Code) (G : va_G) (cA : Nat → ClassId) (A : Nat → Prop) (aa : Nat → Nat) (L : Lo) (x1 : Int32) (x2 : Int32) (r0 : Int32) (S' : Tr) (H : Heap) (locs : List Loc) (g : JFrame) : Prop := W p l e (headSpec (.code yX8_move cX8_move 3 (some .boolean) :: T0) ({ frames := 3, cells := 0, slots := 0, locals := 71 } : Room)).room s m ([.ref (aa 0), .int x1, .int x2] : List Value).toArray below meth c H locs 0 0 (MQ below (tqQi G cA (fun (r : Int32) (_ : Unit) => r = r0) (fun (_ : Unit) => wM cA aa S' L) A) ([.ref (aa 0), .int x1, .int x2] : List Value).toArray s 0 0 A) g
set_option maxHeartbeats 4000000 in
set_option maxRecDepth 100000 in
theorem w_X8_move_J67 {p : Program} {l : Launch} {e : Env} {s : State} {m : MethodId} {below : List Frame} {meth : Method} {c : Code} {G : va_G} {cA : Nat → ClassId} {A : Nat → Prop} {aa : Nat → Nat} {L : Lo} {x1₀ : Int32} {x2₀ : Int32} {r0 : Int32} {S' : Tr} (F : tF p s m ([.ref (aa 0), .int x1₀, .int x2₀] : List Value).toArray meth c G cA A RX8 cX8_move 3 (some .boolean))    (x1 : Int32) (x2 : Int32) (S : Tr) (H : Heap) (locs : List Loc) (ls : Array Slot) (h : fJ_X8_move_J67 x1 x2 S = some (r0, S')) (hP : va_P G vwCl (wM cA aa S_23 L) H) (hD : va_D A (wM cA aa S_23 L)) (hS : va_S A s.heap H locs) (hl : lv_has ls 3 [(0, .ref (aa 0)), (1, .int x1), (2, .int x2)]) : G_X8_move p l e s m below meth c G cA A aa L x1₀ x2₀ r0 S' H locs (F0 m 67 ls []) := by
  obtain ⟨hx, hb, hr, hml, hT, hown, hlocks, hK, hN, hA⟩ := id F
  unfold fJ_X8_move_J67 at h
  refine lv_aload_n hx hb dX8_move_67 rfl (lv_at hl 0 rfl) ?_
  obtain ⟨S_17, hc18, h⟩ := tx_bd h
  refine tw_cv tw_all hP hD hS hA (va_runV (As := []) (rest := []) ⟨hx, hb, hml, hown, hT⟩ (c_X8_remember l G cA H.size aa S L  S_17 hc18) (cwV 0 hT (tq_gV kw_37_10 kw_37_11 kw_37_12 kw_1_5 kw_37_13) rfl rfl rfl (by decide +kernel) ⟨Nat.le_of_ble_eq_true rfl, Nat.le_of_ble_eq_true rfl⟩) ⟨(tw_pre tw_all hP hD hK hN).1, va_recv hK hP (ci := 8) (q0 := 0) rfl rfl, (tw_pre tw_all hP hD hK hN).2⟩ rfl rfl hl.1 rfl (lv_room (Nat.le_of_ble_eq_true rfl)) dX8_move_68 ⟨Nat.le_of_ble_eq_true rfl, Nat.le_of_ble_eq_true rfl⟩) (fun _ H locs z19 hP hD hS => ?_)
  rw [List.append_nil] at hP hD
  have hP : va_P G vwCl (wM cA aa S_17 L) H := hP
  have hD : va_D A (wM cA aa S_17 L) := hD
  refine lv_aload_n hx hb dX8_move_71 rfl (lv_at hl 0 rfl) ?_
  refine lv_iconst (v := 0) hx hb dX8_move_72 (by decide) ?_
  refine lv_iload_n hx hb dX8_move_73 rfl (lv_at hl 1 rfl) ?_
  refine lv_iconst (v := 1) hx hb dX8_move_74 (by decide) ?_
  obtain ⟨S_20, hc21, h⟩ := tx_bd h
  refine tw_cv tw_all hP hD hS hA (va_runV (As := [.int 0, .int x1, .int 1]) (rest := []) ⟨hx, hb, hml, hown, hT⟩ (c_X8_takes l G cA H.size aa S_17 L (0 : Int32) x1 (1 : Int32)  S_20 hc21) (cwV 3 hT (tq_gV kw_37_18 kw_37_19 kw_37_20 kw_1_5 kw_37_21) rfl rfl rfl (by decide +kernel) ⟨Nat.le_of_ble_eq_true rfl, Nat.le_of_ble_eq_true rfl⟩) ⟨(tw_pre tw_all hP hD hK hN).1, va_recv hK hP (ci := 8) (q0 := 0) rfl rfl, (tw_pre tw_all hP hD hK hN).2⟩ rfl rfl hl.1 rfl (lv_room (Nat.le_of_ble_eq_true rfl)) dX8_move_75 ⟨Nat.le_of_ble_eq_true rfl, Nat.le_of_ble_eq_true rfl⟩) (fun _ H locs z22 hP hD hS => ?_)
  rw [List.append_nil] at hP hD
  have hP : va_P G vwCl (wM cA aa S_20 L) H := hP
  have hD : va_D A (wM cA aa S_20 L) := hD
  refine lv_aload_n hx hb dX8_move_78 rfl (lv_at hl 0 rfl) ?_
  refine lv_iconst (v := 0) hx hb dX8_move_79 (by decide) ?_
  refine lv_iload_n hx hb dX8_move_80 rfl (lv_at hl 2 rfl) ?_
  refine lv_iload_n hx hb dX8_move_81 rfl (lv_at hl 1 rfl) ?_
  obtain ⟨S_23, hc24, h⟩ := tx_bd h
  refine tw_cv tw_all hP hD hS hA (va_runV (As := [.int 0, .int x2, .int x1]) (rest := []) ⟨hx, hb, hml, hown, hT⟩ (c_X8_lays l G cA H.size aa S_20 L (0 : Int32) x2 x1  S_23 hc24) (cwV 3 hT (tq_gV kw_37_22 kw_37_23 kw_38_0 kw_1_5 kw_38_1) rfl rfl rfl (by decide +kernel) ⟨Nat.le_of_ble_eq_true rfl, Nat.le_of_ble_eq_true rfl⟩) ⟨(tw_pre tw_all hP hD hK hN).1, va_recv hK hP (ci := 8) (q0 := 0) rfl rfl, (tw_pre tw_all hP hD hK hN).2⟩ rfl rfl hl.1 rfl (lv_room (Nat.le_of_ble_eq_true rfl)) dX8_move_82 ⟨Nat.le_of_ble_eq_true rfl, Nat.le_of_ble_eq_true rfl⟩) (fun _ H locs z25 hP hD hS => ?_)
  rw [List.append_nil] at hP hD
  have hP : va_P G vwCl (wM cA aa S_23 L) H := hP
  have hD : va_D A (wM cA aa S_23 L) := hD
  refine lv_iconst (v := 1) hx hb dX8_move_85 (by decide) ?_
  obtain ⟨rfl, rfl⟩ := tx_2 h
  exact W.zret (ty := .boolean) hx hb hr rfl (fun t ht hW => ⟨⟨_, (), rfl, rfl, by rw [ht]; exact hP, hD⟩, hS.F ht⟩) hS.2.2 dX8_move_86
set_option maxHeartbeats 4000000 in
set_option maxRecDepth 100000 in
theorem c_X8_move (l : Launch) (G : va_G) (cA : Nat → ClassId) (sz : Nat) (aa : Nat → Nat) (S : Tr) (L : Lo) (x1 : Int32) (x2 : Int32)  (r0 : Int32) (S' : Tr) (h : f_X8_move S x1 x2 = some (r0, S')) : Met l yX8_move (.code yX8_move cX8_move 3 (some .boolean) :: T0) ({ frames := 3, cells := 0, slots := 0, locals := 71 } : Room) (tqP G cA [.ref (aa 0), .int x1, .int x2] (wM cA aa S L) sz) (tqQi G cA (fun (r : Int32) (_ : Unit) => r = r0) (fun (_ : Unit) => wM cA aa S' L) (va_A (wM cA aa S L) sz)) 0 0 (va_A (wM cA aa S L) sz) := by
  refine Met.ofW (cc := cX8_move) (maxL := 3) (ret := (some .boolean)) (by decide) rfl ?_
  intro p e s m args below meth c s₁ B hml hv
  obtain ⟨rfl, hsz, hP, hK, hD0, hN⟩ := hv
  have hx := B.exec
  have hb := B.bytes
  have hr := B.returns
  have hts := atoms_spec (ws := .code yX8_move cX8_move 3 (some .boolean) :: T0) B.pre
  have hT : ∀ w ∈ T0, w.before _ s = true := fun w h => hts w (List.mem_cons_of_mem _ h)
  have hown : s.vm.findClass RX8 = some m.cls := findClass_of_methodNamed B.named
  have hlocks := B.notSynchronized
  subst hsz
  have hD := hD0.self (sz := s.heap.size)
  generalize hAe : va_A (wM cA aa S L) s.heap.size = A at hD ⊢
  have hA : ∀ q : Nat, s.heap.size ≤ q → A q := fun q h => by rw [← hAe]; exact Or.inr h
  have hS : va_S A s.heap s.heap [] := va_S.rf
  have hl := lv_entry ([.ref (aa 0), .int x1, .int x2]) (n := 3) (Nat.le_of_ble_eq_true rfl)
  rw [lg_entry_eq]
  generalize (lg_sl ([.ref (aa 0), .int x1, .int x2]) ++ List.replicate (3 - (lg_sl ([.ref (aa 0), .int x1, .int x2])).length) Slot.unset).toArray = ls at hl ⊢
  have hl : lv_has ls 3 [(0, .ref (aa 0)), (1, .int x1), (2, .int x2)] := hl
  have F : tF p s m ([.ref (aa 0), .int x1, .int x2] : List Value).toArray meth c G cA A RX8 cX8_move 3 (some .boolean) := ⟨hx, hb, hr, hml, hT, hown, hlocks, hK, hN, hA⟩
  obtain ⟨H, hH⟩ : ∃ z, z = s.heap := ⟨_, rfl⟩
  rw [← hH] at hP
  have hS : va_S A s.heap H [] := by rw [hH]; exact hS
  suffices hgo : G_X8_move p l e s m below meth c G cA A aa L x1 x2 r0 S' H [] (F0 m 0 ls []) by rw [hH] at hgo; exact hgo
  generalize ([] : List Loc) = locs at hS ⊢
  unfold f_X8_move at h
  refine lv_aload_n hx hb dX8_move_0 rfl (lv_at hl 0 rfl) ?_
  refine lv_iconst (v := 0) hx hb dX8_move_1 (by decide) ?_
  refine va_put (D := G) (ci := 8) (v := .int 0) (ty := .int) (C := RX8) (T := TX8) (N := 91) hx hb hT ku_8 tyX8 tyX8_ok nmX8 hown hK hP hD hS 0 rfl rfl 2 (by decide) (hT _ kw_14_0) (fun _ h9 => h9) rfl (by decide +kernel) rfl rfl (Nat.le_of_ble_eq_true rfl) dX8_move_2 (fun H locs hP hD hS => ?_)
  obtain ⟨S_1, eS_1, h⟩ := tx_lt h
  rw [sM_f2, eS_1] at hP hD
  refine lv_aload_n hx hb dX8_move_5 rfl (lv_at hl 0 rfl) ?_
  refine lv_iload_n hx hb dX8_move_6 rfl (lv_at hl 1 rfl) ?_
  obtain ⟨r2, hc3, h⟩ := tx_bd h
  refine tw_ci tw_all hP hD hS hA (va_runV (As := [.int x1]) (rest := []) ⟨hx, hb, hml, hown, hT⟩ (c_X8_isPiece l G cA H.size aa S_1 L x1  r2 hc3) (cwV 1 hT (tq_gV kw_30_22 kw_30_23 kw_31_0 kw_1_5 kw_31_1) rfl rfl rfl (by decide +kernel) ⟨Nat.le_of_ble_eq_true rfl, Nat.le_of_ble_eq_true rfl⟩) ⟨(tw_pre tw_all hP hD hK hN).1, va_recv hK hP (ci := 8) (q0 := 0) rfl rfl, (tw_pre tw_all hP hD hK hN).2⟩ rfl rfl hl.1 rfl (lv_room (Nat.le_of_ble_eq_true rfl)) dX8_move_7 ⟨Nat.le_of_ble_eq_true rfl, Nat.le_of_ble_eq_true rfl⟩) (fun _ _ H locs z4 hP hD hS => ?_)
  subst z4
  rw [List.append_nil] at hP hD
  have hP : va_P G vwCl (wM cA aa S_1 L) H := hP
  have hD : va_D A (wM cA aa S_1 L) := hD
  refine lv_if_eq (tgt := 31) hx hb dX8_move_10 (by decide) (fun c5 => ?_) (fun c5 => ?_)
  · have h := tx_pos c5 h
    refine lv_iconst (v := 0) hx hb dX8_move_31 (by decide) ?_
    obtain ⟨rfl, rfl⟩ := tx_2 h
    exact W.zret (ty := .boolean) hx hb hr rfl (fun t ht hW => ⟨⟨_, (), rfl, rfl, by rw [ht]; exact hP, hD⟩, hS.F ht⟩) hS.2.2 dX8_move_32
  · have h := tx_neg c5 h
    refine lv_aload_n hx hb dX8_move_13 rfl (lv_at hl 0 rfl) ?_
    refine lv_iload_n hx hb dX8_move_14 rfl (lv_at hl 2 rfl) ?_
    obtain ⟨r6, hc7, h⟩ := tx_bd h
    refine tw_ci tw_all hP hD hS hA (va_runV (As := [.int x2]) (rest := []) ⟨hx, hb, hml, hown, hT⟩ (c_X8_isPlace l G cA H.size aa S_1 L x2  r6 hc7) (cwV 1 hT (tq_gV kw_32_11 kw_32_12 kw_32_13 kw_1_5 kw_32_14) rfl rfl rfl (by decide +kernel) ⟨Nat.le_of_ble_eq_true rfl, Nat.le_of_ble_eq_true rfl⟩) ⟨(tw_pre tw_all hP hD hK hN).1, va_recv hK hP (ci := 8) (q0 := 0) rfl rfl, (tw_pre tw_all hP hD hK hN).2⟩ rfl rfl hl.1 rfl (lv_room (Nat.le_of_ble_eq_true rfl)) dX8_move_15 ⟨Nat.le_of_ble_eq_true rfl, Nat.le_of_ble_eq_true rfl⟩) (fun _ _ H locs z8 hP hD hS => ?_)
    subst z8
    rw [List.append_nil] at hP hD
    have hP : va_P G vwCl (wM cA aa S_1 L) H := hP
    have hD : va_D A (wM cA aa S_1 L) := hD
    refine lv_if_eq (tgt := 31) hx hb dX8_move_18 (by decide) (fun c9 => ?_) (fun c9 => ?_)
    · have h := tx_pos c9 h
      refine lv_iconst (v := 0) hx hb dX8_move_31 (by decide) ?_
      obtain ⟨rfl, rfl⟩ := tx_2 h
      exact W.zret (ty := .boolean) hx hb hr rfl (fun t ht hW => ⟨⟨_, (), rfl, rfl, by rw [ht]; exact hP, hD⟩, hS.F ht⟩) hS.2.2 dX8_move_32
    · have h := tx_neg c9 h
      refine lv_aload_n hx hb dX8_move_21 rfl (lv_at hl 0 rfl) ?_
      refine va_get (D := G) (ci := 8) (v := .ref (aa 53)) (C := RX8) (T := TX8) (N := 91) hx hb hT ku_8 hown hK hP 0 rfl rfl 52 (by decide) (hT _ kw_10_13) (fun _ h9 => h9) rfl dX8_move_22 ?_
      refine lv_iload_n hx hb dX8_move_25 rfl (lv_at hl 1 rfl) ?_
      obtain ⟨g10, h⟩ := tx_ck h
      refine va_iald (i := x1) hx hb hK hP 27 0 rfl rfl (tx_in g10) dX8_move_26 ?_
      refine lv_iconst (v := 1) hx hb dX8_move_27 (by decide) ?_
      refine lv_icmp_eq (tgt := 33) hx hb dX8_move_28 (by decide) (fun c11 => ?_) (fun c11 => ?_)
      · have h := tx_pos c11 h
        refine lv_aload_n hx hb dX8_move_33 rfl (lv_at hl 0 rfl) ?_
        refine va_get (D := G) (ci := 8) (v := .ref (aa 54)) (C := RX8) (T := TX8) (N := 91) hx hb hT ku_8 hown hK hP 0 rfl rfl 53 (by decide) (hT _ kw_10_14) (fun _ h9 => h9) rfl dX8_move_34 ?_
        refine lv_iload_n hx hb dX8_move_37 rfl (lv_at hl 1 rfl) ?_
        refine va_iald (i := x1) hx hb hK hP 28 0 rfl rfl (tx_in g10) dX8_move_38 ?_
        refine lv_iload_n hx hb dX8_move_39 rfl (lv_at hl 2 rfl) ?_
        refine lv_icmp_ne (tgt := 55) hx hb dX8_move_40 (by decide) (fun c12 => ?_) (fun c12 => ?_)
        · have h := tx_neg c12 h
          refine lv_aload_n hx hb dX8_move_55 rfl (lv_at hl 0 rfl) ?_
          refine lv_iconst (v := 0) hx hb dX8_move_56 (by decide) ?_
          refine lv_iload_n hx hb dX8_move_57 rfl (lv_at hl 2 rfl) ?_
          refine lv_iload_n hx hb dX8_move_58 rfl (lv_at hl 1 rfl) ?_
          obtain ⟨r13, hc14, h⟩ := tx_bd h
          refine tw_ci tw_all hP hD hS hA (va_runV (As := [.int 0, .int x2, .int x1]) (rest := []) ⟨hx, hb, hml, hown, hT⟩ (c_X8_doesHold l G cA H.size aa S_1 L (0 : Int32) x2 x1  r13 hc14) (cwV 3 hT (tq_gV kw_37_6 kw_37_7 kw_37_8 kw_1_5 kw_37_9) rfl rfl rfl (by decide +kernel) ⟨Nat.le_of_ble_eq_true rfl, Nat.le_of_ble_eq_true rfl⟩) ⟨(tw_pre tw_all hP hD hK hN).1, va_recv hK hP (ci := 8) (q0 := 0) rfl rfl, (tw_pre tw_all hP hD hK hN).2⟩ rfl rfl hl.1 rfl (lv_room (Nat.le_of_ble_eq_true rfl)) dX8_move_59 ⟨Nat.le_of_ble_eq_true rfl, Nat.le_of_ble_eq_true rfl⟩) (fun _ _ H locs z15 hP hD hS => ?_)
          subst z15
          rw [List.append_nil] at hP hD
          have hP : va_P G vwCl (wM cA aa S_1 L) H := hP
          have hD : va_D A (wM cA aa S_1 L) := hD
          refine lv_if_ne (tgt := 67) hx hb dX8_move_62 (by decide) (fun c16 => ?_) (fun c16 => ?_)
          · have h := tx_neg c16 h
            exact w_X8_move_J67 F x1 x2 S_1 H locs ls h hP hD hS (lv_sub hl [0, 1, 2] rfl)
          · have h := tx_pos c16 h
            refine lv_iconst (v := 0) hx hb dX8_move_65 (by decide) ?_
            obtain ⟨rfl, rfl⟩ := tx_2 h
            exact W.zret (ty := .boolean) hx hb hr rfl (fun t ht hW => ⟨⟨_, (), rfl, rfl, by rw [ht]; exact hP, hD⟩, hS.F ht⟩) hS.2.2 dX8_move_66
        · have h := tx_pos c12 h
          refine lv_aload_n hx hb dX8_move_43 rfl (lv_at hl 0 rfl) ?_
          refine lv_iconst (v := 0) hx hb dX8_move_44 (by decide) ?_
          refine lv_iload_n hx hb dX8_move_45 rfl (lv_at hl 1 rfl) ?_
          obtain ⟨r26, hc27, h⟩ := tx_bd h
          refine tw_ci tw_all hP hD hS hA (va_runV (As := [.int 0, .int x1]) (rest := []) ⟨hx, hb, hml, hown, hT⟩ (c_X8_aboveOf l G cA H.size aa S_1 L (0 : Int32) x1  r26 hc27) (cwV 2 hT (tq_gV kw_31_2 kw_31_3 kw_31_4 kw_1_5 kw_31_5) rfl rfl rfl (by decide +kernel) ⟨Nat.le_of_ble_eq_true rfl, Nat.le_of_ble_eq_true rfl⟩) ⟨(tw_pre tw_all hP hD hK hN).1, va_recv hK hP (ci := 8) (q0 := 0) rfl rfl, (tw_pre tw_all hP hD hK hN).2⟩ rfl rfl hl.1 rfl (lv_room (Nat.le_of_ble_eq_true rfl)) dX8_move_46 ⟨Nat.le_of_ble_eq_true rfl, Nat.le_of_ble_eq_true rfl⟩) (fun _ _ H locs z28 hP hD hS => ?_)
          subst z28
          rw [List.append_nil] at hP hD
          have hP : va_P G vwCl (wM cA aa S_1 L) H := hP
          have hD : va_D A (wM cA aa S_1 L) := hD
          refine lv_if_ne (tgt := 67) hx hb dX8_move_49 (by decide) (fun c29 => ?_) (fun c29 => ?_)
          · have h := tx_neg c29 h
            exact w_X8_move_J67 F x1 x2 S_1 H locs ls h hP hD hS (lv_sub hl [0, 1, 2] rfl)
          · have h := tx_pos c29 h
            refine lv_goto (tgt := 65) hx hb dX8_move_52 (by decide) ?_
            refine lv_iconst (v := 0) hx hb dX8_move_65 (by decide) ?_
            obtain ⟨rfl, rfl⟩ := tx_2 h
            exact W.zret (ty := .boolean) hx hb hr rfl (fun t ht hW => ⟨⟨_, (), rfl, rfl, by rw [ht]; exact hP, hD⟩, hS.F ht⟩) hS.2.2 dX8_move_66
      · have h := tx_neg c11 h
        refine lv_iconst (v := 0) hx hb dX8_move_31 (by decide) ?_
        obtain ⟨rfl, rfl⟩ := tx_2 h
        exact W.zret (ty := .boolean) hx hb hr rfl (fun t ht hW => ⟨⟨_, (), rfl, rfl, by rw [ht]; exact hP, hD⟩, hS.F ht⟩) hS.2.2 dX8_move_32
abbrev G_X8_named (p : Program) (l : Launch) (e : Env) (s : State) (m : MethodId) (below : List Frame) (meth : Method) (c : Code) (G : va_G) (cA : Nat → ClassId) (A : Nat → Prop) (aa : Nat → Nat) (L : Lo) (x1 : Int32) (r0 : Int32) (S' : Tr) (H : Heap) (locs : List Loc) (g : JFrame) : Prop := W p l e (headSpec (.code yX8_named cX8_named 2 (some .int) :: T0) ({ frames := 1, cells := 0, slots := 0, locals := 24 } : Room)).room s m ([.ref (aa 0), .int x1] : List Value).toArray below meth c H locs 0 0 (MQ below (tqQi G cA (fun (r : Int32) (_ : Unit) => r = r0) (fun (_ : Unit) => wM cA aa S' L) A) ([.ref (aa 0), .int x1] : List Value).toArray s 0 0 A) g
set_option maxHeartbeats 4000000 in
set_option maxRecDepth 100000 in
theorem c_X8_named (l : Launch) (G : va_G) (cA : Nat → ClassId) (sz : Nat) (aa : Nat → Nat) (S : Tr) (L : Lo) (x1 : Int32)  (r0 : Int32) (S' : Tr) (h : f_X8_named S x1 = some (r0, S')) : Met l yX8_named (.code yX8_named cX8_named 2 (some .int) :: T0) ({ frames := 1, cells := 0, slots := 0, locals := 24 } : Room) (tqP G cA [.ref (aa 0), .int x1] (wM cA aa S L) sz) (tqQi G cA (fun (r : Int32) (_ : Unit) => r = r0) (fun (_ : Unit) => wM cA aa S' L) (va_A (wM cA aa S L) sz)) 0 0 (va_A (wM cA aa S L) sz) := by
  refine Met.ofW (cc := cX8_named) (maxL := 2) (ret := (some .int)) (by decide) rfl ?_
  intro p e s m args below meth c s₁ B hml hv
  obtain ⟨rfl, hsz, hP, hK, hD0, hN⟩ := hv
  have hx := B.exec
  have hb := B.bytes
  have hr := B.returns
  have hts := atoms_spec (ws := .code yX8_named cX8_named 2 (some .int) :: T0) B.pre
  have hT : ∀ w ∈ T0, w.before _ s = true := fun w h => hts w (List.mem_cons_of_mem _ h)
  have hown : s.vm.findClass RX8 = some m.cls := findClass_of_methodNamed B.named
  have hlocks := B.notSynchronized
  subst hsz
  have hD := hD0.self (sz := s.heap.size)
  generalize hAe : va_A (wM cA aa S L) s.heap.size = A at hD ⊢
  have hA : ∀ q : Nat, s.heap.size ≤ q → A q := fun q h => by rw [← hAe]; exact Or.inr h
  have hS : va_S A s.heap s.heap [] := va_S.rf
  have hl := lv_entry ([.ref (aa 0), .int x1]) (n := 2) (Nat.le_of_ble_eq_true rfl)
  rw [lg_entry_eq]
  generalize (lg_sl ([.ref (aa 0), .int x1]) ++ List.replicate (2 - (lg_sl ([.ref (aa 0), .int x1])).length) Slot.unset).toArray = ls at hl ⊢
  have hl : lv_has ls 2 [(0, .ref (aa 0)), (1, .int x1)] := hl
  have F : tF p s m ([.ref (aa 0), .int x1] : List Value).toArray meth c G cA A RX8 cX8_named 2 (some .int) := ⟨hx, hb, hr, hml, hT, hown, hlocks, hK, hN, hA⟩
  obtain ⟨H, hH⟩ : ∃ z, z = s.heap := ⟨_, rfl⟩
  rw [← hH] at hP
  have hS : va_S A s.heap H [] := by rw [hH]; exact hS
  suffices hgo : G_X8_named p l e s m below meth c G cA A aa L x1 r0 S' H [] (F0 m 0 ls []) by rw [hH] at hgo; exact hgo
  generalize ([] : List Loc) = locs at hS ⊢
  unfold f_X8_named at h
  refine lv_aload_n hx hb dX8_named_0 rfl (lv_at hl 0 rfl) ?_
  refine lv_iconst (v := 0) hx hb dX8_named_1 (by decide) ?_
  refine va_put (D := G) (ci := 8) (v := .int 0) (ty := .int) (C := RX8) (T := TX8) (N := 91) hx hb hT ku_8 tyX8 tyX8_ok nmX8 hown hK hP hD hS 0 rfl rfl 2 (by decide) (hT _ kw_14_0) (fun _ h9 => h9) rfl (by decide +kernel) rfl rfl (Nat.le_of_ble_eq_true rfl) dX8_named_2 (fun H locs hP hD hS => ?_)
  obtain ⟨S_1, eS_1, h⟩ := tx_lt h
  rw [sM_f2, eS_1] at hP hD
  refine lv_aload_n hx hb dX8_named_5 rfl (lv_at hl 0 rfl) ?_
  refine va_get (D := G) (ci := 8) (v := .ref (aa 26)) (C := RX8) (T := TX8) (N := 91) hx hb hT ku_8 hown hK hP 0 rfl rfl 25 (by decide) (hT _ kw_9_17) (fun _ h9 => h9) rfl dX8_named_6 ?_
  refine lv_iconst (v := 0) hx hb dX8_named_9 (by decide) ?_
  refine lv_aload_n hx hb dX8_named_10 rfl (lv_at hl 0 rfl) ?_
  refine va_get (D := G) (ci := 8) (v := .int (S_1 0 13)) (C := RX8) (T := TX8) (N := 91) hx hb hT ku_8 hown hK hP 0 rfl rfl 13 (by decide) (hT _ kw_12_4) (fun _ h9 => h9) rfl dX8_named_11 ?_
  refine lv_iload_n hx hb dX8_named_14 rfl (lv_at hl 1 rfl) ?_
  obtain ⟨r2, hc3, h⟩ := tx_bd h
  refine tw_ci tw_all hP hD hS hA (va_runS (As := [.ref (aa 26), .int 0, .int (S_1 0 13), .int x1]) (rest := []) ⟨hx, hb, hml, hown, hT⟩ (c_X8_find_26 l G cA H.size aa S_1 L (0 : Int32) (S_1 0 13) x1  r2 hc3) (va_cwS 4 hT (tq_gS kw_24_18 kw_24_19 kw_1_5 kw_24_20) rfl rfl rfl (by decide +kernel) ⟨Nat.le_of_ble_eq_true rfl, Nat.le_of_ble_eq_true rfl⟩) (tw_pre tw_all hP hD hK hN) rfl rfl hl.1 rfl (lv_room (Nat.le_of_ble_eq_true rfl)) dX8_named_15 ⟨Nat.le_of_ble_eq_true rfl, Nat.le_of_ble_eq_true rfl⟩) (fun _ _ H locs z4 hP hD hS => ?_)
  subst z4
  rw [List.append_nil] at hP hD
  have hP : va_P G vwCl (wM cA aa S_1 L) H := hP
  have hD : va_D A (wM cA aa S_1 L) := hD
  obtain ⟨rfl, rfl⟩ := tx_2 h
  exact W.iret hx hb hr (fun t ht hW => ⟨⟨_, (), rfl, rfl, by rw [ht]; exact hP, hD⟩, hS.F ht⟩) hS.2.2 dX8_named_18
abbrev G_X8_noted (p : Program) (l : Launch) (e : Env) (s : State) (m : MethodId) (below : List Frame) (meth : Method) (c : Code) (G : va_G) (cA : Nat → ClassId) (A : Nat → Prop) (aa : Nat → Nat) (L : Lo) (x1 : Int32) (x2 : Int32) (x3 : Int32) (x4 : Int32) (r0 : Int32) (S' : Tr) (H : Heap) (locs : List Loc) (g : JFrame) : Prop := W p l e (headSpec (.code yX8_noted cX8_noted 5 (some .int) :: T0) ({ frames := 0, cells := 0, slots := 0, locals := 0 } : Room)).room s m ([.ref (aa 0), .int x1, .int x2, .int x3, .int x4] : List Value).toArray below meth c H locs 0 0 (MQ below (tqQi G cA (fun (r : Int32) (_ : Unit) => r = r0) (fun (_ : Unit) => wM cA aa S' L) A) ([.ref (aa 0), .int x1, .int x2, .int x3, .int x4] : List Value).toArray s 0 0 A) g
set_option maxHeartbeats 4000000 in
set_option maxRecDepth 100000 in
theorem c_X8_noted (l : Launch) (G : va_G) (cA : Nat → ClassId) (sz : Nat) (aa : Nat → Nat) (S : Tr) (L : Lo) (x1 : Int32) (x2 : Int32) (x3 : Int32) (x4 : Int32)  (r0 : Int32) (S' : Tr) (h : f_X8_noted S x1 x2 x3 x4 = some (r0, S')) : Met l yX8_noted (.code yX8_noted cX8_noted 5 (some .int) :: T0) ({ frames := 0, cells := 0, slots := 0, locals := 0 } : Room) (tqP G cA [.ref (aa 0), .int x1, .int x2, .int x3, .int x4] (wM cA aa S L) sz) (tqQi G cA (fun (r : Int32) (_ : Unit) => r = r0) (fun (_ : Unit) => wM cA aa S' L) (va_A (wM cA aa S L) sz)) 0 0 (va_A (wM cA aa S L) sz) := by
  refine Met.ofW (cc := cX8_noted) (maxL := 5) (ret := (some .int)) (by decide) rfl ?_
  intro p e s m args below meth c s₁ B hml hv
  obtain ⟨rfl, hsz, hP, hK, hD0, hN⟩ := hv
  have hx := B.exec
  have hb := B.bytes
  have hr := B.returns
  have hts := atoms_spec (ws := .code yX8_noted cX8_noted 5 (some .int) :: T0) B.pre
  have hT : ∀ w ∈ T0, w.before _ s = true := fun w h => hts w (List.mem_cons_of_mem _ h)
  have hown : s.vm.findClass RX8 = some m.cls := findClass_of_methodNamed B.named
  have hlocks := B.notSynchronized
  subst hsz
  have hD := hD0.self (sz := s.heap.size)
  generalize hAe : va_A (wM cA aa S L) s.heap.size = A at hD ⊢
  have hA : ∀ q : Nat, s.heap.size ≤ q → A q := fun q h => by rw [← hAe]; exact Or.inr h
  have hS : va_S A s.heap s.heap [] := va_S.rf
  have hl := lv_entry ([.ref (aa 0), .int x1, .int x2, .int x3, .int x4]) (n := 5) (Nat.le_of_ble_eq_true rfl)
  rw [lg_entry_eq]
  generalize (lg_sl ([.ref (aa 0), .int x1, .int x2, .int x3, .int x4]) ++ List.replicate (5 - (lg_sl ([.ref (aa 0), .int x1, .int x2, .int x3, .int x4])).length) Slot.unset).toArray = ls at hl ⊢
  have hl : lv_has ls 5 [(0, .ref (aa 0)), (1, .int x1), (2, .int x2), (3, .int x3), (4, .int x4)] := hl
  have F : tF p s m ([.ref (aa 0), .int x1, .int x2, .int x3, .int x4] : List Value).toArray meth c G cA A RX8 cX8_noted 5 (some .int) := ⟨hx, hb, hr, hml, hT, hown, hlocks, hK, hN, hA⟩
  obtain ⟨H, hH⟩ : ∃ z, z = s.heap := ⟨_, rfl⟩
  rw [← hH] at hP
  have hS : va_S A s.heap H [] := by rw [hH]; exact hS
  suffices hgo : G_X8_noted p l e s m below meth c G cA A aa L x1 x2 x3 x4 r0 S' H [] (F0 m 0 ls []) by rw [hH] at hgo; exact hgo
  generalize ([] : List Loc) = locs at hS ⊢
  unfold f_X8_noted at h
  refine lv_aload_n hx hb dX8_noted_0 rfl (lv_at hl 0 rfl) ?_
  refine va_get (D := G) (ci := 8) (v := .ref (aa 81)) (C := RX8) (T := TX8) (N := 91) hx hb hT ku_8 hown hK hP 0 rfl rfl 80 (by decide) (hT _ kw_11_7) (fun _ h9 => h9) rfl dX8_noted_1 ?_
  refine lv_iconst (v := 4) hx hb dX8_noted_4 (by decide) ?_
  refine lv_aload_n hx hb dX8_noted_5 rfl (lv_at hl 0 rfl) ?_
  refine va_get (D := G) (ci := 8) (v := .int (S 0 78)) (C := RX8) (T := TX8) (N := 91) hx hb hT ku_8 hown hK hP 0 rfl rfl 78 (by decide) (hT _ kw_12_15) (fun _ h9 => h9) rfl dX8_noted_6 ?_
  refine lv_imul hx hb dX8_noted_9 ?_
  refine lv_iload_n hx hb dX8_noted_10 rfl (lv_at hl 1 rfl) ?_
  obtain ⟨g1, h⟩ := tx_ck h
  refine va_iast (i := ((4 : Int32) * (S 0 78))) hx hb hK hP hD hS 44 0 rfl rfl (tx_in g1) dX8_noted_11 (fun H locs hP hD hS => ?_)
  obtain ⟨S_2, eS_2, h⟩ := tx_lt h
  rw [sM_a80, eS_2] at hP hD
  refine lv_aload_n hx hb dX8_noted_12 rfl (lv_at hl 0 rfl) ?_
  refine va_get (D := G) (ci := 8) (v := .ref (aa 81)) (C := RX8) (T := TX8) (N := 91) hx hb hT ku_8 hown hK hP 0 rfl rfl 80 (by decide) (hT _ kw_11_7) (fun _ h9 => h9) rfl dX8_noted_13 ?_
  refine lv_iconst (v := 4) hx hb dX8_noted_16 (by decide) ?_
  refine lv_aload_n hx hb dX8_noted_17 rfl (lv_at hl 0 rfl) ?_
  refine va_get (D := G) (ci := 8) (v := .int (S_2 0 78)) (C := RX8) (T := TX8) (N := 91) hx hb hT ku_8 hown hK hP 0 rfl rfl 78 (by decide) (hT _ kw_12_15) (fun _ h9 => h9) rfl dX8_noted_18 ?_
  refine lv_imul hx hb dX8_noted_21 ?_
  refine lv_iconst (v := 1) hx hb dX8_noted_22 (by decide) ?_
  refine lv_iadd hx hb dX8_noted_23 ?_
  refine lv_iload_n hx hb dX8_noted_24 rfl (lv_at hl 2 rfl) ?_
  obtain ⟨g3, h⟩ := tx_ck h
  refine va_iast (i := (((4 : Int32) * (S_2 0 78)) + 1)) hx hb hK hP hD hS 44 0 rfl rfl (tx_in g3) dX8_noted_25 (fun H locs hP hD hS => ?_)
  obtain ⟨S_4, eS_4, h⟩ := tx_lt h
  rw [sM_a80, eS_4] at hP hD
  refine lv_aload_n hx hb dX8_noted_26 rfl (lv_at hl 0 rfl) ?_
  refine va_get (D := G) (ci := 8) (v := .ref (aa 81)) (C := RX8) (T := TX8) (N := 91) hx hb hT ku_8 hown hK hP 0 rfl rfl 80 (by decide) (hT _ kw_11_7) (fun _ h9 => h9) rfl dX8_noted_27 ?_
  refine lv_iconst (v := 4) hx hb dX8_noted_30 (by decide) ?_
  refine lv_aload_n hx hb dX8_noted_31 rfl (lv_at hl 0 rfl) ?_
  refine va_get (D := G) (ci := 8) (v := .int (S_4 0 78)) (C := RX8) (T := TX8) (N := 91) hx hb hT ku_8 hown hK hP 0 rfl rfl 78 (by decide) (hT _ kw_12_15) (fun _ h9 => h9) rfl dX8_noted_32 ?_
  refine lv_imul hx hb dX8_noted_35 ?_
  refine lv_iconst (v := 2) hx hb dX8_noted_36 (by decide) ?_
  refine lv_iadd hx hb dX8_noted_37 ?_
  refine lv_iload_n hx hb dX8_noted_38 rfl (lv_at hl 3 rfl) ?_
  obtain ⟨g5, h⟩ := tx_ck h
  refine va_iast (i := (((4 : Int32) * (S_4 0 78)) + 2)) hx hb hK hP hD hS 44 0 rfl rfl (tx_in g5) dX8_noted_39 (fun H locs hP hD hS => ?_)
  obtain ⟨S_6, eS_6, h⟩ := tx_lt h
  rw [sM_a80, eS_6] at hP hD
  refine lv_aload_n hx hb dX8_noted_40 rfl (lv_at hl 0 rfl) ?_
  refine va_get (D := G) (ci := 8) (v := .ref (aa 81)) (C := RX8) (T := TX8) (N := 91) hx hb hT ku_8 hown hK hP 0 rfl rfl 80 (by decide) (hT _ kw_11_7) (fun _ h9 => h9) rfl dX8_noted_41 ?_
  refine lv_iconst (v := 4) hx hb dX8_noted_44 (by decide) ?_
  refine lv_aload_n hx hb dX8_noted_45 rfl (lv_at hl 0 rfl) ?_
  refine va_get (D := G) (ci := 8) (v := .int (S_6 0 78)) (C := RX8) (T := TX8) (N := 91) hx hb hT ku_8 hown hK hP 0 rfl rfl 78 (by decide) (hT _ kw_12_15) (fun _ h9 => h9) rfl dX8_noted_46 ?_
  refine lv_imul hx hb dX8_noted_49 ?_
  refine lv_iconst (v := 3) hx hb dX8_noted_50 (by decide) ?_
  refine lv_iadd hx hb dX8_noted_51 ?_
  refine lv_iload hx hb dX8_noted_52 (lv_at hl 4 rfl) ?_
  obtain ⟨g7, h⟩ := tx_ck h
  refine va_iast (i := (((4 : Int32) * (S_6 0 78)) + 3)) hx hb hK hP hD hS 44 0 rfl rfl (tx_in g7) dX8_noted_54 (fun H locs hP hD hS => ?_)
  obtain ⟨S_8, eS_8, h⟩ := tx_lt h
  rw [sM_a80, eS_8] at hP hD
  refine lv_aload_n hx hb dX8_noted_55 rfl (lv_at hl 0 rfl) ?_
  refine lv_dup hx hb dX8_noted_56 rfl ?_
  refine va_get (D := G) (ci := 8) (v := .int (S_8 0 78)) (C := RX8) (T := TX8) (N := 91) hx hb hT ku_8 hown hK hP 0 rfl rfl 78 (by decide) (hT _ kw_12_15) (fun _ h9 => h9) rfl dX8_noted_57 ?_
  refine lv_iconst (v := 1) hx hb dX8_noted_60 (by decide) ?_
  refine lv_iadd hx hb dX8_noted_61 ?_
  refine va_put (D := G) (ci := 8) (v := .int ((S_8 0 78) + 1)) (ty := .int) (C := RX8) (T := TX8) (N := 91) hx hb hT ku_8 tyX8 tyX8_ok nmX8 hown hK hP hD hS 0 rfl rfl 78 (by decide) (hT _ kw_12_15) (fun _ h9 => h9) rfl (by decide +kernel) rfl rfl (Nat.le_of_ble_eq_true rfl) dX8_noted_62 (fun H locs hP hD hS => ?_)
  obtain ⟨S_9, eS_9, h⟩ := tx_lt h
  rw [sM_f78, eS_9] at hP hD
  refine lv_aload_n hx hb dX8_noted_65 rfl (lv_at hl 0 rfl) ?_
  refine va_get (D := G) (ci := 8) (v := .int (S_9 0 78)) (C := RX8) (T := TX8) (N := 91) hx hb hT ku_8 hown hK hP 0 rfl rfl 78 (by decide) (hT _ kw_12_15) (fun _ h9 => h9) rfl dX8_noted_66 ?_
  refine lv_iconst (v := 1) hx hb dX8_noted_69 (by decide) ?_
  refine lv_isub hx hb dX8_noted_70 ?_
  obtain ⟨rfl, rfl⟩ := tx_2 h
  exact W.iret hx hb hr (fun t ht hW => ⟨⟨_, (), rfl, rfl, by rw [ht]; exact hP, hD⟩, hS.F ht⟩) hS.2.2 dX8_noted_71
abbrev G_X8_person (p : Program) (l : Launch) (e : Env) (s : State) (m : MethodId) (below : List Frame) (meth : Method) (c : Code) (G : va_G) (cA : Nat → ClassId) (A : Nat → Prop) (aa : Nat → Nat) (L : Lo) (x1 : Int32) (x2 : Int32) (r0 : Int32) (S' : Tr) (H : Heap) (locs : List Loc) (g : JFrame) : Prop := W p l e (headSpec (.code yX8_person cX8_person 3 (some .int) :: T0) ({ frames := 1, cells := 0, slots := 0, locals := 21 } : Room)).room s m ([.ref (aa 0), .int x1, .int x2] : List Value).toArray below meth c H locs 0 0 (MQ below (tqQi G cA (fun (r : Int32) (_ : Unit) => r = r0) (fun (_ : Unit) => wM cA aa S' L) A) ([.ref (aa 0), .int x1, .int x2] : List Value).toArray s 0 0 A) g
set_option maxHeartbeats 4000000 in
set_option maxRecDepth 100000 in
theorem c_X8_person (l : Launch) (G : va_G) (cA : Nat → ClassId) (sz : Nat) (aa : Nat → Nat) (S : Tr) (L : Lo) (x1 : Int32) (x2 : Int32)  (r0 : Int32) (S' : Tr) (h : f_X8_person S x1 x2 = some (r0, S')) : Met l yX8_person (.code yX8_person cX8_person 3 (some .int) :: T0) ({ frames := 1, cells := 0, slots := 0, locals := 21 } : Room) (tqP G cA [.ref (aa 0), .int x1, .int x2] (wM cA aa S L) sz) (tqQi G cA (fun (r : Int32) (_ : Unit) => r = r0) (fun (_ : Unit) => wM cA aa S' L) (va_A (wM cA aa S L) sz)) 0 0 (va_A (wM cA aa S L) sz) := by
  refine Met.ofW (cc := cX8_person) (maxL := 3) (ret := (some .int)) (by decide) rfl ?_
  intro p e s m args below meth c s₁ B hml hv
  obtain ⟨rfl, hsz, hP, hK, hD0, hN⟩ := hv
  have hx := B.exec
  have hb := B.bytes
  have hr := B.returns
  have hts := atoms_spec (ws := .code yX8_person cX8_person 3 (some .int) :: T0) B.pre
  have hT : ∀ w ∈ T0, w.before _ s = true := fun w h => hts w (List.mem_cons_of_mem _ h)
  have hown : s.vm.findClass RX8 = some m.cls := findClass_of_methodNamed B.named
  have hlocks := B.notSynchronized
  subst hsz
  have hD := hD0.self (sz := s.heap.size)
  generalize hAe : va_A (wM cA aa S L) s.heap.size = A at hD ⊢
  have hA : ∀ q : Nat, s.heap.size ≤ q → A q := fun q h => by rw [← hAe]; exact Or.inr h
  have hS : va_S A s.heap s.heap [] := va_S.rf
  have hl := lv_entry ([.ref (aa 0), .int x1, .int x2]) (n := 3) (Nat.le_of_ble_eq_true rfl)
  rw [lg_entry_eq]
  generalize (lg_sl ([.ref (aa 0), .int x1, .int x2]) ++ List.replicate (3 - (lg_sl ([.ref (aa 0), .int x1, .int x2])).length) Slot.unset).toArray = ls at hl ⊢
  have hl : lv_has ls 3 [(0, .ref (aa 0)), (1, .int x1), (2, .int x2)] := hl
  have F : tF p s m ([.ref (aa 0), .int x1, .int x2] : List Value).toArray meth c G cA A RX8 cX8_person 3 (some .int) := ⟨hx, hb, hr, hml, hT, hown, hlocks, hK, hN, hA⟩
  obtain ⟨H, hH⟩ : ∃ z, z = s.heap := ⟨_, rfl⟩
  rw [← hH] at hP
  have hS : va_S A s.heap H [] := by rw [hH]; exact hS
  suffices hgo : G_X8_person p l e s m below meth c G cA A aa L x1 x2 r0 S' H [] (F0 m 0 ls []) by rw [hH] at hgo; exact hgo
  generalize ([] : List Loc) = locs at hS ⊢
  unfold f_X8_person at h
  refine lv_aload_n hx hb dX8_person_0 rfl (lv_at hl 0 rfl) ?_
  refine lv_iconst (v := 0) hx hb dX8_person_1 (by decide) ?_
  refine va_put (D := G) (ci := 8) (v := .int 0) (ty := .int) (C := RX8) (T := TX8) (N := 91) hx hb hT ku_8 tyX8 tyX8_ok nmX8 hown hK hP hD hS 0 rfl rfl 2 (by decide) (hT _ kw_14_0) (fun _ h9 => h9) rfl (by decide +kernel) rfl rfl (Nat.le_of_ble_eq_true rfl) dX8_person_2 (fun H locs hP hD hS => ?_)
  obtain ⟨S_1, eS_1, h⟩ := tx_lt h
  rw [sM_f2, eS_1] at hP hD
  refine lv_aload_n hx hb dX8_person_5 rfl (lv_at hl 0 rfl) ?_
  refine lv_iload_n hx hb dX8_person_6 rfl (lv_at hl 1 rfl) ?_
  obtain ⟨r2, hc3, h⟩ := tx_bd h
  refine tw_ci tw_all hP hD hS hA (va_runV (As := [.int x1]) (rest := []) ⟨hx, hb, hml, hown, hT⟩ (c_X8_isPerson l G cA H.size aa S_1 L x1  r2 hc3) (cwV 1 hT (tq_gV kw_29_12 kw_29_13 kw_29_14 kw_1_5 kw_29_15) rfl rfl rfl (by decide +kernel) ⟨Nat.le_of_ble_eq_true rfl, Nat.le_of_ble_eq_true rfl⟩) ⟨(tw_pre tw_all hP hD hK hN).1, va_recv hK hP (ci := 8) (q0 := 0) rfl rfl, (tw_pre tw_all hP hD hK hN).2⟩ rfl rfl hl.1 rfl (lv_room (Nat.le_of_ble_eq_true rfl)) dX8_person_7 ⟨Nat.le_of_ble_eq_true rfl, Nat.le_of_ble_eq_true rfl⟩) (fun _ _ H locs z4 hP hD hS => ?_)
  subst z4
  rw [List.append_nil] at hP hD
  have hP : va_P G vwCl (wM cA aa S_1 L) H := hP
  have hD : va_D A (wM cA aa S_1 L) := hD
  refine lv_if_ne (tgt := 19) hx hb dX8_person_10 (by decide) (fun c5 => ?_) (fun c5 => ?_)
  · have h := tx_neg c5 h
    refine lv_iload_n hx hb dX8_person_19 rfl (lv_at hl 2 rfl) ?_
    by_cases c6 : x2 = 0
    · have h := tx_pos c6 h
      refine lv_tableIn (off := 36) (tgt := 63) hx hb dX8_person_20 (by rw [c6]; decide) (by rw [c6]; decide) (by rw [c6]; decide) (by decide) ?_
      refine lv_aload_n hx hb dX8_person_56 rfl (lv_at hl 0 rfl) ?_
      refine va_get (D := G) (ci := 8) (v := .ref (aa 27)) (C := RX8) (T := TX8) (N := 91) hx hb hT ku_8 hown hK hP 0 rfl rfl 26 (by decide) (hT _ kw_9_18) (fun _ h9 => h9) rfl dX8_person_57 ?_
      refine lv_iload_n hx hb dX8_person_60 rfl (lv_at hl 1 rfl) ?_
      obtain ⟨g7, h⟩ := tx_ck h
      refine va_iald (i := x1) hx hb hK hP 8 0 rfl rfl (tx_in g7) dX8_person_61 ?_
      obtain ⟨rfl, rfl⟩ := tx_2 h
      exact W.iret hx hb hr (fun t ht hW => ⟨⟨_, (), rfl, rfl, by rw [ht]; exact hP, hD⟩, hS.F ht⟩) hS.2.2 dX8_person_62
    · have h := tx_neg c6 h
      by_cases c8 : x2 = 1
      · have h := tx_pos c8 h
        refine lv_tableIn (off := 43) (tgt := 70) hx hb dX8_person_20 (by rw [c8]; decide) (by rw [c8]; decide) (by rw [c8]; decide) (by decide) ?_
        refine lv_aload_n hx hb dX8_person_63 rfl (lv_at hl 0 rfl) ?_
        refine va_get (D := G) (ci := 8) (v := .ref (aa 28)) (C := RX8) (T := TX8) (N := 91) hx hb hT ku_8 hown hK hP 0 rfl rfl 27 (by decide) (hT _ kw_9_19) (fun _ h9 => h9) rfl dX8_person_64 ?_
        refine lv_iload_n hx hb dX8_person_67 rfl (lv_at hl 1 rfl) ?_
        obtain ⟨g9, h⟩ := tx_ck h
        refine va_iald (i := x1) hx hb hK hP 9 0 rfl rfl (tx_in g9) dX8_person_68 ?_
        obtain ⟨rfl, rfl⟩ := tx_2 h
        exact W.iret hx hb hr (fun t ht hW => ⟨⟨_, (), rfl, rfl, by rw [ht]; exact hP, hD⟩, hS.F ht⟩) hS.2.2 dX8_person_69
      · have h := tx_neg c8 h
        by_cases c10 : x2 = 2
        · have h := tx_pos c10 h
          refine lv_tableIn (off := 50) (tgt := 77) hx hb dX8_person_20 (by rw [c10]; decide) (by rw [c10]; decide) (by rw [c10]; decide) (by decide) ?_
          refine lv_aload_n hx hb dX8_person_70 rfl (lv_at hl 0 rfl) ?_
          refine va_get (D := G) (ci := 8) (v := .ref (aa 58)) (C := RX8) (T := TX8) (N := 91) hx hb hT ku_8 hown hK hP 0 rfl rfl 57 (by decide) (hT _ kw_10_18) (fun _ h9 => h9) rfl dX8_person_71 ?_
          refine lv_iload_n hx hb dX8_person_74 rfl (lv_at hl 1 rfl) ?_
          obtain ⟨g11, h⟩ := tx_ck h
          refine va_iald (i := x1) hx hb hK hP 32 0 rfl rfl (tx_in g11) dX8_person_75 ?_
          obtain ⟨rfl, rfl⟩ := tx_2 h
          exact W.iret hx hb hr (fun t ht hW => ⟨⟨_, (), rfl, rfl, by rw [ht]; exact hP, hD⟩, hS.F ht⟩) hS.2.2 dX8_person_76
        · have h := tx_neg c10 h
          by_cases c12 : x2 = 3
          · have h := tx_pos c12 h
            refine lv_tableIn (off := 57) (tgt := 84) hx hb dX8_person_20 (by rw [c12]; decide) (by rw [c12]; decide) (by rw [c12]; decide) (by decide) ?_
            refine lv_aload_n hx hb dX8_person_77 rfl (lv_at hl 0 rfl) ?_
            refine va_get (D := G) (ci := 8) (v := .ref (aa 59)) (C := RX8) (T := TX8) (N := 91) hx hb hT ku_8 hown hK hP 0 rfl rfl 58 (by decide) (hT _ kw_10_19) (fun _ h9 => h9) rfl dX8_person_78 ?_
            refine lv_iload_n hx hb dX8_person_81 rfl (lv_at hl 1 rfl) ?_
            obtain ⟨g13, h⟩ := tx_ck h
            refine va_iald (i := x1) hx hb hK hP 33 0 rfl rfl (tx_in g13) dX8_person_82 ?_
            obtain ⟨rfl, rfl⟩ := tx_2 h
            exact W.iret hx hb hr (fun t ht hW => ⟨⟨_, (), rfl, rfl, by rw [ht]; exact hP, hD⟩, hS.F ht⟩) hS.2.2 dX8_person_83
          · have h := tx_neg c12 h
            by_cases c14 : x2 = 4
            · have h := tx_pos c14 h
              refine lv_tableIn (off := 64) (tgt := 91) hx hb dX8_person_20 (by rw [c14]; decide) (by rw [c14]; decide) (by rw [c14]; decide) (by decide) ?_
              refine lv_aload_n hx hb dX8_person_84 rfl (lv_at hl 0 rfl) ?_
              refine va_get (D := G) (ci := 8) (v := .ref (aa 60)) (C := RX8) (T := TX8) (N := 91) hx hb hT ku_8 hown hK hP 0 rfl rfl 59 (by decide) (hT _ kw_10_20) (fun _ h9 => h9) rfl dX8_person_85 ?_
              refine lv_iload_n hx hb dX8_person_88 rfl (lv_at hl 1 rfl) ?_
              obtain ⟨g15, h⟩ := tx_ck h
              refine va_iald (i := x1) hx hb hK hP 34 0 rfl rfl (tx_in g15) dX8_person_89 ?_
              obtain ⟨rfl, rfl⟩ := tx_2 h
              exact W.iret hx hb hr (fun t ht hW => ⟨⟨_, (), rfl, rfl, by rw [ht]; exact hP, hD⟩, hS.F ht⟩) hS.2.2 dX8_person_90
            · have h := tx_neg c14 h
              have kc6 := tq_eqn (a := x2.toInt) (b := 0) rfl (by decide) c6
              have kc8 := tq_eqn (a := x2.toInt) (b := 1) rfl (by decide) c8
              have kc10 := tq_eqn (a := x2.toInt) (b := 2) rfl (by decide) c10
              have kc12 := tq_eqn (a := x2.toInt) (b := 3) rfl (by decide) c12
              have kc14 := tq_eqn (a := x2.toInt) (b := 4) rfl (by decide) c14
              refine lv_tableOut (tgt := 91) hx hb dX8_person_20 (by omega) (by decide) ?_
              refine lv_aload_n hx hb dX8_person_91 rfl (lv_at hl 0 rfl) ?_
              refine lv_iconst (v := 2) hx hb dX8_person_92 (by decide) ?_
              obtain ⟨⟨r16, S_17⟩, hc18, h⟩ := tx_bd h
              replace h := tx_let (y := r16) rfl h
              replace h := tx_let (y := S_17) rfl h
              refine tw_ci tw_all hP hD hS hA (va_runV (As := [.int 2]) (rest := []) ⟨hx, hb, hml, hown, hT⟩ (c_X8_fails l G cA H.size aa S_1 L (2 : Int32)  r16 S_17 hc18) (cwV 1 hT (tq_gV kw_29_16 kw_29_17 kw_29_18 kw_1_5 kw_29_19) rfl rfl rfl (by decide +kernel) ⟨Nat.le_of_ble_eq_true rfl, Nat.le_of_ble_eq_true rfl⟩) ⟨(tw_pre tw_all hP hD hK hN).1, va_recv hK hP (ci := 8) (q0 := 0) rfl rfl, (tw_pre tw_all hP hD hK hN).2⟩ rfl rfl hl.1 rfl (lv_room (Nat.le_of_ble_eq_true rfl)) dX8_person_93 ⟨Nat.le_of_ble_eq_true rfl, Nat.le_of_ble_eq_true rfl⟩) (fun _ _ H locs z19 hP hD hS => ?_)
              subst z19
              rw [List.append_nil] at hP hD
              have hP : va_P G vwCl (wM cA aa S_17 L) H := hP
              have hD : va_D A (wM cA aa S_17 L) := hD
              obtain ⟨rfl, rfl⟩ := tx_2 h
              exact W.iret hx hb hr (fun t ht hW => ⟨⟨_, (), rfl, rfl, by rw [ht]; exact hP, hD⟩, hS.F ht⟩) hS.2.2 dX8_person_96
  · have h := tx_pos c5 h
    refine lv_aload_n hx hb dX8_person_13 rfl (lv_at hl 0 rfl) ?_
    refine lv_iconst (v := 1) hx hb dX8_person_14 (by decide) ?_
    obtain ⟨⟨r21, S_22⟩, hc23, h⟩ := tx_bd h
    replace h := tx_let (y := r21) rfl h
    replace h := tx_let (y := S_22) rfl h
    refine tw_ci tw_all hP hD hS hA (va_runV (As := [.int 1]) (rest := []) ⟨hx, hb, hml, hown, hT⟩ (c_X8_fails l G cA H.size aa S_1 L (1 : Int32)  r21 S_22 hc23) (cwV 1 hT (tq_gV kw_29_16 kw_29_17 kw_29_18 kw_1_5 kw_29_19) rfl rfl rfl (by decide +kernel) ⟨Nat.le_of_ble_eq_true rfl, Nat.le_of_ble_eq_true rfl⟩) ⟨(tw_pre tw_all hP hD hK hN).1, va_recv hK hP (ci := 8) (q0 := 0) rfl rfl, (tw_pre tw_all hP hD hK hN).2⟩ rfl rfl hl.1 rfl (lv_room (Nat.le_of_ble_eq_true rfl)) dX8_person_15 ⟨Nat.le_of_ble_eq_true rfl, Nat.le_of_ble_eq_true rfl⟩) (fun _ _ H locs z24 hP hD hS => ?_)
    subst z24
    rw [List.append_nil] at hP hD
    have hP : va_P G vwCl (wM cA aa S_22 L) H := hP
    have hD : va_D A (wM cA aa S_22 L) := hD
    obtain ⟨rfl, rfl⟩ := tx_2 h
    exact W.iret hx hb hr (fun t ht hW => ⟨⟨_, (), rfl, rfl, by rw [ht]; exact hP, hD⟩, hS.F ht⟩) hS.2.2 dX8_person_18
abbrev G_X8_piece (p : Program) (l : Launch) (e : Env) (s : State) (m : MethodId) (below : List Frame) (meth : Method) (c : Code) (G : va_G) (cA : Nat → ClassId) (A : Nat → Prop) (aa : Nat → Nat) (L : Lo) (x1 : Int32) (x2 : Int32) (r0 : Int32) (S' : Tr) (H : Heap) (locs : List Loc) (g : JFrame) : Prop := W p l e (headSpec (.code yX8_piece cX8_piece 3 (some .int) :: T0) ({ frames := 3, cells := 0, slots := 0, locals := 68 } : Room)).room s m ([.ref (aa 0), .int x1, .int x2] : List Value).toArray below meth c H locs 0 0 (MQ below (tqQi G cA (fun (r : Int32) (_ : Unit) => r = r0) (fun (_ : Unit) => wM cA aa S' L) A) ([.ref (aa 0), .int x1, .int x2] : List Value).toArray s 0 0 A) g
set_option maxHeartbeats 4000000 in
set_option maxRecDepth 100000 in
theorem c_X8_piece (l : Launch) (G : va_G) (cA : Nat → ClassId) (sz : Nat) (aa : Nat → Nat) (S : Tr) (L : Lo) (x1 : Int32) (x2 : Int32)  (r0 : Int32) (S' : Tr) (h : f_X8_piece S x1 x2 = some (r0, S')) : Met l yX8_piece (.code yX8_piece cX8_piece 3 (some .int) :: T0) ({ frames := 3, cells := 0, slots := 0, locals := 68 } : Room) (tqP G cA [.ref (aa 0), .int x1, .int x2] (wM cA aa S L) sz) (tqQi G cA (fun (r : Int32) (_ : Unit) => r = r0) (fun (_ : Unit) => wM cA aa S' L) (va_A (wM cA aa S L) sz)) 0 0 (va_A (wM cA aa S L) sz) := by
  refine Met.ofW (cc := cX8_piece) (maxL := 3) (ret := (some .int)) (by decide) rfl ?_
  intro p e s m args below meth c s₁ B hml hv
  obtain ⟨rfl, hsz, hP, hK, hD0, hN⟩ := hv
  have hx := B.exec
  have hb := B.bytes
  have hr := B.returns
  have hts := atoms_spec (ws := .code yX8_piece cX8_piece 3 (some .int) :: T0) B.pre
  have hT : ∀ w ∈ T0, w.before _ s = true := fun w h => hts w (List.mem_cons_of_mem _ h)
  have hown : s.vm.findClass RX8 = some m.cls := findClass_of_methodNamed B.named
  have hlocks := B.notSynchronized
  subst hsz
  have hD := hD0.self (sz := s.heap.size)
  generalize hAe : va_A (wM cA aa S L) s.heap.size = A at hD ⊢
  have hA : ∀ q : Nat, s.heap.size ≤ q → A q := fun q h => by rw [← hAe]; exact Or.inr h
  have hS : va_S A s.heap s.heap [] := va_S.rf
  have hl := lv_entry ([.ref (aa 0), .int x1, .int x2]) (n := 3) (Nat.le_of_ble_eq_true rfl)
  rw [lg_entry_eq]
  generalize (lg_sl ([.ref (aa 0), .int x1, .int x2]) ++ List.replicate (3 - (lg_sl ([.ref (aa 0), .int x1, .int x2])).length) Slot.unset).toArray = ls at hl ⊢
  have hl : lv_has ls 3 [(0, .ref (aa 0)), (1, .int x1), (2, .int x2)] := hl
  have F : tF p s m ([.ref (aa 0), .int x1, .int x2] : List Value).toArray meth c G cA A RX8 cX8_piece 3 (some .int) := ⟨hx, hb, hr, hml, hT, hown, hlocks, hK, hN, hA⟩
  obtain ⟨H, hH⟩ : ∃ z, z = s.heap := ⟨_, rfl⟩
  rw [← hH] at hP
  have hS : va_S A s.heap H [] := by rw [hH]; exact hS
  suffices hgo : G_X8_piece p l e s m below meth c G cA A aa L x1 x2 r0 S' H [] (F0 m 0 ls []) by rw [hH] at hgo; exact hgo
  generalize ([] : List Loc) = locs at hS ⊢
  unfold f_X8_piece at h
  refine lv_aload_n hx hb dX8_piece_0 rfl (lv_at hl 0 rfl) ?_
  refine lv_iconst (v := 0) hx hb dX8_piece_1 (by decide) ?_
  refine va_put (D := G) (ci := 8) (v := .int 0) (ty := .int) (C := RX8) (T := TX8) (N := 91) hx hb hT ku_8 tyX8 tyX8_ok nmX8 hown hK hP hD hS 0 rfl rfl 2 (by decide) (hT _ kw_14_0) (fun _ h9 => h9) rfl (by decide +kernel) rfl rfl (Nat.le_of_ble_eq_true rfl) dX8_piece_2 (fun H locs hP hD hS => ?_)
  obtain ⟨S_1, eS_1, h⟩ := tx_lt h
  rw [sM_f2, eS_1] at hP hD
  refine lv_aload_n hx hb dX8_piece_5 rfl (lv_at hl 0 rfl) ?_
  refine lv_iload_n hx hb dX8_piece_6 rfl (lv_at hl 1 rfl) ?_
  obtain ⟨r2, hc3, h⟩ := tx_bd h
  refine tw_ci tw_all hP hD hS hA (va_runV (As := [.int x1]) (rest := []) ⟨hx, hb, hml, hown, hT⟩ (c_X8_isPiece l G cA H.size aa S_1 L x1  r2 hc3) (cwV 1 hT (tq_gV kw_30_22 kw_30_23 kw_31_0 kw_1_5 kw_31_1) rfl rfl rfl (by decide +kernel) ⟨Nat.le_of_ble_eq_true rfl, Nat.le_of_ble_eq_true rfl⟩) ⟨(tw_pre tw_all hP hD hK hN).1, va_recv hK hP (ci := 8) (q0 := 0) rfl rfl, (tw_pre tw_all hP hD hK hN).2⟩ rfl rfl hl.1 rfl (lv_room (Nat.le_of_ble_eq_true rfl)) dX8_piece_7 ⟨Nat.le_of_ble_eq_true rfl, Nat.le_of_ble_eq_true rfl⟩) (fun _ _ H locs z4 hP hD hS => ?_)
  subst z4
  rw [List.append_nil] at hP hD
  have hP : va_P G vwCl (wM cA aa S_1 L) H := hP
  have hD : va_D A (wM cA aa S_1 L) := hD
  refine lv_if_ne (tgt := 15) hx hb dX8_piece_10 (by decide) (fun c5 => ?_) (fun c5 => ?_)
  · have h := tx_neg c5 h
    refine lv_iload_n hx hb dX8_piece_15 rfl (lv_at hl 2 rfl) ?_
    by_cases c6 : x2 = 0
    · have h := tx_pos c6 h
      refine lv_tableIn (off := 40) (tgt := 63) hx hb dX8_piece_16 (by rw [c6]; decide) (by rw [c6]; decide) (by rw [c6]; decide) (by decide) ?_
      refine lv_aload_n hx hb dX8_piece_56 rfl (lv_at hl 0 rfl) ?_
      refine va_get (D := G) (ci := 8) (v := .ref (aa 30)) (C := RX8) (T := TX8) (N := 91) hx hb hT ku_8 hown hK hP 0 rfl rfl 29 (by decide) (hT _ kw_9_21) (fun _ h9 => h9) rfl dX8_piece_57 ?_
      refine lv_iload_n hx hb dX8_piece_60 rfl (lv_at hl 1 rfl) ?_
      obtain ⟨g7, h⟩ := tx_ck h
      refine va_iald (i := x1) hx hb hK hP 11 0 rfl rfl (tx_in g7) dX8_piece_61 ?_
      obtain ⟨rfl, rfl⟩ := tx_2 h
      exact W.iret hx hb hr (fun t ht hW => ⟨⟨_, (), rfl, rfl, by rw [ht]; exact hP, hD⟩, hS.F ht⟩) hS.2.2 dX8_piece_62
    · have h := tx_neg c6 h
      by_cases c8 : x2 = 1
      · have h := tx_pos c8 h
        refine lv_tableIn (off := 47) (tgt := 70) hx hb dX8_piece_16 (by rw [c8]; decide) (by rw [c8]; decide) (by rw [c8]; decide) (by decide) ?_
        refine lv_aload_n hx hb dX8_piece_63 rfl (lv_at hl 0 rfl) ?_
        refine va_get (D := G) (ci := 8) (v := .ref (aa 31)) (C := RX8) (T := TX8) (N := 91) hx hb hT ku_8 hown hK hP 0 rfl rfl 30 (by decide) (hT _ kw_9_22) (fun _ h9 => h9) rfl dX8_piece_64 ?_
        refine lv_iload_n hx hb dX8_piece_67 rfl (lv_at hl 1 rfl) ?_
        obtain ⟨g9, h⟩ := tx_ck h
        refine va_iald (i := x1) hx hb hK hP 12 0 rfl rfl (tx_in g9) dX8_piece_68 ?_
        obtain ⟨rfl, rfl⟩ := tx_2 h
        exact W.iret hx hb hr (fun t ht hW => ⟨⟨_, (), rfl, rfl, by rw [ht]; exact hP, hD⟩, hS.F ht⟩) hS.2.2 dX8_piece_69
      · have h := tx_neg c8 h
        by_cases c10 : x2 = 2
        · have h := tx_pos c10 h
          refine lv_tableIn (off := 54) (tgt := 77) hx hb dX8_piece_16 (by rw [c10]; decide) (by rw [c10]; decide) (by rw [c10]; decide) (by decide) ?_
          refine lv_aload_n hx hb dX8_piece_70 rfl (lv_at hl 0 rfl) ?_
          refine va_get (D := G) (ci := 8) (v := .ref (aa 32)) (C := RX8) (T := TX8) (N := 91) hx hb hT ku_8 hown hK hP 0 rfl rfl 31 (by decide) (hT _ kw_9_23) (fun _ h9 => h9) rfl dX8_piece_71 ?_
          refine lv_iload_n hx hb dX8_piece_74 rfl (lv_at hl 1 rfl) ?_
          obtain ⟨g11, h⟩ := tx_ck h
          refine va_iald (i := x1) hx hb hK hP 13 0 rfl rfl (tx_in g11) dX8_piece_75 ?_
          obtain ⟨rfl, rfl⟩ := tx_2 h
          exact W.iret hx hb hr (fun t ht hW => ⟨⟨_, (), rfl, rfl, by rw [ht]; exact hP, hD⟩, hS.F ht⟩) hS.2.2 dX8_piece_76
        · have h := tx_neg c10 h
          by_cases c12 : x2 = 3
          · have h := tx_pos c12 h
            refine lv_tableIn (off := 61) (tgt := 84) hx hb dX8_piece_16 (by rw [c12]; decide) (by rw [c12]; decide) (by rw [c12]; decide) (by decide) ?_
            refine lv_aload_n hx hb dX8_piece_77 rfl (lv_at hl 0 rfl) ?_
            refine va_get (D := G) (ci := 8) (v := .ref (aa 53)) (C := RX8) (T := TX8) (N := 91) hx hb hT ku_8 hown hK hP 0 rfl rfl 52 (by decide) (hT _ kw_10_13) (fun _ h9 => h9) rfl dX8_piece_78 ?_
            refine lv_iload_n hx hb dX8_piece_81 rfl (lv_at hl 1 rfl) ?_
            obtain ⟨g13, h⟩ := tx_ck h
            refine va_iald (i := x1) hx hb hK hP 27 0 rfl rfl (tx_in g13) dX8_piece_82 ?_
            obtain ⟨rfl, rfl⟩ := tx_2 h
            exact W.iret hx hb hr (fun t ht hW => ⟨⟨_, (), rfl, rfl, by rw [ht]; exact hP, hD⟩, hS.F ht⟩) hS.2.2 dX8_piece_83
          · have h := tx_neg c12 h
            by_cases c14 : x2 = 4
            · have h := tx_pos c14 h
              refine lv_tableIn (off := 68) (tgt := 91) hx hb dX8_piece_16 (by rw [c14]; decide) (by rw [c14]; decide) (by rw [c14]; decide) (by decide) ?_
              refine lv_aload_n hx hb dX8_piece_84 rfl (lv_at hl 0 rfl) ?_
              refine va_get (D := G) (ci := 8) (v := .ref (aa 54)) (C := RX8) (T := TX8) (N := 91) hx hb hT ku_8 hown hK hP 0 rfl rfl 53 (by decide) (hT _ kw_10_14) (fun _ h9 => h9) rfl dX8_piece_85 ?_
              refine lv_iload_n hx hb dX8_piece_88 rfl (lv_at hl 1 rfl) ?_
              obtain ⟨g15, h⟩ := tx_ck h
              refine va_iald (i := x1) hx hb hK hP 28 0 rfl rfl (tx_in g15) dX8_piece_89 ?_
              obtain ⟨rfl, rfl⟩ := tx_2 h
              exact W.iret hx hb hr (fun t ht hW => ⟨⟨_, (), rfl, rfl, by rw [ht]; exact hP, hD⟩, hS.F ht⟩) hS.2.2 dX8_piece_90
            · have h := tx_neg c14 h
              by_cases c16 : x2 = 5
              · have h := tx_pos c16 h
                refine lv_tableIn (off := 75) (tgt := 98) hx hb dX8_piece_16 (by rw [c16]; decide) (by rw [c16]; decide) (by rw [c16]; decide) (by decide) ?_
                refine lv_aload_n hx hb dX8_piece_91 rfl (lv_at hl 0 rfl) ?_
                refine lv_iconst (v := 0) hx hb dX8_piece_92 (by decide) ?_
                refine lv_iload_n hx hb dX8_piece_93 rfl (lv_at hl 1 rfl) ?_
                obtain ⟨r17, hc18, h⟩ := tx_bd h
                refine tw_ci tw_all hP hD hS hA (va_runV (As := [.int 0, .int x1]) (rest := []) ⟨hx, hb, hml, hown, hT⟩ (c_X8_aboveOf l G cA H.size aa S_1 L (0 : Int32) x1  r17 hc18) (cwV 2 hT (tq_gV kw_31_2 kw_31_3 kw_31_4 kw_1_5 kw_31_5) rfl rfl rfl (by decide +kernel) ⟨Nat.le_of_ble_eq_true rfl, Nat.le_of_ble_eq_true rfl⟩) ⟨(tw_pre tw_all hP hD hK hN).1, va_recv hK hP (ci := 8) (q0 := 0) rfl rfl, (tw_pre tw_all hP hD hK hN).2⟩ rfl rfl hl.1 rfl (lv_room (Nat.le_of_ble_eq_true rfl)) dX8_piece_94 ⟨Nat.le_of_ble_eq_true rfl, Nat.le_of_ble_eq_true rfl⟩) (fun _ _ H locs z19 hP hD hS => ?_)
                subst z19
                rw [List.append_nil] at hP hD
                have hP : va_P G vwCl (wM cA aa S_1 L) H := hP
                have hD : va_D A (wM cA aa S_1 L) := hD
                obtain ⟨rfl, rfl⟩ := tx_2 h
                exact W.iret hx hb hr (fun t ht hW => ⟨⟨_, (), rfl, rfl, by rw [ht]; exact hP, hD⟩, hS.F ht⟩) hS.2.2 dX8_piece_97
              · have h := tx_neg c16 h
                have kc6 := tq_eqn (a := x2.toInt) (b := 0) rfl (by decide) c6
                have kc8 := tq_eqn (a := x2.toInt) (b := 1) rfl (by decide) c8
                have kc10 := tq_eqn (a := x2.toInt) (b := 2) rfl (by decide) c10
                have kc12 := tq_eqn (a := x2.toInt) (b := 3) rfl (by decide) c12
                have kc14 := tq_eqn (a := x2.toInt) (b := 4) rfl (by decide) c14
                have kc16 := tq_eqn (a := x2.toInt) (b := 5) rfl (by decide) c16
                refine lv_tableOut (tgt := 98) hx hb dX8_piece_16 (by omega) (by decide) ?_
                refine lv_iconst (v := (-1)) hx hb dX8_piece_98 (by decide) ?_
                obtain ⟨rfl, rfl⟩ := tx_2 h
                exact W.iret hx hb hr (fun t ht hW => ⟨⟨_, (), rfl, rfl, by rw [ht]; exact hP, hD⟩, hS.F ht⟩) hS.2.2 dX8_piece_99
  · have h := tx_pos c5 h
    refine lv_iconst (v := (-1)) hx hb dX8_piece_13 (by decide) ?_
    obtain ⟨rfl, rfl⟩ := tx_2 h
    exact W.iret hx hb hr (fun t ht hW => ⟨⟨_, (), rfl, rfl, by rw [ht]; exact hP, hD⟩, hS.F ht⟩) hS.2.2 dX8_piece_14
abbrev G_X8_place (p : Program) (l : Launch) (e : Env) (s : State) (m : MethodId) (below : List Frame) (meth : Method) (c : Code) (G : va_G) (cA : Nat → ClassId) (A : Nat → Prop) (aa : Nat → Nat) (L : Lo) (x1 : Int32) (x2 : Int32) (r0 : Int32) (S' : Tr) (H : Heap) (locs : List Loc) (g : JFrame) : Prop := W p l e (headSpec (.code yX8_place cX8_place 3 (some .int) :: T0) ({ frames := 2, cells := 0, slots := 0, locals := 47 } : Room)).room s m ([.ref (aa 0), .int x1, .int x2] : List Value).toArray below meth c H locs 0 0 (MQ below (tqQi G cA (fun (r : Int32) (_ : Unit) => r = r0) (fun (_ : Unit) => wM cA aa S' L) A) ([.ref (aa 0), .int x1, .int x2] : List Value).toArray s 0 0 A) g
set_option maxHeartbeats 4000000 in
set_option maxRecDepth 100000 in
theorem c_X8_place (l : Launch) (G : va_G) (cA : Nat → ClassId) (sz : Nat) (aa : Nat → Nat) (S : Tr) (L : Lo) (x1 : Int32) (x2 : Int32)  (r0 : Int32) (S' : Tr) (h : f_X8_place S x1 x2 = some (r0, S')) : Met l yX8_place (.code yX8_place cX8_place 3 (some .int) :: T0) ({ frames := 2, cells := 0, slots := 0, locals := 47 } : Room) (tqP G cA [.ref (aa 0), .int x1, .int x2] (wM cA aa S L) sz) (tqQi G cA (fun (r : Int32) (_ : Unit) => r = r0) (fun (_ : Unit) => wM cA aa S' L) (va_A (wM cA aa S L) sz)) 0 0 (va_A (wM cA aa S L) sz) := by
  refine Met.ofW (cc := cX8_place) (maxL := 3) (ret := (some .int)) (by decide) rfl ?_
  intro p e s m args below meth c s₁ B hml hv
  obtain ⟨rfl, hsz, hP, hK, hD0, hN⟩ := hv
  have hx := B.exec
  have hb := B.bytes
  have hr := B.returns
  have hts := atoms_spec (ws := .code yX8_place cX8_place 3 (some .int) :: T0) B.pre
  have hT : ∀ w ∈ T0, w.before _ s = true := fun w h => hts w (List.mem_cons_of_mem _ h)
  have hown : s.vm.findClass RX8 = some m.cls := findClass_of_methodNamed B.named
  have hlocks := B.notSynchronized
  subst hsz
  have hD := hD0.self (sz := s.heap.size)
  generalize hAe : va_A (wM cA aa S L) s.heap.size = A at hD ⊢
  have hA : ∀ q : Nat, s.heap.size ≤ q → A q := fun q h => by rw [← hAe]; exact Or.inr h
  have hS : va_S A s.heap s.heap [] := va_S.rf
  have hl := lv_entry ([.ref (aa 0), .int x1, .int x2]) (n := 3) (Nat.le_of_ble_eq_true rfl)
  rw [lg_entry_eq]
  generalize (lg_sl ([.ref (aa 0), .int x1, .int x2]) ++ List.replicate (3 - (lg_sl ([.ref (aa 0), .int x1, .int x2])).length) Slot.unset).toArray = ls at hl ⊢
  have hl : lv_has ls 3 [(0, .ref (aa 0)), (1, .int x1), (2, .int x2)] := hl
  have F : tF p s m ([.ref (aa 0), .int x1, .int x2] : List Value).toArray meth c G cA A RX8 cX8_place 3 (some .int) := ⟨hx, hb, hr, hml, hT, hown, hlocks, hK, hN, hA⟩
  obtain ⟨H, hH⟩ : ∃ z, z = s.heap := ⟨_, rfl⟩
  rw [← hH] at hP
  have hS : va_S A s.heap H [] := by rw [hH]; exact hS
  suffices hgo : G_X8_place p l e s m below meth c G cA A aa L x1 x2 r0 S' H [] (F0 m 0 ls []) by rw [hH] at hgo; exact hgo
  generalize ([] : List Loc) = locs at hS ⊢
  unfold f_X8_place at h
  refine lv_aload_n hx hb dX8_place_0 rfl (lv_at hl 0 rfl) ?_
  refine lv_iconst (v := 0) hx hb dX8_place_1 (by decide) ?_
  refine va_put (D := G) (ci := 8) (v := .int 0) (ty := .int) (C := RX8) (T := TX8) (N := 91) hx hb hT ku_8 tyX8 tyX8_ok nmX8 hown hK hP hD hS 0 rfl rfl 2 (by decide) (hT _ kw_14_0) (fun _ h9 => h9) rfl (by decide +kernel) rfl rfl (Nat.le_of_ble_eq_true rfl) dX8_place_2 (fun H locs hP hD hS => ?_)
  obtain ⟨S_1, eS_1, h⟩ := tx_lt h
  rw [sM_f2, eS_1] at hP hD
  refine lv_aload_n hx hb dX8_place_5 rfl (lv_at hl 0 rfl) ?_
  refine lv_iload_n hx hb dX8_place_6 rfl (lv_at hl 1 rfl) ?_
  obtain ⟨r2, hc3, h⟩ := tx_bd h
  refine tw_ci tw_all hP hD hS hA (va_runV (As := [.int x1]) (rest := []) ⟨hx, hb, hml, hown, hT⟩ (c_X8_isPlace l G cA H.size aa S_1 L x1  r2 hc3) (cwV 1 hT (tq_gV kw_32_11 kw_32_12 kw_32_13 kw_1_5 kw_32_14) rfl rfl rfl (by decide +kernel) ⟨Nat.le_of_ble_eq_true rfl, Nat.le_of_ble_eq_true rfl⟩) ⟨(tw_pre tw_all hP hD hK hN).1, va_recv hK hP (ci := 8) (q0 := 0) rfl rfl, (tw_pre tw_all hP hD hK hN).2⟩ rfl rfl hl.1 rfl (lv_room (Nat.le_of_ble_eq_true rfl)) dX8_place_7 ⟨Nat.le_of_ble_eq_true rfl, Nat.le_of_ble_eq_true rfl⟩) (fun _ _ H locs z4 hP hD hS => ?_)
  subst z4
  rw [List.append_nil] at hP hD
  have hP : va_P G vwCl (wM cA aa S_1 L) H := hP
  have hD : va_D A (wM cA aa S_1 L) := hD
  refine lv_if_ne (tgt := 15) hx hb dX8_place_10 (by decide) (fun c5 => ?_) (fun c5 => ?_)
  · have h := tx_neg c5 h
    refine lv_iload_n hx hb dX8_place_15 rfl (lv_at hl 2 rfl) ?_
    by_cases c6 : x2 = 0
    · have h := tx_pos c6 h
      refine lv_tableIn (off := 36) (tgt := 59) hx hb dX8_place_16 (by rw [c6]; decide) (by rw [c6]; decide) (by rw [c6]; decide) (by decide) ?_
      refine lv_aload_n hx hb dX8_place_52 rfl (lv_at hl 0 rfl) ?_
      refine va_get (D := G) (ci := 8) (v := .ref (aa 24)) (C := RX8) (T := TX8) (N := 91) hx hb hT ku_8 hown hK hP 0 rfl rfl 23 (by decide) (hT _ kw_9_15) (fun _ h9 => h9) rfl dX8_place_53 ?_
      refine lv_iload_n hx hb dX8_place_56 rfl (lv_at hl 1 rfl) ?_
      obtain ⟨g7, h⟩ := tx_ck h
      refine va_iald (i := x1) hx hb hK hP 5 0 rfl rfl (tx_in g7) dX8_place_57 ?_
      obtain ⟨rfl, rfl⟩ := tx_2 h
      exact W.iret hx hb hr (fun t ht hW => ⟨⟨_, (), rfl, rfl, by rw [ht]; exact hP, hD⟩, hS.F ht⟩) hS.2.2 dX8_place_58
    · have h := tx_neg c6 h
      by_cases c8 : x2 = 1
      · have h := tx_pos c8 h
        refine lv_tableIn (off := 43) (tgt := 66) hx hb dX8_place_16 (by rw [c8]; decide) (by rw [c8]; decide) (by rw [c8]; decide) (by decide) ?_
        refine lv_aload_n hx hb dX8_place_59 rfl (lv_at hl 0 rfl) ?_
        refine va_get (D := G) (ci := 8) (v := .ref (aa 25)) (C := RX8) (T := TX8) (N := 91) hx hb hT ku_8 hown hK hP 0 rfl rfl 24 (by decide) (hT _ kw_9_16) (fun _ h9 => h9) rfl dX8_place_60 ?_
        refine lv_iload_n hx hb dX8_place_63 rfl (lv_at hl 1 rfl) ?_
        obtain ⟨g9, h⟩ := tx_ck h
        refine va_iald (i := x1) hx hb hK hP 6 0 rfl rfl (tx_in g9) dX8_place_64 ?_
        obtain ⟨rfl, rfl⟩ := tx_2 h
        exact W.iret hx hb hr (fun t ht hW => ⟨⟨_, (), rfl, rfl, by rw [ht]; exact hP, hD⟩, hS.F ht⟩) hS.2.2 dX8_place_65
      · have h := tx_neg c8 h
        by_cases c10 : x2 = 2
        · have h := tx_pos c10 h
          refine lv_tableIn (off := 50) (tgt := 73) hx hb dX8_place_16 (by rw [c10]; decide) (by rw [c10]; decide) (by rw [c10]; decide) (by decide) ?_
          refine lv_aload_n hx hb dX8_place_66 rfl (lv_at hl 0 rfl) ?_
          refine lv_iconst (v := 0) hx hb dX8_place_67 (by decide) ?_
          refine lv_iload_n hx hb dX8_place_68 rfl (lv_at hl 1 rfl) ?_
          obtain ⟨r11, hc12, h⟩ := tx_bd h
          refine tw_ci tw_all hP hD hS hA (va_runV (As := [.int 0, .int x1]) (rest := []) ⟨hx, hb, hml, hown, hT⟩ (c_X8_weightIn l G cA H.size aa S_1 L (0 : Int32) x1  r11 hc12) (cwV 2 hT (tq_gV kw_32_15 kw_32_16 kw_32_17 kw_1_5 kw_32_18) rfl rfl rfl (by decide +kernel) ⟨Nat.le_of_ble_eq_true rfl, Nat.le_of_ble_eq_true rfl⟩) ⟨(tw_pre tw_all hP hD hK hN).1, va_recv hK hP (ci := 8) (q0 := 0) rfl rfl, (tw_pre tw_all hP hD hK hN).2⟩ rfl rfl hl.1 rfl (lv_room (Nat.le_of_ble_eq_true rfl)) dX8_place_69 ⟨Nat.le_of_ble_eq_true rfl, Nat.le_of_ble_eq_true rfl⟩) (fun _ _ H locs z13 hP hD hS => ?_)
          subst z13
          rw [List.append_nil] at hP hD
          have hP : va_P G vwCl (wM cA aa S_1 L) H := hP
          have hD : va_D A (wM cA aa S_1 L) := hD
          obtain ⟨rfl, rfl⟩ := tx_2 h
          exact W.iret hx hb hr (fun t ht hW => ⟨⟨_, (), rfl, rfl, by rw [ht]; exact hP, hD⟩, hS.F ht⟩) hS.2.2 dX8_place_72
        · have h := tx_neg c10 h
          by_cases c14 : x2 = 3
          · have h := tx_pos c14 h
            refine lv_tableIn (off := 57) (tgt := 80) hx hb dX8_place_16 (by rw [c14]; decide) (by rw [c14]; decide) (by rw [c14]; decide) (by decide) ?_
            refine lv_aload_n hx hb dX8_place_73 rfl (lv_at hl 0 rfl) ?_
            refine va_get (D := G) (ci := 8) (v := .ref (aa 56)) (C := RX8) (T := TX8) (N := 91) hx hb hT ku_8 hown hK hP 0 rfl rfl 55 (by decide) (hT _ kw_10_16) (fun _ h9 => h9) rfl dX8_place_74 ?_
            refine lv_iload_n hx hb dX8_place_77 rfl (lv_at hl 1 rfl) ?_
            obtain ⟨g15, h⟩ := tx_ck h
            refine va_iald (i := x1) hx hb hK hP 30 0 rfl rfl (tx_in g15) dX8_place_78 ?_
            obtain ⟨rfl, rfl⟩ := tx_2 h
            exact W.iret hx hb hr (fun t ht hW => ⟨⟨_, (), rfl, rfl, by rw [ht]; exact hP, hD⟩, hS.F ht⟩) hS.2.2 dX8_place_79
          · have h := tx_neg c14 h
            by_cases c16 : x2 = 4
            · have h := tx_pos c16 h
              refine lv_tableIn (off := 64) (tgt := 89) hx hb dX8_place_16 (by rw [c16]; decide) (by rw [c16]; decide) (by rw [c16]; decide) (by decide) ?_
              refine lv_aload_n hx hb dX8_place_80 rfl (lv_at hl 0 rfl) ?_
              refine va_get (D := G) (ci := 8) (v := .ref (aa 56)) (C := RX8) (T := TX8) (N := 91) hx hb hT ku_8 hown hK hP 0 rfl rfl 55 (by decide) (hT _ kw_10_16) (fun _ h9 => h9) rfl dX8_place_81 ?_
              refine lv_iload_n hx hb dX8_place_84 rfl (lv_at hl 1 rfl) ?_
              obtain ⟨g17, h⟩ := tx_ck h
              refine va_iald (i := x1) hx hb hK hP 30 0 rfl rfl (tx_in g17) dX8_place_85 ?_
              refine lv_if_ne (tgt := 93) hx hb dX8_place_86 (by decide) (fun c18 => ?_) (fun c18 => ?_)
              · have h := tx_neg c18 h
                refine lv_aload_n hx hb dX8_place_93 rfl (lv_at hl 0 rfl) ?_
                refine lv_iconst (v := 0) hx hb dX8_place_94 (by decide) ?_
                refine lv_iload_n hx hb dX8_place_95 rfl (lv_at hl 1 rfl) ?_
                refine lv_aload_n hx hb dX8_place_96 rfl (lv_at hl 0 rfl) ?_
                refine va_get (D := G) (ci := 8) (v := .ref (aa 56)) (C := RX8) (T := TX8) (N := 91) hx hb hT ku_8 hown hK hP 0 rfl rfl 55 (by decide) (hT _ kw_10_16) (fun _ h9 => h9) rfl dX8_place_97 ?_
                refine lv_iload_n hx hb dX8_place_100 rfl (lv_at hl 1 rfl) ?_
                refine va_iald (i := x1) hx hb hK hP 30 0 rfl rfl (tx_in g17) dX8_place_101 ?_
                refine lv_iconst (v := 1) hx hb dX8_place_102 (by decide) ?_
                refine lv_isub hx hb dX8_place_103 ?_
                obtain ⟨r19, hc20, h⟩ := tx_bd h
                refine tw_ci tw_all hP hD hS hA (va_runV (As := [.int 0, .int x1, .int ((S_1 56 x1.toNatClampNeg) - 1)]) (rest := []) ⟨hx, hb, hml, hown, hT⟩ (c_X8_stackAt l G cA H.size aa S_1 L (0 : Int32) x1 ((S_1 56 x1.toNatClampNeg) - 1)  r19 hc20) (cwV 3 hT (tq_gV kw_31_10 kw_31_11 kw_31_12 kw_1_5 kw_31_13) rfl rfl rfl (by decide +kernel) ⟨Nat.le_of_ble_eq_true rfl, Nat.le_of_ble_eq_true rfl⟩) ⟨(tw_pre tw_all hP hD hK hN).1, va_recv hK hP (ci := 8) (q0 := 0) rfl rfl, (tw_pre tw_all hP hD hK hN).2⟩ rfl rfl hl.1 rfl (lv_room (Nat.le_of_ble_eq_true rfl)) dX8_place_104 ⟨Nat.le_of_ble_eq_true rfl, Nat.le_of_ble_eq_true rfl⟩) (fun _ _ H locs z21 hP hD hS => ?_)
                subst z21
                rw [List.append_nil] at hP hD
                have hP : va_P G vwCl (wM cA aa S_1 L) H := hP
                have hD : va_D A (wM cA aa S_1 L) := hD
                obtain ⟨rfl, rfl⟩ := tx_2 h
                exact W.iret hx hb hr (fun t ht hW => ⟨⟨_, (), rfl, rfl, by rw [ht]; exact hP, hD⟩, hS.F ht⟩) hS.2.2 dX8_place_107
              · have h := tx_pos c18 h
                refine lv_iconst (v := (-1)) hx hb dX8_place_89 (by decide) ?_
                refine lv_goto (tgt := 107) hx hb dX8_place_90 (by decide) ?_
                obtain ⟨rfl, rfl⟩ := tx_2 h
                exact W.iret hx hb hr (fun t ht hW => ⟨⟨_, (), rfl, rfl, by rw [ht]; exact hP, hD⟩, hS.F ht⟩) hS.2.2 dX8_place_107
            · have h := tx_neg c16 h
              have kc6 := tq_eqn (a := x2.toInt) (b := 0) rfl (by decide) c6
              have kc8 := tq_eqn (a := x2.toInt) (b := 1) rfl (by decide) c8
              have kc10 := tq_eqn (a := x2.toInt) (b := 2) rfl (by decide) c10
              have kc14 := tq_eqn (a := x2.toInt) (b := 3) rfl (by decide) c14
              have kc16 := tq_eqn (a := x2.toInt) (b := 4) rfl (by decide) c16
              refine lv_tableOut (tgt := 108) hx hb dX8_place_16 (by omega) (by decide) ?_
              refine lv_iconst (v := (-1)) hx hb dX8_place_108 (by decide) ?_
              obtain ⟨rfl, rfl⟩ := tx_2 h
              exact W.iret hx hb hr (fun t ht hW => ⟨⟨_, (), rfl, rfl, by rw [ht]; exact hP, hD⟩, hS.F ht⟩) hS.2.2 dX8_place_109
  · have h := tx_pos c5 h
    refine lv_iconst (v := (-1)) hx hb dX8_place_13 (by decide) ?_
    obtain ⟨rfl, rfl⟩ := tx_2 h
    exact W.iret hx hb hr (fun t ht hW => ⟨⟨_, (), rfl, rfl, by rw [ht]; exact hP, hD⟩, hS.F ht⟩) hS.2.2 dX8_place_14
abbrev G_X8_plain (p : Program) (l : Launch) (e : Env) (s : State) (m : MethodId) (below : List Frame) (meth : Method) (c : Code) (G : va_G) (cA : Nat → ClassId) (A : Nat → Prop) (aa : Nat → Nat) (L : Lo) (S' : Tr) (H : Heap) (locs : List Loc) (g : JFrame) : Prop := W p l e (headSpec (.code yX8_plain cX8_plain 2 none :: T0) ({ frames := 0, cells := 0, slots := 0, locals := 0 } : Room)).room s m ([.ref (aa 0)] : List Value).toArray below meth c H locs 0 0 (MQ below (tqQv G cA (fun (_ : Unit) => True) (fun (_ : Unit) => wM cA aa S' L) A) ([.ref (aa 0)] : List Value).toArray s 0 0 A) g
set_option maxHeartbeats 4000000 in
set_option maxRecDepth 100000 in
theorem w_X8_plain_L70 {p : Program} {l : Launch} {e : Env} {s : State} {m : MethodId} {below : List Frame} {meth : Method} {c : Code} {G : va_G} {cA : Nat → ClassId} {A : Nat → Prop} {aa : Nat → Nat} {L : Lo} {S' : Tr} (F : tF p s m ([.ref (aa 0)] : List Value).toArray meth c G cA A RX8 cX8_plain 2 none)    (N : Nat) : ∀ (x1 : Int32) (S : Tr) (H : Heap) (locs : List Loc) (ls : Array Slot), lpF (fun _ _ => none) (fB_X8_plain_L70 ) N x1 S = some S' → va_P G vwCl (wM cA aa S L) H → va_D A (wM cA aa S L) → va_S A s.heap H locs → lv_has ls 2 [(0, .ref (aa 0)), (1, .int x1)] → G_X8_plain p l e s m below meth c G cA A aa L S' H locs (F0 m 70 ls []) := by
  obtain ⟨hx, hb, hr, hml, hT, hown, hlocks, hK, hN, hA⟩ := id F
  induction N with
  | zero =>
    intro x1 S H locs ls h
    have h : (none : Option (Tr)) = some S' := h
    cases h
  | succ N hk70 =>
    intro x1 S H locs ls h hP hD hS hl
    have h : fB_X8_plain_L70  (lpF (fun _ _ => none) (fB_X8_plain_L70 ) N) x1 S = some S' := h
    generalize hk70e : lpF (fun _ _ => none) (fB_X8_plain_L70 ) N = k70 at h hk70
    unfold fB_X8_plain_L70 at h
    refine lv_iload_n hx hb dX8_plain_70 rfl (lv_at hl 1 rfl) ?_
    refine lv_bipush (v := 21) hx hb dX8_plain_71 (by decide) ?_
    refine lv_icmp_ge (tgt := 100) hx hb dX8_plain_73 (by decide) (fun c8 => ?_) (fun c8 => ?_)
    · have h := tx_pos c8 h
      obtain rfl := tx_1 h
      exact W.vret hx hb hr (fun t ht hW => ⟨⟨(), rfl, trivial, by rw [ht]; exact hP, hD⟩, hS.F ht⟩) hS.2.2 dX8_plain_100
    · have h := tx_neg c8 h
      refine lv_aload_n hx hb dX8_plain_76 rfl (lv_at hl 0 rfl) ?_
      refine va_get (D := G) (ci := 8) (v := .ref (aa 34)) (C := RX8) (T := TX8) (N := 91) hx hb hT ku_8 hown hK hP 0 rfl rfl 33 (by decide) (hT _ kw_10_1) (fun _ h9 => h9) rfl dX8_plain_77 ?_
      refine lv_bipush (v := 21) hx hb dX8_plain_80 (by decide) ?_
      refine lv_iload_n hx hb dX8_plain_82 rfl (lv_at hl 1 rfl) ?_
      refine lv_iadd hx hb dX8_plain_83 ?_
      refine lv_bipush (v := 60) hx hb dX8_plain_84 (by decide) ?_
      obtain ⟨g9, h⟩ := tx_ck h
      refine va_iast (i := ((21 : Int32) + x1)) hx hb hK hP hD hS 15 0 rfl rfl (tx_in g9) dX8_plain_86 (fun H locs hP hD hS => ?_)
      obtain ⟨S_10, eS_10, h⟩ := tx_lt h
      rw [sM_a33, eS_10] at hP hD
      refine lv_aload_n hx hb dX8_plain_87 rfl (lv_at hl 0 rfl) ?_
      refine va_get (D := G) (ci := 8) (v := .ref (aa 35)) (C := RX8) (T := TX8) (N := 91) hx hb hT ku_8 hown hK hP 0 rfl rfl 34 (by decide) (hT _ kw_10_2) (fun _ h9 => h9) rfl dX8_plain_88 ?_
      refine lv_iload_n hx hb dX8_plain_91 rfl (lv_at hl 1 rfl) ?_
      refine lv_iconst (v := 0) hx hb dX8_plain_92 (by decide) ?_
      obtain ⟨g11, h⟩ := tx_ck h
      refine va_zast (i := x1) hx hb hK hP hD hS 16 1 rfl rfl (tx_in g11) dX8_plain_93 (fun H locs hP hD hS => ?_)
      obtain ⟨S_12, eS_12, h⟩ := tx_lt h
      rw [sM_a34, eS_12] at hP hD
      obtain ⟨y13, ey13, h⟩ := tx_lt h
      refine lv_iinc (v := y13) (lv' := [(1, .int y13), (0, .ref (aa 0))]) hx hb dX8_plain_94 hl (k := 1) rfl ey13 (by decide) rfl (fun ls hl => ?_)
      refine lv_goto (tgt := 70) hx hb dX8_plain_97 (by decide) ?_
      exact hk70 y13 S_12 H locs ls h hP hD hS (lv_sub hl [1, 0] rfl)
set_option maxHeartbeats 4000000 in
set_option maxRecDepth 100000 in
theorem w_X8_plain_L32 {p : Program} {l : Launch} {e : Env} {s : State} {m : MethodId} {below : List Frame} {meth : Method} {c : Code} {G : va_G} {cA : Nat → ClassId} {A : Nat → Prop} {aa : Nat → Nat} {L : Lo} {S' : Tr} (F : tF p s m ([.ref (aa 0)] : List Value).toArray meth c G cA A RX8 cX8_plain 2 none)    (N : Nat) : ∀ (x1 : Int32) (S : Tr) (H : Heap) (locs : List Loc) (ls : Array Slot), lpF (fun _ _ => none) (fB_X8_plain_L32 ) N x1 S = some S' → va_P G vwCl (wM cA aa S L) H → va_D A (wM cA aa S L) → va_S A s.heap H locs → lv_has ls 2 [(0, .ref (aa 0)), (1, .int x1)] → G_X8_plain p l e s m below meth c G cA A aa L S' H locs (F0 m 32 ls []) := by
  obtain ⟨hx, hb, hr, hml, hT, hown, hlocks, hK, hN, hA⟩ := id F
  induction N with
  | zero =>
    intro x1 S H locs ls h
    have h : (none : Option (Tr)) = some S' := h
    cases h
  | succ N hk32 =>
    intro x1 S H locs ls h hP hD hS hl
    have h : fB_X8_plain_L32  (lpF (fun _ _ => none) (fB_X8_plain_L32 ) N) x1 S = some S' := h
    generalize hk32e : lpF (fun _ _ => none) (fB_X8_plain_L32 ) N = k32 at h hk32
    unfold fB_X8_plain_L32 at h
    refine lv_iload_n hx hb dX8_plain_32 rfl (lv_at hl 1 rfl) ?_
    refine lv_iconst (v := 3) hx hb dX8_plain_33 (by decide) ?_
    refine lv_icmp_ge (tgt := 68) hx hb dX8_plain_34 (by decide) (fun c7 => ?_) (fun c7 => ?_)
    · have h := tx_pos c7 h
      refine lv_iconst (v := 0) hx hb dX8_plain_68 (by decide) ?_
      refine lv_istore_n (lv' := [(1, .int 0), (0, .ref (aa 0))]) hx hb dX8_plain_69 rfl hl (by decide) rfl (fun ls hl => ?_)
      exact w_X8_plain_L70 F 2000 0 S H locs ls h hP hD hS (lv_sub hl [1, 0] rfl)
    · have h := tx_neg c7 h
      refine lv_aload_n hx hb dX8_plain_37 rfl (lv_at hl 0 rfl) ?_
      refine va_get (D := G) (ci := 8) (v := .ref (aa 22)) (C := RX8) (T := TX8) (N := 91) hx hb hT ku_8 hown hK hP 0 rfl rfl 21 (by decide) (hT _ kw_9_13) (fun _ h9 => h9) rfl dX8_plain_38 ?_
      refine lv_iload_n hx hb dX8_plain_41 rfl (lv_at hl 1 rfl) ?_
      refine lv_iconst (v := 0) hx hb dX8_plain_42 (by decide) ?_
      obtain ⟨g14, h⟩ := tx_ck h
      refine va_zast (i := x1) hx hb hK hP hD hS 3 1 rfl rfl (tx_in g14) dX8_plain_43 (fun H locs hP hD hS => ?_)
      obtain ⟨S_15, eS_15, h⟩ := tx_lt h
      rw [sM_a21, eS_15] at hP hD
      refine lv_aload_n hx hb dX8_plain_44 rfl (lv_at hl 0 rfl) ?_
      refine va_get (D := G) (ci := 8) (v := .ref (aa 23)) (C := RX8) (T := TX8) (N := 91) hx hb hT ku_8 hown hK hP 0 rfl rfl 22 (by decide) (hT _ kw_9_14) (fun _ h9 => h9) rfl dX8_plain_45 ?_
      refine lv_iconst (v := 3) hx hb dX8_plain_48 (by decide) ?_
      refine lv_iload_n hx hb dX8_plain_49 rfl (lv_at hl 1 rfl) ?_
      refine lv_iadd hx hb dX8_plain_50 ?_
      refine lv_iconst (v := 0) hx hb dX8_plain_51 (by decide) ?_
      obtain ⟨g16, h⟩ := tx_ck h
      refine va_iast (i := ((3 : Int32) + x1)) hx hb hK hP hD hS 4 0 rfl rfl (tx_in g16) dX8_plain_52 (fun H locs hP hD hS => ?_)
      obtain ⟨S_17, eS_17, h⟩ := tx_lt h
      rw [sM_a22, eS_17] at hP hD
      refine lv_aload_n hx hb dX8_plain_53 rfl (lv_at hl 0 rfl) ?_
      refine va_get (D := G) (ci := 8) (v := .ref (aa 36)) (C := RX8) (T := TX8) (N := 91) hx hb hT ku_8 hown hK hP 0 rfl rfl 35 (by decide) (hT _ kw_10_3) (fun _ h9 => h9) rfl dX8_plain_54 ?_
      refine lv_iconst (v := 3) hx hb dX8_plain_57 (by decide) ?_
      refine lv_iload_n hx hb dX8_plain_58 rfl (lv_at hl 1 rfl) ?_
      refine lv_iadd hx hb dX8_plain_59 ?_
      refine lv_iconst (v := 0) hx hb dX8_plain_60 (by decide) ?_
      refine va_zast (i := ((3 : Int32) + x1)) hx hb hK hP hD hS 17 1 rfl rfl (tx_in g16) dX8_plain_61 (fun H locs hP hD hS => ?_)
      obtain ⟨S_18, eS_18, h⟩ := tx_lt h
      rw [sM_a35, eS_18] at hP hD
      obtain ⟨y19, ey19, h⟩ := tx_lt h
      refine lv_iinc (v := y19) (lv' := [(1, .int y19), (0, .ref (aa 0))]) hx hb dX8_plain_62 hl (k := 1) rfl ey19 (by decide) rfl (fun ls hl => ?_)
      refine lv_goto (tgt := 32) hx hb dX8_plain_65 (by decide) ?_
      exact hk32 y19 S_18 H locs ls h hP hD hS (lv_sub hl [1, 0] rfl)
set_option maxHeartbeats 4000000 in
set_option maxRecDepth 100000 in
theorem c_X8_plain (l : Launch) (G : va_G) (cA : Nat → ClassId) (sz : Nat) (aa : Nat → Nat) (S : Tr) (L : Lo)  (S' : Tr) (h : f_X8_plain S = some S') : Met l yX8_plain (.code yX8_plain cX8_plain 2 none :: T0) ({ frames := 0, cells := 0, slots := 0, locals := 0 } : Room) (tqP G cA [.ref (aa 0)] (wM cA aa S L) sz) (tqQv G cA (fun (_ : Unit) => True) (fun (_ : Unit) => wM cA aa S' L) (va_A (wM cA aa S L) sz)) 0 0 (va_A (wM cA aa S L) sz) := by
  refine Met.ofW (cc := cX8_plain) (maxL := 2) (ret := none) (by decide) rfl ?_
  intro p e s m args below meth c s₁ B hml hv
  obtain ⟨rfl, hsz, hP, hK, hD0, hN⟩ := hv
  have hx := B.exec
  have hb := B.bytes
  have hr := B.returns
  have hts := atoms_spec (ws := .code yX8_plain cX8_plain 2 none :: T0) B.pre
  have hT : ∀ w ∈ T0, w.before _ s = true := fun w h => hts w (List.mem_cons_of_mem _ h)
  have hown : s.vm.findClass RX8 = some m.cls := findClass_of_methodNamed B.named
  have hlocks := B.notSynchronized
  subst hsz
  have hD := hD0.self (sz := s.heap.size)
  generalize hAe : va_A (wM cA aa S L) s.heap.size = A at hD ⊢
  have hA : ∀ q : Nat, s.heap.size ≤ q → A q := fun q h => by rw [← hAe]; exact Or.inr h
  have hS : va_S A s.heap s.heap [] := va_S.rf
  have hl := lv_entry ([.ref (aa 0)]) (n := 2) (Nat.le_of_ble_eq_true rfl)
  rw [lg_entry_eq]
  generalize (lg_sl ([.ref (aa 0)]) ++ List.replicate (2 - (lg_sl ([.ref (aa 0)])).length) Slot.unset).toArray = ls at hl ⊢
  have hl : lv_has ls 2 [(0, .ref (aa 0))] := hl
  have F : tF p s m ([.ref (aa 0)] : List Value).toArray meth c G cA A RX8 cX8_plain 2 none := ⟨hx, hb, hr, hml, hT, hown, hlocks, hK, hN, hA⟩
  obtain ⟨H, hH⟩ : ∃ z, z = s.heap := ⟨_, rfl⟩
  rw [← hH] at hP
  have hS : va_S A s.heap H [] := by rw [hH]; exact hS
  suffices hgo : G_X8_plain p l e s m below meth c G cA A aa L S' H [] (F0 m 0 ls []) by rw [hH] at hgo; exact hgo
  generalize ([] : List Loc) = locs at hS ⊢
  unfold f_X8_plain at h
  refine lv_aload_n hx hb dX8_plain_0 rfl (lv_at hl 0 rfl) ?_
  refine lv_iconst (v := 0) hx hb dX8_plain_1 (by decide) ?_
  refine va_put (D := G) (ci := 8) (v := .int 0) (ty := .int) (C := RX8) (T := TX8) (N := 91) hx hb hT ku_8 tyX8 tyX8_ok nmX8 hown hK hP hD hS 0 rfl rfl 16 (by decide) (hT _ kw_11_17) (fun _ h9 => h9) rfl (by decide +kernel) rfl rfl (Nat.le_of_ble_eq_true rfl) dX8_plain_2 (fun H locs hP hD hS => ?_)
  obtain ⟨S_1, eS_1, h⟩ := tx_lt h
  rw [sM_f16, eS_1] at hP hD
  refine lv_aload_n hx hb dX8_plain_5 rfl (lv_at hl 0 rfl) ?_
  refine lv_iconst (v := 0) hx hb dX8_plain_6 (by decide) ?_
  refine va_put (D := G) (ci := 8) (v := .int 0) (ty := .int) (C := RX8) (T := TX8) (N := 91) hx hb hT ku_8 tyX8 tyX8_ok nmX8 hown hK hP hD hS 0 rfl rfl 17 (by decide) (hT _ kw_11_18) (fun _ h9 => h9) rfl (by decide +kernel) rfl rfl (Nat.le_of_ble_eq_true rfl) dX8_plain_7 (fun H locs hP hD hS => ?_)
  obtain ⟨S_2, eS_2, h⟩ := tx_lt h
  rw [sM_f17, eS_2] at hP hD
  refine lv_aload_n hx hb dX8_plain_10 rfl (lv_at hl 0 rfl) ?_
  refine lv_iconst (v := 0) hx hb dX8_plain_11 (by decide) ?_
  refine va_put (D := G) (ci := 8) (v := .int 0) (ty := .int) (C := RX8) (T := TX8) (N := 91) hx hb hT ku_8 tyX8 tyX8_ok nmX8 hown hK hP hD hS 0 rfl rfl 18 (by decide) (hT _ kw_11_19) (fun _ h9 => h9) rfl (by decide +kernel) rfl rfl (Nat.le_of_ble_eq_true rfl) dX8_plain_12 (fun H locs hP hD hS => ?_)
  obtain ⟨S_3, eS_3, h⟩ := tx_lt h
  rw [sM_f18, eS_3] at hP hD
  refine lv_aload_n hx hb dX8_plain_15 rfl (lv_at hl 0 rfl) ?_
  refine lv_iconst (v := 0) hx hb dX8_plain_16 (by decide) ?_
  refine va_put (D := G) (ci := 8) (v := .int 0) (ty := .int) (C := RX8) (T := TX8) (N := 91) hx hb hT ku_8 tyX8 tyX8_ok nmX8 hown hK hP hD hS 0 rfl rfl 19 (by decide) (hT _ kw_11_20) (fun _ h9 => h9) rfl (by decide +kernel) rfl rfl (Nat.le_of_ble_eq_true rfl) dX8_plain_17 (fun H locs hP hD hS => ?_)
  obtain ⟨S_4, eS_4, h⟩ := tx_lt h
  rw [sM_f19, eS_4] at hP hD
  refine lv_aload_n hx hb dX8_plain_20 rfl (lv_at hl 0 rfl) ?_
  refine lv_iconst (v := 0) hx hb dX8_plain_21 (by decide) ?_
  refine va_put (D := G) (ci := 8) (v := .int 0) (ty := .int) (C := RX8) (T := TX8) (N := 91) hx hb hT ku_8 tyX8 tyX8_ok nmX8 hown hK hP hD hS 0 rfl rfl 20 (by decide) (hT _ kw_11_21) (fun _ h9 => h9) rfl (by decide +kernel) rfl rfl (Nat.le_of_ble_eq_true rfl) dX8_plain_22 (fun H locs hP hD hS => ?_)
  obtain ⟨S_5, eS_5, h⟩ := tx_lt h
  rw [sM_f20, eS_5] at hP hD
  refine lv_aload_n hx hb dX8_plain_25 rfl (lv_at hl 0 rfl) ?_
  refine lv_iconst (v := 0) hx hb dX8_plain_26 (by decide) ?_
  refine va_put (D := G) (ci := 8) (v := .int 0) (ty := .int) (C := RX8) (T := TX8) (N := 91) hx hb hT ku_8 tyX8 tyX8_ok nmX8 hown hK hP hD hS 0 rfl rfl 46 (by decide) (hT _ kw_11_22) (fun _ h9 => h9) rfl (by decide +kernel) rfl rfl (Nat.le_of_ble_eq_true rfl) dX8_plain_27 (fun H locs hP hD hS => ?_)
  obtain ⟨S_6, eS_6, h⟩ := tx_lt h
  rw [sM_f46, eS_6] at hP hD
  refine lv_iconst (v := 0) hx hb dX8_plain_30 (by decide) ?_
  refine lv_istore_n (lv' := [(1, .int 0), (0, .ref (aa 0))]) hx hb dX8_plain_31 rfl hl (by decide) rfl (fun ls hl => ?_)
  exact w_X8_plain_L32 F 2000 0 S_6 H locs ls h hP hD hS (lv_sub hl [1, 0] rfl)
abbrev G_X8_restAt (p : Program) (l : Launch) (e : Env) (s : State) (m : MethodId) (below : List Frame) (meth : Method) (c : Code) (G : va_G) (cA : Nat → ClassId) (A : Nat → Prop) (aa : Nat → Nat) (x1 : Int32) (x2 : Int32) (x3 : Int32) (r0 : Int32) (S' : Tr) (L' : Lo) (H : Heap) (locs : List Loc) (g : JFrame) : Prop := W p l e (headSpec (.code yX8_restAt cX8_restAt 8 (some .int) :: T0) ({ frames := 9, cells := 0, slots := 0, locals := 211 } : Room)).room s m ([.ref (aa 0), .int x1, .int x2, .int x3] : List Value).toArray below meth c H locs 0 0 (MQ below (tqQi G cA (fun (r : Int32) (_ : Unit) => r = r0) (fun (_ : Unit) => wM cA aa S' L') A) ([.ref (aa 0), .int x1, .int x2, .int x3] : List Value).toArray s 0 0 A) g
set_option maxHeartbeats 4000000 in
set_option maxRecDepth 100000 in
theorem w_X8_restAt_J285 {p : Program} {l : Launch} {e : Env} {s : State} {m : MethodId} {below : List Frame} {meth : Method} {c : Code} {G : va_G} {cA : Nat → ClassId} {A : Nat → Prop} {aa : Nat → Nat} {x1₀ : Int32} {x2₀ : Int32} {x3₀ : Int32} {r0 : Int32} {S' : Tr} {L' : Lo} (F : tF p s m ([.ref (aa 0), .int x1₀, .int x2₀, .int x3₀] : List Value).toArray meth c G cA A RX8 cX8_restAt 8 (some .int))    (x3 : Int32) (x4 : Int32) (S : Tr) (L : Lo) (H : Heap) (locs : List Loc) (ls : Array Slot) (h : fJ_X8_restAt_J285 x3 x4 S L = some (r0, S', L')) (hP : va_P G vwCl (wM cA aa S L) H) (hD : va_D A (wM cA aa S L)) (hS : va_S A s.heap H locs) (hl : lv_has ls 8 [(3, .int x3), (4, .int x4)]) : G_X8_restAt p l e s m below meth c G cA A aa x1₀ x2₀ x3₀ r0 S' L' H locs (F0 m 285 ls []) := by
  obtain ⟨hx, hb, hr, hml, hT, hown, hlocks, hK, hN, hA⟩ := id F
  unfold fJ_X8_restAt_J285 at h
  refine lv_iload_n hx hb dX8_restAt_285 rfl (lv_at hl 0 rfl) ?_
  refine lv_if_ge (tgt := 294) hx hb dX8_restAt_286 (by decide) (fun c3 => ?_) (fun c3 => ?_)
  · have h := tx_pos c3 h
    refine lv_bipush (v := (-2)) hx hb dX8_restAt_294 (by decide) ?_
    obtain ⟨rfl, rfl, rfl⟩ := tx_3 h
    exact W.iret hx hb hr (fun t ht hW => ⟨⟨_, (), rfl, rfl, by rw [ht]; exact hP, hD⟩, hS.F ht⟩) hS.2.2 dX8_restAt_296
  · have h := tx_neg c3 h
    refine lv_iload hx hb dX8_restAt_289 (lv_at hl 1 rfl) ?_
    refine lv_goto (tgt := 296) hx hb dX8_restAt_291 (by decide) ?_
    obtain ⟨rfl, rfl, rfl⟩ := tx_3 h
    exact W.iret hx hb hr (fun t ht hW => ⟨⟨_, (), rfl, rfl, by rw [ht]; exact hP, hD⟩, hS.F ht⟩) hS.2.2 dX8_restAt_296
set_option maxHeartbeats 4000000 in
set_option maxRecDepth 100000 in
theorem w_X8_restAt_J257 {p : Program} {l : Launch} {e : Env} {s : State} {m : MethodId} {below : List Frame} {meth : Method} {c : Code} {G : va_G} {cA : Nat → ClassId} {A : Nat → Prop} {aa : Nat → Nat} {x1₀ : Int32} {x2₀ : Int32} {x3₀ : Int32} {r0 : Int32} {S' : Tr} {L' : Lo} (F : tF p s m ([.ref (aa 0), .int x1₀, .int x2₀, .int x3₀] : List Value).toArray meth c G cA A RX8 cX8_restAt 8 (some .int))    (x5 : Int32) (S : Tr) (L : Lo) (H : Heap) (locs : List Loc) (ls : Array Slot) (h : fJ_X8_restAt_J257 x5 S L = some (r0, S', L')) (hP : va_P G vwCl (wM cA aa S L) H) (hD : va_D A (wM cA aa S L)) (hS : va_S A s.heap H locs) (hl : lv_has ls 8 [(0, .ref (aa 0)), (5, .int x5)]) : G_X8_restAt p l e s m below meth c G cA A aa x1₀ x2₀ x3₀ r0 S' L' H locs (F0 m 257 ls []) := by
  obtain ⟨hx, hb, hr, hml, hT, hown, hlocks, hK, hN, hA⟩ := id F
  unfold fJ_X8_restAt_J257 at h
  refine lv_bipush (v := 10) hx hb dX8_restAt_257 (by decide) ?_
  refine lv_iload hx hb dX8_restAt_259 (lv_at hl 1 rfl) ?_
  refine lv_aload_n hx hb dX8_restAt_261 rfl (lv_at hl 0 rfl) ?_
  refine va_get (D := G) (ci := 8) (v := .int (S 0 12)) (C := RX8) (T := TX8) (N := 91) hx hb hT ku_8 hown hK hP 0 rfl rfl 12 (by decide) (hT _ kw_12_3) (fun _ h9 => h9) rfl dX8_restAt_262 ?_
  obtain ⟨g9, h⟩ := tx_ck h
  refine lv_idiv hx hb dX8_restAt_265 (tx_nz g9) ?_
  refine lv_imul hx hb dX8_restAt_266 ?_
  refine lv_iload hx hb dX8_restAt_267 (lv_at hl 1 rfl) ?_
  refine lv_aload_n hx hb dX8_restAt_269 rfl (lv_at hl 0 rfl) ?_
  refine va_get (D := G) (ci := 8) (v := .int (S 0 12)) (C := RX8) (T := TX8) (N := 91) hx hb hT ku_8 hown hK hP 0 rfl rfl 12 (by decide) (hT _ kw_12_3) (fun _ h9 => h9) rfl dX8_restAt_270 ?_
  refine lv_irem hx hb dX8_restAt_273 (tx_nz g9) ?_
  refine lv_iadd hx hb dX8_restAt_274 ?_
  obtain ⟨rfl, rfl, rfl⟩ := tx_3 h
  exact W.iret hx hb hr (fun t ht hW => ⟨⟨_, (), rfl, rfl, by rw [ht]; exact hP, hD⟩, hS.F ht⟩) hS.2.2 dX8_restAt_275
set_option maxHeartbeats 4000000 in
set_option maxRecDepth 100000 in
theorem w_X8_restAt_J243 {p : Program} {l : Launch} {e : Env} {s : State} {m : MethodId} {below : List Frame} {meth : Method} {c : Code} {G : va_G} {cA : Nat → ClassId} {A : Nat → Prop} {aa : Nat → Nat} {x1₀ : Int32} {x2₀ : Int32} {x3₀ : Int32} {r0 : Int32} {S' : Tr} {L' : Lo} {S : Tr} {L : Lo} {x3 : Int32} (F : tF p s m ([.ref (aa 0), .int x1₀, .int x2₀, .int x3₀] : List Value).toArray meth c G cA A RX8 cX8_restAt 8 (some .int))  (k136 : Int32 → Int32 → Option (Int32 × Tr × Lo)) (hk136 : ∀ (x4 : Int32) (x5 : Int32) (H : Heap) (locs : List Loc) (ls : Array Slot), k136 x4 x5 = some (r0, S', L') → va_P G vwCl (wM cA aa S L) H → va_D A (wM cA aa S L) → va_S A s.heap H locs → lv_has ls 8 [(0, .ref (aa 0)), (3, .int x3), (4, .int x4), (5, .int x5)] → G_X8_restAt p l e s m below meth c G cA A aa x1₀ x2₀ x3₀ r0 S' L' H locs (F0 m 136 ls [])) (x4 : Int32) (x5 : Int32) (x6 : Int32) (H : Heap) (locs : List Loc) (ls : Array Slot) (h : fJ_X8_restAt_J243 k136 S L x3 x4 x5 x6 = some (r0, S', L')) (hP : va_P G vwCl (wM cA aa S L) H) (hD : va_D A (wM cA aa S L)) (hS : va_S A s.heap H locs) (hl : lv_has ls 8 [(0, .ref (aa 0)), (3, .int x3), (4, .int x4), (5, .int x5), (6, .int x6)]) : G_X8_restAt p l e s m below meth c G cA A aa x1₀ x2₀ x3₀ r0 S' L' H locs (F0 m 243 ls []) := by
  obtain ⟨hx, hb, hr, hml, hT, hown, hlocks, hK, hN, hA⟩ := id F
  unfold fJ_X8_restAt_J243 at h
  refine lv_iload hx hb dX8_restAt_243 (lv_at hl 4 rfl) ?_
  refine lv_if_ne (tgt := 251) hx hb dX8_restAt_245 (by decide) (fun c5 => ?_) (fun c5 => ?_)
  · have h := tx_neg c5 h
    refine lv_iload hx hb dX8_restAt_251 (lv_at hl 2 rfl) ?_
    refine lv_iload_n hx hb dX8_restAt_253 rfl (lv_at hl 1 rfl) ?_
    refine lv_icmp_ne (tgt := 276) hx hb dX8_restAt_254 (by decide) (fun c6 => ?_) (fun c6 => ?_)
    · have h := tx_neg c6 h
      obtain ⟨y7, ey7, h⟩ := tx_lt h
      refine lv_iinc (v := y7) (lv' := [(4, .int y7), (0, .ref (aa 0)), (3, .int x3), (5, .int x5), (6, .int x6)]) hx hb dX8_restAt_276 hl (k := 2) rfl ey7 (by decide) rfl (fun ls hl => ?_)
      obtain ⟨y8, ey8, h⟩ := tx_lt h
      refine lv_iinc (v := y8) (lv' := [(5, .int y8), (4, .int y7), (0, .ref (aa 0)), (3, .int x3), (6, .int x6)]) hx hb dX8_restAt_279 hl (k := 3) rfl ey8 (by decide) rfl (fun ls hl => ?_)
      refine lv_goto (tgt := 136) hx hb dX8_restAt_282 (by decide) ?_
      exact hk136 y7 y8 H locs ls h hP hD hS (lv_sub hl [2, 3, 1, 0] rfl)
    · have h := tx_pos c6 h
      exact w_X8_restAt_J257 F x5 S L H locs ls h hP hD hS (lv_sub hl [0, 3] rfl)
  · have h := tx_pos c5 h
    refine lv_goto (tgt := 279) hx hb dX8_restAt_248 (by decide) ?_
    obtain ⟨y10, ey10, h⟩ := tx_lt h
    refine lv_iinc (v := y10) (lv' := [(5, .int y10), (0, .ref (aa 0)), (3, .int x3), (4, .int x4), (6, .int x6)]) hx hb dX8_restAt_279 hl (k := 3) rfl ey10 (by decide) rfl (fun ls hl => ?_)
    refine lv_goto (tgt := 136) hx hb dX8_restAt_282 (by decide) ?_
    exact hk136 x4 y10 H locs ls h hP hD hS (lv_sub hl [1, 2, 3, 0] rfl)
set_option maxHeartbeats 4000000 in
set_option maxRecDepth 100000 in
theorem w_X8_restAt_L156 {p : Program} {l : Launch} {e : Env} {s : State} {m : MethodId} {below : List Frame} {meth : Method} {c : Code} {G : va_G} {cA : Nat → ClassId} {A : Nat → Prop} {aa : Nat → Nat} {x1₀ : Int32} {x2₀ : Int32} {x3₀ : Int32} {r0 : Int32} {S' : Tr} {L' : Lo} {S : Tr} {L : Lo} {x3 : Int32} {x4 : Int32} {x5 : Int32} (F : tF p s m ([.ref (aa 0), .int x1₀, .int x2₀, .int x3₀] : List Value).toArray meth c G cA A RX8 cX8_restAt 8 (some .int))  (k136 : Int32 → Int32 → Option (Int32 × Tr × Lo)) (hk136 : ∀ (x4 : Int32) (x5 : Int32) (H : Heap) (locs : List Loc) (ls : Array Slot), k136 x4 x5 = some (r0, S', L') → va_P G vwCl (wM cA aa S L) H → va_D A (wM cA aa S L) → va_S A s.heap H locs → lv_has ls 8 [(0, .ref (aa 0)), (3, .int x3), (4, .int x4), (5, .int x5)] → G_X8_restAt p l e s m below meth c G cA A aa x1₀ x2₀ x3₀ r0 S' L' H locs (F0 m 136 ls [])) (N : Nat) : ∀ (x6 : Int32) (x7 : Int32) (H : Heap) (locs : List Loc) (ls : Array Slot), lpF (fun _ _ => none) (fB_X8_restAt_L156 k136 S L x3 x4 x5) N x6 x7 = some (r0, S', L') → va_P G vwCl (wM cA aa S L) H → va_D A (wM cA aa S L) → va_S A s.heap H locs → lv_has ls 8 [(0, .ref (aa 0)), (3, .int x3), (4, .int x4), (5, .int x5), (6, .int x6), (7, .int x7)] → G_X8_restAt p l e s m below meth c G cA A aa x1₀ x2₀ x3₀ r0 S' L' H locs (F0 m 156 ls []) := by
  obtain ⟨hx, hb, hr, hml, hT, hown, hlocks, hK, hN, hA⟩ := id F
  induction N with
  | zero =>
    intro x6 x7 H locs ls h
    have h : (none : Option (Int32 × Tr × Lo)) = some (r0, S', L') := h
    cases h
  | succ N hk156 =>
    intro x6 x7 H locs ls h hP hD hS hl
    have h : fB_X8_restAt_L156 k136 S L x3 x4 x5 (lpF (fun _ _ => none) (fB_X8_restAt_L156 k136 S L x3 x4 x5) N) x6 x7 = some (r0, S', L') := h
    generalize hk156e : lpF (fun _ _ => none) (fB_X8_restAt_L156 k136 S L x3 x4 x5) N = k156 at h hk156
    unfold fB_X8_restAt_L156 at h
    refine lv_iload hx hb dX8_restAt_156 (lv_at hl 5 rfl) ?_
    refine lv_aload_n hx hb dX8_restAt_158 rfl (lv_at hl 0 rfl) ?_
    refine va_get (D := G) (ci := 8) (v := .int (S 0 12)) (C := RX8) (T := TX8) (N := 91) hx hb hT ku_8 hown hK hP 0 rfl rfl 12 (by decide) (hT _ kw_12_3) (fun _ h9 => h9) rfl dX8_restAt_159 ?_
    refine lv_icmp_ge (tgt := 243) hx hb dX8_restAt_162 (by decide) (fun c4 => ?_) (fun c4 => ?_)
    · have h := tx_pos c4 h
      exact w_X8_restAt_J243 F k136 hk136 x4 x5 x6 H locs ls h hP hD hS (lv_sub hl [0, 1, 2, 3, 4] rfl)
    · have h := tx_neg c4 h
      refine lv_iload hx hb dX8_restAt_165 (lv_at hl 4 rfl) ?_
      refine lv_if_eq (tgt := 234) hx hb dX8_restAt_167 (by decide) (fun c11 => ?_) (fun c11 => ?_)
      · have h := tx_pos c11 h
        refine lv_iconst (v := 0) hx hb dX8_restAt_234 (by decide) ?_
        refine lv_istore (lv' := [(6, .int 0), (0, .ref (aa 0)), (3, .int x3), (4, .int x4), (5, .int x5), (7, .int x7)]) hx hb dX8_restAt_235 hl (by decide) rfl (fun ls hl => ?_)
        obtain ⟨y12, ey12, h⟩ := tx_lt h
        refine lv_iinc (v := y12) (lv' := [(7, .int y12), (6, .int 0), (0, .ref (aa 0)), (3, .int x3), (4, .int x4), (5, .int x5)]) hx hb dX8_restAt_237 hl (k := 5) rfl ey12 (by decide) rfl (fun ls hl => ?_)
        refine lv_goto (tgt := 156) hx hb dX8_restAt_240 (by decide) ?_
        exact hk156 0 y12 H locs ls h hP hD hS (lv_sub hl [2, 3, 4, 5, 1, 0] rfl)
      · have h := tx_neg c11 h
        refine lv_aload_n hx hb dX8_restAt_170 rfl (lv_at hl 0 rfl) ?_
        refine va_get (D := G) (ci := 8) (v := .ref (aa 77)) (C := RX8) (T := TX8) (N := 91) hx hb hT ku_8 hown hK hP 0 rfl rfl 76 (by decide) (hT _ kw_11_4) (fun _ h9 => h9) rfl dX8_restAt_171 ?_
        refine lv_aload_n hx hb dX8_restAt_174 rfl (lv_at hl 0 rfl) ?_
        refine va_get (D := G) (ci := 8) (v := .int (S 0 12)) (C := RX8) (T := TX8) (N := 91) hx hb hT ku_8 hown hK hP 0 rfl rfl 12 (by decide) (hT _ kw_12_3) (fun _ h9 => h9) rfl dX8_restAt_175 ?_
        refine lv_iload hx hb dX8_restAt_178 (lv_at hl 5 rfl) ?_
        refine lv_imul hx hb dX8_restAt_180 ?_
        refine lv_iload hx hb dX8_restAt_181 (lv_at hl 3 rfl) ?_
        refine lv_aload_n hx hb dX8_restAt_183 rfl (lv_at hl 0 rfl) ?_
        refine va_get (D := G) (ci := 8) (v := .int (S 0 12)) (C := RX8) (T := TX8) (N := 91) hx hb hT ku_8 hown hK hP 0 rfl rfl 12 (by decide) (hT _ kw_12_3) (fun _ h9 => h9) rfl dX8_restAt_184 ?_
        obtain ⟨g13, h⟩ := tx_ck h
        refine lv_irem hx hb dX8_restAt_187 (tx_nz g13) ?_
        refine lv_iadd hx hb dX8_restAt_188 ?_
        obtain ⟨g14, h⟩ := tx_ck h
        refine va_iald (i := (((S 0 12) * x7) + (x5 - x5 / (S 0 12) * (S 0 12)))) hx hb hK hP 42 0 rfl rfl (tx_in g14) dX8_restAt_189 ?_
        refine lv_aload_n hx hb dX8_restAt_190 rfl (lv_at hl 0 rfl) ?_
        refine va_get (D := G) (ci := 8) (v := .ref (aa 77)) (C := RX8) (T := TX8) (N := 91) hx hb hT ku_8 hown hK hP 0 rfl rfl 76 (by decide) (hT _ kw_11_4) (fun _ h9 => h9) rfl dX8_restAt_191 ?_
        refine lv_iload hx hb dX8_restAt_194 (lv_at hl 3 rfl) ?_
        obtain ⟨g15, h⟩ := tx_ck h
        refine va_iald (i := x5) hx hb hK hP 42 0 rfl rfl (tx_in g15) dX8_restAt_196 ?_
        refine lv_icmp_lt (tgt := 234) hx hb dX8_restAt_197 (by decide) (fun c16 => ?_) (fun c16 => ?_)
        · have h := tx_pos c16 h
          refine lv_iconst (v := 0) hx hb dX8_restAt_234 (by decide) ?_
          refine lv_istore (lv' := [(6, .int 0), (0, .ref (aa 0)), (3, .int x3), (4, .int x4), (5, .int x5), (7, .int x7)]) hx hb dX8_restAt_235 hl (by decide) rfl (fun ls hl => ?_)
          obtain ⟨y17, ey17, h⟩ := tx_lt h
          refine lv_iinc (v := y17) (lv' := [(7, .int y17), (6, .int 0), (0, .ref (aa 0)), (3, .int x3), (4, .int x4), (5, .int x5)]) hx hb dX8_restAt_237 hl (k := 5) rfl ey17 (by decide) rfl (fun ls hl => ?_)
          refine lv_goto (tgt := 156) hx hb dX8_restAt_240 (by decide) ?_
          exact hk156 0 y17 H locs ls h hP hD hS (lv_sub hl [2, 3, 4, 5, 1, 0] rfl)
        · have h := tx_neg c16 h
          refine lv_aload_n hx hb dX8_restAt_200 rfl (lv_at hl 0 rfl) ?_
          refine va_get (D := G) (ci := 8) (v := .ref (aa 78)) (C := RX8) (T := TX8) (N := 91) hx hb hT ku_8 hown hK hP 0 rfl rfl 77 (by decide) (hT _ kw_11_5) (fun _ h9 => h9) rfl dX8_restAt_201 ?_
          refine lv_iload hx hb dX8_restAt_204 (lv_at hl 3 rfl) ?_
          refine lv_aload_n hx hb dX8_restAt_206 rfl (lv_at hl 0 rfl) ?_
          refine va_get (D := G) (ci := 8) (v := .int (S 0 12)) (C := RX8) (T := TX8) (N := 91) hx hb hT ku_8 hown hK hP 0 rfl rfl 12 (by decide) (hT _ kw_12_3) (fun _ h9 => h9) rfl dX8_restAt_207 ?_
          refine lv_idiv hx hb dX8_restAt_210 (tx_nz g13) ?_
          refine lv_aload_n hx hb dX8_restAt_211 rfl (lv_at hl 0 rfl) ?_
          refine va_get (D := G) (ci := 8) (v := .int (S 0 12)) (C := RX8) (T := TX8) (N := 91) hx hb hT ku_8 hown hK hP 0 rfl rfl 12 (by decide) (hT _ kw_12_3) (fun _ h9 => h9) rfl dX8_restAt_212 ?_
          refine lv_imul hx hb dX8_restAt_215 ?_
          refine lv_iload hx hb dX8_restAt_216 (lv_at hl 5 rfl) ?_
          refine lv_iadd hx hb dX8_restAt_218 ?_
          obtain ⟨g18, h⟩ := tx_ck h
          refine va_iald (i := (((x5 / (S 0 12)) * (S 0 12)) + x7)) hx hb hK hP 43 0 rfl rfl (tx_in g18) dX8_restAt_219 ?_
          refine lv_aload_n hx hb dX8_restAt_220 rfl (lv_at hl 0 rfl) ?_
          refine va_get (D := G) (ci := 8) (v := .ref (aa 78)) (C := RX8) (T := TX8) (N := 91) hx hb hT ku_8 hown hK hP 0 rfl rfl 77 (by decide) (hT _ kw_11_5) (fun _ h9 => h9) rfl dX8_restAt_221 ?_
          refine lv_iload hx hb dX8_restAt_224 (lv_at hl 3 rfl) ?_
          refine va_iald (i := x5) hx hb hK hP 43 0 rfl rfl (tx_in g15) dX8_restAt_226 ?_
          refine lv_icmp_lt (tgt := 234) hx hb dX8_restAt_227 (by decide) (fun c19 => ?_) (fun c19 => ?_)
          · have h := tx_pos c19 h
            refine lv_iconst (v := 0) hx hb dX8_restAt_234 (by decide) ?_
            refine lv_istore (lv' := [(6, .int 0), (0, .ref (aa 0)), (3, .int x3), (4, .int x4), (5, .int x5), (7, .int x7)]) hx hb dX8_restAt_235 hl (by decide) rfl (fun ls hl => ?_)
            obtain ⟨y20, ey20, h⟩ := tx_lt h
            refine lv_iinc (v := y20) (lv' := [(7, .int y20), (6, .int 0), (0, .ref (aa 0)), (3, .int x3), (4, .int x4), (5, .int x5)]) hx hb dX8_restAt_237 hl (k := 5) rfl ey20 (by decide) rfl (fun ls hl => ?_)
            refine lv_goto (tgt := 156) hx hb dX8_restAt_240 (by decide) ?_
            exact hk156 0 y20 H locs ls h hP hD hS (lv_sub hl [2, 3, 4, 5, 1, 0] rfl)
          · have h := tx_neg c19 h
            refine lv_iconst (v := 1) hx hb dX8_restAt_230 (by decide) ?_
            refine lv_goto (tgt := 235) hx hb dX8_restAt_231 (by decide) ?_
            refine lv_istore (lv' := [(6, .int 1), (0, .ref (aa 0)), (3, .int x3), (4, .int x4), (5, .int x5), (7, .int x7)]) hx hb dX8_restAt_235 hl (by decide) rfl (fun ls hl => ?_)
            obtain ⟨y21, ey21, h⟩ := tx_lt h
            refine lv_iinc (v := y21) (lv' := [(7, .int y21), (6, .int 1), (0, .ref (aa 0)), (3, .int x3), (4, .int x4), (5, .int x5)]) hx hb dX8_restAt_237 hl (k := 5) rfl ey21 (by decide) rfl (fun ls hl => ?_)
            refine lv_goto (tgt := 156) hx hb dX8_restAt_240 (by decide) ?_
            exact hk156 1 y21 H locs ls h hP hD hS (lv_sub hl [2, 3, 4, 5, 1, 0] rfl)
set_option maxHeartbeats 4000000 in
set_option maxRecDepth 100000 in
theorem w_X8_restAt_L136 {p : Program} {l : Launch} {e : Env} {s : State} {m : MethodId} {below : List Frame} {meth : Method} {c : Code} {G : va_G} {cA : Nat → ClassId} {A : Nat → Prop} {aa : Nat → Nat} {x1₀ : Int32} {x2₀ : Int32} {x3₀ : Int32} {r0 : Int32} {S' : Tr} {L' : Lo} {S : Tr} {L : Lo} {x3 : Int32} (F : tF p s m ([.ref (aa 0), .int x1₀, .int x2₀, .int x3₀] : List Value).toArray meth c G cA A RX8 cX8_restAt 8 (some .int))    (N : Nat) : ∀ (x4 : Int32) (x5 : Int32) (H : Heap) (locs : List Loc) (ls : Array Slot), lpF (fun _ _ => none) (fB_X8_restAt_L136 S L x3) N x4 x5 = some (r0, S', L') → va_P G vwCl (wM cA aa S L) H → va_D A (wM cA aa S L) → va_S A s.heap H locs → lv_has ls 8 [(0, .ref (aa 0)), (3, .int x3), (4, .int x4), (5, .int x5)] → G_X8_restAt p l e s m below meth c G cA A aa x1₀ x2₀ x3₀ r0 S' L' H locs (F0 m 136 ls []) := by
  obtain ⟨hx, hb, hr, hml, hT, hown, hlocks, hK, hN, hA⟩ := id F
  induction N with
  | zero =>
    intro x4 x5 H locs ls h
    have h : (none : Option (Int32 × Tr × Lo)) = some (r0, S', L') := h
    cases h
  | succ N hk136 =>
    intro x4 x5 H locs ls h hP hD hS hl
    have h : fB_X8_restAt_L136 S L x3 (lpF (fun _ _ => none) (fB_X8_restAt_L136 S L x3) N) x4 x5 = some (r0, S', L') := h
    generalize hk136e : lpF (fun _ _ => none) (fB_X8_restAt_L136 S L x3) N = k136 at h hk136
    unfold fB_X8_restAt_L136 at h
    refine lv_iload hx hb dX8_restAt_136 (lv_at hl 3 rfl) ?_
    refine lv_aload_n hx hb dX8_restAt_138 rfl (lv_at hl 0 rfl) ?_
    refine va_get (D := G) (ci := 8) (v := .int (S 0 12)) (C := RX8) (T := TX8) (N := 91) hx hb hT ku_8 hown hK hP 0 rfl rfl 12 (by decide) (hT _ kw_12_3) (fun _ h9 => h9) rfl dX8_restAt_139 ?_
    refine lv_aload_n hx hb dX8_restAt_142 rfl (lv_at hl 0 rfl) ?_
    refine va_get (D := G) (ci := 8) (v := .int (S 0 12)) (C := RX8) (T := TX8) (N := 91) hx hb hT ku_8 hown hK hP 0 rfl rfl 12 (by decide) (hT _ kw_12_3) (fun _ h9 => h9) rfl dX8_restAt_143 ?_
    refine lv_imul hx hb dX8_restAt_146 ?_
    refine lv_icmp_ge (tgt := 285) hx hb dX8_restAt_147 (by decide) (fun c2 => ?_) (fun c2 => ?_)
    · have h := tx_pos c2 h
      exact w_X8_restAt_J285 F x3 x4 S L H locs ls h hP hD hS (lv_sub hl [1, 2] rfl)
    · have h := tx_neg c2 h
      refine lv_iconst (v := 1) hx hb dX8_restAt_150 (by decide) ?_
      refine lv_istore (lv' := [(6, .int 1), (0, .ref (aa 0)), (3, .int x3), (4, .int x4), (5, .int x5)]) hx hb dX8_restAt_151 hl (by decide) rfl (fun ls hl => ?_)
      refine lv_iconst (v := 0) hx hb dX8_restAt_153 (by decide) ?_
      refine lv_istore (lv' := [(7, .int 0), (6, .int 1), (0, .ref (aa 0)), (3, .int x3), (4, .int x4), (5, .int x5)]) hx hb dX8_restAt_154 hl (by decide) rfl (fun ls hl => ?_)
      exact w_X8_restAt_L156 F k136 hk136 2000 1 0 H locs ls h hP hD hS (lv_sub hl [2, 3, 4, 5, 1, 0] rfl)
set_option maxHeartbeats 4000000 in
set_option maxRecDepth 100000 in
theorem w_X8_restAt_J90 {p : Program} {l : Launch} {e : Env} {s : State} {m : MethodId} {below : List Frame} {meth : Method} {c : Code} {G : va_G} {cA : Nat → ClassId} {A : Nat → Prop} {aa : Nat → Nat} {x1₀ : Int32} {x2₀ : Int32} {x3₀ : Int32} {r0 : Int32} {S' : Tr} {L' : Lo} {x1 : Int32} {x2 : Int32} {x3 : Int32} (F : tF p s m ([.ref (aa 0), .int x1₀, .int x2₀, .int x3₀] : List Value).toArray meth c G cA A RX8 cX8_restAt 8 (some .int))  (k3 : Int32 → Tr → Lo → Option (Int32 × Tr × Lo)) (hk3 : ∀ (x4 : Int32) (S : Tr) (L : Lo) (H : Heap) (locs : List Loc) (ls : Array Slot), k3 x4 S L = some (r0, S', L') → va_P G vwCl (wM cA aa S L) H → va_D A (wM cA aa S L) → va_S A s.heap H locs → lv_has ls 8 [(0, .ref (aa 0)), (1, .int x1), (2, .int x2), (3, .int x3), (4, .int x4)] → G_X8_restAt p l e s m below meth c G cA A aa x1₀ x2₀ x3₀ r0 S' L' H locs (F0 m 3 ls [])) (x4 : Int32) (x5 : Int32) (s0 : Int32) (S : Tr) (L : Lo) (H : Heap) (locs : List Loc) (ls : Array Slot) (h : fJ_X8_restAt_J90 k3 x1 x2 x3 x4 x5 s0 S L = some (r0, S', L')) (hP : va_P G vwCl (wM cA aa S_51 L_40) H) (hD : va_D A (wM cA aa S_51 L_40)) (hS : va_S A s.heap H locs) (hl : lv_has ls 8 [(4, .int y52), (6, .int s0), (0, .ref (aa 0)), (1, .int x1), (2, .int x2), (3, .int x3), (5, .int x5)]) : G_X8_restAt p l e s m below meth c G cA A aa x1₀ x2₀ x3₀ r0 S' L' H locs (F0 m 90 ls []) := by
  obtain ⟨hx, hb, hr, hml, hT, hown, hlocks, hK, hN, hA⟩ := id F
  unfold fJ_X8_restAt_J90 at h
  refine lv_istore (lv' := [(6, .int s0), (0, .ref (aa 0)), (1, .int x1), (2, .int x2), (3, .int x3), (4, .int x4), (5, .int x5)]) hx hb dX8_restAt_90 hl (by decide) rfl (fun ls hl => ?_)
  refine lv_aload_n hx hb dX8_restAt_92 rfl (lv_at hl 1 rfl) ?_
  obtain ⟨⟨S_39, L_40⟩, hc41, h⟩ := tx_bd h
  replace h := tx_let (y := S_39) rfl h
  replace h := tx_let (y := L_40) rfl h
  refine tw_cv tw_all hP hD hS hA (va_runV (As := []) (rest := []) ⟨hx, hb, hml, hown, hT⟩ (c_X8_toEnd l G cA H.size aa S L  S_39 L_40 hc41) (cwV 0 hT (tq_gV kw_48_5 kw_48_6 kw_48_7 kw_1_5 kw_48_8) rfl rfl rfl (by decide +kernel) ⟨Nat.le_of_ble_eq_true rfl, Nat.le_of_ble_eq_true rfl⟩) ⟨(tw_pre tw_all hP hD hK hN).1, va_recv hK hP (ci := 8) (q0 := 0) rfl rfl, (tw_pre tw_all hP hD hK hN).2⟩ rfl rfl hl.1 rfl (lv_room (Nat.le_of_ble_eq_true rfl)) dX8_restAt_93 ⟨Nat.le_of_ble_eq_true rfl, Nat.le_of_ble_eq_true rfl⟩) (fun _ H locs z42 hP hD hS => ?_)
  rw [List.append_nil] at hP hD
  have hP : va_P G vwCl (wM cA aa S_39 L_40) H := hP
  have hD : va_D A (wM cA aa S_39 L_40) := hD
  refine lv_aload_n hx hb dX8_restAt_96 rfl (lv_at hl 1 rfl) ?_
  refine va_get (D := G) (ci := 8) (v := .ref (aa 77)) (C := RX8) (T := TX8) (N := 91) hx hb hT ku_8 hown hK hP 0 rfl rfl 76 (by decide) (hT _ kw_11_4) (fun _ h9 => h9) rfl dX8_restAt_97 ?_
  refine lv_iload hx hb dX8_restAt_100 (lv_at hl 5 rfl) ?_
  refine lv_aload_n hx hb dX8_restAt_102 rfl (lv_at hl 1 rfl) ?_
  refine lv_iload_n hx hb dX8_restAt_103 rfl (lv_at hl 2 rfl) ?_
  refine lv_iload hx hb dX8_restAt_104 (lv_at hl 6 rfl) ?_
  obtain ⟨r43, hc44, h⟩ := tx_bd h
  refine tw_ci tw_all hP hD hS hA (va_runV (As := [.int x1, .int x5]) (rest := [.int x4, .ref (aa 77)]) ⟨hx, hb, hml, hown, hT⟩ (c_X8_costOf l G cA H.size aa S_39 L_40 x1 x5  r43 hc44) (cwV 2 hT (tq_gV kw_50_21 kw_50_22 kw_50_23 kw_1_5 kw_51_0) rfl rfl rfl (by decide +kernel) ⟨Nat.le_of_ble_eq_true rfl, Nat.le_of_ble_eq_true rfl⟩) ⟨(tw_pre tw_all hP hD hK hN).1, va_recv hK hP (ci := 8) (q0 := 0) rfl rfl, (tw_pre tw_all hP hD hK hN).2⟩ rfl rfl hl.1 rfl (lv_room (Nat.le_of_ble_eq_true rfl)) dX8_restAt_106 ⟨Nat.le_of_ble_eq_true rfl, Nat.le_of_ble_eq_true rfl⟩) (fun _ _ H locs z45 hP hD hS => ?_)
  subst z45
  rw [List.append_nil] at hP hD
  have hP : va_P G vwCl (wM cA aa S_39 L_40) H := hP
  have hD : va_D A (wM cA aa S_39 L_40) := hD
  obtain ⟨g46, h⟩ := tx_ck h
  refine va_iast (i := x4) hx hb hK hP hD hS 42 0 rfl rfl (tx_in g46) dX8_restAt_109 (fun H locs hP hD hS => ?_)
  obtain ⟨S_47, eS_47, h⟩ := tx_lt h
  rw [sM_a76, eS_47] at hP hD
  refine lv_aload_n hx hb dX8_restAt_110 rfl (lv_at hl 1 rfl) ?_
  refine va_get (D := G) (ci := 8) (v := .ref (aa 78)) (C := RX8) (T := TX8) (N := 91) hx hb hT ku_8 hown hK hP 0 rfl rfl 77 (by decide) (hT _ kw_11_5) (fun _ h9 => h9) rfl dX8_restAt_111 ?_
  refine lv_iload hx hb dX8_restAt_114 (lv_at hl 5 rfl) ?_
  refine lv_aload_n hx hb dX8_restAt_116 rfl (lv_at hl 1 rfl) ?_
  refine lv_iload_n hx hb dX8_restAt_117 rfl (lv_at hl 3 rfl) ?_
  refine lv_iload hx hb dX8_restAt_118 (lv_at hl 0 rfl) ?_
  obtain ⟨r48, hc49, h⟩ := tx_bd h
  refine tw_ci tw_all hP hD hS hA (va_runV (As := [.int x2, .int s0]) (rest := [.int x4, .ref (aa 78)]) ⟨hx, hb, hml, hown, hT⟩ (c_X8_costOf l G cA H.size aa S_47 L_40 x2 s0  r48 hc49) (cwV 2 hT (tq_gV kw_50_21 kw_50_22 kw_50_23 kw_1_5 kw_51_0) rfl rfl rfl (by decide +kernel) ⟨Nat.le_of_ble_eq_true rfl, Nat.le_of_ble_eq_true rfl⟩) ⟨(tw_pre tw_all hP hD hK hN).1, va_recv hK hP (ci := 8) (q0 := 0) rfl rfl, (tw_pre tw_all hP hD hK hN).2⟩ rfl rfl hl.1 rfl (lv_room (Nat.le_of_ble_eq_true rfl)) dX8_restAt_120 ⟨Nat.le_of_ble_eq_true rfl, Nat.le_of_ble_eq_true rfl⟩) (fun _ _ H locs z50 hP hD hS => ?_)
  subst z50
  rw [List.append_nil] at hP hD
  have hP : va_P G vwCl (wM cA aa S_47 L_40) H := hP
  have hD : va_D A (wM cA aa S_47 L_40) := hD
  refine va_iast (i := x4) hx hb hK hP hD hS 43 0 rfl rfl (tx_in g46) dX8_restAt_123 (fun H locs hP hD hS => ?_)
  obtain ⟨S_51, eS_51, h⟩ := tx_lt h
  rw [sM_a77, eS_51] at hP hD
  obtain ⟨y52, ey52, h⟩ := tx_lt h
  refine lv_iinc (v := y52) (lv' := [(4, .int y52), (6, .int s0), (0, .ref (aa 0)), (1, .int x1), (2, .int x2), (3, .int x3), (5, .int x5)]) hx hb dX8_restAt_124 hl (k := 5) rfl ey52 (by decide) rfl (fun ls hl => ?_)
  refine lv_goto (tgt := 3) hx hb dX8_restAt_127 (by decide) ?_
  exact hk3 y52 S_51 L_40 H locs ls h hP hD hS (lv_sub hl [2, 3, 4, 5, 0] rfl)
set_option maxHeartbeats 4000000 in
set_option maxRecDepth 100000 in
theorem w_X8_restAt_J70 {p : Program} {l : Launch} {e : Env} {s : State} {m : MethodId} {below : List Frame} {meth : Method} {c : Code} {G : va_G} {cA : Nat → ClassId} {A : Nat → Prop} {aa : Nat → Nat} {x1₀ : Int32} {x2₀ : Int32} {x3₀ : Int32} {r0 : Int32} {S' : Tr} {L' : Lo} {x1 : Int32} {x2 : Int32} {x3 : Int32} (F : tF p s m ([.ref (aa 0), .int x1₀, .int x2₀, .int x3₀] : List Value).toArray meth c G cA A RX8 cX8_restAt 8 (some .int))  (k3 : Int32 → Tr → Lo → Option (Int32 × Tr × Lo)) (hk3 : ∀ (x4 : Int32) (S : Tr) (L : Lo) (H : Heap) (locs : List Loc) (ls : Array Slot), k3 x4 S L = some (r0, S', L') → va_P G vwCl (wM cA aa S L) H → va_D A (wM cA aa S L) → va_S A s.heap H locs → lv_has ls 8 [(0, .ref (aa 0)), (1, .int x1), (2, .int x2), (3, .int x3), (4, .int x4)] → G_X8_restAt p l e s m below meth c G cA A aa x1₀ x2₀ x3₀ r0 S' L' H locs (F0 m 3 ls [])) (x4 : Int32) (s0 : Int32) (S : Tr) (L : Lo) (H : Heap) (locs : List Loc) (ls : Array Slot) (h : fJ_X8_restAt_J70 k3 x1 x2 x3 x4 s0 S L = some (r0, S', L')) (hP : va_P G vwCl (wM cA aa S L) H) (hD : va_D A (wM cA aa S L)) (hS : va_S A s.heap H locs) (hl : lv_has ls 8 [(5, .int s0), (0, .ref (aa 0)), (1, .int x1), (2, .int x2), (3, .int x3), (4, .int x4)]) : G_X8_restAt p l e s m below meth c G cA A aa x1₀ x2₀ x3₀ r0 S' L' H locs (F0 m 70 ls []) := by
  obtain ⟨hx, hb, hr, hml, hT, hown, hlocks, hK, hN, hA⟩ := id F
  unfold fJ_X8_restAt_J70 at h
  refine lv_istore (lv' := [(5, .int s0), (0, .ref (aa 0)), (1, .int x1), (2, .int x2), (3, .int x3), (4, .int x4)]) hx hb dX8_restAt_70 hl (by decide) rfl (fun ls hl => ?_)
  refine lv_aload_n hx hb dX8_restAt_72 rfl (lv_at hl 1 rfl) ?_
  refine va_get (D := G) (ci := 8) (v := .ref (aa 53)) (C := RX8) (T := TX8) (N := 91) hx hb hT ku_8 hown hK hP 0 rfl rfl 52 (by decide) (hT _ kw_10_13) (fun _ h9 => h9) rfl dX8_restAt_73 ?_
  refine lv_bipush (v := 10) hx hb dX8_restAt_76 (by decide) ?_
  refine lv_iload_n hx hb dX8_restAt_78 rfl (lv_at hl 3 rfl) ?_
  refine lv_iadd hx hb dX8_restAt_79 ?_
  obtain ⟨g37, h⟩ := tx_ck h
  refine va_iald (i := ((10 : Int32) + x2)) hx hb hK hP 27 0 rfl rfl (tx_in g37) dX8_restAt_80 ?_
  refine lv_iconst (v := 5) hx hb dX8_restAt_81 (by decide) ?_
  refine lv_icmp_ne (tgt := 89) hx hb dX8_restAt_82 (by decide) (fun c38 => ?_) (fun c38 => ?_)
  · have h := tx_neg c38 h
    refine lv_iconst (v := 0) hx hb dX8_restAt_89 (by decide) ?_
    exact w_X8_restAt_J90 F k3 hk3 x4 s0 0 S L H locs ls h hP hD hS (lv_sub hl [1, 2, 3, 4, 5, 0] rfl)
  · have h := tx_pos c38 h
    refine lv_iconst (v := 1) hx hb dX8_restAt_85 (by decide) ?_
    refine lv_goto (tgt := 90) hx hb dX8_restAt_86 (by decide) ?_
    exact w_X8_restAt_J90 F k3 hk3 x4 s0 1 S L H locs ls h hP hD hS (lv_sub hl [1, 2, 3, 4, 5, 0] rfl)
set_option maxHeartbeats 4000000 in
set_option maxRecDepth 100000 in
theorem w_X8_restAt_L3 {p : Program} {l : Launch} {e : Env} {s : State} {m : MethodId} {below : List Frame} {meth : Method} {c : Code} {G : va_G} {cA : Nat → ClassId} {A : Nat → Prop} {aa : Nat → Nat} {x1₀ : Int32} {x2₀ : Int32} {x3₀ : Int32} {r0 : Int32} {S' : Tr} {L' : Lo} {x1 : Int32} {x2 : Int32} {x3 : Int32} (F : tF p s m ([.ref (aa 0), .int x1₀, .int x2₀, .int x3₀] : List Value).toArray meth c G cA A RX8 cX8_restAt 8 (some .int))    (N : Nat) : ∀ (x4 : Int32) (S : Tr) (L : Lo) (H : Heap) (locs : List Loc) (ls : Array Slot), lpF (fun _ _ _ => none) (fB_X8_restAt_L3 x1 x2 x3) N x4 S L = some (r0, S', L') → va_P G vwCl (wM cA aa S L) H → va_D A (wM cA aa S L) → va_S A s.heap H locs → lv_has ls 8 [(0, .ref (aa 0)), (1, .int x1), (2, .int x2), (3, .int x3), (4, .int x4)] → G_X8_restAt p l e s m below meth c G cA A aa x1₀ x2₀ x3₀ r0 S' L' H locs (F0 m 3 ls []) := by
  obtain ⟨hx, hb, hr, hml, hT, hown, hlocks, hK, hN, hA⟩ := id F
  induction N with
  | zero =>
    intro x4 S L H locs ls h
    have h : (none : Option (Int32 × Tr × Lo)) = some (r0, S', L') := h
    cases h
  | succ N hk3 =>
    intro x4 S L H locs ls h hP hD hS hl
    have h : fB_X8_restAt_L3 x1 x2 x3 (lpF (fun _ _ _ => none) (fB_X8_restAt_L3 x1 x2 x3) N) x4 S L = some (r0, S', L') := h
    generalize hk3e : lpF (fun _ _ _ => none) (fB_X8_restAt_L3 x1 x2 x3) N = k3 at h hk3
    unfold fB_X8_restAt_L3 at h
    refine lv_iload hx hb dX8_restAt_3 (lv_at hl 4 rfl) ?_
    refine lv_aload_n hx hb dX8_restAt_5 rfl (lv_at hl 0 rfl) ?_
    refine va_get (D := G) (ci := 8) (v := .int (S 0 12)) (C := RX8) (T := TX8) (N := 91) hx hb hT ku_8 hown hK hP 0 rfl rfl 12 (by decide) (hT _ kw_12_3) (fun _ h9 => h9) rfl dX8_restAt_6 ?_
    refine lv_aload_n hx hb dX8_restAt_9 rfl (lv_at hl 0 rfl) ?_
    refine va_get (D := G) (ci := 8) (v := .int (S 0 12)) (C := RX8) (T := TX8) (N := 91) hx hb hT ku_8 hown hK hP 0 rfl rfl 12 (by decide) (hT _ kw_12_3) (fun _ h9 => h9) rfl dX8_restAt_10 ?_
    refine lv_imul hx hb dX8_restAt_13 ?_
    refine lv_icmp_ge (tgt := 130) hx hb dX8_restAt_14 (by decide) (fun c1 => ?_) (fun c1 => ?_)
    · have h := tx_pos c1 h
      refine lv_iconst (v := 0) hx hb dX8_restAt_130 (by decide) ?_
      refine lv_istore (lv' := [(4, .int 0), (0, .ref (aa 0)), (1, .int x1), (2, .int x2), (3, .int x3)]) hx hb dX8_restAt_131 hl (by decide) rfl (fun ls hl => ?_)
      refine lv_iconst (v := 0) hx hb dX8_restAt_133 (by decide) ?_
      refine lv_istore (lv' := [(5, .int 0), (4, .int 0), (0, .ref (aa 0)), (1, .int x1), (2, .int x2), (3, .int x3)]) hx hb dX8_restAt_134 hl (by decide) rfl (fun ls hl => ?_)
      exact w_X8_restAt_L136 F 2000 0 0 H locs ls h hP hD hS (lv_sub hl [2, 5, 1, 0] rfl)
    · have h := tx_neg c1 h
      refine lv_aload_n hx hb dX8_restAt_17 rfl (lv_at hl 0 rfl) ?_
      obtain ⟨S_22, hc23, h⟩ := tx_bd h
      refine tw_cv tw_all hP hD hS hA (va_runV (As := []) (rest := []) ⟨hx, hb, hml, hown, hT⟩ (c_X8_layTried l G cA H.size aa S L  S_22 hc23) (cwV 0 hT (tq_gV kw_39_5 kw_39_6 kw_39_7 kw_1_5 kw_39_8) rfl rfl rfl (by decide +kernel) ⟨Nat.le_of_ble_eq_true rfl, Nat.le_of_ble_eq_true rfl⟩) ⟨(tw_pre tw_all hP hD hK hN).1, va_recv hK hP (ci := 8) (q0 := 0) rfl rfl, (tw_pre tw_all hP hD hK hN).2⟩ rfl rfl hl.1 rfl (lv_room (Nat.le_of_ble_eq_true rfl)) dX8_restAt_18 ⟨Nat.le_of_ble_eq_true rfl, Nat.le_of_ble_eq_true rfl⟩) (fun _ H locs z24 hP hD hS => ?_)
      rw [List.append_nil] at hP hD
      have hP : va_P G vwCl (wM cA aa S_22 L) H := hP
      have hD : va_D A (wM cA aa S_22 L) := hD
      refine lv_aload_n hx hb dX8_restAt_21 rfl (lv_at hl 0 rfl) ?_
      refine va_get (D := G) (ci := 8) (v := .ref (aa 72)) (C := RX8) (T := TX8) (N := 91) hx hb hT ku_8 hown hK hP 0 rfl rfl 71 (by decide) (hT _ kw_11_0) (fun _ h9 => h9) rfl dX8_restAt_22 ?_
      refine lv_iload_n hx hb dX8_restAt_25 rfl (lv_at hl 1 rfl) ?_
      refine lv_iload hx hb dX8_restAt_26 (lv_at hl 4 rfl) ?_
      refine lv_aload_n hx hb dX8_restAt_28 rfl (lv_at hl 0 rfl) ?_
      refine va_get (D := G) (ci := 8) (v := .int (S_22 0 12)) (C := RX8) (T := TX8) (N := 91) hx hb hT ku_8 hown hK hP 0 rfl rfl 12 (by decide) (hT _ kw_12_3) (fun _ h9 => h9) rfl dX8_restAt_29 ?_
      obtain ⟨g25, h⟩ := tx_ck h
      refine lv_idiv hx hb dX8_restAt_32 (tx_nz g25) ?_
      obtain ⟨g26, h⟩ := tx_ck h
      refine va_iast (i := x1) hx hb hK hP hD hS 38 0 rfl rfl (tx_in g26) dX8_restAt_33 (fun H locs hP hD hS => ?_)
      obtain ⟨S_27, eS_27, h⟩ := tx_lt h
      rw [sM_a71, eS_27] at hP hD
      refine lv_aload_n hx hb dX8_restAt_34 rfl (lv_at hl 0 rfl) ?_
      refine va_get (D := G) (ci := 8) (v := .ref (aa 72)) (C := RX8) (T := TX8) (N := 91) hx hb hT ku_8 hown hK hP 0 rfl rfl 71 (by decide) (hT _ kw_11_0) (fun _ h9 => h9) rfl dX8_restAt_35 ?_
      refine lv_iload_n hx hb dX8_restAt_38 rfl (lv_at hl 2 rfl) ?_
      refine lv_iload hx hb dX8_restAt_39 (lv_at hl 4 rfl) ?_
      refine lv_aload_n hx hb dX8_restAt_41 rfl (lv_at hl 0 rfl) ?_
      refine va_get (D := G) (ci := 8) (v := .int (S_27 0 12)) (C := RX8) (T := TX8) (N := 91) hx hb hT ku_8 hown hK hP 0 rfl rfl 12 (by decide) (hT _ kw_12_3) (fun _ h9 => h9) rfl dX8_restAt_42 ?_
      obtain ⟨g28, h⟩ := tx_ck h
      refine lv_irem hx hb dX8_restAt_45 (tx_nz g28) ?_
      obtain ⟨g29, h⟩ := tx_ck h
      refine va_iast (i := x2) hx hb hK hP hD hS 38 0 rfl rfl (tx_in g29) dX8_restAt_46 (fun H locs hP hD hS => ?_)
      obtain ⟨S_30, eS_30, h⟩ := tx_lt h
      rw [sM_a71, eS_30] at hP hD
      refine lv_aload_n hx hb dX8_restAt_47 rfl (lv_at hl 0 rfl) ?_
      refine lv_iconst (v := 1) hx hb dX8_restAt_48 (by decide) ?_
      obtain ⟨⟨S_31, L_32⟩, hc33, h⟩ := tx_bd h
      replace h := tx_let (y := S_31) rfl h
      replace h := tx_let (y := L_32) rfl h
      refine tw_cv tw_all hP hD hS hA (va_runV (As := [.int 1]) (rest := []) ⟨hx, hb, hml, hown, hT⟩ (c_X8_goOn l G cA H.size aa S_30 L (1 : Int32)  S_31 L_32 hc33) (cwV 1 hT (tq_gV kw_43_14 kw_43_15 kw_43_16 kw_1_5 kw_43_17) rfl rfl rfl (by decide +kernel) ⟨Nat.le_of_ble_eq_true rfl, Nat.le_of_ble_eq_true rfl⟩) ⟨(tw_pre tw_all hP hD hK hN).1, va_recv hK hP (ci := 8) (q0 := 0) rfl rfl, (tw_pre tw_all hP hD hK hN).2⟩ rfl rfl hl.1 rfl (lv_room (Nat.le_of_ble_eq_true rfl)) dX8_restAt_49 ⟨Nat.le_of_ble_eq_true rfl, Nat.le_of_ble_eq_true rfl⟩) (fun _ H locs z34 hP hD hS => ?_)
      rw [List.append_nil] at hP hD
      have hP : va_P G vwCl (wM cA aa S_31 L_32) H := hP
      have hD : va_D A (wM cA aa S_31 L_32) := hD
      refine lv_aload_n hx hb dX8_restAt_52 rfl (lv_at hl 0 rfl) ?_
      refine va_get (D := G) (ci := 8) (v := .ref (aa 53)) (C := RX8) (T := TX8) (N := 91) hx hb hT ku_8 hown hK hP 0 rfl rfl 52 (by decide) (hT _ kw_10_13) (fun _ h9 => h9) rfl dX8_restAt_53 ?_
      refine lv_bipush (v := 10) hx hb dX8_restAt_56 (by decide) ?_
      refine lv_iload_n hx hb dX8_restAt_58 rfl (lv_at hl 1 rfl) ?_
      refine lv_iadd hx hb dX8_restAt_59 ?_
      obtain ⟨g35, h⟩ := tx_ck h
      refine va_iald (i := ((10 : Int32) + x1)) hx hb hK hP 27 0 rfl rfl (tx_in g35) dX8_restAt_60 ?_
      refine lv_iconst (v := 5) hx hb dX8_restAt_61 (by decide) ?_
      refine lv_icmp_ne (tgt := 69) hx hb dX8_restAt_62 (by decide) (fun c36 => ?_) (fun c36 => ?_)
      · have h := tx_neg c36 h
        refine lv_iconst (v := 0) hx hb dX8_restAt_69 (by decide) ?_
        exact w_X8_restAt_J70 F k3 hk3 x4 0 S_31 L_32 H locs ls h hP hD hS (lv_sub hl [0, 1, 2, 3, 4] rfl)
      · have h := tx_pos c36 h
        refine lv_iconst (v := 1) hx hb dX8_restAt_65 (by decide) ?_
        refine lv_goto (tgt := 70) hx hb dX8_restAt_66 (by decide) ?_
        exact w_X8_restAt_J70 F k3 hk3 x4 1 S_31 L_32 H locs ls h hP hD hS (lv_sub hl [0, 1, 2, 3, 4] rfl)
set_option maxHeartbeats 4000000 in
set_option maxRecDepth 100000 in
theorem c_X8_restAt (l : Launch) (G : va_G) (cA : Nat → ClassId) (sz : Nat) (aa : Nat → Nat) (S : Tr) (L : Lo) (x1 : Int32) (x2 : Int32) (x3 : Int32)  (r0 : Int32) (S' : Tr) (L' : Lo) (h : f_X8_restAt S L x1 x2 x3 = some (r0, S', L')) : Met l yX8_restAt (.code yX8_restAt cX8_restAt 8 (some .int) :: T0) ({ frames := 9, cells := 0, slots := 0, locals := 211 } : Room) (tqP G cA [.ref (aa 0), .int x1, .int x2, .int x3] (wM cA aa S L) sz) (tqQi G cA (fun (r : Int32) (_ : Unit) => r = r0) (fun (_ : Unit) => wM cA aa S' L') (va_A (wM cA aa S L) sz)) 0 0 (va_A (wM cA aa S L) sz) := by
  refine Met.ofW (cc := cX8_restAt) (maxL := 8) (ret := (some .int)) (by decide) rfl ?_
  intro p e s m args below meth c s₁ B hml hv
  obtain ⟨rfl, hsz, hP, hK, hD0, hN⟩ := hv
  have hx := B.exec
  have hb := B.bytes
  have hr := B.returns
  have hts := atoms_spec (ws := .code yX8_restAt cX8_restAt 8 (some .int) :: T0) B.pre
  have hT : ∀ w ∈ T0, w.before _ s = true := fun w h => hts w (List.mem_cons_of_mem _ h)
  have hown : s.vm.findClass RX8 = some m.cls := findClass_of_methodNamed B.named
  have hlocks := B.notSynchronized
  subst hsz
  have hD := hD0.self (sz := s.heap.size)
  generalize hAe : va_A (wM cA aa S L) s.heap.size = A at hD ⊢
  have hA : ∀ q : Nat, s.heap.size ≤ q → A q := fun q h => by rw [← hAe]; exact Or.inr h
  have hS : va_S A s.heap s.heap [] := va_S.rf
  have hl := lv_entry ([.ref (aa 0), .int x1, .int x2, .int x3]) (n := 8) (Nat.le_of_ble_eq_true rfl)
  rw [lg_entry_eq]
  generalize (lg_sl ([.ref (aa 0), .int x1, .int x2, .int x3]) ++ List.replicate (8 - (lg_sl ([.ref (aa 0), .int x1, .int x2, .int x3])).length) Slot.unset).toArray = ls at hl ⊢
  have hl : lv_has ls 8 [(0, .ref (aa 0)), (1, .int x1), (2, .int x2), (3, .int x3)] := hl
  have F : tF p s m ([.ref (aa 0), .int x1, .int x2, .int x3] : List Value).toArray meth c G cA A RX8 cX8_restAt 8 (some .int) := ⟨hx, hb, hr, hml, hT, hown, hlocks, hK, hN, hA⟩
  obtain ⟨H, hH⟩ : ∃ z, z = s.heap := ⟨_, rfl⟩
  rw [← hH] at hP
  have hS : va_S A s.heap H [] := by rw [hH]; exact hS
  suffices hgo : G_X8_restAt p l e s m below meth c G cA A aa x1 x2 x3 r0 S' L' H [] (F0 m 0 ls []) by rw [hH] at hgo; exact hgo
  generalize ([] : List Loc) = locs at hS ⊢
  unfold f_X8_restAt at h
  refine lv_iconst (v := 0) hx hb dX8_restAt_0 (by decide) ?_
  refine lv_istore (lv' := [(4, .int 0), (0, .ref (aa 0)), (1, .int x1), (2, .int x2), (3, .int x3)]) hx hb dX8_restAt_1 hl (by decide) rfl (fun ls hl => ?_)
  exact w_X8_restAt_L3 F 2000 0 S L H locs ls h hP hD hS (lv_sub hl [1, 2, 3, 4, 0] rfl)
