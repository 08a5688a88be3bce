abbrev G_X8_token (p : Program) (l : Launch) (e : Env) (s : State) (m : MethodId) (below : List Frame) (meth : Method) (c : Code) (G : va_G) (cA : Nat → ClassId) (A : Nat → Prop) (aa : Nat → Nat) (L : Lo) (S' : Tr) (H : Heap) (locs : List Loc) (g : JFrame) : Prop := W p l e (headSpec (.code yX8_token cX8_token 1 none :: T0) ({ frames := 1, cells := 0, slots := 0, locals := 27 } : Room)).room s m ([.ref (aa 0)] : List Value).toArray below meth c H locs 0 0 (MQ below (tqQv G cA (fun (_ : Unit) => True) (fun (_ : Unit) => wM cA aa S' L) A) ([.ref (aa 0)] : List Value).toArray s 0 0 A) g
set_option maxHeartbeats 4000000 in
set_option maxRecDepth 100000 in
theorem w_X8_token_J261 {p : Program} {l : Launch} {e : Env} {s : State} {m : MethodId} {below : List Frame} {meth : Method} {c : Code} {G : va_G} {cA : Nat → ClassId} {A : Nat → Prop} {aa : Nat → Nat} {L : Lo} {S' : Tr} (F : tF p s m ([.ref (aa 0)] : List Value).toArray meth c G cA A RX8 cX8_token 1 none)  (k213 : Tr → Option (Tr)) (hk213 : ∀ (S : Tr) (H : Heap) (locs : List Loc) (ls : Array Slot), k213 S = some S' → va_P G vwCl (wM cA aa S L) H → va_D A (wM cA aa S L) → va_S A s.heap H locs → lv_has ls 1 [(0, .ref (aa 0))] → G_X8_token p l e s m below meth c G cA A aa L S' H locs (F0 m 213 ls [])) (s0 : Int32) (S : Tr) (H : Heap) (locs : List Loc) (ls : Array Slot) (h : fJ_X8_token_J261 k213 s0 S = some S') (hP : va_P G vwCl (wM cA aa S_24 L) H) (hD : va_D A (wM cA aa S_24 L)) (hS : va_S A s.heap H locs) (hl : lv_has ls 1 [(0, .ref (aa 0))]) : G_X8_token p l e s m below meth c G cA A aa L S' H locs (F0 m 261 ls []) := by
  obtain ⟨hx, hb, hr, hml, hT, hown, hlocks, hK, hN, hA⟩ := id F
  unfold fJ_X8_token_J261 at h
  refine va_put (D := G) (ci := 8) (v := .int s0) (ty := .int) (C := RX8) (T := TX8) (N := 91) hx hb hT ku_8 tyX8 tyX8_ok nmX8 hown hK hP hD hS 0 rfl rfl 9 (by decide) (hT _ kw_22_20) (fun _ h9 => h9) rfl (by decide +kernel) rfl rfl (Nat.le_of_ble_eq_true rfl) dX8_token_261 (fun H locs hP hD hS => ?_)
  obtain ⟨S_23, eS_23, h⟩ := tx_lt h
  rw [sM_f9, eS_23] at hP hD
  refine lv_aload_n hx hb dX8_token_264 rfl (lv_at hl 0 rfl) ?_
  refine lv_dup hx hb dX8_token_265 rfl ?_
  refine va_get (D := G) (ci := 8) (v := .int (S_23 0 7)) (C := RX8) (T := TX8) (N := 91) hx hb hT ku_8 hown hK hP 0 rfl rfl 7 (by decide) (hT _ kw_22_13) (fun _ h9 => h9) rfl dX8_token_266 ?_
  refine lv_iconst (v := 1) hx hb dX8_token_269 (by decide) ?_
  refine lv_iadd hx hb dX8_token_270 ?_
  refine va_put (D := G) (ci := 8) (v := .int ((S_23 0 7) + 1)) (ty := .int) (C := RX8) (T := TX8) (N := 91) hx hb hT ku_8 tyX8 tyX8_ok nmX8 hown hK hP hD hS 0 rfl rfl 7 (by decide) (hT _ kw_22_13) (fun _ h9 => h9) rfl (by decide +kernel) rfl rfl (Nat.le_of_ble_eq_true rfl) dX8_token_271 (fun H locs hP hD hS => ?_)
  obtain ⟨S_24, eS_24, h⟩ := tx_lt h
  rw [sM_f7, eS_24] at hP hD
  refine lv_goto (tgt := 213) hx hb dX8_token_274 (by decide) ?_
  exact hk213 S_24 H locs ls h hP hD hS (lv_sub hl [0] rfl)
set_option maxHeartbeats 4000000 in
set_option maxRecDepth 100000 in
theorem w_X8_token_L213 {p : Program} {l : Launch} {e : Env} {s : State} {m : MethodId} {below : List Frame} {meth : Method} {c : Code} {G : va_G} {cA : Nat → ClassId} {A : Nat → Prop} {aa : Nat → Nat} {L : Lo} {S' : Tr} (F : tF p s m ([.ref (aa 0)] : List Value).toArray meth c G cA A RX8 cX8_token 1 none)    (N : Nat) : ∀ (S : Tr) (H : Heap) (locs : List Loc) (ls : Array Slot), lpF (fun _ => none) (fB_X8_token_L213 ) N S = some S' → va_P G vwCl (wM cA aa S L) H → va_D A (wM cA aa S L) → va_S A s.heap H locs → lv_has ls 1 [(0, .ref (aa 0))] → G_X8_token p l e s m below meth c G cA A aa L S' H locs (F0 m 213 ls []) := by
  obtain ⟨hx, hb, hr, hml, hT, hown, hlocks, hK, hN, hA⟩ := id F
  induction N with
  | zero =>
    intro S H locs ls h
    have h : (none : Option (Tr)) = some S' := h
    cases h
  | succ N hk213 =>
    intro S H locs ls h hP hD hS hl
    have h : fB_X8_token_L213  (lpF (fun _ => none) (fB_X8_token_L213 ) N) S = some S' := h
    generalize hk213e : lpF (fun _ => none) (fB_X8_token_L213 ) N = k213 at h hk213
    unfold fB_X8_token_L213 at h
    refine lv_aload_n hx hb dX8_token_213 rfl (lv_at hl 0 rfl) ?_
    refine lv_aload_n hx hb dX8_token_214 rfl (lv_at hl 0 rfl) ?_
    refine va_get (D := G) (ci := 8) (v := .int (S 0 7)) (C := RX8) (T := TX8) (N := 91) hx hb hT ku_8 hown hK hP 0 rfl rfl 7 (by decide) (hT _ kw_22_13) (fun _ h9 => h9) rfl dX8_token_215 ?_
    obtain ⟨r17, hc18, h⟩ := tx_bd h
    refine tw_ci tw_all hP hD hS hA (va_runV (As := [.int (S 0 7)]) (rest := []) ⟨hx, hb, hml, hown, hT⟩ (c_X8_isDigit l G cA H.size aa S L (S 0 7)  r17 hc18) (cwV 1 hT (tq_gV kw_23_10 kw_23_11 kw_23_12 kw_1_5 kw_23_13) rfl rfl rfl (by decide +kernel) ⟨Nat.le_of_ble_eq_true rfl, Nat.le_of_ble_eq_true rfl⟩) ⟨(tw_pre tw_all hP hD hK hN).1, va_recv hK hP (ci := 8) (q0 := 0) rfl rfl, (tw_pre tw_all hP hD hK hN).2⟩ rfl rfl hl.1 rfl (lv_room (Nat.le_of_ble_eq_true rfl)) dX8_token_218 ⟨Nat.le_of_ble_eq_true rfl, Nat.le_of_ble_eq_true rfl⟩) (fun _ _ H locs z19 hP hD hS => ?_)
    subst z19
    rw [List.append_nil] at hP hD
    have hP : va_P G vwCl (wM cA aa S L) H := hP
    have hD : va_D A (wM cA aa S L) := hD
    refine lv_if_eq (tgt := 281) hx hb dX8_token_221 (by decide) (fun c20 => ?_) (fun c20 => ?_)
    · have h := tx_pos c20 h
      obtain rfl := tx_1 h
      exact W.vret hx hb hr (fun t ht hW => ⟨⟨(), rfl, trivial, by rw [ht]; exact hP, hD⟩, hS.F ht⟩) hS.2.2 dX8_token_281
    · have h := tx_neg c20 h
      refine lv_aload_n hx hb dX8_token_224 rfl (lv_at hl 0 rfl) ?_
      refine lv_aload_n hx hb dX8_token_225 rfl (lv_at hl 0 rfl) ?_
      refine va_get (D := G) (ci := 8) (v := .int (S 0 9)) (C := RX8) (T := TX8) (N := 91) hx hb hT ku_8 hown hK hP 0 rfl rfl 9 (by decide) (hT _ kw_22_20) (fun _ h9 => h9) rfl dX8_token_226 ?_
      refine lv_ldc (v := 99999) hx hb hown (hT _ kw_22_21) dX8_token_229 ?_
      refine lv_icmp_le (tgt := 241) hx hb dX8_token_231 (by decide) (fun c21 => ?_) (fun c21 => ?_)
      · have h := tx_pos c21 h
        refine lv_bipush (v := 10) hx hb dX8_token_241 (by decide) ?_
        refine lv_aload_n hx hb dX8_token_243 rfl (lv_at hl 0 rfl) ?_
        refine va_get (D := G) (ci := 8) (v := .int (S 0 9)) (C := RX8) (T := TX8) (N := 91) hx hb hT ku_8 hown hK hP 0 rfl rfl 9 (by decide) (hT _ kw_22_20) (fun _ h9 => h9) rfl dX8_token_244 ?_
        refine lv_imul hx hb dX8_token_247 ?_
        refine lv_aload_n hx hb dX8_token_248 rfl (lv_at hl 0 rfl) ?_
        refine va_get (D := G) (ci := 8) (v := .ref (aa 1)) (C := RX8) (T := TX8) (N := 91) hx hb hT ku_8 hown hK hP 0 rfl rfl 0 (by decide) (hT _ kw_9_10) (fun _ h9 => h9) rfl dX8_token_249 ?_
        refine lv_aload_n hx hb dX8_token_252 rfl (lv_at hl 0 rfl) ?_
        refine va_get (D := G) (ci := 8) (v := .int (S 0 7)) (C := RX8) (T := TX8) (N := 91) hx hb hT ku_8 hown hK hP 0 rfl rfl 7 (by decide) (hT _ kw_22_13) (fun _ h9 => h9) rfl dX8_token_253 ?_
        obtain ⟨g22, h⟩ := tx_ck h
        refine va_iald (i := (S 0 7)) hx hb hK hP 1 0 rfl rfl (tx_in g22) dX8_token_256 ?_
        refine lv_iadd hx hb dX8_token_257 ?_
        refine lv_bipush (v := 48) hx hb dX8_token_258 (by decide) ?_
        refine lv_isub hx hb dX8_token_260 ?_
        exact w_X8_token_J261 F k213 hk213 ((((10 : Int32) * (S 0 9)) + (S 1 (S 0 7).toNatClampNeg)) - 48) S H locs ls h hP hD hS (lv_sub hl [0] rfl)
      · have h := tx_neg c21 h
        refine lv_aload_n hx hb dX8_token_234 rfl (lv_at hl 0 rfl) ?_
        refine va_get (D := G) (ci := 8) (v := .int (S 0 9)) (C := RX8) (T := TX8) (N := 91) hx hb hT ku_8 hown hK hP 0 rfl rfl 9 (by decide) (hT _ kw_22_20) (fun _ h9 => h9) rfl dX8_token_235 ?_
        refine lv_goto (tgt := 261) hx hb dX8_token_238 (by decide) ?_
        exact w_X8_token_J261 F k213 hk213 (S 0 9) S H locs ls h hP hD hS (lv_sub hl [0] rfl)
set_option maxHeartbeats 4000000 in
set_option maxRecDepth 100000 in
theorem w_X8_token_J162 {p : Program} {l : Launch} {e : Env} {s : State} {m : MethodId} {below : List Frame} {meth : Method} {c : Code} {G : va_G} {cA : Nat → ClassId} {A : Nat → Prop} {aa : Nat → Nat} {L : Lo} {S' : Tr} (F : tF p s m ([.ref (aa 0)] : List Value).toArray meth c G cA A RX8 cX8_token 1 none)    (s0 : Int32) (S : Tr) (H : Heap) (locs : List Loc) (ls : Array Slot) (h : fJ_X8_token_J162 s0 S = some S') (hP : va_P G vwCl (wM cA aa S_35 L) H) (hD : va_D A (wM cA aa S_35 L)) (hS : va_S A s.heap H locs) (hl : lv_has ls 1 [(0, .ref (aa 0))]) : G_X8_token p l e s m below meth c G cA A aa L S' H locs (F0 m 162 ls []) := by
  obtain ⟨hx, hb, hr, hml, hT, hown, hlocks, hK, hN, hA⟩ := id F
  unfold fJ_X8_token_J162 at h
  refine va_put (D := G) (ci := 8) (v := .int s0) (ty := .int) (C := RX8) (T := TX8) (N := 91) hx hb hT ku_8 tyX8 tyX8_ok nmX8 hown hK hP hD hS 0 rfl rfl 8 (by decide) (hT _ kw_22_14) (fun _ h9 => h9) rfl (by decide +kernel) rfl rfl (Nat.le_of_ble_eq_true rfl) dX8_token_162 (fun H locs hP hD hS => ?_)
  obtain ⟨S_35, eS_35, h⟩ := tx_lt h
  rw [sM_f8, eS_35] at hP hD
  refine lv_aload_n hx hb dX8_token_165 rfl (lv_at hl 0 rfl) ?_
  refine va_get (D := G) (ci := 8) (v := .int (S_35 0 8)) (C := RX8) (T := TX8) (N := 91) hx hb hT ku_8 hown hK hP 0 rfl rfl 8 (by decide) (hT _ kw_22_14) (fun _ h9 => h9) rfl dX8_token_166 ?_
  refine lv_iconst (v := 2) hx hb dX8_token_169 (by decide) ?_
  refine lv_icmp_ne (tgt := 281) hx hb dX8_token_170 (by decide) (fun c36 => ?_) (fun c36 => ?_)
  · have h := tx_neg c36 h
    obtain rfl := tx_1 h
    exact W.vret hx hb hr (fun t ht hW => ⟨⟨(), rfl, trivial, by rw [ht]; exact hP, hD⟩, hS.F ht⟩) hS.2.2 dX8_token_281
  · have h := tx_pos c36 h
    refine lv_aload_n hx hb dX8_token_173 rfl (lv_at hl 0 rfl) ?_
    refine lv_aload_n hx hb dX8_token_174 rfl (lv_at hl 0 rfl) ?_
    refine lv_aload_n hx hb dX8_token_175 rfl (lv_at hl 0 rfl) ?_
    refine va_get (D := G) (ci := 8) (v := .int (S_35 0 10)) (C := RX8) (T := TX8) (N := 91) hx hb hT ku_8 hown hK hP 0 rfl rfl 10 (by decide) (hT _ kw_22_19) (fun _ h9 => h9) rfl dX8_token_176 ?_
    refine lv_aload_n hx hb dX8_token_179 rfl (lv_at hl 0 rfl) ?_
    refine va_get (D := G) (ci := 8) (v := .int (S_35 0 7)) (C := RX8) (T := TX8) (N := 91) hx hb hT ku_8 hown hK hP 0 rfl rfl 7 (by decide) (hT _ kw_22_13) (fun _ h9 => h9) rfl dX8_token_180 ?_
    obtain ⟨r37, hc38, h⟩ := tx_bd h
    refine tw_ci tw_all hP hD hS hA (va_runV (As := [.int (S_35 0 10), .int (S_35 0 7)]) (rest := [.ref (aa 0)]) ⟨hx, hb, hml, hown, hT⟩ (c_X8_packed l G cA H.size aa S_35 L (S_35 0 10) (S_35 0 7)  r37 hc38) (cwV 2 hT (tq_gV kw_23_6 kw_23_7 kw_23_8 kw_1_5 kw_23_9) rfl rfl rfl (by decide +kernel) ⟨Nat.le_of_ble_eq_true rfl, Nat.le_of_ble_eq_true rfl⟩) ⟨(tw_pre tw_all hP hD hK hN).1, va_recv hK hP (ci := 8) (q0 := 0) rfl rfl, (tw_pre tw_all hP hD hK hN).2⟩ rfl rfl hl.1 rfl (lv_room (Nat.le_of_ble_eq_true rfl)) dX8_token_183 ⟨Nat.le_of_ble_eq_true rfl, Nat.le_of_ble_eq_true rfl⟩) (fun _ _ H locs z39 hP hD hS => ?_)
    subst z39
    rw [List.append_nil] at hP hD
    have hP : va_P G vwCl (wM cA aa S_35 L) H := hP
    have hD : va_D A (wM cA aa S_35 L) := hD
    refine va_put (D := G) (ci := 8) (v := .int r37) (ty := .int) (C := RX8) (T := TX8) (N := 91) hx hb hT ku_8 tyX8 tyX8_ok nmX8 hown hK hP hD hS 0 rfl rfl 9 (by decide) (hT _ kw_22_20) (fun _ h9 => h9) rfl (by decide +kernel) rfl rfl (Nat.le_of_ble_eq_true rfl) dX8_token_186 (fun H locs hP hD hS => ?_)
    obtain ⟨S_40, eS_40, h⟩ := tx_lt h
    rw [sM_f9, eS_40] at hP hD
    refine lv_goto (tgt := 281) hx hb dX8_token_189 (by decide) ?_
    obtain rfl := tx_1 h
    exact W.vret hx hb hr (fun t ht hW => ⟨⟨(), rfl, trivial, by rw [ht]; exact hP, hD⟩, hS.F ht⟩) hS.2.2 dX8_token_281
set_option maxHeartbeats 4000000 in
set_option maxRecDepth 100000 in
theorem w_X8_token_J114 {p : Program} {l : Launch} {e : Env} {s : State} {m : MethodId} {below : List Frame} {meth : Method} {c : Code} {G : va_G} {cA : Nat → ClassId} {A : Nat → Prop} {aa : Nat → Nat} {L : Lo} {S' : Tr} (F : tF p s m ([.ref (aa 0)] : List Value).toArray meth c G cA A RX8 cX8_token 1 none)    (S : Tr) (H : Heap) (locs : List Loc) (ls : Array Slot) (h : fJ_X8_token_J114 S = some S') (hP : va_P G vwCl (wM cA aa S_32 L) H) (hD : va_D A (wM cA aa S_32 L)) (hS : va_S A s.heap H locs) (hl : lv_has ls 1 [(0, .ref (aa 0))]) : G_X8_token p l e s m below meth c G cA A aa L S' H locs (F0 m 114 ls [.ref (aa 0)]) := by
  obtain ⟨hx, hb, hr, hml, hT, hown, hlocks, hK, hN, hA⟩ := id F
  unfold fJ_X8_token_J114 at h
  refine lv_aload_n hx hb dX8_token_114 rfl (lv_at hl 0 rfl) ?_
  refine lv_aload_n hx hb dX8_token_115 rfl (lv_at hl 0 rfl) ?_
  refine lv_aload_n hx hb dX8_token_116 rfl (lv_at hl 0 rfl) ?_
  refine va_get (D := G) (ci := 8) (v := .int (S 0 10)) (C := RX8) (T := TX8) (N := 91) hx hb hT ku_8 hown hK hP 0 rfl rfl 10 (by decide) (hT _ kw_22_19) (fun _ h9 => h9) rfl dX8_token_117 ?_
  refine lv_aload_n hx hb dX8_token_120 rfl (lv_at hl 0 rfl) ?_
  refine va_get (D := G) (ci := 8) (v := .int (S 0 7)) (C := RX8) (T := TX8) (N := 91) hx hb hT ku_8 hown hK hP 0 rfl rfl 7 (by decide) (hT _ kw_22_13) (fun _ h9 => h9) rfl dX8_token_121 ?_
  obtain ⟨r29, hc30, h⟩ := tx_bd h
  refine tw_ci tw_all hP hD hS hA (va_runV (As := [.int (S 0 10), .int (S 0 7)]) (rest := [.ref (aa 0)]) ⟨hx, hb, hml, hown, hT⟩ (c_X8_wordAt l G cA H.size aa S L (S 0 10) (S 0 7)  r29 hc30) (cwV 2 hT (tq_gV kw_23_2 kw_23_3 kw_23_4 kw_1_5 kw_23_5) rfl rfl rfl (by decide +kernel) ⟨Nat.le_of_ble_eq_true rfl, Nat.le_of_ble_eq_true rfl⟩) ⟨(tw_pre tw_all hP hD hK hN).1, va_recv hK hP (ci := 8) (q0 := 0) rfl rfl, (tw_pre tw_all hP hD hK hN).2⟩ rfl rfl hl.1 rfl (lv_room (Nat.le_of_ble_eq_true rfl)) dX8_token_124 ⟨Nat.le_of_ble_eq_true rfl, Nat.le_of_ble_eq_true rfl⟩) (fun _ _ H locs z31 hP hD hS => ?_)
  subst z31
  rw [List.append_nil] at hP hD
  have hP : va_P G vwCl (wM cA aa S L) H := hP
  have hD : va_D A (wM cA aa S L) := hD
  refine va_put (D := G) (ci := 8) (v := .int r29) (ty := .int) (C := RX8) (T := TX8) (N := 91) hx hb hT ku_8 tyX8 tyX8_ok nmX8 hown hK hP hD hS 0 rfl rfl 9 (by decide) (hT _ kw_22_20) (fun _ h9 => h9) rfl (by decide +kernel) rfl rfl (Nat.le_of_ble_eq_true rfl) dX8_token_127 (fun H locs hP hD hS => ?_)
  obtain ⟨S_32, eS_32, h⟩ := tx_lt h
  rw [sM_f9, eS_32] at hP hD
  refine lv_aload_n hx hb dX8_token_130 rfl (lv_at hl 0 rfl) ?_
  refine lv_aload_n hx hb dX8_token_131 rfl (lv_at hl 0 rfl) ?_
  refine va_get (D := G) (ci := 8) (v := .int (S_32 0 9)) (C := RX8) (T := TX8) (N := 91) hx hb hT ku_8 hown hK hP 0 rfl rfl 9 (by decide) (hT _ kw_22_20) (fun _ h9 => h9) rfl dX8_token_132 ?_
  refine lv_if_lt (tgt := 142) hx hb dX8_token_135 (by decide) (fun c33 => ?_) (fun c33 => ?_)
  · have h := tx_pos c33 h
    refine lv_aload_n hx hb dX8_token_142 rfl (lv_at hl 0 rfl) ?_
    refine va_get (D := G) (ci := 8) (v := .int (S_32 0 7)) (C := RX8) (T := TX8) (N := 91) hx hb hT ku_8 hown hK hP 0 rfl rfl 7 (by decide) (hT _ kw_22_13) (fun _ h9 => h9) rfl dX8_token_143 ?_
    refine lv_aload_n hx hb dX8_token_146 rfl (lv_at hl 0 rfl) ?_
    refine va_get (D := G) (ci := 8) (v := .int (S_32 0 10)) (C := RX8) (T := TX8) (N := 91) hx hb hT ku_8 hown hK hP 0 rfl rfl 10 (by decide) (hT _ kw_22_19) (fun _ h9 => h9) rfl dX8_token_147 ?_
    refine lv_isub hx hb dX8_token_150 ?_
    refine lv_bipush (v := 6) hx hb dX8_token_151 (by decide) ?_
    refine lv_icmp_le (tgt := 161) hx hb dX8_token_153 (by decide) (fun c34 => ?_) (fun c34 => ?_)
    · have h := tx_pos c34 h
      refine lv_iconst (v := 2) hx hb dX8_token_161 (by decide) ?_
      exact w_X8_token_J162 F 2 S_32 H locs ls h hP hD hS (lv_sub hl [0] rfl)
    · have h := tx_neg c34 h
      refine lv_bipush (v := 6) hx hb dX8_token_156 (by decide) ?_
      refine lv_goto (tgt := 162) hx hb dX8_token_158 (by decide) ?_
      exact w_X8_token_J162 F 6 S_32 H locs ls h hP hD hS (lv_sub hl [0] rfl)
  · have h := tx_neg c33 h
    refine lv_iconst (v := 1) hx hb dX8_token_138 (by decide) ?_
    refine lv_goto (tgt := 162) hx hb dX8_token_139 (by decide) ?_
    exact w_X8_token_J162 F 1 S_32 H locs ls h hP hD hS (lv_sub hl [0] rfl)
set_option maxHeartbeats 4000000 in
set_option maxRecDepth 100000 in
theorem w_X8_token_L90 {p : Program} {l : Launch} {e : Env} {s : State} {m : MethodId} {below : List Frame} {meth : Method} {c : Code} {G : va_G} {cA : Nat → ClassId} {A : Nat → Prop} {aa : Nat → Nat} {L : Lo} {S' : Tr} (F : tF p s m ([.ref (aa 0)] : List Value).toArray meth c G cA A RX8 cX8_token 1 none)    (N : Nat) : ∀ (S : Tr) (H : Heap) (locs : List Loc) (ls : Array Slot), lpF (fun _ => none) (fB_X8_token_L90 ) N S = some S' → va_P G vwCl (wM cA aa S L) H → va_D A (wM cA aa S L) → va_S A s.heap H locs → lv_has ls 1 [(0, .ref (aa 0))] → G_X8_token p l e s m below meth c G cA A aa L S' H locs (F0 m 90 ls []) := by
  obtain ⟨hx, hb, hr, hml, hT, hown, hlocks, hK, hN, hA⟩ := id F
  induction N with
  | zero =>
    intro S H locs ls h
    have h : (none : Option (Tr)) = some S' := h
    cases h
  | succ N hk90 =>
    intro S H locs ls h hP hD hS hl
    have h : fB_X8_token_L90  (lpF (fun _ => none) (fB_X8_token_L90 ) N) S = some S' := h
    generalize hk90e : lpF (fun _ => none) (fB_X8_token_L90 ) N = k90 at h hk90
    unfold fB_X8_token_L90 at h
    refine lv_aload_n hx hb dX8_token_90 rfl (lv_at hl 0 rfl) ?_
    refine lv_aload_n hx hb dX8_token_91 rfl (lv_at hl 0 rfl) ?_
    refine va_get (D := G) (ci := 8) (v := .int (S 0 7)) (C := RX8) (T := TX8) (N := 91) hx hb hT ku_8 hown hK hP 0 rfl rfl 7 (by decide) (hT _ kw_22_13) (fun _ h9 => h9) rfl dX8_token_92 ?_
    obtain ⟨r25, hc26, h⟩ := tx_bd h
    refine tw_ci tw_all hP hD hS hA (va_runV (As := [.int (S 0 7)]) (rest := []) ⟨hx, hb, hml, hown, hT⟩ (c_X8_isSmall l G cA H.size aa S L (S 0 7)  r25 hc26) (cwV 1 hT (tq_gV kw_22_22 kw_22_23 kw_23_0 kw_1_5 kw_23_1) rfl rfl rfl (by decide +kernel) ⟨Nat.le_of_ble_eq_true rfl, Nat.le_of_ble_eq_true rfl⟩) ⟨(tw_pre tw_all hP hD hK hN).1, va_recv hK hP (ci := 8) (q0 := 0) rfl rfl, (tw_pre tw_all hP hD hK hN).2⟩ rfl rfl hl.1 rfl (lv_room (Nat.le_of_ble_eq_true rfl)) dX8_token_95 ⟨Nat.le_of_ble_eq_true rfl, Nat.le_of_ble_eq_true rfl⟩) (fun _ _ H locs z27 hP hD hS => ?_)
    subst z27
    rw [List.append_nil] at hP hD
    have hP : va_P G vwCl (wM cA aa S L) H := hP
    have hD : va_D A (wM cA aa S L) := hD
    refine lv_if_eq (tgt := 114) hx hb dX8_token_98 (by decide) (fun c28 => ?_) (fun c28 => ?_)
    · have h := tx_pos c28 h
      exact w_X8_token_J114 F S H locs ls h hP hD hS (lv_sub hl [0] rfl)
    · have h := tx_neg c28 h
      refine lv_aload_n hx hb dX8_token_101 rfl (lv_at hl 0 rfl) ?_
      refine lv_dup hx hb dX8_token_102 rfl ?_
      refine va_get (D := G) (ci := 8) (v := .int (S 0 7)) (C := RX8) (T := TX8) (N := 91) hx hb hT ku_8 hown hK hP 0 rfl rfl 7 (by decide) (hT _ kw_22_13) (fun _ h9 => h9) rfl dX8_token_103 ?_
      refine lv_iconst (v := 1) hx hb dX8_token_106 (by decide) ?_
      refine lv_iadd hx hb dX8_token_107 ?_
      refine va_put (D := G) (ci := 8) (v := .int ((S 0 7) + 1)) (ty := .int) (C := RX8) (T := TX8) (N := 91) hx hb hT ku_8 tyX8 tyX8_ok nmX8 hown hK hP hD hS 0 rfl rfl 7 (by decide) (hT _ kw_22_13) (fun _ h9 => h9) rfl (by decide +kernel) rfl rfl (Nat.le_of_ble_eq_true rfl) dX8_token_108 (fun H locs hP hD hS => ?_)
      obtain ⟨S_41, eS_41, h⟩ := tx_lt h
      rw [sM_f7, eS_41] at hP hD
      refine lv_goto (tgt := 90) hx hb dX8_token_111 (by decide) ?_
      exact hk90 S_41 H locs ls h hP hD hS (lv_sub hl [0] rfl)
set_option maxHeartbeats 4000000 in
set_option maxRecDepth 100000 in
theorem w_X8_token_J52 {p : Program} {l : Launch} {e : Env} {s : State} {m : MethodId} {below : List Frame} {meth : Method} {c : Code} {G : va_G} {cA : Nat → ClassId} {A : Nat → Prop} {aa : Nat → Nat} {L : Lo} {S' : Tr} (F : tF p s m ([.ref (aa 0)] : List Value).toArray meth c G cA A RX8 cX8_token 1 none)    (S : Tr) (H : Heap) (locs : List Loc) (ls : Array Slot) (h : fJ_X8_token_J52 S = some S') (hP : va_P G vwCl (wM cA aa S_2 L) H) (hD : va_D A (wM cA aa S_2 L)) (hS : va_S A s.heap H locs) (hl : lv_has ls 1 [(0, .ref (aa 0))]) : G_X8_token p l e s m below meth c G cA A aa L S' H locs (F0 m 52 ls []) := by
  obtain ⟨hx, hb, hr, hml, hT, hown, hlocks, hK, hN, hA⟩ := id F
  unfold fJ_X8_token_J52 at h
  refine lv_aload_n hx hb dX8_token_52 rfl (lv_at hl 0 rfl) ?_
  refine lv_aload_n hx hb dX8_token_53 rfl (lv_at hl 0 rfl) ?_
  refine va_get (D := G) (ci := 8) (v := .int (S 0 7)) (C := RX8) (T := TX8) (N := 91) hx hb hT ku_8 hown hK hP 0 rfl rfl 7 (by decide) (hT _ kw_22_13) (fun _ h9 => h9) rfl dX8_token_54 ?_
  refine va_put (D := G) (ci := 8) (v := .int (S 0 7)) (ty := .int) (C := RX8) (T := TX8) (N := 91) hx hb hT ku_8 tyX8 tyX8_ok nmX8 hown hK hP hD hS 0 rfl rfl 10 (by decide) (hT _ kw_22_19) (fun _ h9 => h9) rfl (by decide +kernel) rfl rfl (Nat.le_of_ble_eq_true rfl) dX8_token_57 (fun H locs hP hD hS => ?_)
  obtain ⟨S_2, eS_2, h⟩ := tx_lt h
  rw [sM_f10, eS_2] at hP hD
  refine lv_aload_n hx hb dX8_token_60 rfl (lv_at hl 0 rfl) ?_
  refine va_get (D := G) (ci := 8) (v := .int (S_2 0 7)) (C := RX8) (T := TX8) (N := 91) hx hb hT ku_8 hown hK hP 0 rfl rfl 7 (by decide) (hT _ kw_22_13) (fun _ h9 => h9) rfl dX8_token_61 ?_
  refine lv_aload_n hx hb dX8_token_64 rfl (lv_at hl 0 rfl) ?_
  refine va_get (D := G) (ci := 8) (v := .int (S_2 0 6)) (C := RX8) (T := TX8) (N := 91) hx hb hT ku_8 hown hK hP 0 rfl rfl 6 (by decide) (hT _ kw_22_11) (fun _ h9 => h9) rfl dX8_token_65 ?_
  refine lv_icmp_ne (tgt := 79) hx hb dX8_token_68 (by decide) (fun c3 => ?_) (fun c3 => ?_)
  · have h := tx_neg c3 h
    refine lv_aload_n hx hb dX8_token_79 rfl (lv_at hl 0 rfl) ?_
    refine lv_aload_n hx hb dX8_token_80 rfl (lv_at hl 0 rfl) ?_
    refine va_get (D := G) (ci := 8) (v := .int (S_2 0 7)) (C := RX8) (T := TX8) (N := 91) hx hb hT ku_8 hown hK hP 0 rfl rfl 7 (by decide) (hT _ kw_22_13) (fun _ h9 => h9) rfl dX8_token_81 ?_
    obtain ⟨r4, hc5, h⟩ := tx_bd h
    refine tw_ci tw_all hP hD hS hA (va_runV (As := [.int (S_2 0 7)]) (rest := []) ⟨hx, hb, hml, hown, hT⟩ (c_X8_isSmall l G cA H.size aa S_2 L (S_2 0 7)  r4 hc5) (cwV 1 hT (tq_gV kw_22_22 kw_22_23 kw_23_0 kw_1_5 kw_23_1) rfl rfl rfl (by decide +kernel) ⟨Nat.le_of_ble_eq_true rfl, Nat.le_of_ble_eq_true rfl⟩) ⟨(tw_pre tw_all hP hD hK hN).1, va_recv hK hP (ci := 8) (q0 := 0) rfl rfl, (tw_pre tw_all hP hD hK hN).2⟩ rfl rfl hl.1 rfl (lv_room (Nat.le_of_ble_eq_true rfl)) dX8_token_84 ⟨Nat.le_of_ble_eq_true rfl, Nat.le_of_ble_eq_true rfl⟩) (fun _ _ H locs z6 hP hD hS => ?_)
    subst z6
    rw [List.append_nil] at hP hD
    have hP : va_P G vwCl (wM cA aa S_2 L) H := hP
    have hD : va_D A (wM cA aa S_2 L) := hD
    refine lv_if_eq (tgt := 192) hx hb dX8_token_87 (by decide) (fun c7 => ?_) (fun c7 => ?_)
    · have h := tx_pos c7 h
      refine lv_aload_n hx hb dX8_token_192 rfl (lv_at hl 0 rfl) ?_
      refine lv_aload_n hx hb dX8_token_193 rfl (lv_at hl 0 rfl) ?_
      refine va_get (D := G) (ci := 8) (v := .int (S_2 0 7)) (C := RX8) (T := TX8) (N := 91) hx hb hT ku_8 hown hK hP 0 rfl rfl 7 (by decide) (hT _ kw_22_13) (fun _ h9 => h9) rfl dX8_token_194 ?_
      obtain ⟨r8, hc9, h⟩ := tx_bd h
      refine tw_ci tw_all hP hD hS hA (va_runV (As := [.int (S_2 0 7)]) (rest := []) ⟨hx, hb, hml, hown, hT⟩ (c_X8_isDigit l G cA H.size aa S_2 L (S_2 0 7)  r8 hc9) (cwV 1 hT (tq_gV kw_23_10 kw_23_11 kw_23_12 kw_1_5 kw_23_13) rfl rfl rfl (by decide +kernel) ⟨Nat.le_of_ble_eq_true rfl, Nat.le_of_ble_eq_true rfl⟩) ⟨(tw_pre tw_all hP hD hK hN).1, va_recv hK hP (ci := 8) (q0 := 0) rfl rfl, (tw_pre tw_all hP hD hK hN).2⟩ rfl rfl hl.1 rfl (lv_room (Nat.le_of_ble_eq_true rfl)) dX8_token_197 ⟨Nat.le_of_ble_eq_true rfl, Nat.le_of_ble_eq_true rfl⟩) (fun _ _ H locs z10 hP hD hS => ?_)
      subst z10
      rw [List.append_nil] at hP hD
      have hP : va_P G vwCl (wM cA aa S_2 L) H := hP
      have hD : va_D A (wM cA aa S_2 L) := hD
      refine lv_if_eq (tgt := 277) hx hb dX8_token_200 (by decide) (fun c11 => ?_) (fun c11 => ?_)
      · have h := tx_pos c11 h
        refine lv_aload_n hx hb dX8_token_277 rfl (lv_at hl 0 rfl) ?_
        obtain ⟨S_12, hc13, h⟩ := tx_bd h
        refine tw_cv tw_all hP hD hS hA (va_runV (As := []) (rest := []) ⟨hx, hb, hml, hown, hT⟩ (c_X8_signToken l G cA H.size aa S_2 L  S_12 hc13) (cwV 0 hT (tq_gV kw_23_14 kw_23_15 kw_23_16 kw_1_5 kw_23_17) rfl rfl rfl (by decide +kernel) ⟨Nat.le_of_ble_eq_true rfl, Nat.le_of_ble_eq_true rfl⟩) ⟨(tw_pre tw_all hP hD hK hN).1, va_recv hK hP (ci := 8) (q0 := 0) rfl rfl, (tw_pre tw_all hP hD hK hN).2⟩ rfl rfl hl.1 rfl (lv_room (Nat.le_of_ble_eq_true rfl)) dX8_token_278 ⟨Nat.le_of_ble_eq_true rfl, Nat.le_of_ble_eq_true rfl⟩) (fun _ H locs z14 hP hD hS => ?_)
        rw [List.append_nil] at hP hD
        have hP : va_P G vwCl (wM cA aa S_12 L) H := hP
        have hD : va_D A (wM cA aa S_12 L) := hD
        obtain rfl := tx_1 h
        exact W.vret hx hb hr (fun t ht hW => ⟨⟨(), rfl, trivial, by rw [ht]; exact hP, hD⟩, hS.F ht⟩) hS.2.2 dX8_token_281
      · have h := tx_neg c11 h
        refine lv_aload_n hx hb dX8_token_203 rfl (lv_at hl 0 rfl) ?_
        refine lv_iconst (v := 3) hx hb dX8_token_204 (by decide) ?_
        refine va_put (D := G) (ci := 8) (v := .int 3) (ty := .int) (C := RX8) (T := TX8) (N := 91) hx hb hT ku_8 tyX8 tyX8_ok nmX8 hown hK hP hD hS 0 rfl rfl 8 (by decide) (hT _ kw_22_14) (fun _ h9 => h9) rfl (by decide +kernel) rfl rfl (Nat.le_of_ble_eq_true rfl) dX8_token_205 (fun H locs hP hD hS => ?_)
        obtain ⟨S_15, eS_15, h⟩ := tx_lt h
        rw [sM_f8, eS_15] at hP hD
        refine lv_aload_n hx hb dX8_token_208 rfl (lv_at hl 0 rfl) ?_
        refine lv_iconst (v := 0) hx hb dX8_token_209 (by decide) ?_
        refine va_put (D := G) (ci := 8) (v := .int 0) (ty := .int) (C := RX8) (T := TX8) (N := 91) hx hb hT ku_8 tyX8 tyX8_ok nmX8 hown hK hP hD hS 0 rfl rfl 9 (by decide) (hT _ kw_22_20) (fun _ h9 => h9) rfl (by decide +kernel) rfl rfl (Nat.le_of_ble_eq_true rfl) dX8_token_210 (fun H locs hP hD hS => ?_)
        obtain ⟨S_16, eS_16, h⟩ := tx_lt h
        rw [sM_f9, eS_16] at hP hD
        exact w_X8_token_L213 F 2000 S_16 H locs ls h hP hD hS (lv_sub hl [0] rfl)
    · have h := tx_neg c7 h
      exact w_X8_token_L90 F 2000 S_2 H locs ls h hP hD hS (lv_sub hl [0] rfl)
  · have h := tx_pos c3 h
    refine lv_aload_n hx hb dX8_token_71 rfl (lv_at hl 0 rfl) ?_
    refine lv_iconst (v := 0) hx hb dX8_token_72 (by decide) ?_
    refine va_put (D := G) (ci := 8) (v := .int 0) (ty := .int) (C := RX8) (T := TX8) (N := 91) hx hb hT ku_8 tyX8 tyX8_ok nmX8 hown hK hP hD hS 0 rfl rfl 8 (by decide) (hT _ kw_22_14) (fun _ h9 => h9) rfl (by decide +kernel) rfl rfl (Nat.le_of_ble_eq_true rfl) dX8_token_73 (fun H locs hP hD hS => ?_)
    obtain ⟨S_42, eS_42, h⟩ := tx_lt h
    rw [sM_f8, eS_42] at hP hD
    refine lv_goto (tgt := 281) hx hb dX8_token_76 (by decide) ?_
    obtain rfl := tx_1 h
    exact W.vret hx hb hr (fun t ht hW => ⟨⟨(), rfl, trivial, by rw [ht]; exact hP, hD⟩, hS.F ht⟩) hS.2.2 dX8_token_281
set_option maxHeartbeats 4000000 in
set_option maxRecDepth 100000 in
theorem w_X8_token_J39 {p : Program} {l : Launch} {e : Env} {s : State} {m : MethodId} {below : List Frame} {meth : Method} {c : Code} {G : va_G} {cA : Nat → ClassId} {A : Nat → Prop} {aa : Nat → Nat} {L : Lo} {S' : Tr} (F : tF p s m ([.ref (aa 0)] : List Value).toArray meth c G cA A RX8 cX8_token 1 none)  (k0 : Tr → Option (Tr)) (hk0 : ∀ (S : Tr) (H : Heap) (locs : List Loc) (ls : Array Slot), k0 S = some S' → va_P G vwCl (wM cA aa S L) H → va_D A (wM cA aa S L) → va_S A s.heap H locs → lv_has ls 1 [(0, .ref (aa 0))] → G_X8_token p l e s m below meth c G cA A aa L S' H locs (F0 m 0 ls [])) (S : Tr) (H : Heap) (locs : List Loc) (ls : Array Slot) (h : fJ_X8_token_J39 k0 S = some S') (hP : va_P G vwCl (wM cA aa S_45 L) H) (hD : va_D A (wM cA aa S_45 L)) (hS : va_S A s.heap H locs) (hl : lv_has ls 1 [(0, .ref (aa 0))]) : G_X8_token p l e s m below meth c G cA A aa L S' H locs (F0 m 39 ls []) := by
  obtain ⟨hx, hb, hr, hml, hT, hown, hlocks, hK, hN, hA⟩ := id F
  unfold fJ_X8_token_J39 at h
  refine lv_aload_n hx hb dX8_token_39 rfl (lv_at hl 0 rfl) ?_
  refine lv_dup hx hb dX8_token_40 rfl ?_
  refine va_get (D := G) (ci := 8) (v := .int (S 0 7)) (C := RX8) (T := TX8) (N := 91) hx hb hT ku_8 hown hK hP 0 rfl rfl 7 (by decide) (hT _ kw_22_13) (fun _ h9 => h9) rfl dX8_token_41 ?_
  refine lv_iconst (v := 1) hx hb dX8_token_44 (by decide) ?_
  refine lv_iadd hx hb dX8_token_45 ?_
  refine va_put (D := G) (ci := 8) (v := .int ((S 0 7) + 1)) (ty := .int) (C := RX8) (T := TX8) (N := 91) hx hb hT ku_8 tyX8 tyX8_ok nmX8 hown hK hP hD hS 0 rfl rfl 7 (by decide) (hT _ kw_22_13) (fun _ h9 => h9) rfl (by decide +kernel) rfl rfl (Nat.le_of_ble_eq_true rfl) dX8_token_46 (fun H locs hP hD hS => ?_)
  obtain ⟨S_45, eS_45, h⟩ := tx_lt h
  rw [sM_f7, eS_45] at hP hD
  refine lv_goto (tgt := 0) hx hb dX8_token_49 (by decide) ?_
  exact hk0 S_45 H locs ls h hP hD hS (lv_sub hl [0] rfl)
set_option maxHeartbeats 4000000 in
set_option maxRecDepth 100000 in
theorem w_X8_token_L0 {p : Program} {l : Launch} {e : Env} {s : State} {m : MethodId} {below : List Frame} {meth : Method} {c : Code} {G : va_G} {cA : Nat → ClassId} {A : Nat → Prop} {aa : Nat → Nat} {L : Lo} {S' : Tr} (F : tF p s m ([.ref (aa 0)] : List Value).toArray meth c G cA A RX8 cX8_token 1 none)    (N : Nat) : ∀ (S : Tr) (H : Heap) (locs : List Loc) (ls : Array Slot), lpF (fun _ => none) (fB_X8_token_L0 ) N S = some S' → va_P G vwCl (wM cA aa S L) H → va_D A (wM cA aa S L) → va_S A s.heap H locs → lv_has ls 1 [(0, .ref (aa 0))] → G_X8_token p l e s m below meth c G cA A aa L S' H locs (F0 m 0 ls []) := by
  obtain ⟨hx, hb, hr, hml, hT, hown, hlocks, hK, hN, hA⟩ := id F
  induction N with
  | zero =>
    intro S H locs ls h
    have h : (none : Option (Tr)) = some S' := h
    cases h
  | succ N hk0 =>
    intro S H locs ls h hP hD hS hl
    have h : fB_X8_token_L0  (lpF (fun _ => none) (fB_X8_token_L0 ) N) S = some S' := h
    generalize hk0e : lpF (fun _ => none) (fB_X8_token_L0 ) N = k0 at h hk0
    unfold fB_X8_token_L0 at h
    refine lv_aload_n hx hb dX8_token_0 rfl (lv_at hl 0 rfl) ?_
    refine va_get (D := G) (ci := 8) (v := .int (S 0 7)) (C := RX8) (T := TX8) (N := 91) hx hb hT ku_8 hown hK hP 0 rfl rfl 7 (by decide) (hT _ kw_22_13) (fun _ h9 => h9) rfl dX8_token_1 ?_
    refine lv_aload_n hx hb dX8_token_4 rfl (lv_at hl 0 rfl) ?_
    refine va_get (D := G) (ci := 8) (v := .int (S 0 6)) (C := RX8) (T := TX8) (N := 91) hx hb hT ku_8 hown hK hP 0 rfl rfl 6 (by decide) (hT _ kw_22_11) (fun _ h9 => h9) rfl dX8_token_5 ?_
    refine lv_icmp_ge (tgt := 52) hx hb dX8_token_8 (by decide) (fun c1 => ?_) (fun c1 => ?_)
    · have h := tx_pos c1 h
      exact w_X8_token_J52 F S H locs ls h hP hD hS (lv_sub hl [0] rfl)
    · have h := tx_neg c1 h
      refine lv_aload_n hx hb dX8_token_11 rfl (lv_at hl 0 rfl) ?_
      refine va_get (D := G) (ci := 8) (v := .ref (aa 1)) (C := RX8) (T := TX8) (N := 91) hx hb hT ku_8 hown hK hP 0 rfl rfl 0 (by decide) (hT _ kw_9_10) (fun _ h9 => h9) rfl dX8_token_12 ?_
      refine lv_aload_n hx hb dX8_token_15 rfl (lv_at hl 0 rfl) ?_
      refine va_get (D := G) (ci := 8) (v := .int (S 0 7)) (C := RX8) (T := TX8) (N := 91) hx hb hT ku_8 hown hK hP 0 rfl rfl 7 (by decide) (hT _ kw_22_13) (fun _ h9 => h9) rfl dX8_token_16 ?_
      obtain ⟨g43, h⟩ := tx_ck h
      refine va_iald (i := (S 0 7)) hx hb hK hP 1 0 rfl rfl (tx_in g43) dX8_token_19 ?_
      refine lv_bipush (v := 10) hx hb dX8_token_20 (by decide) ?_
      refine lv_icmp_eq (tgt := 39) hx hb dX8_token_22 (by decide) (fun c44 => ?_) (fun c44 => ?_)
      · have h := tx_pos c44 h
        exact w_X8_token_J39 F k0 hk0 S H locs ls h hP hD hS (lv_sub hl [0] rfl)
      · have h := tx_neg c44 h
        refine lv_aload_n hx hb dX8_token_25 rfl (lv_at hl 0 rfl) ?_
        refine va_get (D := G) (ci := 8) (v := .ref (aa 1)) (C := RX8) (T := TX8) (N := 91) hx hb hT ku_8 hown hK hP 0 rfl rfl 0 (by decide) (hT _ kw_9_10) (fun _ h9 => h9) rfl dX8_token_26 ?_
        refine lv_aload_n hx hb dX8_token_29 rfl (lv_at hl 0 rfl) ?_
        refine va_get (D := G) (ci := 8) (v := .int (S 0 7)) (C := RX8) (T := TX8) (N := 91) hx hb hT ku_8 hown hK hP 0 rfl rfl 7 (by decide) (hT _ kw_22_13) (fun _ h9 => h9) rfl dX8_token_30 ?_
        refine va_iald (i := (S 0 7)) hx hb hK hP 1 0 rfl rfl (tx_in g43) dX8_token_33 ?_
        refine lv_bipush (v := 32) hx hb dX8_token_34 (by decide) ?_
        refine lv_icmp_ne (tgt := 52) hx hb dX8_token_36 (by decide) (fun c46 => ?_) (fun c46 => ?_)
        · have h := tx_neg c46 h
          exact w_X8_token_J52 F S H locs ls h hP hD hS (lv_sub hl [0] rfl)
        · have h := tx_pos c46 h
          exact w_X8_token_J39 F k0 hk0 S H locs ls h hP hD hS (lv_sub hl [0] rfl)
set_option maxHeartbeats 4000000 in
set_option maxRecDepth 100000 in
theorem c_X8_token (l : Launch) (G : va_G) (cA : Nat → ClassId) (sz : Nat) (aa : Nat → Nat) (S : Tr) (L : Lo)  (S' : Tr) (h : f_X8_token S = some S') : Met l yX8_token (.code yX8_token cX8_token 1 none :: T0) ({ frames := 1, cells := 0, slots := 0, locals := 27 } : Room) (tqP G cA [.ref (aa 0)] (wM cA aa S L) sz) (tqQv G cA (fun (_ : Unit) => True) (fun (_ : Unit) => wM cA aa S' L) (va_A (wM cA aa S L) sz)) 0 0 (va_A (wM cA aa S L) sz) := by
  refine Met.ofW (cc := cX8_token) (maxL := 1) (ret := none) (by decide) rfl ?_
  intro p e s m args below meth c s₁ B hml hv
  obtain ⟨rfl, hsz, hP, hK, hD0, hN⟩ := hv
  have hx := B.exec
  have hb := B.bytes
  have hr := B.returns
  have hts := atoms_spec (ws := .code yX8_token cX8_token 1 none :: T0) B.pre
  have hT : ∀ w ∈ T0, w.before _ s = true := fun w h => hts w (List.mem_cons_of_mem _ h)
  have hown : s.vm.findClass RX8 = some m.cls := findClass_of_methodNamed B.named
  have hlocks := B.notSynchronized
  subst hsz
  have hD := hD0.self (sz := s.heap.size)
  generalize hAe : va_A (wM cA aa S L) s.heap.size = A at hD ⊢
  have hA : ∀ q : Nat, s.heap.size ≤ q → A q := fun q h => by rw [← hAe]; exact Or.inr h
  have hS : va_S A s.heap s.heap [] := va_S.rf
  have hl := lv_entry ([.ref (aa 0)]) (n := 1) (Nat.le_of_ble_eq_true rfl)
  rw [lg_entry_eq]
  generalize (lg_sl ([.ref (aa 0)]) ++ List.replicate (1 - (lg_sl ([.ref (aa 0)])).length) Slot.unset).toArray = ls at hl ⊢
  have hl : lv_has ls 1 [(0, .ref (aa 0))] := hl
  have F : tF p s m ([.ref (aa 0)] : List Value).toArray meth c G cA A RX8 cX8_token 1 none := ⟨hx, hb, hr, hml, hT, hown, hlocks, hK, hN, hA⟩
  obtain ⟨H, hH⟩ : ∃ z, z = s.heap := ⟨_, rfl⟩
  rw [← hH] at hP
  have hS : va_S A s.heap H [] := by rw [hH]; exact hS
  suffices hgo : G_X8_token p l e s m below meth c G cA A aa L S' H [] (F0 m 0 ls []) by rw [hH] at hgo; exact hgo
  generalize ([] : List Loc) = locs at hS ⊢
  unfold f_X8_token at h
  exact w_X8_token_L0 F 2000 S H locs ls h hP hD hS (lv_sub hl [0] rfl)
abbrev G_X8_isOnce (p : Program) (l : Launch) (e : Env) (s : State) (m : MethodId) (below : List Frame) (meth : Method) (c : Code) (G : va_G) (cA : Nat → ClassId) (A : Nat → Prop) (aa : Nat → Nat) (L : Lo) (x1 : Int32) (r0 : Int32) (S' : Tr) (H : Heap) (locs : List Loc) (g : JFrame) : Prop := W p l e (headSpec (.code yX8_isOnce cX8_isOnce 2 (some .boolean) :: T0) ({ frames := 2, cells := 0, slots := 0, locals := 47 } : Room)).room s m ([.ref (aa 0), .int x1] : List Value).toArray below meth c H locs 0 0 (MQ below (tqQi G cA (fun (r : Int32) (_ : Unit) => r = r0) (fun (_ : Unit) => wM cA aa S' L) A) ([.ref (aa 0), .int x1] : List Value).toArray s 0 0 A) g
set_option maxHeartbeats 4000000 in
set_option maxRecDepth 100000 in
theorem c_X8_isOnce (l : Launch) (G : va_G) (cA : Nat → ClassId) (sz : Nat) (aa : Nat → Nat) (S : Tr) (L : Lo) (x1 : Int32)  (r0 : Int32) (S' : Tr) (h : f_X8_isOnce S x1 = some (r0, S')) : Met l yX8_isOnce (.code yX8_isOnce cX8_isOnce 2 (some .boolean) :: T0) ({ frames := 2, cells := 0, slots := 0, locals := 47 } : Room) (tqP G cA [.ref (aa 0), .int x1] (wM cA aa S L) sz) (tqQi G cA (fun (r : Int32) (_ : Unit) => r = r0) (fun (_ : Unit) => wM cA aa S' L) (va_A (wM cA aa S L) sz)) 0 0 (va_A (wM cA aa S L) sz) := by
  refine Met.ofW (cc := cX8_isOnce) (maxL := 2) (ret := (some .boolean)) (by decide) rfl ?_
  intro p e s m args below meth c s₁ B hml hv
  obtain ⟨rfl, hsz, hP, hK, hD0, hN⟩ := hv
  have hx := B.exec
  have hb := B.bytes
  have hr := B.returns
  have hts := atoms_spec (ws := .code yX8_isOnce cX8_isOnce 2 (some .boolean) :: T0) B.pre
  have hT : ∀ w ∈ T0, w.before _ s = true := fun w h => hts w (List.mem_cons_of_mem _ h)
  have hown : s.vm.findClass RX8 = some m.cls := findClass_of_methodNamed B.named
  have hlocks := B.notSynchronized
  subst hsz
  have hD := hD0.self (sz := s.heap.size)
  generalize hAe : va_A (wM cA aa S L) s.heap.size = A at hD ⊢
  have hA : ∀ q : Nat, s.heap.size ≤ q → A q := fun q h => by rw [← hAe]; exact Or.inr h
  have hS : va_S A s.heap s.heap [] := va_S.rf
  have hl := lv_entry ([.ref (aa 0), .int x1]) (n := 2) (Nat.le_of_ble_eq_true rfl)
  rw [lg_entry_eq]
  generalize (lg_sl ([.ref (aa 0), .int x1]) ++ List.replicate (2 - (lg_sl ([.ref (aa 0), .int x1])).length) Slot.unset).toArray = ls at hl ⊢
  have hl : lv_has ls 2 [(0, .ref (aa 0)), (1, .int x1)] := hl
  have F : tF p s m ([.ref (aa 0), .int x1] : List Value).toArray meth c G cA A RX8 cX8_isOnce 2 (some .boolean) := ⟨hx, hb, hr, hml, hT, hown, hlocks, hK, hN, hA⟩
  obtain ⟨H, hH⟩ : ∃ z, z = s.heap := ⟨_, rfl⟩
  rw [← hH] at hP
  have hS : va_S A s.heap H [] := by rw [hH]; exact hS
  suffices hgo : G_X8_isOnce p l e s m below meth c G cA A aa L x1 r0 S' H [] (F0 m 0 ls []) by rw [hH] at hgo; exact hgo
  generalize ([] : List Loc) = locs at hS ⊢
  unfold f_X8_isOnce at h
  refine lv_aload_n hx hb dX8_isOnce_0 rfl (lv_at hl 0 rfl) ?_
  refine va_get (D := G) (ci := 8) (v := .ref (aa 22)) (C := RX8) (T := TX8) (N := 91) hx hb hT ku_8 hown hK hP 0 rfl rfl 21 (by decide) (hT _ kw_9_13) (fun _ h9 => h9) rfl dX8_isOnce_1 ?_
  refine lv_iload_n hx hb dX8_isOnce_4 rfl (lv_at hl 1 rfl) ?_
  obtain ⟨g1, h⟩ := tx_ck h
  refine va_zald (i := x1) hx hb hK hP 3 1 rfl rfl (tx_in g1) dX8_isOnce_5 ?_
  refine lv_if_eq (tgt := 15) hx hb dX8_isOnce_6 (by decide) (fun c2 => ?_) (fun c2 => ?_)
  · have h := tx_pos c2 h
    refine lv_aload_n hx hb dX8_isOnce_15 rfl (lv_at hl 0 rfl) ?_
    refine va_get (D := G) (ci := 8) (v := .ref (aa 22)) (C := RX8) (T := TX8) (N := 91) hx hb hT ku_8 hown hK hP 0 rfl rfl 21 (by decide) (hT _ kw_9_13) (fun _ h9 => h9) rfl dX8_isOnce_16 ?_
    refine lv_iload_n hx hb dX8_isOnce_19 rfl (lv_at hl 1 rfl) ?_
    refine lv_iconst (v := 1) hx hb dX8_isOnce_20 (by decide) ?_
    refine va_zast (i := x1) hx hb hK hP hD hS 3 1 rfl rfl (tx_in g1) dX8_isOnce_21 (fun H locs hP hD hS => ?_)
    obtain ⟨S_3, eS_3, h⟩ := tx_lt h
    rw [sM_a21, eS_3] at hP hD
    refine lv_aload_n hx hb dX8_isOnce_22 rfl (lv_at hl 0 rfl) ?_
    obtain ⟨S_4, hc5, h⟩ := tx_bd h
    refine tw_cv tw_all hP hD hS hA (va_runV (As := []) (rest := []) ⟨hx, hb, hml, hown, hT⟩ (c_X8_token l G cA H.size aa S_3 L  S_4 hc5) (cwV 0 hT (tq_gV kw_22_15 kw_22_16 kw_22_17 kw_1_5 kw_22_18) rfl rfl rfl (by decide +kernel) ⟨Nat.le_of_ble_eq_true rfl, Nat.le_of_ble_eq_true rfl⟩) ⟨(tw_pre tw_all hP hD hK hN).1, va_recv hK hP (ci := 8) (q0 := 0) rfl rfl, (tw_pre tw_all hP hD hK hN).2⟩ rfl rfl hl.1 rfl (lv_room (Nat.le_of_ble_eq_true rfl)) dX8_isOnce_23 ⟨Nat.le_of_ble_eq_true rfl, Nat.le_of_ble_eq_true rfl⟩) (fun _ H locs z6 hP hD hS => ?_)
    rw [List.append_nil] at hP hD
    have hP : va_P G vwCl (wM cA aa S_4 L) H := hP
    have hD : va_D A (wM cA aa S_4 L) := hD
    refine lv_iconst (v := 1) hx hb dX8_isOnce_26 (by decide) ?_
    obtain ⟨rfl, rfl⟩ := tx_2 h
    exact W.zret (ty := .boolean) hx hb hr rfl (fun t ht hW => ⟨⟨_, (), rfl, rfl, by rw [ht]; exact hP, hD⟩, hS.F ht⟩) hS.2.2 dX8_isOnce_27
  · have h := tx_neg c2 h
    refine lv_aload_n hx hb dX8_isOnce_9 rfl (lv_at hl 0 rfl) ?_
    refine lv_iconst (v := 3) hx hb dX8_isOnce_10 (by decide) ?_
    obtain ⟨⟨r7, S_8⟩, hc9, h⟩ := tx_bd h
    replace h := tx_let (y := r7) rfl h
    replace h := tx_let (y := S_8) rfl h
    refine tw_ci tw_all hP hD hS hA (va_runV (As := [.int 3]) (rest := []) ⟨hx, hb, hml, hown, hT⟩ (c_X8_wrong l G cA H.size aa S L (3 : Int32)  r7 S_8 hc9) (cwV 1 hT (tq_gV kw_23_23 kw_24_0 kw_24_1 kw_1_5 kw_24_2) rfl rfl rfl (by decide +kernel) ⟨Nat.le_of_ble_eq_true rfl, Nat.le_of_ble_eq_true rfl⟩) ⟨(tw_pre tw_all hP hD hK hN).1, va_recv hK hP (ci := 8) (q0 := 0) rfl rfl, (tw_pre tw_all hP hD hK hN).2⟩ rfl rfl hl.1 rfl (lv_room (Nat.le_of_ble_eq_true rfl)) dX8_isOnce_11 ⟨Nat.le_of_ble_eq_true rfl, Nat.le_of_ble_eq_true rfl⟩) (fun _ _ H locs z10 hP hD hS => ?_)
    subst z10
    rw [List.append_nil] at hP hD
    have hP : va_P G vwCl (wM cA aa S_8 L) H := hP
    have hD : va_D A (wM cA aa S_8 L) := hD
    obtain ⟨g11, h⟩ := tx_ck h
    obtain ⟨rfl, rfl⟩ := tx_2 h
    exact W.zret (ty := .boolean) hx hb hr (tx_z g11) (fun t ht hW => ⟨⟨_, (), rfl, rfl, by rw [ht]; exact hP, hD⟩, hS.F ht⟩) hS.2.2 dX8_isOnce_14
abbrev G_X8_isPlace (p : Program) (l : Launch) (e : Env) (s : State) (m : MethodId) (below : List Frame) (meth : Method) (c : Code) (G : va_G) (cA : Nat → ClassId) (A : Nat → Prop) (aa : Nat → Nat) (S : Tr) (L : Lo) (x1 : Int32) (r0 : Int32) (H : Heap) (locs : List Loc) (g : JFrame) : Prop := W p l e (headSpec (.code yX8_isPlace cX8_isPlace 2 (some .boolean) :: T0) ({ frames := 0, cells := 0, slots := 0, locals := 0 } : Room)).room s m ([.ref (aa 0), .int x1] : List Value).toArray below meth c H locs 0 0 (MQ below (tqQi G cA (fun (r : Int32) (_ : Unit) => r = r0) (fun (_ : Unit) => wM cA aa S L) A) ([.ref (aa 0), .int x1] : List Value).toArray s 0 0 A) g
set_option maxHeartbeats 4000000 in
set_option maxRecDepth 100000 in
theorem c_X8_isPlace (l : Launch) (G : va_G) (cA : Nat → ClassId) (sz : Nat) (aa : Nat → Nat) (S : Tr) (L : Lo) (x1 : Int32)  (r0 : Int32) (h : f_X8_isPlace S x1 = some r0) : Met l yX8_isPlace (.code yX8_isPlace cX8_isPlace 2 (some .boolean) :: T0) ({ frames := 0, cells := 0, slots := 0, locals := 0 } : Room) (tqP G cA [.ref (aa 0), .int x1] (wM cA aa S L) sz) (tqQi G cA (fun (r : Int32) (_ : Unit) => r = r0) (fun (_ : Unit) => wM cA aa S L) (va_A (wM cA aa S L) sz)) 0 0 (va_A (wM cA aa S L) sz) := by
  refine Met.ofW (cc := cX8_isPlace) (maxL := 2) (ret := (some .boolean)) (by decide) rfl ?_
  intro p e s m args below meth c s₁ B hml hv
  obtain ⟨rfl, hsz, hP, hK, hD0, hN⟩ := hv
  have hx := B.exec
  have hb := B.bytes
  have hr := B.returns
  have hts := atoms_spec (ws := .code yX8_isPlace cX8_isPlace 2 (some .boolean) :: T0) B.pre
  have hT : ∀ w ∈ T0, w.before _ s = true := fun w h => hts w (List.mem_cons_of_mem _ h)
  have hown : s.vm.findClass RX8 = some m.cls := findClass_of_methodNamed B.named
  have hlocks := B.notSynchronized
  subst hsz
  have hD := hD0.self (sz := s.heap.size)
  generalize hAe : va_A (wM cA aa S L) s.heap.size = A at hD ⊢
  have hA : ∀ q : Nat, s.heap.size ≤ q → A q := fun q h => by rw [← hAe]; exact Or.inr h
  have hS : va_S A s.heap s.heap [] := va_S.rf
  have hl := lv_entry ([.ref (aa 0), .int x1]) (n := 2) (Nat.le_of_ble_eq_true rfl)
  rw [lg_entry_eq]
  generalize (lg_sl ([.ref (aa 0), .int x1]) ++ List.replicate (2 - (lg_sl ([.ref (aa 0), .int x1])).length) Slot.unset).toArray = ls at hl ⊢
  have hl : lv_has ls 2 [(0, .ref (aa 0)), (1, .int x1)] := hl
  have F : tF p s m ([.ref (aa 0), .int x1] : List Value).toArray meth c G cA A RX8 cX8_isPlace 2 (some .boolean) := ⟨hx, hb, hr, hml, hT, hown, hlocks, hK, hN, hA⟩
  obtain ⟨H, hH⟩ : ∃ z, z = s.heap := ⟨_, rfl⟩
  rw [← hH] at hP
  have hS : va_S A s.heap H [] := by rw [hH]; exact hS
  suffices hgo : G_X8_isPlace p l e s m below meth c G cA A aa S L x1 r0 H [] (F0 m 0 ls []) by rw [hH] at hgo; exact hgo
  generalize ([] : List Loc) = locs at hS ⊢
  unfold f_X8_isPlace at h
  refine lv_iload_n hx hb dX8_isPlace_0 rfl (lv_at hl 1 rfl) ?_
  refine lv_if_lt (tgt := 16) hx hb dX8_isPlace_1 (by decide) (fun c1 => ?_) (fun c1 => ?_)
  · have h := tx_pos c1 h
    refine lv_iconst (v := 0) hx hb dX8_isPlace_16 (by decide) ?_
    obtain rfl := tx_1 h
    exact W.zret (ty := .boolean) hx hb hr rfl (fun t ht hW => ⟨⟨_, (), rfl, rfl, by rw [ht]; exact hP, hD⟩, hS.F ht⟩) hS.2.2 dX8_isPlace_17
  · have h := tx_neg c1 h
    refine lv_iload_n hx hb dX8_isPlace_4 rfl (lv_at hl 1 rfl) ?_
    refine lv_aload_n hx hb dX8_isPlace_5 rfl (lv_at hl 0 rfl) ?_
    refine va_get (D := G) (ci := 8) (v := .int (S 0 12)) (C := RX8) (T := TX8) (N := 91) hx hb hT ku_8 hown hK hP 0 rfl rfl 12 (by decide) (hT _ kw_12_3) (fun _ h9 => h9) rfl dX8_isPlace_6 ?_
    refine lv_icmp_ge (tgt := 16) hx hb dX8_isPlace_9 (by decide) (fun c2 => ?_) (fun c2 => ?_)
    · have h := tx_pos c2 h
      refine lv_iconst (v := 0) hx hb dX8_isPlace_16 (by decide) ?_
      obtain rfl := tx_1 h
      exact W.zret (ty := .boolean) hx hb hr rfl (fun t ht hW => ⟨⟨_, (), rfl, rfl, by rw [ht]; exact hP, hD⟩, hS.F ht⟩) hS.2.2 dX8_isPlace_17
    · have h := tx_neg c2 h
      refine lv_iconst (v := 1) hx hb dX8_isPlace_12 (by decide) ?_
      refine lv_goto (tgt := 17) hx hb dX8_isPlace_13 (by decide) ?_
      obtain rfl := tx_1 h
      exact W.zret (ty := .boolean) hx hb hr rfl (fun t ht hW => ⟨⟨_, (), rfl, rfl, by rw [ht]; exact hP, hD⟩, hS.F ht⟩) hS.2.2 dX8_isPlace_17
abbrev G_X8_isSign (p : Program) (l : Launch) (e : Env) (s : State) (m : MethodId) (below : List Frame) (meth : Method) (c : Code) (G : va_G) (cA : Nat → ClassId) (A : Nat → Prop) (aa : Nat → Nat) (S : Tr) (L : Lo) (x1 : Int32) (r0 : Int32) (H : Heap) (locs : List Loc) (g : JFrame) : Prop := W p l e (headSpec (.code yX8_isSign cX8_isSign 2 (some .boolean) :: T0) ({ frames := 0, cells := 0, slots := 0, locals := 0 } : Room)).room s m ([.ref (aa 0), .int x1] : List Value).toArray below meth c H locs 0 0 (MQ below (tqQi G cA (fun (r : Int32) (_ : Unit) => r = r0) (fun (_ : Unit) => wM cA aa S L) A) ([.ref (aa 0), .int x1] : List Value).toArray s 0 0 A) g
set_option maxHeartbeats 4000000 in
set_option maxRecDepth 100000 in
theorem c_X8_isSign (l : Launch) (G : va_G) (cA : Nat → ClassId) (sz : Nat) (aa : Nat → Nat) (S : Tr) (L : Lo) (x1 : Int32)  (r0 : Int32) (h : f_X8_isSign S x1 = some r0) : Met l yX8_isSign (.code yX8_isSign cX8_isSign 2 (some .boolean) :: T0) ({ frames := 0, cells := 0, slots := 0, locals := 0 } : Room) (tqP G cA [.ref (aa 0), .int x1] (wM cA aa S L) sz) (tqQi G cA (fun (r : Int32) (_ : Unit) => r = r0) (fun (_ : Unit) => wM cA aa S L) (va_A (wM cA aa S L) sz)) 0 0 (va_A (wM cA aa S L) sz) := by
  refine Met.ofW (cc := cX8_isSign) (maxL := 2) (ret := (some .boolean)) (by decide) rfl ?_
  intro p e s m args below meth c s₁ B hml hv
  obtain ⟨rfl, hsz, hP, hK, hD0, hN⟩ := hv
  have hx := B.exec
  have hb := B.bytes
  have hr := B.returns
  have hts := atoms_spec (ws := .code yX8_isSign cX8_isSign 2 (some .boolean) :: T0) B.pre
  have hT : ∀ w ∈ T0, w.before _ s = true := fun w h => hts w (List.mem_cons_of_mem _ h)
  have hown : s.vm.findClass RX8 = some m.cls := findClass_of_methodNamed B.named
  have hlocks := B.notSynchronized
  subst hsz
  have hD := hD0.self (sz := s.heap.size)
  generalize hAe : va_A (wM cA aa S L) s.heap.size = A at hD ⊢
  have hA : ∀ q : Nat, s.heap.size ≤ q → A q := fun q h => by rw [← hAe]; exact Or.inr h
  have hS : va_S A s.heap s.heap [] := va_S.rf
  have hl := lv_entry ([.ref (aa 0), .int x1]) (n := 2) (Nat.le_of_ble_eq_true rfl)
  rw [lg_entry_eq]
  generalize (lg_sl ([.ref (aa 0), .int x1]) ++ List.replicate (2 - (lg_sl ([.ref (aa 0), .int x1])).length) Slot.unset).toArray = ls at hl ⊢
  have hl : lv_has ls 2 [(0, .ref (aa 0)), (1, .int x1)] := hl
  have F : tF p s m ([.ref (aa 0), .int x1] : List Value).toArray meth c G cA A RX8 cX8_isSign 2 (some .boolean) := ⟨hx, hb, hr, hml, hT, hown, hlocks, hK, hN, hA⟩
  obtain ⟨H, hH⟩ : ∃ z, z = s.heap := ⟨_, rfl⟩
  rw [← hH] at hP
  have hS : va_S A s.heap H [] := by rw [hH]; exact hS
  suffices hgo : G_X8_isSign p l e s m below meth c G cA A aa S L x1 r0 H [] (F0 m 0 ls []) by rw [hH] at hgo; exact hgo
  generalize ([] : List Loc) = locs at hS ⊢
  unfold f_X8_isSign at h
  refine lv_aload_n hx hb dX8_isSign_0 rfl (lv_at hl 0 rfl) ?_
  refine va_get (D := G) (ci := 8) (v := .int (S 0 8)) (C := RX8) (T := TX8) (N := 91) hx hb hT ku_8 hown hK hP 0 rfl rfl 8 (by decide) (hT _ kw_22_14) (fun _ h9 => h9) rfl dX8_isSign_1 ?_
  refine lv_iconst (v := 4) hx hb dX8_isSign_4 (by decide) ?_
  refine lv_icmp_ne (tgt := 20) hx hb dX8_isSign_5 (by decide) (fun c1 => ?_) (fun c1 => ?_)
  · have h := tx_neg c1 h
    refine lv_iconst (v := 0) hx hb dX8_isSign_20 (by decide) ?_
    obtain rfl := tx_1 h
    exact W.zret (ty := .boolean) hx hb hr rfl (fun t ht hW => ⟨⟨_, (), rfl, rfl, by rw [ht]; exact hP, hD⟩, hS.F ht⟩) hS.2.2 dX8_isSign_21
  · have h := tx_pos c1 h
    refine lv_aload_n hx hb dX8_isSign_8 rfl (lv_at hl 0 rfl) ?_
    refine va_get (D := G) (ci := 8) (v := .int (S 0 9)) (C := RX8) (T := TX8) (N := 91) hx hb hT ku_8 hown hK hP 0 rfl rfl 9 (by decide) (hT _ kw_22_20) (fun _ h9 => h9) rfl dX8_isSign_9 ?_
    refine lv_iload_n hx hb dX8_isSign_12 rfl (lv_at hl 1 rfl) ?_
    refine lv_icmp_ne (tgt := 20) hx hb dX8_isSign_13 (by decide) (fun c2 => ?_) (fun c2 => ?_)
    · have h := tx_neg c2 h
      refine lv_iconst (v := 0) hx hb dX8_isSign_20 (by decide) ?_
      obtain rfl := tx_1 h
      exact W.zret (ty := .boolean) hx hb hr rfl (fun t ht hW => ⟨⟨_, (), rfl, rfl, by rw [ht]; exact hP, hD⟩, hS.F ht⟩) hS.2.2 dX8_isSign_21
    · have h := tx_pos c2 h
      refine lv_iconst (v := 1) hx hb dX8_isSign_16 (by decide) ?_
      refine lv_goto (tgt := 21) hx hb dX8_isSign_17 (by decide) ?_
      obtain rfl := tx_1 h
      exact W.zret (ty := .boolean) hx hb hr rfl (fun t ht hW => ⟨⟨_, (), rfl, rfl, by rw [ht]; exact hP, hD⟩, hS.F ht⟩) hS.2.2 dX8_isSign_21
abbrev G_X8_put_86 (p : Program) (l : Launch) (e : Env) (s : State) (m : MethodId) (below : List Frame) (meth : Method) (c : Code) (G : va_G) (cA : Nat → ClassId) (A : Nat → Prop) (aa : Nat → Nat) (L : Lo) (x2 : Int32) (S' : Tr) (H : Heap) (locs : List Loc) (g : JFrame) : Prop := W p l e (headSpec (.code yX8_put cX8_put 4 none :: T0) ({ frames := 0, cells := 0, slots := 0, locals := 0 } : Room)).room s m ([.ref (aa 0), .ref (aa 86), .int x2] : List Value).toArray below meth c H locs 0 0 (MQ below (tqQv G cA (fun (_ : Unit) => True) (fun (_ : Unit) => wM cA aa S' L) A) ([.ref (aa 0), .ref (aa 86), .int x2] : List Value).toArray s 0 0 A) g
set_option maxHeartbeats 4000000 in
set_option maxRecDepth 100000 in
theorem w_X8_put_86_L54 {p : Program} {l : Launch} {e : Env} {s : State} {m : MethodId} {below : List Frame} {meth : Method} {c : Code} {G : va_G} {cA : Nat → ClassId} {A : Nat → Prop} {aa : Nat → Nat} {L : Lo} {x2₀ : Int32} {S' : Tr} {x2 : Int32} (F : tF p s m ([.ref (aa 0), .ref (aa 86), .int x2₀] : List Value).toArray meth c G cA A RX8 cX8_put 4 none)    (N : Nat) : ∀ (x3 : Int32) (S : Tr) (H : Heap) (locs : List Loc) (ls : Array Slot), lpF (fun _ _ => none) (fB_X8_put_86_L54 x2) N x3 S = some S' → va_P G vwCl (wM cA aa S L) H → va_D A (wM cA aa S L) → va_S A s.heap H locs → lv_has ls 4 [(0, .ref (aa 0)), (1, .ref (aa 86)), (2, .int x2), (3, .int x3)] → G_X8_put_86 p l e s m below meth c G cA A aa L x2₀ S' H locs (F0 m 54 ls []) := by
  obtain ⟨hx, hb, hr, hml, hT, hown, hlocks, hK, hN, hA⟩ := id F
  induction N with
  | zero =>
    intro x3 S H locs ls h
    have h : (none : Option (Tr)) = some S' := h
    cases h
  | succ N hk54 =>
    intro x3 S H locs ls h hP hD hS hl
    have h : fB_X8_put_86_L54 x2 (lpF (fun _ _ => none) (fB_X8_put_86_L54 x2) N) x3 S = some S' := h
    generalize hk54e : lpF (fun _ _ => none) (fB_X8_put_86_L54 x2) N = k54 at h hk54
    unfold fB_X8_put_86_L54 at h
    refine lv_iload_n hx hb dX8_put_54 rfl (lv_at hl 3 rfl) ?_
    refine lv_bipush (v := 6) hx hb dX8_put_55 (by decide) ?_
    refine lv_icmp_ge (tgt := 80) hx hb dX8_put_57 (by decide) (fun c3 => ?_) (fun c3 => ?_)
    · have h := tx_pos c3 h
      obtain rfl := tx_1 h
      exact W.vret hx hb hr (fun t ht hW => ⟨⟨(), rfl, trivial, by rw [ht]; exact hP, hD⟩, hS.F ht⟩) hS.2.2 dX8_put_80
    · have h := tx_neg c3 h
      refine lv_aload_n hx hb dX8_put_60 rfl (lv_at hl 1 rfl) ?_
      refine lv_iload_n hx hb dX8_put_61 rfl (lv_at hl 2 rfl) ?_
      refine lv_bipush (v := 55) hx hb dX8_put_62 (by decide) ?_
      refine lv_iadd hx hb dX8_put_64 ?_
      refine lv_iload_n hx hb dX8_put_65 rfl (lv_at hl 3 rfl) ?_
      refine lv_iadd hx hb dX8_put_66 ?_
      refine lv_aload_n hx hb dX8_put_67 rfl (lv_at hl 0 rfl) ?_
      refine va_get (D := G) (ci := 8) (v := .ref (aa 58)) (C := RX8) (T := TX8) (N := 91) hx hb hT ku_8 hown hK hP 0 rfl rfl 57 (by decide) (hT _ kw_10_18) (fun _ h9 => h9) rfl dX8_put_68 ?_
      refine lv_iload_n hx hb dX8_put_71 rfl (lv_at hl 3 rfl) ?_
      obtain ⟨g4, h⟩ := tx_ck h
      refine va_iald (i := x3) hx hb hK hP 32 0 rfl rfl (tx_in g4) dX8_put_72 ?_
      obtain ⟨g5, h⟩ := tx_ck h
      refine va_iast (i := ((x2 + 55) + x3)) hx hb hK hP hD hS 47 0 rfl rfl (tx_in g5) dX8_put_73 (fun H locs hP hD hS => ?_)
      obtain ⟨S_6, eS_6, h⟩ := tx_lt h
      rw [sM_a85, eS_6] at hP hD
      obtain ⟨y7, ey7, h⟩ := tx_lt h
      refine lv_iinc (v := y7) (lv' := [(3, .int y7), (0, .ref (aa 0)), (1, .ref (aa 86)), (2, .int x2)]) hx hb dX8_put_74 hl (k := 3) rfl ey7 (by decide) rfl (fun ls hl => ?_)
      refine lv_goto (tgt := 54) hx hb dX8_put_77 (by decide) ?_
      exact hk54 y7 S_6 H locs ls h hP hD hS (lv_sub hl [1, 2, 3, 0] rfl)
set_option maxHeartbeats 4000000 in
set_option maxRecDepth 100000 in
theorem w_X8_put_86_L27 {p : Program} {l : Launch} {e : Env} {s : State} {m : MethodId} {below : List Frame} {meth : Method} {c : Code} {G : va_G} {cA : Nat → ClassId} {A : Nat → Prop} {aa : Nat → Nat} {L : Lo} {x2₀ : Int32} {S' : Tr} {x2 : Int32} (F : tF p s m ([.ref (aa 0), .ref (aa 86), .int x2₀] : List Value).toArray meth c G cA A RX8 cX8_put 4 none)    (N : Nat) : ∀ (x3 : Int32) (S : Tr) (H : Heap) (locs : List Loc) (ls : Array Slot), lpF (fun _ _ => none) (fB_X8_put_86_L27 x2) N x3 S = some S' → va_P G vwCl (wM cA aa S L) H → va_D A (wM cA aa S L) → va_S A s.heap H locs → lv_has ls 4 [(0, .ref (aa 0)), (1, .ref (aa 86)), (2, .int x2), (3, .int x3)] → G_X8_put_86 p l e s m below meth c G cA A aa L x2₀ S' H locs (F0 m 27 ls []) := by
  obtain ⟨hx, hb, hr, hml, hT, hown, hlocks, hK, hN, hA⟩ := id F
  induction N with
  | zero =>
    intro x3 S H locs ls h
    have h : (none : Option (Tr)) = some S' := h
    cases h
  | succ N hk27 =>
    intro x3 S H locs ls h hP hD hS hl
    have h : fB_X8_put_86_L27 x2 (lpF (fun _ _ => none) (fB_X8_put_86_L27 x2) N) x3 S = some S' := h
    generalize hk27e : lpF (fun _ _ => none) (fB_X8_put_86_L27 x2) N = k27 at h hk27
    unfold fB_X8_put_86_L27 at h
    refine lv_iload_n hx hb dX8_put_27 rfl (lv_at hl 3 rfl) ?_
    refine lv_iconst (v := 5) hx hb dX8_put_28 (by decide) ?_
    refine lv_icmp_ge (tgt := 52) hx hb dX8_put_29 (by decide) (fun c2 => ?_) (fun c2 => ?_)
    · have h := tx_pos c2 h
      refine lv_iconst (v := 0) hx hb dX8_put_52 (by decide) ?_
      refine lv_istore_n (lv' := [(3, .int 0), (0, .ref (aa 0)), (1, .ref (aa 86)), (2, .int x2)]) hx hb dX8_put_53 rfl hl (by decide) rfl (fun ls hl => ?_)
      exact w_X8_put_86_L54 F 2000 0 S H locs ls h hP hD hS (lv_sub hl [1, 2, 3, 0] rfl)
    · have h := tx_neg c2 h
      refine lv_aload_n hx hb dX8_put_32 rfl (lv_at hl 1 rfl) ?_
      refine lv_iload_n hx hb dX8_put_33 rfl (lv_at hl 2 rfl) ?_
      refine lv_bipush (v := 50) hx hb dX8_put_34 (by decide) ?_
      refine lv_iadd hx hb dX8_put_36 ?_
      refine lv_iload_n hx hb dX8_put_37 rfl (lv_at hl 3 rfl) ?_
      refine lv_iadd hx hb dX8_put_38 ?_
      refine lv_aload_n hx hb dX8_put_39 rfl (lv_at hl 0 rfl) ?_
      refine va_get (D := G) (ci := 8) (v := .ref (aa 56)) (C := RX8) (T := TX8) (N := 91) hx hb hT ku_8 hown hK hP 0 rfl rfl 55 (by decide) (hT _ kw_10_16) (fun _ h9 => h9) rfl dX8_put_40 ?_
      refine lv_iload_n hx hb dX8_put_43 rfl (lv_at hl 3 rfl) ?_
      obtain ⟨g8, h⟩ := tx_ck h
      refine va_iald (i := x3) hx hb hK hP 30 0 rfl rfl (tx_in g8) dX8_put_44 ?_
      obtain ⟨g9, h⟩ := tx_ck h
      refine va_iast (i := ((x2 + 50) + x3)) hx hb hK hP hD hS 47 0 rfl rfl (tx_in g9) dX8_put_45 (fun H locs hP hD hS => ?_)
      obtain ⟨S_10, eS_10, h⟩ := tx_lt h
      rw [sM_a85, eS_10] at hP hD
      obtain ⟨y11, ey11, h⟩ := tx_lt h
      refine lv_iinc (v := y11) (lv' := [(3, .int y11), (0, .ref (aa 0)), (1, .ref (aa 86)), (2, .int x2)]) hx hb dX8_put_46 hl (k := 3) rfl ey11 (by decide) rfl (fun ls hl => ?_)
      refine lv_goto (tgt := 27) hx hb dX8_put_49 (by decide) ?_
      exact hk27 y11 S_10 H locs ls h hP hD hS (lv_sub hl [1, 2, 3, 0] rfl)
set_option maxHeartbeats 4000000 in
set_option maxRecDepth 100000 in
theorem w_X8_put_86_L2 {p : Program} {l : Launch} {e : Env} {s : State} {m : MethodId} {below : List Frame} {meth : Method} {c : Code} {G : va_G} {cA : Nat → ClassId} {A : Nat → Prop} {aa : Nat → Nat} {L : Lo} {x2₀ : Int32} {S' : Tr} {x2 : Int32} (F : tF p s m ([.ref (aa 0), .ref (aa 86), .int x2₀] : List Value).toArray meth c G cA A RX8 cX8_put 4 none)    (N : Nat) : ∀ (x3 : Int32) (S : Tr) (H : Heap) (locs : List Loc) (ls : Array Slot), lpF (fun _ _ => none) (fB_X8_put_86_L2 x2) N x3 S = some S' → va_P G vwCl (wM cA aa S L) H → va_D A (wM cA aa S L) → va_S A s.heap H locs → lv_has ls 4 [(0, .ref (aa 0)), (1, .ref (aa 86)), (2, .int x2), (3, .int x3)] → G_X8_put_86 p l e s m below meth c G cA A aa L x2₀ S' H locs (F0 m 2 ls []) := by
  obtain ⟨hx, hb, hr, hml, hT, hown, hlocks, hK, hN, hA⟩ := id F
  induction N with
  | zero =>
    intro x3 S H locs ls h
    have h : (none : Option (Tr)) = some S' := h
    cases h
  | succ N hk2 =>
    intro x3 S H locs ls h hP hD hS hl
    have h : fB_X8_put_86_L2 x2 (lpF (fun _ _ => none) (fB_X8_put_86_L2 x2) N) x3 S = some S' := h
    generalize hk2e : lpF (fun _ _ => none) (fB_X8_put_86_L2 x2) N = k2 at h hk2
    unfold fB_X8_put_86_L2 at h
    refine lv_iload_n hx hb dX8_put_2 rfl (lv_at hl 3 rfl) ?_
    refine lv_bipush (v := 50) hx hb dX8_put_3 (by decide) ?_
    refine lv_icmp_ge (tgt := 25) hx hb dX8_put_5 (by decide) (fun c1 => ?_) (fun c1 => ?_)
    · have h := tx_pos c1 h
      refine lv_iconst (v := 0) hx hb dX8_put_25 (by decide) ?_
      refine lv_istore_n (lv' := [(3, .int 0), (0, .ref (aa 0)), (1, .ref (aa 86)), (2, .int x2)]) hx hb dX8_put_26 rfl hl (by decide) rfl (fun ls hl => ?_)
      exact w_X8_put_86_L27 F 2000 0 S H locs ls h hP hD hS (lv_sub hl [1, 2, 3, 0] rfl)
    · have h := tx_neg c1 h
      refine lv_aload_n hx hb dX8_put_8 rfl (lv_at hl 1 rfl) ?_
      refine lv_iload_n hx hb dX8_put_9 rfl (lv_at hl 2 rfl) ?_
      refine lv_iload_n hx hb dX8_put_10 rfl (lv_at hl 3 rfl) ?_
      refine lv_iadd hx hb dX8_put_11 ?_
      refine lv_aload_n hx hb dX8_put_12 rfl (lv_at hl 0 rfl) ?_
      refine va_get (D := G) (ci := 8) (v := .ref (aa 55)) (C := RX8) (T := TX8) (N := 91) hx hb hT ku_8 hown hK hP 0 rfl rfl 54 (by decide) (hT _ kw_10_15) (fun _ h9 => h9) rfl dX8_put_13 ?_
      refine lv_iload_n hx hb dX8_put_16 rfl (lv_at hl 3 rfl) ?_
      obtain ⟨g12, h⟩ := tx_ck h
      refine va_iald (i := x3) hx hb hK hP 29 0 rfl rfl (tx_in g12) dX8_put_17 ?_
      obtain ⟨g13, h⟩ := tx_ck h
      refine va_iast (i := (x2 + x3)) hx hb hK hP hD hS 47 0 rfl rfl (tx_in g13) dX8_put_18 (fun H locs hP hD hS => ?_)
      obtain ⟨S_14, eS_14, h⟩ := tx_lt h
      rw [sM_a85, eS_14] at hP hD
      obtain ⟨y15, ey15, h⟩ := tx_lt h
      refine lv_iinc (v := y15) (lv' := [(3, .int y15), (0, .ref (aa 0)), (1, .ref (aa 86)), (2, .int x2)]) hx hb dX8_put_19 hl (k := 3) rfl ey15 (by decide) rfl (fun ls hl => ?_)
      refine lv_goto (tgt := 2) hx hb dX8_put_22 (by decide) ?_
      exact hk2 y15 S_14 H locs ls h hP hD hS (lv_sub hl [1, 2, 3, 0] rfl)
set_option maxHeartbeats 4000000 in
set_option maxRecDepth 100000 in
theorem c_X8_put_86 (l : Launch) (G : va_G) (cA : Nat → ClassId) (sz : Nat) (aa : Nat → Nat) (S : Tr) (L : Lo) (x2 : Int32)  (S' : Tr) (h : f_X8_put_86 S x2 = some S') : Met l yX8_put (.code yX8_put cX8_put 4 none :: T0) ({ frames := 0, cells := 0, slots := 0, locals := 0 } : Room) (tqP G cA [.ref (aa 0), .ref (aa 86), .int x2] (wM cA aa S L) sz) (tqQv G cA (fun (_ : Unit) => True) (fun (_ : Unit) => wM cA aa S' L) (va_A (wM cA aa S L) sz)) 0 0 (va_A (wM cA aa S L) sz) := by
  refine Met.ofW (cc := cX8_put) (maxL := 4) (ret := none) (by decide) rfl ?_
  intro p e s m args below meth c s₁ B hml hv
  obtain ⟨rfl, hsz, hP, hK, hD0, hN⟩ := hv
  have hx := B.exec
  have hb := B.bytes
  have hr := B.returns
  have hts := atoms_spec (ws := .code yX8_put cX8_put 4 none :: T0) B.pre
  have hT : ∀ w ∈ T0, w.before _ s = true := fun w h => hts w (List.mem_cons_of_mem _ h)
  have hown : s.vm.findClass RX8 = some m.cls := findClass_of_methodNamed B.named
  have hlocks := B.notSynchronized
  subst hsz
  have hD := hD0.self (sz := s.heap.size)
  generalize hAe : va_A (wM cA aa S L) s.heap.size = A at hD ⊢
  have hA : ∀ q : Nat, s.heap.size ≤ q → A q := fun q h => by rw [← hAe]; exact Or.inr h
  have hS : va_S A s.heap s.heap [] := va_S.rf
  have hl := lv_entry ([.ref (aa 0), .ref (aa 86), .int x2]) (n := 4) (Nat.le_of_ble_eq_true rfl)
  rw [lg_entry_eq]
  generalize (lg_sl ([.ref (aa 0), .ref (aa 86), .int x2]) ++ List.replicate (4 - (lg_sl ([.ref (aa 0), .ref (aa 86), .int x2])).length) Slot.unset).toArray = ls at hl ⊢
  have hl : lv_has ls 4 [(0, .ref (aa 0)), (1, .ref (aa 86)), (2, .int x2)] := hl
  have F : tF p s m ([.ref (aa 0), .ref (aa 86), .int x2] : List Value).toArray meth c G cA A RX8 cX8_put 4 none := ⟨hx, hb, hr, hml, hT, hown, hlocks, hK, hN, hA⟩
  obtain ⟨H, hH⟩ : ∃ z, z = s.heap := ⟨_, rfl⟩
  rw [← hH] at hP
  have hS : va_S A s.heap H [] := by rw [hH]; exact hS
  suffices hgo : G_X8_put_86 p l e s m below meth c G cA A aa L x2 S' H [] (F0 m 0 ls []) by rw [hH] at hgo; exact hgo
  generalize ([] : List Loc) = locs at hS ⊢
  unfold f_X8_put_86 at h
  refine lv_iconst (v := 0) hx hb dX8_put_0 (by decide) ?_
  refine lv_istore_n (lv' := [(3, .int 0), (0, .ref (aa 0)), (1, .ref (aa 86)), (2, .int x2)]) hx hb dX8_put_1 rfl hl (by decide) rfl (fun ls hl => ?_)
  exact w_X8_put_86_L2 F 2000 0 S H locs ls h hP hD hS (lv_sub hl [1, 2, 3, 0] rfl)
abbrev G_X8_keep (p : Program) (l : Launch) (e : Env) (s : State) (m : MethodId) (below : List Frame) (meth : Method) (c : Code) (G : va_G) (cA : Nat → ClassId) (A : Nat → Prop) (aa : Nat → Nat) (r0 : Int32) (S' : Tr) (L' : Lo) (H : Heap) (locs : List Loc) (g : JFrame) : Prop := W p l e (headSpec (.code yX8_keep cX8_keep 2 (some .int) :: T0) ({ frames := 1, cells := 0, slots := 0, locals := 23 } : Room)).room s m ([.ref (aa 0)] : List Value).toArray below meth c H locs 0 0 (MQ below (tqQi G cA (fun (r : Int32) (_ : Unit) => r = r0) (fun (_ : Unit) => wM cA aa S' L') A) ([.ref (aa 0)] : List Value).toArray s 0 0 A) g
set_option maxHeartbeats 4000000 in
set_option maxRecDepth 100000 in
theorem w_X8_keep_J86 {p : Program} {l : Launch} {e : Env} {s : State} {m : MethodId} {below : List Frame} {meth : Method} {c : Code} {G : va_G} {cA : Nat → ClassId} {A : Nat → Prop} {aa : Nat → Nat} {r0 : Int32} {S' : Tr} {L' : Lo} (F : tF p s m ([.ref (aa 0)] : List Value).toArray meth c G cA A RX8 cX8_keep 2 (some .int))    (S : Tr) (L : Lo) (H : Heap) (locs : List Loc) (ls : Array Slot) (h : fJ_X8_keep_J86 S L = some (r0, S', L')) (hP : va_P G vwCl (wM cA aa S_9 L_10) H) (hD : va_D A (wM cA aa S_9 L_10)) (hS : va_S A s.heap H locs) (hl : lv_has ls 2 [(0, .ref (aa 0))]) : G_X8_keep p l e s m below meth c G cA A aa r0 S' L' H locs (F0 m 86 ls []) := by
  obtain ⟨hx, hb, hr, hml, hT, hown, hlocks, hK, hN, hA⟩ := id F
  unfold fJ_X8_keep_J86 at h
  refine lv_aload_n hx hb dX8_keep_86 rfl (lv_at hl 0 rfl) ?_
  refine lv_aload_n hx hb dX8_keep_87 rfl (lv_at hl 0 rfl) ?_
  refine va_get (D := G) (ci := 8) (v := .ref (aa 61)) (C := RX8) (T := TX8) (N := 91) hx hb hT ku_8 hown hK hP 0 rfl rfl 60 (by decide) (hT _ kw_10_21) (fun _ h9 => h9) rfl dX8_keep_88 ?_
  refine lv_iconst (v := 0) hx hb dX8_keep_91 (by decide) ?_
  refine va_iald (i := 0) hx hb hK hP 35 0 rfl rfl (tq_in (by decide)) dX8_keep_92 ?_
  refine tq_i (w := (S 61 0)) rfl ?_
  refine va_put (D := G) (ci := 8) (v := .int (S 61 0)) (ty := .int) (C := RX8) (T := TX8) (N := 91) hx hb hT ku_8 tyX8 tyX8_ok nmX8 hown hK hP hD hS 0 rfl rfl 88 (by decide) (hT _ kw_59_4) (fun _ h9 => h9) rfl (by decide +kernel) rfl rfl (Nat.le_of_ble_eq_true rfl) dX8_keep_93 (fun H locs hP hD hS => ?_)
  obtain ⟨S_8, eS_8, h⟩ := tx_lt h
  rw [sM_f88, eS_8] at hP hD
  refine lv_aload_n hx hb dX8_keep_96 rfl (lv_at hl 0 rfl) ?_
  refine lv_aload_n hx hb dX8_keep_97 rfl (lv_at hl 0 rfl) ?_
  refine va_get (D := G) (ci := 8) (v := .ref (aa 62)) (C := RX8) (T := TX8) (N := 91) hx hb hT ku_8 hown hK hP 0 rfl rfl 61 (by decide) (hT _ kw_10_22) (fun _ h9 => h9) rfl dX8_keep_98 ?_
  refine lv_iconst (v := 0) hx hb dX8_keep_101 (by decide) ?_
  refine va_iald (i := 0) hx hb hK hP 36 0 rfl rfl (tq_in (by decide)) dX8_keep_102 ?_
  refine tq_i (w := (S_8 62 0)) rfl ?_
  refine va_put (D := G) (ci := 8) (v := .int (S_8 62 0)) (ty := .int) (C := RX8) (T := TX8) (N := 91) hx hb hT ku_8 tyX8 tyX8_ok nmX8 hown hK hP hD hS 0 rfl rfl 89 (by decide) (hT _ kw_59_5) (fun _ h9 => h9) rfl (by decide +kernel) rfl rfl (Nat.le_of_ble_eq_true rfl) dX8_keep_103 (fun H locs hP hD hS => ?_)
  obtain ⟨S_9, eS_9, h⟩ := tx_lt h
  rw [sM_f89, eS_9] at hP hD
  refine lv_aload_n hx hb dX8_keep_106 rfl (lv_at hl 0 rfl) ?_
  refine lv_aload_n hx hb dX8_keep_107 rfl (lv_at hl 0 rfl) ?_
  refine va_get (D := G) (ci := 8) (v := .long (L 0 63)) (C := RX8) (T := TX8) (N := 91) hx hb hT ku_8 hown hK hP 0 rfl rfl 63 (by decide) (hT _ kw_12_14) (fun _ h9 => h9) rfl dX8_keep_108 ?_
  refine va_put (D := G) (ci := 8) (v := .long (L 0 63)) (ty := .long) (C := RX8) (T := TX8) (N := 91) hx hb hT ku_8 tyX8 tyX8_ok nmX8 hown hK hP hD hS 0 rfl rfl 90 (by decide) (hT _ kw_59_6) (fun _ h9 => h9) rfl (by decide +kernel) rfl rfl (Nat.le_of_ble_eq_true rfl) dX8_keep_111 (fun H locs hP hD hS => ?_)
  obtain ⟨L_10, eL_10, h⟩ := tx_lt h
  rw [sM_f90, eL_10] at hP hD
  refine lv_aload_n hx hb dX8_keep_114 rfl (lv_at hl 0 rfl) ?_
  refine va_get (D := G) (ci := 8) (v := .ref (aa 62)) (C := RX8) (T := TX8) (N := 91) hx hb hT ku_8 hown hK hP 0 rfl rfl 61 (by decide) (hT _ kw_10_22) (fun _ h9 => h9) rfl dX8_keep_115 ?_
  refine lv_iconst (v := 0) hx hb dX8_keep_118 (by decide) ?_
  refine va_iald (i := 0) hx hb hK hP 36 0 rfl rfl (tq_in (by decide)) dX8_keep_119 ?_
  refine tq_i (w := (S_9 62 0)) rfl ?_
  obtain ⟨rfl, rfl, rfl⟩ := tx_3 h
  exact W.iret hx hb hr (fun t ht hW => ⟨⟨_, (), rfl, rfl, by rw [ht]; exact hP, hD⟩, hS.F ht⟩) hS.2.2 dX8_keep_120
set_option maxHeartbeats 4000000 in
set_option maxRecDepth 100000 in
theorem w_X8_keep_L47 {p : Program} {l : Launch} {e : Env} {s : State} {m : MethodId} {below : List Frame} {meth : Method} {c : Code} {G : va_G} {cA : Nat → ClassId} {A : Nat → Prop} {aa : Nat → Nat} {r0 : Int32} {S' : Tr} {L' : Lo} {L : Lo} (F : tF p s m ([.ref (aa 0)] : List Value).toArray meth c G cA A RX8 cX8_keep 2 (some .int))    (N : Nat) : ∀ (x1 : Int32) (S : Tr) (H : Heap) (locs : List Loc) (ls : Array Slot), lpF (fun _ _ => none) (fB_X8_keep_L47 L) N x1 S = some (r0, S', L') → va_P G vwCl (wM cA aa S L) H → va_D A (wM cA aa S L) → va_S A s.heap H locs → lv_has ls 2 [(0, .ref (aa 0)), (1, .int x1)] → G_X8_keep p l e s m below meth c G cA A aa r0 S' L' H locs (F0 m 47 ls []) := by
  obtain ⟨hx, hb, hr, hml, hT, hown, hlocks, hK, hN, hA⟩ := id F
  induction N with
  | zero =>
    intro x1 S H locs ls h
    have h : (none : Option (Int32 × Tr × Lo)) = some (r0, S', L') := h
    cases h
  | succ N hk47 =>
    intro x1 S H locs ls h hP hD hS hl
    have h : fB_X8_keep_L47 L (lpF (fun _ _ => none) (fB_X8_keep_L47 L) N) x1 S = some (r0, S', L') := h
    generalize hk47e : lpF (fun _ _ => none) (fB_X8_keep_L47 L) N = k47 at h hk47
    unfold fB_X8_keep_L47 at h
    refine lv_iload_n hx hb dX8_keep_47 rfl (lv_at hl 1 rfl) ?_
    refine lv_bipush (v := 6) hx hb dX8_keep_48 (by decide) ?_
    refine lv_icmp_ge (tgt := 86) hx hb dX8_keep_50 (by decide) (fun c7 => ?_) (fun c7 => ?_)
    · have h := tx_pos c7 h
      exact w_X8_keep_J86 F S L H locs ls h hP hD hS (lv_sub hl [0] rfl)
    · have h := tx_neg c7 h
      refine lv_aload_n hx hb dX8_keep_53 rfl (lv_at hl 0 rfl) ?_
      refine va_get (D := G) (ci := 8) (v := .ref (aa 88)) (C := RX8) (T := TX8) (N := 91) hx hb hT ku_8 hown hK hP 0 rfl rfl 87 (by decide) (hT _ kw_11_12) (fun _ h9 => h9) rfl dX8_keep_54 ?_
      refine lv_iload_n hx hb dX8_keep_57 rfl (lv_at hl 1 rfl) ?_
      refine lv_aload_n hx hb dX8_keep_58 rfl (lv_at hl 0 rfl) ?_
      refine va_get (D := G) (ci := 8) (v := .ref (aa 59)) (C := RX8) (T := TX8) (N := 91) hx hb hT ku_8 hown hK hP 0 rfl rfl 58 (by decide) (hT _ kw_10_19) (fun _ h9 => h9) rfl dX8_keep_59 ?_
      refine lv_iload_n hx hb dX8_keep_62 rfl (lv_at hl 1 rfl) ?_
      obtain ⟨g11, h⟩ := tx_ck h
      refine va_iald (i := x1) hx hb hK hP 33 0 rfl rfl (tx_in g11) dX8_keep_63 ?_
      refine va_iast (i := x1) hx hb hK hP hD hS 49 0 rfl rfl (tx_in g11) dX8_keep_64 (fun H locs hP hD hS => ?_)
      obtain ⟨S_12, eS_12, h⟩ := tx_lt h
      rw [sM_a87, eS_12] at hP hD
      refine lv_aload_n hx hb dX8_keep_65 rfl (lv_at hl 0 rfl) ?_
      refine va_get (D := G) (ci := 8) (v := .ref (aa 88)) (C := RX8) (T := TX8) (N := 91) hx hb hT ku_8 hown hK hP 0 rfl rfl 87 (by decide) (hT _ kw_11_12) (fun _ h9 => h9) rfl dX8_keep_66 ?_
      refine lv_bipush (v := 6) hx hb dX8_keep_69 (by decide) ?_
      refine lv_iload_n hx hb dX8_keep_71 rfl (lv_at hl 1 rfl) ?_
      refine lv_iadd hx hb dX8_keep_72 ?_
      refine lv_aload_n hx hb dX8_keep_73 rfl (lv_at hl 0 rfl) ?_
      refine va_get (D := G) (ci := 8) (v := .ref (aa 60)) (C := RX8) (T := TX8) (N := 91) hx hb hT ku_8 hown hK hP 0 rfl rfl 59 (by decide) (hT _ kw_10_20) (fun _ h9 => h9) rfl dX8_keep_74 ?_
      refine lv_iload_n hx hb dX8_keep_77 rfl (lv_at hl 1 rfl) ?_
      refine va_iald (i := x1) hx hb hK hP 34 0 rfl rfl (tx_in g11) dX8_keep_78 ?_
      obtain ⟨g13, h⟩ := tx_ck h
      refine va_iast (i := ((6 : Int32) + x1)) hx hb hK hP hD hS 49 0 rfl rfl (tx_in g13) dX8_keep_79 (fun H locs hP hD hS => ?_)
      obtain ⟨S_14, eS_14, h⟩ := tx_lt h
      rw [sM_a87, eS_14] at hP hD
      obtain ⟨y15, ey15, h⟩ := tx_lt h
      refine lv_iinc (v := y15) (lv' := [(1, .int y15), (0, .ref (aa 0))]) hx hb dX8_keep_80 hl (k := 1) rfl ey15 (by decide) rfl (fun ls hl => ?_)
      refine lv_goto (tgt := 47) hx hb dX8_keep_83 (by decide) ?_
      exact hk47 y15 S_14 H locs ls h hP hD hS (lv_sub hl [1, 0] rfl)
set_option maxHeartbeats 4000000 in
set_option maxRecDepth 100000 in
theorem w_X8_keep_L21 {p : Program} {l : Launch} {e : Env} {s : State} {m : MethodId} {below : List Frame} {meth : Method} {c : Code} {G : va_G} {cA : Nat → ClassId} {A : Nat → Prop} {aa : Nat → Nat} {r0 : Int32} {S' : Tr} {L' : Lo} {L : Lo} (F : tF p s m ([.ref (aa 0)] : List Value).toArray meth c G cA A RX8 cX8_keep 2 (some .int))    (N : Nat) : ∀ (x1 : Int32) (S : Tr) (H : Heap) (locs : List Loc) (ls : Array Slot), lpF (fun _ _ => none) (fB_X8_keep_L21 L) N x1 S = some (r0, S', L') → va_P G vwCl (wM cA aa S L) H → va_D A (wM cA aa S L) → va_S A s.heap H locs → lv_has ls 2 [(0, .ref (aa 0)), (1, .int x1)] → G_X8_keep p l e s m below meth c G cA A aa r0 S' L' H locs (F0 m 21 ls []) := by
  obtain ⟨hx, hb, hr, hml, hT, hown, hlocks, hK, hN, hA⟩ := id F
  induction N with
  | zero =>
    intro x1 S H locs ls h
    have h : (none : Option (Int32 × Tr × Lo)) = some (r0, S', L') := h
    cases h
  | succ N hk21 =>
    intro x1 S H locs ls h hP hD hS hl
    have h : fB_X8_keep_L21 L (lpF (fun _ _ => none) (fB_X8_keep_L21 L) N) x1 S = some (r0, S', L') := h
    generalize hk21e : lpF (fun _ _ => none) (fB_X8_keep_L21 L) N = k21 at h hk21
    unfold fB_X8_keep_L21 at h
    refine lv_iload_n hx hb dX8_keep_21 rfl (lv_at hl 1 rfl) ?_
    refine lv_bipush (v := 10) hx hb dX8_keep_22 (by decide) ?_
    refine lv_icmp_ge (tgt := 45) hx hb dX8_keep_24 (by decide) (fun c6 => ?_) (fun c6 => ?_)
    · have h := tx_pos c6 h
      refine lv_iconst (v := 0) hx hb dX8_keep_45 (by decide) ?_
      refine lv_istore_n (lv' := [(1, .int 0), (0, .ref (aa 0))]) hx hb dX8_keep_46 rfl hl (by decide) rfl (fun ls hl => ?_)
      exact w_X8_keep_L47 F 2000 0 S H locs ls h hP hD hS (lv_sub hl [1, 0] rfl)
    · have h := tx_neg c6 h
      refine lv_aload_n hx hb dX8_keep_27 rfl (lv_at hl 0 rfl) ?_
      refine va_get (D := G) (ci := 8) (v := .ref (aa 87)) (C := RX8) (T := TX8) (N := 91) hx hb hT ku_8 hown hK hP 0 rfl rfl 86 (by decide) (hT _ kw_11_11) (fun _ h9 => h9) rfl dX8_keep_28 ?_
      refine lv_iload_n hx hb dX8_keep_31 rfl (lv_at hl 1 rfl) ?_
      refine lv_aload_n hx hb dX8_keep_32 rfl (lv_at hl 0 rfl) ?_
      refine va_get (D := G) (ci := 8) (v := .ref (aa 53)) (C := RX8) (T := TX8) (N := 91) hx hb hT ku_8 hown hK hP 0 rfl rfl 52 (by decide) (hT _ kw_10_13) (fun _ h9 => h9) rfl dX8_keep_33 ?_
      refine lv_iload_n hx hb dX8_keep_36 rfl (lv_at hl 1 rfl) ?_
      obtain ⟨g16, h⟩ := tx_ck h
      refine va_iald (i := x1) hx hb hK hP 27 0 rfl rfl (tx_in g16) dX8_keep_37 ?_
      obtain ⟨g17, h⟩ := tx_ck h
      refine va_iast (i := x1) hx hb hK hP hD hS 48 0 rfl rfl (tx_in g17) dX8_keep_38 (fun H locs hP hD hS => ?_)
      obtain ⟨S_18, eS_18, h⟩ := tx_lt h
      rw [sM_a86, eS_18] at hP hD
      obtain ⟨y19, ey19, h⟩ := tx_lt h
      refine lv_iinc (v := y19) (lv' := [(1, .int y19), (0, .ref (aa 0))]) hx hb dX8_keep_39 hl (k := 1) rfl ey19 (by decide) rfl (fun ls hl => ?_)
      refine lv_goto (tgt := 21) hx hb dX8_keep_42 (by decide) ?_
      exact hk21 y19 S_18 H locs ls h hP hD hS (lv_sub hl [1, 0] rfl)
set_option maxHeartbeats 4000000 in
set_option maxRecDepth 100000 in
theorem c_X8_keep (l : Launch) (G : va_G) (cA : Nat → ClassId) (sz : Nat) (aa : Nat → Nat) (S : Tr) (L : Lo)  (r0 : Int32) (S' : Tr) (L' : Lo) (h : f_X8_keep S L = some (r0, S', L')) : Met l yX8_keep (.code yX8_keep cX8_keep 2 (some .int) :: T0) ({ frames := 1, cells := 0, slots := 0, locals := 23 } : Room) (tqP G cA [.ref (aa 0)] (wM cA aa S L) sz) (tqQi G cA (fun (r : Int32) (_ : Unit) => r = r0) (fun (_ : Unit) => wM cA aa S' L') (va_A (wM cA aa S L) sz)) 0 0 (va_A (wM cA aa S L) sz) := by
  refine Met.ofW (cc := cX8_keep) (maxL := 2) (ret := (some .int)) (by decide) rfl ?_
  intro p e s m args below meth c s₁ B hml hv
  obtain ⟨rfl, hsz, hP, hK, hD0, hN⟩ := hv
  have hx := B.exec
  have hb := B.bytes
  have hr := B.returns
  have hts := atoms_spec (ws := .code yX8_keep cX8_keep 2 (some .int) :: T0) B.pre
  have hT : ∀ w ∈ T0, w.before _ s = true := fun w h => hts w (List.mem_cons_of_mem _ h)
  have hown : s.vm.findClass RX8 = some m.cls := findClass_of_methodNamed B.named
  have hlocks := B.notSynchronized
  subst hsz
  have hD := hD0.self (sz := s.heap.size)
  generalize hAe : va_A (wM cA aa S L) s.heap.size = A at hD ⊢
  have hA : ∀ q : Nat, s.heap.size ≤ q → A q := fun q h => by rw [← hAe]; exact Or.inr h
  have hS : va_S A s.heap s.heap [] := va_S.rf
  have hl := lv_entry ([.ref (aa 0)]) (n := 2) (Nat.le_of_ble_eq_true rfl)
  rw [lg_entry_eq]
  generalize (lg_sl ([.ref (aa 0)]) ++ List.replicate (2 - (lg_sl ([.ref (aa 0)])).length) Slot.unset).toArray = ls at hl ⊢
  have hl : lv_has ls 2 [(0, .ref (aa 0))] := hl
  have F : tF p s m ([.ref (aa 0)] : List Value).toArray meth c G cA A RX8 cX8_keep 2 (some .int) := ⟨hx, hb, hr, hml, hT, hown, hlocks, hK, hN, hA⟩
  obtain ⟨H, hH⟩ : ∃ z, z = s.heap := ⟨_, rfl⟩
  rw [← hH] at hP
  have hS : va_S A s.heap H [] := by rw [hH]; exact hS
  suffices hgo : G_X8_keep p l e s m below meth c G cA A aa r0 S' L' H [] (F0 m 0 ls []) by rw [hH] at hgo; exact hgo
  generalize ([] : List Loc) = locs at hS ⊢
  unfold f_X8_keep at h
  refine lv_aload_n hx hb dX8_keep_0 rfl (lv_at hl 0 rfl) ?_
  refine lv_iconst (v := 0) hx hb dX8_keep_1 (by decide) ?_
  refine va_put (D := G) (ci := 8) (v := .int 0) (ty := .int) (C := RX8) (T := TX8) (N := 91) hx hb hT ku_8 tyX8 tyX8_ok nmX8 hown hK hP hD hS 0 rfl rfl 2 (by decide) (hT _ kw_14_0) (fun _ h9 => h9) rfl (by decide +kernel) rfl rfl (Nat.le_of_ble_eq_true rfl) dX8_keep_2 (fun H locs hP hD hS => ?_)
  obtain ⟨S_1, eS_1, h⟩ := tx_lt h
  rw [sM_f2, eS_1] at hP hD
  refine lv_aload_n hx hb dX8_keep_5 rfl (lv_at hl 0 rfl) ?_
  refine lv_iconst (v := 1) hx hb dX8_keep_6 (by decide) ?_
  refine va_put (D := G) (ci := 8) (v := .int 1) (ty := .boolean) (C := RX8) (T := TX8) (N := 91) hx hb hT ku_8 tyX8 tyX8_ok nmX8 hown hK hP hD hS 0 rfl rfl 84 (by decide) (hT _ kw_12_17) (fun _ h9 => h9) rfl (by decide +kernel) rfl rfl (Nat.le_of_ble_eq_true rfl) dX8_keep_7 (fun H locs hP hD hS => ?_)
  obtain ⟨S_2, eS_2, h⟩ := tx_lt h
  rw [sM_f84, eS_2] at hP hD
  refine lv_aload_n hx hb dX8_keep_10 rfl (lv_at hl 0 rfl) ?_
  refine lv_aload_n hx hb dX8_keep_11 rfl (lv_at hl 0 rfl) ?_
  refine va_get (D := G) (ci := 8) (v := .ref (aa 86)) (C := RX8) (T := TX8) (N := 91) hx hb hT ku_8 hown hK hP 0 rfl rfl 85 (by decide) (hT _ kw_11_10) (fun _ h9 => h9) rfl dX8_keep_12 ?_
  refine lv_iconst (v := 0) hx hb dX8_keep_15 (by decide) ?_
  obtain ⟨S_3, hc4, h⟩ := tx_bd h
  refine tw_cv tw_all hP hD hS hA (va_runV (As := [.ref (aa 86), .int 0]) (rest := []) ⟨hx, hb, hml, hown, hT⟩ (c_X8_put_86 l G cA H.size aa S_2 L (0 : Int32)  S_3 hc4) (cwV 2 hT (tq_gV kw_37_14 kw_37_15 kw_37_16 kw_1_5 kw_37_17) rfl rfl rfl (by decide +kernel) ⟨Nat.le_of_ble_eq_true rfl, Nat.le_of_ble_eq_true rfl⟩) ⟨(tw_pre tw_all hP hD hK hN).1, va_recv hK hP (ci := 8) (q0 := 0) rfl rfl, (tw_pre tw_all hP hD hK hN).2⟩ rfl rfl hl.1 rfl (lv_room (Nat.le_of_ble_eq_true rfl)) dX8_keep_16 ⟨Nat.le_of_ble_eq_true rfl, Nat.le_of_ble_eq_true rfl⟩) (fun _ H locs z5 hP hD hS => ?_)
  rw [List.append_nil] at hP hD
  have hP : va_P G vwCl (wM cA aa S_3 L) H := hP
  have hD : va_D A (wM cA aa S_3 L) := hD
  refine lv_iconst (v := 0) hx hb dX8_keep_19 (by decide) ?_
  refine lv_istore_n (lv' := [(1, .int 0), (0, .ref (aa 0))]) hx hb dX8_keep_20 rfl hl (by decide) rfl (fun ls hl => ?_)
  exact w_X8_keep_L21 F 2000 0 S_3 H locs ls h hP hD hS (lv_sub hl [1, 0] rfl)
abbrev G_X8_copies_23 (p : Program) (l : Launch) (e : Env) (s : State) (m : MethodId) (below : List Frame) (meth : Method) (c : Code) (G : va_G) (cA : Nat → ClassId) (A : Nat → Prop) (aa : Nat → Nat) (L : Lo) (x1 : Int32) (S' : Tr) (H : Heap) (locs : List Loc) (g : JFrame) : Prop := W p l e (headSpec (.code yX8_copies cX8_copies 3 none :: T0) ({ frames := 0, cells := 0, slots := 0, locals := 0 } : Room)).room s m ([.ref (aa 23), .int x1] : List Value).toArray below meth c H locs 0 0 (MQ below (tqQv G cA (fun (_ : Unit) => True) (fun (_ : Unit) => wM cA aa S' L) A) ([.ref (aa 23), .int x1] : List Value).toArray s 0 0 A) g
set_option maxHeartbeats 4000000 in
set_option maxRecDepth 100000 in
theorem w_X8_copies_23_L2 {p : Program} {l : Launch} {e : Env} {s : State} {m : MethodId} {below : List Frame} {meth : Method} {c : Code} {G : va_G} {cA : Nat → ClassId} {A : Nat → Prop} {aa : Nat → Nat} {L : Lo} {x1₀ : Int32} {S' : Tr} {x1 : Int32} (F : tF p s m ([.ref (aa 23), .int x1₀] : List Value).toArray meth c G cA A RX8 cX8_copies 3 none)    (N : Nat) : ∀ (x2 : Int32) (S : Tr) (H : Heap) (locs : List Loc) (ls : Array Slot), lpF (fun _ _ => none) (fB_X8_copies_23_L2 x1) N x2 S = some S' → va_P G vwCl (wM cA aa S L) H → va_D A (wM cA aa S L) → va_S A s.heap H locs → lv_has ls 3 [(0, .ref (aa 23)), (1, .int x1), (2, .int x2)] → G_X8_copies_23 p l e s m below meth c G cA A aa L x1₀ S' H locs (F0 m 2 ls []) := by
  obtain ⟨hx, hb, hr, hml, hT, hown, hlocks, hK, hN, hA⟩ := id F
  induction N with
  | zero =>
    intro x2 S H locs ls h
    have h : (none : Option (Tr)) = some S' := h
    cases h
  | succ N hk2 =>
    intro x2 S H locs ls h hP hD hS hl
    have h : fB_X8_copies_23_L2 x1 (lpF (fun _ _ => none) (fB_X8_copies_23_L2 x1) N) x2 S = some S' := h
    generalize hk2e : lpF (fun _ _ => none) (fB_X8_copies_23_L2 x1) N = k2 at h hk2
    unfold fB_X8_copies_23_L2 at h
    refine lv_iload_n hx hb dX8_copies_2 rfl (lv_at hl 2 rfl) ?_
    refine lv_iload_n hx hb dX8_copies_3 rfl (lv_at hl 1 rfl) ?_
    refine lv_icmp_ge (tgt := 21) hx hb dX8_copies_4 (by decide) (fun c1 => ?_) (fun c1 => ?_)
    · have h := tx_pos c1 h
      obtain rfl := tx_1 h
      exact W.vret hx hb hr (fun t ht hW => ⟨⟨(), rfl, trivial, by rw [ht]; exact hP, hD⟩, hS.F ht⟩) hS.2.2 dX8_copies_21
    · have h := tx_neg c1 h
      refine lv_aload_n hx hb dX8_copies_7 rfl (lv_at hl 0 rfl) ?_
      refine lv_iload_n hx hb dX8_copies_8 rfl (lv_at hl 2 rfl) ?_
      refine lv_aload_n hx hb dX8_copies_9 rfl (lv_at hl 0 rfl) ?_
      refine lv_iload_n hx hb dX8_copies_10 rfl (lv_at hl 1 rfl) ?_
      refine lv_iload_n hx hb dX8_copies_11 rfl (lv_at hl 2 rfl) ?_
      refine lv_iadd hx hb dX8_copies_12 ?_
      obtain ⟨g2, h⟩ := tx_ck h
      refine va_iald (i := (x1 + x2)) hx hb hK hP 4 0 rfl rfl (tx_in g2) dX8_copies_13 ?_
      obtain ⟨g3, h⟩ := tx_ck h
      refine va_iast (i := x2) hx hb hK hP hD hS 4 0 rfl rfl (tx_in g3) dX8_copies_14 (fun H locs hP hD hS => ?_)
      obtain ⟨S_4, eS_4, h⟩ := tx_lt h
      rw [sM_a22, eS_4] at hP hD
      obtain ⟨y5, ey5, h⟩ := tx_lt h
      refine lv_iinc (v := y5) (lv' := [(2, .int y5), (0, .ref (aa 23)), (1, .int x1)]) hx hb dX8_copies_15 hl (k := 2) rfl ey5 (by decide) rfl (fun ls hl => ?_)
      refine lv_goto (tgt := 2) hx hb dX8_copies_18 (by decide) ?_
      exact hk2 y5 S_4 H locs ls h hP hD hS (lv_sub hl [1, 2, 0] rfl)
set_option maxHeartbeats 4000000 in
set_option maxRecDepth 100000 in
theorem c_X8_copies_23 (l : Launch) (G : va_G) (cA : Nat → ClassId) (sz : Nat) (aa : Nat → Nat) (S : Tr) (L : Lo) (x1 : Int32)  (S' : Tr) (h : f_X8_copies_23 S x1 = some S') : Met l yX8_copies (.code yX8_copies cX8_copies 3 none :: T0) ({ frames := 0, cells := 0, slots := 0, locals := 0 } : Room) (tqP G cA [.ref (aa 23), .int x1] (wM cA aa S L) sz) (tqQv G cA (fun (_ : Unit) => True) (fun (_ : Unit) => wM cA aa S' L) (va_A (wM cA aa S L) sz)) 0 0 (va_A (wM cA aa S L) sz) := by
  refine Met.ofW (cc := cX8_copies) (maxL := 3) (ret := none) (by decide) rfl ?_
  intro p e s m args below meth c s₁ B hml hv
  obtain ⟨rfl, hsz, hP, hK, hD0, hN⟩ := hv
  have hx := B.exec
  have hb := B.bytes
  have hr := B.returns
  have hts := atoms_spec (ws := .code yX8_copies cX8_copies 3 none :: T0) B.pre
  have hT : ∀ w ∈ T0, w.before _ s = true := fun w h => hts w (List.mem_cons_of_mem _ h)
  have hown : s.vm.findClass RX8 = some m.cls := findClass_of_methodNamed B.named
  have hlocks := B.notSynchronized
  subst hsz
  have hD := hD0.self (sz := s.heap.size)
  generalize hAe : va_A (wM cA aa S L) s.heap.size = A at hD ⊢
  have hA : ∀ q : Nat, s.heap.size ≤ q → A q := fun q h => by rw [← hAe]; exact Or.inr h
  have hS : va_S A s.heap s.heap [] := va_S.rf
  have hl := lv_entry ([.ref (aa 23), .int x1]) (n := 3) (Nat.le_of_ble_eq_true rfl)
  rw [lg_entry_eq]
  generalize (lg_sl ([.ref (aa 23), .int x1]) ++ List.replicate (3 - (lg_sl ([.ref (aa 23), .int x1])).length) Slot.unset).toArray = ls at hl ⊢
  have hl : lv_has ls 3 [(0, .ref (aa 23)), (1, .int x1)] := hl
  have F : tF p s m ([.ref (aa 23), .int x1] : List Value).toArray meth c G cA A RX8 cX8_copies 3 none := ⟨hx, hb, hr, hml, hT, hown, hlocks, hK, hN, hA⟩
  obtain ⟨H, hH⟩ : ∃ z, z = s.heap := ⟨_, rfl⟩
  rw [← hH] at hP
  have hS : va_S A s.heap H [] := by rw [hH]; exact hS
  suffices hgo : G_X8_copies_23 p l e s m below meth c G cA A aa L x1 S' H [] (F0 m 0 ls []) by rw [hH] at hgo; exact hgo
  generalize ([] : List Loc) = locs at hS ⊢
  unfold f_X8_copies_23 at h
  refine lv_iconst (v := 0) hx hb dX8_copies_0 (by decide) ?_
  refine lv_istore_n (lv' := [(2, .int 0), (0, .ref (aa 23)), (1, .int x1)]) hx hb dX8_copies_1 rfl hl (by decide) rfl (fun ls hl => ?_)
  exact w_X8_copies_23_L2 F 2000 0 S H locs ls h hP hD hS (lv_sub hl [1, 2, 0] rfl)
abbrev G_X8_copies_24 (p : Program) (l : Launch) (e : Env) (s : State) (m : MethodId) (below : List Frame) (meth : Method) (c : Code) (G : va_G) (cA : Nat → ClassId) (A : Nat → Prop) (aa : Nat → Nat) (L : Lo) (x1 : Int32) (S' : Tr) (H : Heap) (locs : List Loc) (g : JFrame) : Prop := W p l e (headSpec (.code yX8_copies cX8_copies 3 none :: T0) ({ frames := 0, cells := 0, slots := 0, locals := 0 } : Room)).room s m ([.ref (aa 24), .int x1] : List Value).toArray below meth c H locs 0 0 (MQ below (tqQv G cA (fun (_ : Unit) => True) (fun (_ : Unit) => wM cA aa S' L) A) ([.ref (aa 24), .int x1] : List Value).toArray s 0 0 A) g
set_option maxHeartbeats 4000000 in
set_option maxRecDepth 100000 in
theorem w_X8_copies_24_L2 {p : Program} {l : Launch} {e : Env} {s : State} {m : MethodId} {below : List Frame} {meth : Method} {c : Code} {G : va_G} {cA : Nat → ClassId} {A : Nat → Prop} {aa : Nat → Nat} {L : Lo} {x1₀ : Int32} {S' : Tr} {x1 : Int32} (F : tF p s m ([.ref (aa 24), .int x1₀] : List Value).toArray meth c G cA A RX8 cX8_copies 3 none)    (N : Nat) : ∀ (x2 : Int32) (S : Tr) (H : Heap) (locs : List Loc) (ls : Array Slot), lpF (fun _ _ => none) (fB_X8_copies_24_L2 x1) N x2 S = some S' → va_P G vwCl (wM cA aa S L) H → va_D A (wM cA aa S L) → va_S A s.heap H locs → lv_has ls 3 [(0, .ref (aa 24)), (1, .int x1), (2, .int x2)] → G_X8_copies_24 p l e s m below meth c G cA A aa L x1₀ S' H locs (F0 m 2 ls []) := by
  obtain ⟨hx, hb, hr, hml, hT, hown, hlocks, hK, hN, hA⟩ := id F
  induction N with
  | zero =>
    intro x2 S H locs ls h
    have h : (none : Option (Tr)) = some S' := h
    cases h
  | succ N hk2 =>
    intro x2 S H locs ls h hP hD hS hl
    have h : fB_X8_copies_24_L2 x1 (lpF (fun _ _ => none) (fB_X8_copies_24_L2 x1) N) x2 S = some S' := h
    generalize hk2e : lpF (fun _ _ => none) (fB_X8_copies_24_L2 x1) N = k2 at h hk2
    unfold fB_X8_copies_24_L2 at h
    refine lv_iload_n hx hb dX8_copies_2 rfl (lv_at hl 2 rfl) ?_
    refine lv_iload_n hx hb dX8_copies_3 rfl (lv_at hl 1 rfl) ?_
    refine lv_icmp_ge (tgt := 21) hx hb dX8_copies_4 (by decide) (fun c1 => ?_) (fun c1 => ?_)
    · have h := tx_pos c1 h
      obtain rfl := tx_1 h
      exact W.vret hx hb hr (fun t ht hW => ⟨⟨(), rfl, trivial, by rw [ht]; exact hP, hD⟩, hS.F ht⟩) hS.2.2 dX8_copies_21
    · have h := tx_neg c1 h
      refine lv_aload_n hx hb dX8_copies_7 rfl (lv_at hl 0 rfl) ?_
      refine lv_iload_n hx hb dX8_copies_8 rfl (lv_at hl 2 rfl) ?_
      refine lv_aload_n hx hb dX8_copies_9 rfl (lv_at hl 0 rfl) ?_
      refine lv_iload_n hx hb dX8_copies_10 rfl (lv_at hl 1 rfl) ?_
      refine lv_iload_n hx hb dX8_copies_11 rfl (lv_at hl 2 rfl) ?_
      refine lv_iadd hx hb dX8_copies_12 ?_
      obtain ⟨g2, h⟩ := tx_ck h
      refine va_iald (i := (x1 + x2)) hx hb hK hP 5 0 rfl rfl (tx_in g2) dX8_copies_13 ?_
      obtain ⟨g3, h⟩ := tx_ck h
      refine va_iast (i := x2) hx hb hK hP hD hS 5 0 rfl rfl (tx_in g3) dX8_copies_14 (fun H locs hP hD hS => ?_)
      obtain ⟨S_4, eS_4, h⟩ := tx_lt h
      rw [sM_a23, eS_4] at hP hD
      obtain ⟨y5, ey5, h⟩ := tx_lt h
      refine lv_iinc (v := y5) (lv' := [(2, .int y5), (0, .ref (aa 24)), (1, .int x1)]) hx hb dX8_copies_15 hl (k := 2) rfl ey5 (by decide) rfl (fun ls hl => ?_)
      refine lv_goto (tgt := 2) hx hb dX8_copies_18 (by decide) ?_
      exact hk2 y5 S_4 H locs ls h hP hD hS (lv_sub hl [1, 2, 0] rfl)
set_option maxHeartbeats 4000000 in
set_option maxRecDepth 100000 in
theorem c_X8_copies_24 (l : Launch) (G : va_G) (cA : Nat → ClassId) (sz : Nat) (aa : Nat → Nat) (S : Tr) (L : Lo) (x1 : Int32)  (S' : Tr) (h : f_X8_copies_24 S x1 = some S') : Met l yX8_copies (.code yX8_copies cX8_copies 3 none :: T0) ({ frames := 0, cells := 0, slots := 0, locals := 0 } : Room) (tqP G cA [.ref (aa 24), .int x1] (wM cA aa S L) sz) (tqQv G cA (fun (_ : Unit) => True) (fun (_ : Unit) => wM cA aa S' L) (va_A (wM cA aa S L) sz)) 0 0 (va_A (wM cA aa S L) sz) := by
  refine Met.ofW (cc := cX8_copies) (maxL := 3) (ret := none) (by decide) rfl ?_
  intro p e s m args below meth c s₁ B hml hv
  obtain ⟨rfl, hsz, hP, hK, hD0, hN⟩ := hv
  have hx := B.exec
  have hb := B.bytes
  have hr := B.returns
  have hts := atoms_spec (ws := .code yX8_copies cX8_copies 3 none :: T0) B.pre
  have hT : ∀ w ∈ T0, w.before _ s = true := fun w h => hts w (List.mem_cons_of_mem _ h)
  have hown : s.vm.findClass RX8 = some m.cls := findClass_of_methodNamed B.named
  have hlocks := B.notSynchronized
  subst hsz
  have hD := hD0.self (sz := s.heap.size)
  generalize hAe : va_A (wM cA aa S L) s.heap.size = A at hD ⊢
  have hA : ∀ q : Nat, s.heap.size ≤ q → A q := fun q h => by rw [← hAe]; exact Or.inr h
  have hS : va_S A s.heap s.heap [] := va_S.rf
  have hl := lv_entry ([.ref (aa 24), .int x1]) (n := 3) (Nat.le_of_ble_eq_true rfl)
  rw [lg_entry_eq]
  generalize (lg_sl ([.ref (aa 24), .int x1]) ++ List.replicate (3 - (lg_sl ([.ref (aa 24), .int x1])).length) Slot.unset).toArray = ls at hl ⊢
  have hl : lv_has ls 3 [(0, .ref (aa 24)), (1, .int x1)] := hl
  have F : tF p s m ([.ref (aa 24), .int x1] : List Value).toArray meth c G cA A RX8 cX8_copies 3 none := ⟨hx, hb, hr, hml, hT, hown, hlocks, hK, hN, hA⟩
  obtain ⟨H, hH⟩ : ∃ z, z = s.heap := ⟨_, rfl⟩
  rw [← hH] at hP
  have hS : va_S A s.heap H [] := by rw [hH]; exact hS
  suffices hgo : G_X8_copies_24 p l e s m below meth c G cA A aa L x1 S' H [] (F0 m 0 ls []) by rw [hH] at hgo; exact hgo
  generalize ([] : List Loc) = locs at hS ⊢
  unfold f_X8_copies_24 at h
  refine lv_iconst (v := 0) hx hb dX8_copies_0 (by decide) ?_
  refine lv_istore_n (lv' := [(2, .int 0), (0, .ref (aa 24)), (1, .int x1)]) hx hb dX8_copies_1 rfl hl (by decide) rfl (fun ls hl => ?_)
  exact w_X8_copies_24_L2 F 2000 0 S H locs ls h hP hD hS (lv_sub hl [1, 2, 0] rfl)
abbrev G_X8_copies_25 (p : Program) (l : Launch) (e : Env) (s : State) (m : MethodId) (below : List Frame) (meth : Method) (c : Code) (G : va_G) (cA : Nat → ClassId) (A : Nat → Prop) (aa : Nat → Nat) (L : Lo) (x1 : Int32) (S' : Tr) (H : Heap) (locs : List Loc) (g : JFrame) : Prop := W p l e (headSpec (.code yX8_copies cX8_copies 3 none :: T0) ({ frames := 0, cells := 0, slots := 0, locals := 0 } : Room)).room s m ([.ref (aa 25), .int x1] : List Value).toArray below meth c H locs 0 0 (MQ below (tqQv G cA (fun (_ : Unit) => True) (fun (_ : Unit) => wM cA aa S' L) A) ([.ref (aa 25), .int x1] : List Value).toArray s 0 0 A) g
set_option maxHeartbeats 4000000 in
set_option maxRecDepth 100000 in
theorem w_X8_copies_25_L2 {p : Program} {l : Launch} {e : Env} {s : State} {m : MethodId} {below : List Frame} {meth : Method} {c : Code} {G : va_G} {cA : Nat → ClassId} {A : Nat → Prop} {aa : Nat → Nat} {L : Lo} {x1₀ : Int32} {S' : Tr} {x1 : Int32} (F : tF p s m ([.ref (aa 25), .int x1₀] : List Value).toArray meth c G cA A RX8 cX8_copies 3 none)    (N : Nat) : ∀ (x2 : Int32) (S : Tr) (H : Heap) (locs : List Loc) (ls : Array Slot), lpF (fun _ _ => none) (fB_X8_copies_25_L2 x1) N x2 S = some S' → va_P G vwCl (wM cA aa S L) H → va_D A (wM cA aa S L) → va_S A s.heap H locs → lv_has ls 3 [(0, .ref (aa 25)), (1, .int x1), (2, .int x2)] → G_X8_copies_25 p l e s m below meth c G cA A aa L x1₀ S' H locs (F0 m 2 ls []) := by
  obtain ⟨hx, hb, hr, hml, hT, hown, hlocks, hK, hN, hA⟩ := id F
  induction N with
  | zero =>
    intro x2 S H locs ls h
    have h : (none : Option (Tr)) = some S' := h
    cases h
  | succ N hk2 =>
    intro x2 S H locs ls h hP hD hS hl
    have h : fB_X8_copies_25_L2 x1 (lpF (fun _ _ => none) (fB_X8_copies_25_L2 x1) N) x2 S = some S' := h
    generalize hk2e : lpF (fun _ _ => none) (fB_X8_copies_25_L2 x1) N = k2 at h hk2
    unfold fB_X8_copies_25_L2 at h
    refine lv_iload_n hx hb dX8_copies_2 rfl (lv_at hl 2 rfl) ?_
    refine lv_iload_n hx hb dX8_copies_3 rfl (lv_at hl 1 rfl) ?_
    refine lv_icmp_ge (tgt := 21) hx hb dX8_copies_4 (by decide) (fun c1 => ?_) (fun c1 => ?_)
    · have h := tx_pos c1 h
      obtain rfl := tx_1 h
      exact W.vret hx hb hr (fun t ht hW => ⟨⟨(), rfl, trivial, by rw [ht]; exact hP, hD⟩, hS.F ht⟩) hS.2.2 dX8_copies_21
    · have h := tx_neg c1 h
      refine lv_aload_n hx hb dX8_copies_7 rfl (lv_at hl 0 rfl) ?_
      refine lv_iload_n hx hb dX8_copies_8 rfl (lv_at hl 2 rfl) ?_
      refine lv_aload_n hx hb dX8_copies_9 rfl (lv_at hl 0 rfl) ?_
      refine lv_iload_n hx hb dX8_copies_10 rfl (lv_at hl 1 rfl) ?_
      refine lv_iload_n hx hb dX8_copies_11 rfl (lv_at hl 2 rfl) ?_
      refine lv_iadd hx hb dX8_copies_12 ?_
      obtain ⟨g2, h⟩ := tx_ck h
      refine va_iald (i := (x1 + x2)) hx hb hK hP 6 0 rfl rfl (tx_in g2) dX8_copies_13 ?_
      obtain ⟨g3, h⟩ := tx_ck h
      refine va_iast (i := x2) hx hb hK hP hD hS 6 0 rfl rfl (tx_in g3) dX8_copies_14 (fun H locs hP hD hS => ?_)
      obtain ⟨S_4, eS_4, h⟩ := tx_lt h
      rw [sM_a24, eS_4] at hP hD
      obtain ⟨y5, ey5, h⟩ := tx_lt h
      refine lv_iinc (v := y5) (lv' := [(2, .int y5), (0, .ref (aa 25)), (1, .int x1)]) hx hb dX8_copies_15 hl (k := 2) rfl ey5 (by decide) rfl (fun ls hl => ?_)
      refine lv_goto (tgt := 2) hx hb dX8_copies_18 (by decide) ?_
      exact hk2 y5 S_4 H locs ls h hP hD hS (lv_sub hl [1, 2, 0] rfl)
set_option maxHeartbeats 4000000 in
set_option maxRecDepth 100000 in
theorem c_X8_copies_25 (l : Launch) (G : va_G) (cA : Nat → ClassId) (sz : Nat) (aa : Nat → Nat) (S : Tr) (L : Lo) (x1 : Int32)  (S' : Tr) (h : f_X8_copies_25 S x1 = some S') : Met l yX8_copies (.code yX8_copies cX8_copies 3 none :: T0) ({ frames := 0, cells := 0, slots := 0, locals := 0 } : Room) (tqP G cA [.ref (aa 25), .int x1] (wM cA aa S L) sz) (tqQv G cA (fun (_ : Unit) => True) (fun (_ : Unit) => wM cA aa S' L) (va_A (wM cA aa S L) sz)) 0 0 (va_A (wM cA aa S L) sz) := by
  refine Met.ofW (cc := cX8_copies) (maxL := 3) (ret := none) (by decide) rfl ?_
  intro p e s m args below meth c s₁ B hml hv
  obtain ⟨rfl, hsz, hP, hK, hD0, hN⟩ := hv
  have hx := B.exec
  have hb := B.bytes
  have hr := B.returns
  have hts := atoms_spec (ws := .code yX8_copies cX8_copies 3 none :: T0) B.pre
  have hT : ∀ w ∈ T0, w.before _ s = true := fun w h => hts w (List.mem_cons_of_mem _ h)
  have hown : s.vm.findClass RX8 = some m.cls := findClass_of_methodNamed B.named
  have hlocks := B.notSynchronized
  subst hsz
  have hD := hD0.self (sz := s.heap.size)
  generalize hAe : va_A (wM cA aa S L) s.heap.size = A at hD ⊢
  have hA : ∀ q : Nat, s.heap.size ≤ q → A q := fun q h => by rw [← hAe]; exact Or.inr h
  have hS : va_S A s.heap s.heap [] := va_S.rf
  have hl := lv_entry ([.ref (aa 25), .int x1]) (n := 3) (Nat.le_of_ble_eq_true rfl)
  rw [lg_entry_eq]
  generalize (lg_sl ([.ref (aa 25), .int x1]) ++ List.replicate (3 - (lg_sl ([.ref (aa 25), .int x1])).length) Slot.unset).toArray = ls at hl ⊢
  have hl : lv_has ls 3 [(0, .ref (aa 25)), (1, .int x1)] := hl
  have F : tF p s m ([.ref (aa 25), .int x1] : List Value).toArray meth c G cA A RX8 cX8_copies 3 none := ⟨hx, hb, hr, hml, hT, hown, hlocks, hK, hN, hA⟩
  obtain ⟨H, hH⟩ : ∃ z, z = s.heap := ⟨_, rfl⟩
  rw [← hH] at hP
  have hS : va_S A s.heap H [] := by rw [hH]; exact hS
  suffices hgo : G_X8_copies_25 p l e s m below meth c G cA A aa L x1 S' H [] (F0 m 0 ls []) by rw [hH] at hgo; exact hgo
  generalize ([] : List Loc) = locs at hS ⊢
  unfold f_X8_copies_25 at h
  refine lv_iconst (v := 0) hx hb dX8_copies_0 (by decide) ?_
  refine lv_istore_n (lv' := [(2, .int 0), (0, .ref (aa 25)), (1, .int x1)]) hx hb dX8_copies_1 rfl hl (by decide) rfl (fun ls hl => ?_)
  exact w_X8_copies_25_L2 F 2000 0 S H locs ls h hP hD hS (lv_sub hl [1, 2, 0] rfl)
abbrev G_X8_copies_26 (p : Program) (l : Launch) (e : Env) (s : State) (m : MethodId) (below : List Frame) (meth : Method) (c : Code) (G : va_G) (cA : Nat → ClassId) (A : Nat → Prop) (aa : Nat → Nat) (L : Lo) (x1 : Int32) (S' : Tr) (H : Heap) (locs : List Loc) (g : JFrame) : Prop := W p l e (headSpec (.code yX8_copies cX8_copies 3 none :: T0) ({ frames := 0, cells := 0, slots := 0, locals := 0 } : Room)).room s m ([.ref (aa 26), .int x1] : List Value).toArray below meth c H locs 0 0 (MQ below (tqQv G cA (fun (_ : Unit) => True) (fun (_ : Unit) => wM cA aa S' L) A) ([.ref (aa 26), .int x1] : List Value).toArray s 0 0 A) g
set_option maxHeartbeats 4000000 in
set_option maxRecDepth 100000 in
theorem w_X8_copies_26_L2 {p : Program} {l : Launch} {e : Env} {s : State} {m : MethodId} {below : List Frame} {meth : Method} {c : Code} {G : va_G} {cA : Nat → ClassId} {A : Nat → Prop} {aa : Nat → Nat} {L : Lo} {x1₀ : Int32} {S' : Tr} {x1 : Int32} (F : tF p s m ([.ref (aa 26), .int x1₀] : List Value).toArray meth c G cA A RX8 cX8_copies 3 none)    (N : Nat) : ∀ (x2 : Int32) (S : Tr) (H : Heap) (locs : List Loc) (ls : Array Slot), lpF (fun _ _ => none) (fB_X8_copies_26_L2 x1) N x2 S = some S' → va_P G vwCl (wM cA aa S L) H → va_D A (wM cA aa S L) → va_S A s.heap H locs → lv_has ls 3 [(0, .ref (aa 26)), (1, .int x1), (2, .int x2)] → G_X8_copies_26 p l e s m below meth c G cA A aa L x1₀ S' H locs (F0 m 2 ls []) := by
  obtain ⟨hx, hb, hr, hml, hT, hown, hlocks, hK, hN, hA⟩ := id F
  induction N with
  | zero =>
    intro x2 S H locs ls h
    have h : (none : Option (Tr)) = some S' := h
    cases h
  | succ N hk2 =>
    intro x2 S H locs ls h hP hD hS hl
    have h : fB_X8_copies_26_L2 x1 (lpF (fun _ _ => none) (fB_X8_copies_26_L2 x1) N) x2 S = some S' := h
    generalize hk2e : lpF (fun _ _ => none) (fB_X8_copies_26_L2 x1) N = k2 at h hk2
    unfold fB_X8_copies_26_L2 at h
    refine lv_iload_n hx hb dX8_copies_2 rfl (lv_at hl 2 rfl) ?_
    refine lv_iload_n hx hb dX8_copies_3 rfl (lv_at hl 1 rfl) ?_
    refine lv_icmp_ge (tgt := 21) hx hb dX8_copies_4 (by decide) (fun c1 => ?_) (fun c1 => ?_)
    · have h := tx_pos c1 h
      obtain rfl := tx_1 h
      exact W.vret hx hb hr (fun t ht hW => ⟨⟨(), rfl, trivial, by rw [ht]; exact hP, hD⟩, hS.F ht⟩) hS.2.2 dX8_copies_21
    · have h := tx_neg c1 h
      refine lv_aload_n hx hb dX8_copies_7 rfl (lv_at hl 0 rfl) ?_
      refine lv_iload_n hx hb dX8_copies_8 rfl (lv_at hl 2 rfl) ?_
      refine lv_aload_n hx hb dX8_copies_9 rfl (lv_at hl 0 rfl) ?_
      refine lv_iload_n hx hb dX8_copies_10 rfl (lv_at hl 1 rfl) ?_
      refine lv_iload_n hx hb dX8_copies_11 rfl (lv_at hl 2 rfl) ?_
      refine lv_iadd hx hb dX8_copies_12 ?_
      obtain ⟨g2, h⟩ := tx_ck h
      refine va_iald (i := (x1 + x2)) hx hb hK hP 7 0 rfl rfl (tx_in g2) dX8_copies_13 ?_
      obtain ⟨g3, h⟩ := tx_ck h
      refine va_iast (i := x2) hx hb hK hP hD hS 7 0 rfl rfl (tx_in g3) dX8_copies_14 (fun H locs hP hD hS => ?_)
      obtain ⟨S_4, eS_4, h⟩ := tx_lt h
      rw [sM_a25, eS_4] at hP hD
      obtain ⟨y5, ey5, h⟩ := tx_lt h
      refine lv_iinc (v := y5) (lv' := [(2, .int y5), (0, .ref (aa 26)), (1, .int x1)]) hx hb dX8_copies_15 hl (k := 2) rfl ey5 (by decide) rfl (fun ls hl => ?_)
      refine lv_goto (tgt := 2) hx hb dX8_copies_18 (by decide) ?_
      exact hk2 y5 S_4 H locs ls h hP hD hS (lv_sub hl [1, 2, 0] rfl)
set_option maxHeartbeats 4000000 in
set_option maxRecDepth 100000 in
theorem c_X8_copies_26 (l : Launch) (G : va_G) (cA : Nat → ClassId) (sz : Nat) (aa : Nat → Nat) (S : Tr) (L : Lo) (x1 : Int32)  (S' : Tr) (h : f_X8_copies_26 S x1 = some S') : Met l yX8_copies (.code yX8_copies cX8_copies 3 none :: T0) ({ frames := 0, cells := 0, slots := 0, locals := 0 } : Room) (tqP G cA [.ref (aa 26), .int x1] (wM cA aa S L) sz) (tqQv G cA (fun (_ : Unit) => True) (fun (_ : Unit) => wM cA aa S' L) (va_A (wM cA aa S L) sz)) 0 0 (va_A (wM cA aa S L) sz) := by
  refine Met.ofW (cc := cX8_copies) (maxL := 3) (ret := none) (by decide) rfl ?_
  intro p e s m args below meth c s₁ B hml hv
  obtain ⟨rfl, hsz, hP, hK, hD0, hN⟩ := hv
  have hx := B.exec
  have hb := B.bytes
  have hr := B.returns
  have hts := atoms_spec (ws := .code yX8_copies cX8_copies 3 none :: T0) B.pre
  have hT : ∀ w ∈ T0, w.before _ s = true := fun w h => hts w (List.mem_cons_of_mem _ h)
  have hown : s.vm.findClass RX8 = some m.cls := findClass_of_methodNamed B.named
  have hlocks := B.notSynchronized
  subst hsz
  have hD := hD0.self (sz := s.heap.size)
  generalize hAe : va_A (wM cA aa S L) s.heap.size = A at hD ⊢
  have hA : ∀ q : Nat, s.heap.size ≤ q → A q := fun q h => by rw [← hAe]; exact Or.inr h
  have hS : va_S A s.heap s.heap [] := va_S.rf
  have hl := lv_entry ([.ref (aa 26), .int x1]) (n := 3) (Nat.le_of_ble_eq_true rfl)
  rw [lg_entry_eq]
  generalize (lg_sl ([.ref (aa 26), .int x1]) ++ List.replicate (3 - (lg_sl ([.ref (aa 26), .int x1])).length) Slot.unset).toArray = ls at hl ⊢
  have hl : lv_has ls 3 [(0, .ref (aa 26)), (1, .int x1)] := hl
  have F : tF p s m ([.ref (aa 26), .int x1] : List Value).toArray meth c G cA A RX8 cX8_copies 3 none := ⟨hx, hb, hr, hml, hT, hown, hlocks, hK, hN, hA⟩
  obtain ⟨H, hH⟩ : ∃ z, z = s.heap := ⟨_, rfl⟩
  rw [← hH] at hP
  have hS : va_S A s.heap H [] := by rw [hH]; exact hS
  suffices hgo : G_X8_copies_26 p l e s m below meth c G cA A aa L x1 S' H [] (F0 m 0 ls []) by rw [hH] at hgo; exact hgo
  generalize ([] : List Loc) = locs at hS ⊢
  unfold f_X8_copies_26 at h
  refine lv_iconst (v := 0) hx hb dX8_copies_0 (by decide) ?_
  refine lv_istore_n (lv' := [(2, .int 0), (0, .ref (aa 26)), (1, .int x1)]) hx hb dX8_copies_1 rfl hl (by decide) rfl (fun ls hl => ?_)
  exact w_X8_copies_26_L2 F 2000 0 S H locs ls h hP hD hS (lv_sub hl [1, 2, 0] rfl)
abbrev G_X8_copies_27 (p : Program) (l : Launch) (e : Env) (s : State) (m : MethodId) (below : List Frame) (meth : Method) (c : Code) (G : va_G) (cA : Nat → ClassId) (A : Nat → Prop) (aa : Nat → Nat) (L : Lo) (x1 : Int32) (S' : Tr) (H : Heap) (locs : List Loc) (g : JFrame) : Prop := W p l e (headSpec (.code yX8_copies cX8_copies 3 none :: T0) ({ frames := 0, cells := 0, slots := 0, locals := 0 } : Room)).room s m ([.ref (aa 27), .int x1] : List Value).toArray below meth c H locs 0 0 (MQ below (tqQv G cA (fun (_ : Unit) => True) (fun (_ : Unit) => wM cA aa S' L) A) ([.ref (aa 27), .int x1] : List Value).toArray s 0 0 A) g
set_option maxHeartbeats 4000000 in
set_option maxRecDepth 100000 in
theorem w_X8_copies_27_L2 {p : Program} {l : Launch} {e : Env} {s : State} {m : MethodId} {below : List Frame} {meth : Method} {c : Code} {G : va_G} {cA : Nat → ClassId} {A : Nat → Prop} {aa : Nat → Nat} {L : Lo} {x1₀ : Int32} {S' : Tr} {x1 : Int32} (F : tF p s m ([.ref (aa 27), .int x1₀] : List Value).toArray meth c G cA A RX8 cX8_copies 3 none)    (N : Nat) : ∀ (x2 : Int32) (S : Tr) (H : Heap) (locs : List Loc) (ls : Array Slot), lpF (fun _ _ => none) (fB_X8_copies_27_L2 x1) N x2 S = some S' → va_P G vwCl (wM cA aa S L) H → va_D A (wM cA aa S L) → va_S A s.heap H locs → lv_has ls 3 [(0, .ref (aa 27)), (1, .int x1), (2, .int x2)] → G_X8_copies_27 p l e s m below meth c G cA A aa L x1₀ S' H locs (F0 m 2 ls []) := by
  obtain ⟨hx, hb, hr, hml, hT, hown, hlocks, hK, hN, hA⟩ := id F
  induction N with
  | zero =>
    intro x2 S H locs ls h
    have h : (none : Option (Tr)) = some S' := h
    cases h
  | succ N hk2 =>
    intro x2 S H locs ls h hP hD hS hl
    have h : fB_X8_copies_27_L2 x1 (lpF (fun _ _ => none) (fB_X8_copies_27_L2 x1) N) x2 S = some S' := h
    generalize hk2e : lpF (fun _ _ => none) (fB_X8_copies_27_L2 x1) N = k2 at h hk2
    unfold fB_X8_copies_27_L2 at h
    refine lv_iload_n hx hb dX8_copies_2 rfl (lv_at hl 2 rfl) ?_
    refine lv_iload_n hx hb dX8_copies_3 rfl (lv_at hl 1 rfl) ?_
    refine lv_icmp_ge (tgt := 21) hx hb dX8_copies_4 (by decide) (fun c1 => ?_) (fun c1 => ?_)
    · have h := tx_pos c1 h
      obtain rfl := tx_1 h
      exact W.vret hx hb hr (fun t ht hW => ⟨⟨(), rfl, trivial, by rw [ht]; exact hP, hD⟩, hS.F ht⟩) hS.2.2 dX8_copies_21
    · have h := tx_neg c1 h
      refine lv_aload_n hx hb dX8_copies_7 rfl (lv_at hl 0 rfl) ?_
      refine lv_iload_n hx hb dX8_copies_8 rfl (lv_at hl 2 rfl) ?_
      refine lv_aload_n hx hb dX8_copies_9 rfl (lv_at hl 0 rfl) ?_
      refine lv_iload_n hx hb dX8_copies_10 rfl (lv_at hl 1 rfl) ?_
      refine lv_iload_n hx hb dX8_copies_11 rfl (lv_at hl 2 rfl) ?_
      refine lv_iadd hx hb dX8_copies_12 ?_
      obtain ⟨g2, h⟩ := tx_ck h
      refine va_iald (i := (x1 + x2)) hx hb hK hP 8 0 rfl rfl (tx_in g2) dX8_copies_13 ?_
      obtain ⟨g3, h⟩ := tx_ck h
      refine va_iast (i := x2) hx hb hK hP hD hS 8 0 rfl rfl (tx_in g3) dX8_copies_14 (fun H locs hP hD hS => ?_)
      obtain ⟨S_4, eS_4, h⟩ := tx_lt h
      rw [sM_a26, eS_4] at hP hD
      obtain ⟨y5, ey5, h⟩ := tx_lt h
      refine lv_iinc (v := y5) (lv' := [(2, .int y5), (0, .ref (aa 27)), (1, .int x1)]) hx hb dX8_copies_15 hl (k := 2) rfl ey5 (by decide) rfl (fun ls hl => ?_)
      refine lv_goto (tgt := 2) hx hb dX8_copies_18 (by decide) ?_
      exact hk2 y5 S_4 H locs ls h hP hD hS (lv_sub hl [1, 2, 0] rfl)
set_option maxHeartbeats 4000000 in
set_option maxRecDepth 100000 in
theorem c_X8_copies_27 (l : Launch) (G : va_G) (cA : Nat → ClassId) (sz : Nat) (aa : Nat → Nat) (S : Tr) (L : Lo) (x1 : Int32)  (S' : Tr) (h : f_X8_copies_27 S x1 = some S') : Met l yX8_copies (.code yX8_copies cX8_copies 3 none :: T0) ({ frames := 0, cells := 0, slots := 0, locals := 0 } : Room) (tqP G cA [.ref (aa 27), .int x1] (wM cA aa S L) sz) (tqQv G cA (fun (_ : Unit) => True) (fun (_ : Unit) => wM cA aa S' L) (va_A (wM cA aa S L) sz)) 0 0 (va_A (wM cA aa S L) sz) := by
  refine Met.ofW (cc := cX8_copies) (maxL := 3) (ret := none) (by decide) rfl ?_
  intro p e s m args below meth c s₁ B hml hv
  obtain ⟨rfl, hsz, hP, hK, hD0, hN⟩ := hv
  have hx := B.exec
  have hb := B.bytes
  have hr := B.returns
  have hts := atoms_spec (ws := .code yX8_copies cX8_copies 3 none :: T0) B.pre
  have hT : ∀ w ∈ T0, w.before _ s = true := fun w h => hts w (List.mem_cons_of_mem _ h)
  have hown : s.vm.findClass RX8 = some m.cls := findClass_of_methodNamed B.named
  have hlocks := B.notSynchronized
  subst hsz
  have hD := hD0.self (sz := s.heap.size)
  generalize hAe : va_A (wM cA aa S L) s.heap.size = A at hD ⊢
  have hA : ∀ q : Nat, s.heap.size ≤ q → A q := fun q h => by rw [← hAe]; exact Or.inr h
  have hS : va_S A s.heap s.heap [] := va_S.rf
  have hl := lv_entry ([.ref (aa 27), .int x1]) (n := 3) (Nat.le_of_ble_eq_true rfl)
  rw [lg_entry_eq]
  generalize (lg_sl ([.ref (aa 27), .int x1]) ++ List.replicate (3 - (lg_sl ([.ref (aa 27), .int x1])).length) Slot.unset).toArray = ls at hl ⊢
  have hl : lv_has ls 3 [(0, .ref (aa 27)), (1, .int x1)] := hl
  have F : tF p s m ([.ref (aa 27), .int x1] : List Value).toArray meth c G cA A RX8 cX8_copies 3 none := ⟨hx, hb, hr, hml, hT, hown, hlocks, hK, hN, hA⟩
  obtain ⟨H, hH⟩ : ∃ z, z = s.heap := ⟨_, rfl⟩
  rw [← hH] at hP
  have hS : va_S A s.heap H [] := by rw [hH]; exact hS
  suffices hgo : G_X8_copies_27 p l e s m below meth c G cA A aa L x1 S' H [] (F0 m 0 ls []) by rw [hH] at hgo; exact hgo
  generalize ([] : List Loc) = locs at hS ⊢
  unfold f_X8_copies_27 at h
  refine lv_iconst (v := 0) hx hb dX8_copies_0 (by decide) ?_
  refine lv_istore_n (lv' := [(2, .int 0), (0, .ref (aa 27)), (1, .int x1)]) hx hb dX8_copies_1 rfl hl (by decide) rfl (fun ls hl => ?_)
  exact w_X8_copies_27_L2 F 2000 0 S H locs ls h hP hD hS (lv_sub hl [1, 2, 0] rfl)
abbrev G_X8_copies_28 (p : Program) (l : Launch) (e : Env) (s : State) (m : MethodId) (below : List Frame) (meth : Method) (c : Code) (G : va_G) (cA : Nat → ClassId) (A : Nat → Prop) (aa : Nat → Nat) (L : Lo) (x1 : Int32) (S' : Tr) (H : Heap) (locs : List Loc) (g : JFrame) : Prop := W p l e (headSpec (.code yX8_copies cX8_copies 3 none :: T0) ({ frames := 0, cells := 0, slots := 0, locals := 0 } : Room)).room s m ([.ref (aa 28), .int x1] : List Value).toArray below meth c H locs 0 0 (MQ below (tqQv G cA (fun (_ : Unit) => True) (fun (_ : Unit) => wM cA aa S' L) A) ([.ref (aa 28), .int x1] : List Value).toArray s 0 0 A) g
set_option maxHeartbeats 4000000 in
set_option maxRecDepth 100000 in
theorem w_X8_copies_28_L2 {p : Program} {l : Launch} {e : Env} {s : State} {m : MethodId} {below : List Frame} {meth : Method} {c : Code} {G : va_G} {cA : Nat → ClassId} {A : Nat → Prop} {aa : Nat → Nat} {L : Lo} {x1₀ : Int32} {S' : Tr} {x1 : Int32} (F : tF p s m ([.ref (aa 28), .int x1₀] : List Value).toArray meth c G cA A RX8 cX8_copies 3 none)    (N : Nat) : ∀ (x2 : Int32) (S : Tr) (H : Heap) (locs : List Loc) (ls : Array Slot), lpF (fun _ _ => none) (fB_X8_copies_28_L2 x1) N x2 S = some S' → va_P G vwCl (wM cA aa S L) H → va_D A (wM cA aa S L) → va_S A s.heap H locs → lv_has ls 3 [(0, .ref (aa 28)), (1, .int x1), (2, .int x2)] → G_X8_copies_28 p l e s m below meth c G cA A aa L x1₀ S' H locs (F0 m 2 ls []) := by
  obtain ⟨hx, hb, hr, hml, hT, hown, hlocks, hK, hN, hA⟩ := id F
  induction N with
  | zero =>
    intro x2 S H locs ls h
    have h : (none : Option (Tr)) = some S' := h
    cases h
  | succ N hk2 =>
    intro x2 S H locs ls h hP hD hS hl
    have h : fB_X8_copies_28_L2 x1 (lpF (fun _ _ => none) (fB_X8_copies_28_L2 x1) N) x2 S = some S' := h
    generalize hk2e : lpF (fun _ _ => none) (fB_X8_copies_28_L2 x1) N = k2 at h hk2
    unfold fB_X8_copies_28_L2 at h
    refine lv_iload_n hx hb dX8_copies_2 rfl (lv_at hl 2 rfl) ?_
    refine lv_iload_n hx hb dX8_copies_3 rfl (lv_at hl 1 rfl) ?_
    refine lv_icmp_ge (tgt := 21) hx hb dX8_copies_4 (by decide) (fun c1 => ?_) (fun c1 => ?_)
    · have h := tx_pos c1 h
      obtain rfl := tx_1 h
      exact W.vret hx hb hr (fun t ht hW => ⟨⟨(), rfl, trivial, by rw [ht]; exact hP, hD⟩, hS.F ht⟩) hS.2.2 dX8_copies_21
    · have h := tx_neg c1 h
      refine lv_aload_n hx hb dX8_copies_7 rfl (lv_at hl 0 rfl) ?_
      refine lv_iload_n hx hb dX8_copies_8 rfl (lv_at hl 2 rfl) ?_
      refine lv_aload_n hx hb dX8_copies_9 rfl (lv_at hl 0 rfl) ?_
      refine lv_iload_n hx hb dX8_copies_10 rfl (lv_at hl 1 rfl) ?_
      refine lv_iload_n hx hb dX8_copies_11 rfl (lv_at hl 2 rfl) ?_
      refine lv_iadd hx hb dX8_copies_12 ?_
      obtain ⟨g2, h⟩ := tx_ck h
      refine va_iald (i := (x1 + x2)) hx hb hK hP 9 0 rfl rfl (tx_in g2) dX8_copies_13 ?_
      obtain ⟨g3, h⟩ := tx_ck h
      refine va_iast (i := x2) hx hb hK hP hD hS 9 0 rfl rfl (tx_in g3) dX8_copies_14 (fun H locs hP hD hS => ?_)
      obtain ⟨S_4, eS_4, h⟩ := tx_lt h
      rw [sM_a27, eS_4] at hP hD
      obtain ⟨y5, ey5, h⟩ := tx_lt h
      refine lv_iinc (v := y5) (lv' := [(2, .int y5), (0, .ref (aa 28)), (1, .int x1)]) hx hb dX8_copies_15 hl (k := 2) rfl ey5 (by decide) rfl (fun ls hl => ?_)
      refine lv_goto (tgt := 2) hx hb dX8_copies_18 (by decide) ?_
      exact hk2 y5 S_4 H locs ls h hP hD hS (lv_sub hl [1, 2, 0] rfl)
set_option maxHeartbeats 4000000 in
set_option maxRecDepth 100000 in
theorem c_X8_copies_28 (l : Launch) (G : va_G) (cA : Nat → ClassId) (sz : Nat) (aa : Nat → Nat) (S : Tr) (L : Lo) (x1 : Int32)  (S' : Tr) (h : f_X8_copies_28 S x1 = some S') : Met l yX8_copies (.code yX8_copies cX8_copies 3 none :: T0) ({ frames := 0, cells := 0, slots := 0, locals := 0 } : Room) (tqP G cA [.ref (aa 28), .int x1] (wM cA aa S L) sz) (tqQv G cA (fun (_ : Unit) => True) (fun (_ : Unit) => wM cA aa S' L) (va_A (wM cA aa S L) sz)) 0 0 (va_A (wM cA aa S L) sz) := by
  refine Met.ofW (cc := cX8_copies) (maxL := 3) (ret := none) (by decide) rfl ?_
  intro p e s m args below meth c s₁ B hml hv
  obtain ⟨rfl, hsz, hP, hK, hD0, hN⟩ := hv
  have hx := B.exec
  have hb := B.bytes
  have hr := B.returns
  have hts := atoms_spec (ws := .code yX8_copies cX8_copies 3 none :: T0) B.pre
  have hT : ∀ w ∈ T0, w.before _ s = true := fun w h => hts w (List.mem_cons_of_mem _ h)
  have hown : s.vm.findClass RX8 = some m.cls := findClass_of_methodNamed B.named
  have hlocks := B.notSynchronized
  subst hsz
  have hD := hD0.self (sz := s.heap.size)
  generalize hAe : va_A (wM cA aa S L) s.heap.size = A at hD ⊢
  have hA : ∀ q : Nat, s.heap.size ≤ q → A q := fun q h => by rw [← hAe]; exact Or.inr h
  have hS : va_S A s.heap s.heap [] := va_S.rf
  have hl := lv_entry ([.ref (aa 28), .int x1]) (n := 3) (Nat.le_of_ble_eq_true rfl)
  rw [lg_entry_eq]
  generalize (lg_sl ([.ref (aa 28), .int x1]) ++ List.replicate (3 - (lg_sl ([.ref (aa 28), .int x1])).length) Slot.unset).toArray = ls at hl ⊢
  have hl : lv_has ls 3 [(0, .ref (aa 28)), (1, .int x1)] := hl
  have F : tF p s m ([.ref (aa 28), .int x1] : List Value).toArray meth c G cA A RX8 cX8_copies 3 none := ⟨hx, hb, hr, hml, hT, hown, hlocks, hK, hN, hA⟩
  obtain ⟨H, hH⟩ : ∃ z, z = s.heap := ⟨_, rfl⟩
  rw [← hH] at hP
  have hS : va_S A s.heap H [] := by rw [hH]; exact hS
  suffices hgo : G_X8_copies_28 p l e s m below meth c G cA A aa L x1 S' H [] (F0 m 0 ls []) by rw [hH] at hgo; exact hgo
  generalize ([] : List Loc) = locs at hS ⊢
  unfold f_X8_copies_28 at h
  refine lv_iconst (v := 0) hx hb dX8_copies_0 (by decide) ?_
  refine lv_istore_n (lv' := [(2, .int 0), (0, .ref (aa 28)), (1, .int x1)]) hx hb dX8_copies_1 rfl hl (by decide) rfl (fun ls hl => ?_)
  exact w_X8_copies_28_L2 F 2000 0 S H locs ls h hP hD hS (lv_sub hl [1, 2, 0] rfl)
abbrev G_X8_copies_29 (p : Program) (l : Launch) (e : Env) (s : State) (m : MethodId) (below : List Frame) (meth : Method) (c : Code) (G : va_G) (cA : Nat → ClassId) (A : Nat → Prop) (aa : Nat → Nat) (L : Lo) (x1 : Int32) (S' : Tr) (H : Heap) (locs : List Loc) (g : JFrame) : Prop := W p l e (headSpec (.code yX8_copies cX8_copies 3 none :: T0) ({ frames := 0, cells := 0, slots := 0, locals := 0 } : Room)).room s m ([.ref (aa 29), .int x1] : List Value).toArray below meth c H locs 0 0 (MQ below (tqQv G cA (fun (_ : Unit) => True) (fun (_ : Unit) => wM cA aa S' L) A) ([.ref (aa 29), .int x1] : List Value).toArray s 0 0 A) g
set_option maxHeartbeats 4000000 in
set_option maxRecDepth 100000 in
theorem w_X8_copies_29_L2 {p : Program} {l : Launch} {e : Env} {s : State} {m : MethodId} {below : List Frame} {meth : Method} {c : Code} {G : va_G} {cA : Nat → ClassId} {A : Nat → Prop} {aa : Nat → Nat} {L : Lo} {x1₀ : Int32} {S' : Tr} {x1 : Int32} (F : tF p s m ([.ref (aa 29), .int x1₀] : List Value).toArray meth c G cA A RX8 cX8_copies 3 none)    (N : Nat) : ∀ (x2 : Int32) (S : Tr) (H : Heap) (locs : List Loc) (ls : Array Slot), lpF (fun _ _ => none) (fB_X8_copies_29_L2 x1) N x2 S = some S' → va_P G vwCl (wM cA aa S L) H → va_D A (wM cA aa S L) → va_S A s.heap H locs → lv_has ls 3 [(0, .ref (aa 29)), (1, .int x1), (2, .int x2)] → G_X8_copies_29 p l e s m below meth c G cA A aa L x1₀ S' H locs (F0 m 2 ls []) := by
  obtain ⟨hx, hb, hr, hml, hT, hown, hlocks, hK, hN, hA⟩ := id F
  induction N with
  | zero =>
    intro x2 S H locs ls h
    have h : (none : Option (Tr)) = some S' := h
    cases h
  | succ N hk2 =>
    intro x2 S H locs ls h hP hD hS hl
    have h : fB_X8_copies_29_L2 x1 (lpF (fun _ _ => none) (fB_X8_copies_29_L2 x1) N) x2 S = some S' := h
    generalize hk2e : lpF (fun _ _ => none) (fB_X8_copies_29_L2 x1) N = k2 at h hk2
    unfold fB_X8_copies_29_L2 at h
    refine lv_iload_n hx hb dX8_copies_2 rfl (lv_at hl 2 rfl) ?_
    refine lv_iload_n hx hb dX8_copies_3 rfl (lv_at hl 1 rfl) ?_
    refine lv_icmp_ge (tgt := 21) hx hb dX8_copies_4 (by decide) (fun c1 => ?_) (fun c1 => ?_)
    · have h := tx_pos c1 h
      obtain rfl := tx_1 h
      exact W.vret hx hb hr (fun t ht hW => ⟨⟨(), rfl, trivial, by rw [ht]; exact hP, hD⟩, hS.F ht⟩) hS.2.2 dX8_copies_21
    · have h := tx_neg c1 h
      refine lv_aload_n hx hb dX8_copies_7 rfl (lv_at hl 0 rfl) ?_
      refine lv_iload_n hx hb dX8_copies_8 rfl (lv_at hl 2 rfl) ?_
      refine lv_aload_n hx hb dX8_copies_9 rfl (lv_at hl 0 rfl) ?_
      refine lv_iload_n hx hb dX8_copies_10 rfl (lv_at hl 1 rfl) ?_
      refine lv_iload_n hx hb dX8_copies_11 rfl (lv_at hl 2 rfl) ?_
      refine lv_iadd hx hb dX8_copies_12 ?_
      obtain ⟨g2, h⟩ := tx_ck h
      refine va_iald (i := (x1 + x2)) hx hb hK hP 10 0 rfl rfl (tx_in g2) dX8_copies_13 ?_
      obtain ⟨g3, h⟩ := tx_ck h
      refine va_iast (i := x2) hx hb hK hP hD hS 10 0 rfl rfl (tx_in g3) dX8_copies_14 (fun H locs hP hD hS => ?_)
      obtain ⟨S_4, eS_4, h⟩ := tx_lt h
      rw [sM_a28, eS_4] at hP hD
      obtain ⟨y5, ey5, h⟩ := tx_lt h
      refine lv_iinc (v := y5) (lv' := [(2, .int y5), (0, .ref (aa 29)), (1, .int x1)]) hx hb dX8_copies_15 hl (k := 2) rfl ey5 (by decide) rfl (fun ls hl => ?_)
      refine lv_goto (tgt := 2) hx hb dX8_copies_18 (by decide) ?_
      exact hk2 y5 S_4 H locs ls h hP hD hS (lv_sub hl [1, 2, 0] rfl)
set_option maxHeartbeats 4000000 in
set_option maxRecDepth 100000 in
theorem c_X8_copies_29 (l : Launch) (G : va_G) (cA : Nat → ClassId) (sz : Nat) (aa : Nat → Nat) (S : Tr) (L : Lo) (x1 : Int32)  (S' : Tr) (h : f_X8_copies_29 S x1 = some S') : Met l yX8_copies (.code yX8_copies cX8_copies 3 none :: T0) ({ frames := 0, cells := 0, slots := 0, locals := 0 } : Room) (tqP G cA [.ref (aa 29), .int x1] (wM cA aa S L) sz) (tqQv G cA (fun (_ : Unit) => True) (fun (_ : Unit) => wM cA aa S' L) (va_A (wM cA aa S L) sz)) 0 0 (va_A (wM cA aa S L) sz) := by
  refine Met.ofW (cc := cX8_copies) (maxL := 3) (ret := none) (by decide) rfl ?_
  intro p e s m args below meth c s₁ B hml hv
  obtain ⟨rfl, hsz, hP, hK, hD0, hN⟩ := hv
  have hx := B.exec
  have hb := B.bytes
  have hr := B.returns
  have hts := atoms_spec (ws := .code yX8_copies cX8_copies 3 none :: T0) B.pre
  have hT : ∀ w ∈ T0, w.before _ s = true := fun w h => hts w (List.mem_cons_of_mem _ h)
  have hown : s.vm.findClass RX8 = some m.cls := findClass_of_methodNamed B.named
  have hlocks := B.notSynchronized
  subst hsz
  have hD := hD0.self (sz := s.heap.size)
  generalize hAe : va_A (wM cA aa S L) s.heap.size = A at hD ⊢
  have hA : ∀ q : Nat, s.heap.size ≤ q → A q := fun q h => by rw [← hAe]; exact Or.inr h
  have hS : va_S A s.heap s.heap [] := va_S.rf
  have hl := lv_entry ([.ref (aa 29), .int x1]) (n := 3) (Nat.le_of_ble_eq_true rfl)
  rw [lg_entry_eq]
  generalize (lg_sl ([.ref (aa 29), .int x1]) ++ List.replicate (3 - (lg_sl ([.ref (aa 29), .int x1])).length) Slot.unset).toArray = ls at hl ⊢
  have hl : lv_has ls 3 [(0, .ref (aa 29)), (1, .int x1)] := hl
  have F : tF p s m ([.ref (aa 29), .int x1] : List Value).toArray meth c G cA A RX8 cX8_copies 3 none := ⟨hx, hb, hr, hml, hT, hown, hlocks, hK, hN, hA⟩
  obtain ⟨H, hH⟩ : ∃ z, z = s.heap := ⟨_, rfl⟩
  rw [← hH] at hP
  have hS : va_S A s.heap H [] := by rw [hH]; exact hS
  suffices hgo : G_X8_copies_29 p l e s m below meth c G cA A aa L x1 S' H [] (F0 m 0 ls []) by rw [hH] at hgo; exact hgo
  generalize ([] : List Loc) = locs at hS ⊢
  unfold f_X8_copies_29 at h
  refine lv_iconst (v := 0) hx hb dX8_copies_0 (by decide) ?_
  refine lv_istore_n (lv' := [(2, .int 0), (0, .ref (aa 29)), (1, .int x1)]) hx hb dX8_copies_1 rfl hl (by decide) rfl (fun ls hl => ?_)
  exact w_X8_copies_29_L2 F 2000 0 S H locs ls h hP hD hS (lv_sub hl [1, 2, 0] rfl)
abbrev G_X8_copies_30 (p : Program) (l : Launch) (e : Env) (s : State) (m : MethodId) (below : List Frame) (meth : Method) (c : Code) (G : va_G) (cA : Nat → ClassId) (A : Nat → Prop) (aa : Nat → Nat) (L : Lo) (x1 : Int32) (S' : Tr) (H : Heap) (locs : List Loc) (g : JFrame) : Prop := W p l e (headSpec (.code yX8_copies cX8_copies 3 none :: T0) ({ frames := 0, cells := 0, slots := 0, locals := 0 } : Room)).room s m ([.ref (aa 30), .int x1] : List Value).toArray below meth c H locs 0 0 (MQ below (tqQv G cA (fun (_ : Unit) => True) (fun (_ : Unit) => wM cA aa S' L) A) ([.ref (aa 30), .int x1] : List Value).toArray s 0 0 A) g
set_option maxHeartbeats 4000000 in
set_option maxRecDepth 100000 in
theorem w_X8_copies_30_L2 {p : Program} {l : Launch} {e : Env} {s : State} {m : MethodId} {below : List Frame} {meth : Method} {c : Code} {G : va_G} {cA : Nat → ClassId} {A : Nat → Prop} {aa : Nat → Nat} {L : Lo} {x1₀ : Int32} {S' : Tr} {x1 : Int32} (F : tF p s m ([.ref (aa 30), .int x1₀] : List Value).toArray meth c G cA A RX8 cX8_copies 3 none)    (N : Nat) : ∀ (x2 : Int32) (S : Tr) (H : Heap) (locs : List Loc) (ls : Array Slot), lpF (fun _ _ => none) (fB_X8_copies_30_L2 x1) N x2 S = some S' → va_P G vwCl (wM cA aa S L) H → va_D A (wM cA aa S L) → va_S A s.heap H locs → lv_has ls 3 [(0, .ref (aa 30)), (1, .int x1), (2, .int x2)] → G_X8_copies_30 p l e s m below meth c G cA A aa L x1₀ S' H locs (F0 m 2 ls []) := by
  obtain ⟨hx, hb, hr, hml, hT, hown, hlocks, hK, hN, hA⟩ := id F
  induction N with
  | zero =>
    intro x2 S H locs ls h
    have h : (none : Option (Tr)) = some S' := h
    cases h
  | succ N hk2 =>
    intro x2 S H locs ls h hP hD hS hl
    have h : fB_X8_copies_30_L2 x1 (lpF (fun _ _ => none) (fB_X8_copies_30_L2 x1) N) x2 S = some S' := h
    generalize hk2e : lpF (fun _ _ => none) (fB_X8_copies_30_L2 x1) N = k2 at h hk2
    unfold fB_X8_copies_30_L2 at h
    refine lv_iload_n hx hb dX8_copies_2 rfl (lv_at hl 2 rfl) ?_
    refine lv_iload_n hx hb dX8_copies_3 rfl (lv_at hl 1 rfl) ?_
    refine lv_icmp_ge (tgt := 21) hx hb dX8_copies_4 (by decide) (fun c1 => ?_) (fun c1 => ?_)
    · have h := tx_pos c1 h
      obtain rfl := tx_1 h
      exact W.vret hx hb hr (fun t ht hW => ⟨⟨(), rfl, trivial, by rw [ht]; exact hP, hD⟩, hS.F ht⟩) hS.2.2 dX8_copies_21
    · have h := tx_neg c1 h
      refine lv_aload_n hx hb dX8_copies_7 rfl (lv_at hl 0 rfl) ?_
      refine lv_iload_n hx hb dX8_copies_8 rfl (lv_at hl 2 rfl) ?_
      refine lv_aload_n hx hb dX8_copies_9 rfl (lv_at hl 0 rfl) ?_
      refine lv_iload_n hx hb dX8_copies_10 rfl (lv_at hl 1 rfl) ?_
      refine lv_iload_n hx hb dX8_copies_11 rfl (lv_at hl 2 rfl) ?_
      refine lv_iadd hx hb dX8_copies_12 ?_
      obtain ⟨g2, h⟩ := tx_ck h
      refine va_iald (i := (x1 + x2)) hx hb hK hP 11 0 rfl rfl (tx_in g2) dX8_copies_13 ?_
      obtain ⟨g3, h⟩ := tx_ck h
      refine va_iast (i := x2) hx hb hK hP hD hS 11 0 rfl rfl (tx_in g3) dX8_copies_14 (fun H locs hP hD hS => ?_)
      obtain ⟨S_4, eS_4, h⟩ := tx_lt h
      rw [sM_a29, eS_4] at hP hD
      obtain ⟨y5, ey5, h⟩ := tx_lt h
      refine lv_iinc (v := y5) (lv' := [(2, .int y5), (0, .ref (aa 30)), (1, .int x1)]) hx hb dX8_copies_15 hl (k := 2) rfl ey5 (by decide) rfl (fun ls hl => ?_)
      refine lv_goto (tgt := 2) hx hb dX8_copies_18 (by decide) ?_
      exact hk2 y5 S_4 H locs ls h hP hD hS (lv_sub hl [1, 2, 0] rfl)
set_option maxHeartbeats 4000000 in
set_option maxRecDepth 100000 in
theorem c_X8_copies_30 (l : Launch) (G : va_G) (cA : Nat → ClassId) (sz : Nat) (aa : Nat → Nat) (S : Tr) (L : Lo) (x1 : Int32)  (S' : Tr) (h : f_X8_copies_30 S x1 = some S') : Met l yX8_copies (.code yX8_copies cX8_copies 3 none :: T0) ({ frames := 0, cells := 0, slots := 0, locals := 0 } : Room) (tqP G cA [.ref (aa 30), .int x1] (wM cA aa S L) sz) (tqQv G cA (fun (_ : Unit) => True) (fun (_ : Unit) => wM cA aa S' L) (va_A (wM cA aa S L) sz)) 0 0 (va_A (wM cA aa S L) sz) := by
  refine Met.ofW (cc := cX8_copies) (maxL := 3) (ret := none) (by decide) rfl ?_
  intro p e s m args below meth c s₁ B hml hv
  obtain ⟨rfl, hsz, hP, hK, hD0, hN⟩ := hv
  have hx := B.exec
  have hb := B.bytes
  have hr := B.returns
  have hts := atoms_spec (ws := .code yX8_copies cX8_copies 3 none :: T0) B.pre
  have hT : ∀ w ∈ T0, w.before _ s = true := fun w h => hts w (List.mem_cons_of_mem _ h)
  have hown : s.vm.findClass RX8 = some m.cls := findClass_of_methodNamed B.named
  have hlocks := B.notSynchronized
  subst hsz
  have hD := hD0.self (sz := s.heap.size)
  generalize hAe : va_A (wM cA aa S L) s.heap.size = A at hD ⊢
  have hA : ∀ q : Nat, s.heap.size ≤ q → A q := fun q h => by rw [← hAe]; exact Or.inr h
  have hS : va_S A s.heap s.heap [] := va_S.rf
  have hl := lv_entry ([.ref (aa 30), .int x1]) (n := 3) (Nat.le_of_ble_eq_true rfl)
  rw [lg_entry_eq]
  generalize (lg_sl ([.ref (aa 30), .int x1]) ++ List.replicate (3 - (lg_sl ([.ref (aa 30), .int x1])).length) Slot.unset).toArray = ls at hl ⊢
  have hl : lv_has ls 3 [(0, .ref (aa 30)), (1, .int x1)] := hl
  have F : tF p s m ([.ref (aa 30), .int x1] : List Value).toArray meth c G cA A RX8 cX8_copies 3 none := ⟨hx, hb, hr, hml, hT, hown, hlocks, hK, hN, hA⟩
  obtain ⟨H, hH⟩ : ∃ z, z = s.heap := ⟨_, rfl⟩
  rw [← hH] at hP
  have hS : va_S A s.heap H [] := by rw [hH]; exact hS
  suffices hgo : G_X8_copies_30 p l e s m below meth c G cA A aa L x1 S' H [] (F0 m 0 ls []) by rw [hH] at hgo; exact hgo
  generalize ([] : List Loc) = locs at hS ⊢
  unfold f_X8_copies_30 at h
  refine lv_iconst (v := 0) hx hb dX8_copies_0 (by decide) ?_
  refine lv_istore_n (lv' := [(2, .int 0), (0, .ref (aa 30)), (1, .int x1)]) hx hb dX8_copies_1 rfl hl (by decide) rfl (fun ls hl => ?_)
  exact w_X8_copies_30_L2 F 2000 0 S H locs ls h hP hD hS (lv_sub hl [1, 2, 0] rfl)
abbrev G_X8_copies_31 (p : Program) (l : Launch) (e : Env) (s : State) (m : MethodId) (below : List Frame) (meth : Method) (c : Code) (G : va_G) (cA : Nat → ClassId) (A : Nat → Prop) (aa : Nat → Nat) (L : Lo) (x1 : Int32) (S' : Tr) (H : Heap) (locs : List Loc) (g : JFrame) : Prop := W p l e (headSpec (.code yX8_copies cX8_copies 3 none :: T0) ({ frames := 0, cells := 0, slots := 0, locals := 0 } : Room)).room s m ([.ref (aa 31), .int x1] : List Value).toArray below meth c H locs 0 0 (MQ below (tqQv G cA (fun (_ : Unit) => True) (fun (_ : Unit) => wM cA aa S' L) A) ([.ref (aa 31), .int x1] : List Value).toArray s 0 0 A) g
set_option maxHeartbeats 4000000 in
set_option maxRecDepth 100000 in
theorem w_X8_copies_31_L2 {p : Program} {l : Launch} {e : Env} {s : State} {m : MethodId} {below : List Frame} {meth : Method} {c : Code} {G : va_G} {cA : Nat → ClassId} {A : Nat → Prop} {aa : Nat → Nat} {L : Lo} {x1₀ : Int32} {S' : Tr} {x1 : Int32} (F : tF p s m ([.ref (aa 31), .int x1₀] : List Value).toArray meth c G cA A RX8 cX8_copies 3 none)    (N : Nat) : ∀ (x2 : Int32) (S : Tr) (H : Heap) (locs : List Loc) (ls : Array Slot), lpF (fun _ _ => none) (fB_X8_copies_31_L2 x1) N x2 S = some S' → va_P G vwCl (wM cA aa S L) H → va_D A (wM cA aa S L) → va_S A s.heap H locs → lv_has ls 3 [(0, .ref (aa 31)), (1, .int x1), (2, .int x2)] → G_X8_copies_31 p l e s m below meth c G cA A aa L x1₀ S' H locs (F0 m 2 ls []) := by
  obtain ⟨hx, hb, hr, hml, hT, hown, hlocks, hK, hN, hA⟩ := id F
  induction N with
  | zero =>
    intro x2 S H locs ls h
    have h : (none : Option (Tr)) = some S' := h
    cases h
  | succ N hk2 =>
    intro x2 S H locs ls h hP hD hS hl
    have h : fB_X8_copies_31_L2 x1 (lpF (fun _ _ => none) (fB_X8_copies_31_L2 x1) N) x2 S = some S' := h
    generalize hk2e : lpF (fun _ _ => none) (fB_X8_copies_31_L2 x1) N = k2 at h hk2
    unfold fB_X8_copies_31_L2 at h
    refine lv_iload_n hx hb dX8_copies_2 rfl (lv_at hl 2 rfl) ?_
    refine lv_iload_n hx hb dX8_copies_3 rfl (lv_at hl 1 rfl) ?_
    refine lv_icmp_ge (tgt := 21) hx hb dX8_copies_4 (by decide) (fun c1 => ?_) (fun c1 => ?_)
    · have h := tx_pos c1 h
      obtain rfl := tx_1 h
      exact W.vret hx hb hr (fun t ht hW => ⟨⟨(), rfl, trivial, by rw [ht]; exact hP, hD⟩, hS.F ht⟩) hS.2.2 dX8_copies_21
    · have h := tx_neg c1 h
      refine lv_aload_n hx hb dX8_copies_7 rfl (lv_at hl 0 rfl) ?_
      refine lv_iload_n hx hb dX8_copies_8 rfl (lv_at hl 2 rfl) ?_
      refine lv_aload_n hx hb dX8_copies_9 rfl (lv_at hl 0 rfl) ?_
      refine lv_iload_n hx hb dX8_copies_10 rfl (lv_at hl 1 rfl) ?_
      refine lv_iload_n hx hb dX8_copies_11 rfl (lv_at hl 2 rfl) ?_
      refine lv_iadd hx hb dX8_copies_12 ?_
      obtain ⟨g2, h⟩ := tx_ck h
      refine va_iald (i := (x1 + x2)) hx hb hK hP 12 0 rfl rfl (tx_in g2) dX8_copies_13 ?_
      obtain ⟨g3, h⟩ := tx_ck h
      refine va_iast (i := x2) hx hb hK hP hD hS 12 0 rfl rfl (tx_in g3) dX8_copies_14 (fun H locs hP hD hS => ?_)
      obtain ⟨S_4, eS_4, h⟩ := tx_lt h
      rw [sM_a30, eS_4] at hP hD
      obtain ⟨y5, ey5, h⟩ := tx_lt h
      refine lv_iinc (v := y5) (lv' := [(2, .int y5), (0, .ref (aa 31)), (1, .int x1)]) hx hb dX8_copies_15 hl (k := 2) rfl ey5 (by decide) rfl (fun ls hl => ?_)
      refine lv_goto (tgt := 2) hx hb dX8_copies_18 (by decide) ?_
      exact hk2 y5 S_4 H locs ls h hP hD hS (lv_sub hl [1, 2, 0] rfl)
set_option maxHeartbeats 4000000 in
set_option maxRecDepth 100000 in
theorem c_X8_copies_31 (l : Launch) (G : va_G) (cA : Nat → ClassId) (sz : Nat) (aa : Nat → Nat) (S : Tr) (L : Lo) (x1 : Int32)  (S' : Tr) (h : f_X8_copies_31 S x1 = some S') : Met l yX8_copies (.code yX8_copies cX8_copies 3 none :: T0) ({ frames := 0, cells := 0, slots := 0, locals := 0 } : Room) (tqP G cA [.ref (aa 31), .int x1] (wM cA aa S L) sz) (tqQv G cA (fun (_ : Unit) => True) (fun (_ : Unit) => wM cA aa S' L) (va_A (wM cA aa S L) sz)) 0 0 (va_A (wM cA aa S L) sz) := by
  refine Met.ofW (cc := cX8_copies) (maxL := 3) (ret := none) (by decide) rfl ?_
  intro p e s m args below meth c s₁ B hml hv
  obtain ⟨rfl, hsz, hP, hK, hD0, hN⟩ := hv
  have hx := B.exec
  have hb := B.bytes
  have hr := B.returns
  have hts := atoms_spec (ws := .code yX8_copies cX8_copies 3 none :: T0) B.pre
  have hT : ∀ w ∈ T0, w.before _ s = true := fun w h => hts w (List.mem_cons_of_mem _ h)
  have hown : s.vm.findClass RX8 = some m.cls := findClass_of_methodNamed B.named
  have hlocks := B.notSynchronized
  subst hsz
  have hD := hD0.self (sz := s.heap.size)
  generalize hAe : va_A (wM cA aa S L) s.heap.size = A at hD ⊢
  have hA : ∀ q : Nat, s.heap.size ≤ q → A q := fun q h => by rw [← hAe]; exact Or.inr h
  have hS : va_S A s.heap s.heap [] := va_S.rf
  have hl := lv_entry ([.ref (aa 31), .int x1]) (n := 3) (Nat.le_of_ble_eq_true rfl)
  rw [lg_entry_eq]
  generalize (lg_sl ([.ref (aa 31), .int x1]) ++ List.replicate (3 - (lg_sl ([.ref (aa 31), .int x1])).length) Slot.unset).toArray = ls at hl ⊢
  have hl : lv_has ls 3 [(0, .ref (aa 31)), (1, .int x1)] := hl
  have F : tF p s m ([.ref (aa 31), .int x1] : List Value).toArray meth c G cA A RX8 cX8_copies 3 none := ⟨hx, hb, hr, hml, hT, hown, hlocks, hK, hN, hA⟩
  obtain ⟨H, hH⟩ : ∃ z, z = s.heap := ⟨_, rfl⟩
  rw [← hH] at hP
  have hS : va_S A s.heap H [] := by rw [hH]; exact hS
  suffices hgo : G_X8_copies_31 p l e s m below meth c G cA A aa L x1 S' H [] (F0 m 0 ls []) by rw [hH] at hgo; exact hgo
  generalize ([] : List Loc) = locs at hS ⊢
  unfold f_X8_copies_31 at h
  refine lv_iconst (v := 0) hx hb dX8_copies_0 (by decide) ?_
  refine lv_istore_n (lv' := [(2, .int 0), (0, .ref (aa 31)), (1, .int x1)]) hx hb dX8_copies_1 rfl hl (by decide) rfl (fun ls hl => ?_)
  exact w_X8_copies_31_L2 F 2000 0 S H locs ls h hP hD hS (lv_sub hl [1, 2, 0] rfl)
abbrev G_X8_copies_32 (p : Program) (l : Launch) (e : Env) (s : State) (m : MethodId) (below : List Frame) (meth : Method) (c : Code) (G : va_G) (cA : Nat → ClassId) (A : Nat → Prop) (aa : Nat → Nat) (L : Lo) (x1 : Int32) (S' : Tr) (H : Heap) (locs : List Loc) (g : JFrame) : Prop := W p l e (headSpec (.code yX8_copies cX8_copies 3 none :: T0) ({ frames := 0, cells := 0, slots := 0, locals := 0 } : Room)).room s m ([.ref (aa 32), .int x1] : List Value).toArray below meth c H locs 0 0 (MQ below (tqQv G cA (fun (_ : Unit) => True) (fun (_ : Unit) => wM cA aa S' L) A) ([.ref (aa 32), .int x1] : List Value).toArray s 0 0 A) g
set_option maxHeartbeats 4000000 in
set_option maxRecDepth 100000 in
theorem w_X8_copies_32_L2 {p : Program} {l : Launch} {e : Env} {s : State} {m : MethodId} {below : List Frame} {meth : Method} {c : Code} {G : va_G} {cA : Nat → ClassId} {A : Nat → Prop} {aa : Nat → Nat} {L : Lo} {x1₀ : Int32} {S' : Tr} {x1 : Int32} (F : tF p s m ([.ref (aa 32), .int x1₀] : List Value).toArray meth c G cA A RX8 cX8_copies 3 none)    (N : Nat) : ∀ (x2 : Int32) (S : Tr) (H : Heap) (locs : List Loc) (ls : Array Slot), lpF (fun _ _ => none) (fB_X8_copies_32_L2 x1) N x2 S = some S' → va_P G vwCl (wM cA aa S L) H → va_D A (wM cA aa S L) → va_S A s.heap H locs → lv_has ls 3 [(0, .ref (aa 32)), (1, .int x1), (2, .int x2)] → G_X8_copies_32 p l e s m below meth c G cA A aa L x1₀ S' H locs (F0 m 2 ls []) := by
  obtain ⟨hx, hb, hr, hml, hT, hown, hlocks, hK, hN, hA⟩ := id F
  induction N with
  | zero =>
    intro x2 S H locs ls h
    have h : (none : Option (Tr)) = some S' := h
    cases h
  | succ N hk2 =>
    intro x2 S H locs ls h hP hD hS hl
    have h : fB_X8_copies_32_L2 x1 (lpF (fun _ _ => none) (fB_X8_copies_32_L2 x1) N) x2 S = some S' := h
    generalize hk2e : lpF (fun _ _ => none) (fB_X8_copies_32_L2 x1) N = k2 at h hk2
    unfold fB_X8_copies_32_L2 at h
    refine lv_iload_n hx hb dX8_copies_2 rfl (lv_at hl 2 rfl) ?_
    refine lv_iload_n hx hb dX8_copies_3 rfl (lv_at hl 1 rfl) ?_
    refine lv_icmp_ge (tgt := 21) hx hb dX8_copies_4 (by decide) (fun c1 => ?_) (fun c1 => ?_)
    · have h := tx_pos c1 h
      obtain rfl := tx_1 h
      exact W.vret hx hb hr (fun t ht hW => ⟨⟨(), rfl, trivial, by rw [ht]; exact hP, hD⟩, hS.F ht⟩) hS.2.2 dX8_copies_21
    · have h := tx_neg c1 h
      refine lv_aload_n hx hb dX8_copies_7 rfl (lv_at hl 0 rfl) ?_
      refine lv_iload_n hx hb dX8_copies_8 rfl (lv_at hl 2 rfl) ?_
      refine lv_aload_n hx hb dX8_copies_9 rfl (lv_at hl 0 rfl) ?_
      refine lv_iload_n hx hb dX8_copies_10 rfl (lv_at hl 1 rfl) ?_
      refine lv_iload_n hx hb dX8_copies_11 rfl (lv_at hl 2 rfl) ?_
      refine lv_iadd hx hb dX8_copies_12 ?_
      obtain ⟨g2, h⟩ := tx_ck h
      refine va_iald (i := (x1 + x2)) hx hb hK hP 13 0 rfl rfl (tx_in g2) dX8_copies_13 ?_
      obtain ⟨g3, h⟩ := tx_ck h
      refine va_iast (i := x2) hx hb hK hP hD hS 13 0 rfl rfl (tx_in g3) dX8_copies_14 (fun H locs hP hD hS => ?_)
      obtain ⟨S_4, eS_4, h⟩ := tx_lt h
      rw [sM_a31, eS_4] at hP hD
      obtain ⟨y5, ey5, h⟩ := tx_lt h
      refine lv_iinc (v := y5) (lv' := [(2, .int y5), (0, .ref (aa 32)), (1, .int x1)]) hx hb dX8_copies_15 hl (k := 2) rfl ey5 (by decide) rfl (fun ls hl => ?_)
      refine lv_goto (tgt := 2) hx hb dX8_copies_18 (by decide) ?_
      exact hk2 y5 S_4 H locs ls h hP hD hS (lv_sub hl [1, 2, 0] rfl)
set_option maxHeartbeats 4000000 in
set_option maxRecDepth 100000 in
theorem c_X8_copies_32 (l : Launch) (G : va_G) (cA : Nat → ClassId) (sz : Nat) (aa : Nat → Nat) (S : Tr) (L : Lo) (x1 : Int32)  (S' : Tr) (h : f_X8_copies_32 S x1 = some S') : Met l yX8_copies (.code yX8_copies cX8_copies 3 none :: T0) ({ frames := 0, cells := 0, slots := 0, locals := 0 } : Room) (tqP G cA [.ref (aa 32), .int x1] (wM cA aa S L) sz) (tqQv G cA (fun (_ : Unit) => True) (fun (_ : Unit) => wM cA aa S' L) (va_A (wM cA aa S L) sz)) 0 0 (va_A (wM cA aa S L) sz) := by
  refine Met.ofW (cc := cX8_copies) (maxL := 3) (ret := none) (by decide) rfl ?_
  intro p e s m args below meth c s₁ B hml hv
  obtain ⟨rfl, hsz, hP, hK, hD0, hN⟩ := hv
  have hx := B.exec
  have hb := B.bytes
  have hr := B.returns
  have hts := atoms_spec (ws := .code yX8_copies cX8_copies 3 none :: T0) B.pre
  have hT : ∀ w ∈ T0, w.before _ s = true := fun w h => hts w (List.mem_cons_of_mem _ h)
  have hown : s.vm.findClass RX8 = some m.cls := findClass_of_methodNamed B.named
  have hlocks := B.notSynchronized
  subst hsz
  have hD := hD0.self (sz := s.heap.size)
  generalize hAe : va_A (wM cA aa S L) s.heap.size = A at hD ⊢
  have hA : ∀ q : Nat, s.heap.size ≤ q → A q := fun q h => by rw [← hAe]; exact Or.inr h
  have hS : va_S A s.heap s.heap [] := va_S.rf
  have hl := lv_entry ([.ref (aa 32), .int x1]) (n := 3) (Nat.le_of_ble_eq_true rfl)
  rw [lg_entry_eq]
  generalize (lg_sl ([.ref (aa 32), .int x1]) ++ List.replicate (3 - (lg_sl ([.ref (aa 32), .int x1])).length) Slot.unset).toArray = ls at hl ⊢
  have hl : lv_has ls 3 [(0, .ref (aa 32)), (1, .int x1)] := hl
  have F : tF p s m ([.ref (aa 32), .int x1] : List Value).toArray meth c G cA A RX8 cX8_copies 3 none := ⟨hx, hb, hr, hml, hT, hown, hlocks, hK, hN, hA⟩
  obtain ⟨H, hH⟩ : ∃ z, z = s.heap := ⟨_, rfl⟩
  rw [← hH] at hP
  have hS : va_S A s.heap H [] := by rw [hH]; exact hS
  suffices hgo : G_X8_copies_32 p l e s m below meth c G cA A aa L x1 S' H [] (F0 m 0 ls []) by rw [hH] at hgo; exact hgo
  generalize ([] : List Loc) = locs at hS ⊢
  unfold f_X8_copies_32 at h
  refine lv_iconst (v := 0) hx hb dX8_copies_0 (by decide) ?_
  refine lv_istore_n (lv' := [(2, .int 0), (0, .ref (aa 32)), (1, .int x1)]) hx hb dX8_copies_1 rfl hl (by decide) rfl (fun ls hl => ?_)
  exact w_X8_copies_32_L2 F 2000 0 S H locs ls h hP hD hS (lv_sub hl [1, 2, 0] rfl)
abbrev G_X8_copies_33 (p : Program) (l : Launch) (e : Env) (s : State) (m : MethodId) (below : List Frame) (meth : Method) (c : Code) (G : va_G) (cA : Nat → ClassId) (A : Nat → Prop) (aa : Nat → Nat) (L : Lo) (x1 : Int32) (S' : Tr) (H : Heap) (locs : List Loc) (g : JFrame) : Prop := W p l e (headSpec (.code yX8_copies cX8_copies 3 none :: T0) ({ frames := 0, cells := 0, slots := 0, locals := 0 } : Room)).room s m ([.ref (aa 33), .int x1] : List Value).toArray below meth c H locs 0 0 (MQ below (tqQv G cA (fun (_ : Unit) => True) (fun (_ : Unit) => wM cA aa S' L) A) ([.ref (aa 33), .int x1] : List Value).toArray s 0 0 A) g
set_option maxHeartbeats 4000000 in
set_option maxRecDepth 100000 in
theorem w_X8_copies_33_L2 {p : Program} {l : Launch} {e : Env} {s : State} {m : MethodId} {below : List Frame} {meth : Method} {c : Code} {G : va_G} {cA : Nat → ClassId} {A : Nat → Prop} {aa : Nat → Nat} {L : Lo} {x1₀ : Int32} {S' : Tr} {x1 : Int32} (F : tF p s m ([.ref (aa 33), .int x1₀] : List Value).toArray meth c G cA A RX8 cX8_copies 3 none)    (N : Nat) : ∀ (x2 : Int32) (S : Tr) (H : Heap) (locs : List Loc) (ls : Array Slot), lpF (fun _ _ => none) (fB_X8_copies_33_L2 x1) N x2 S = some S' → va_P G vwCl (wM cA aa S L) H → va_D A (wM cA aa S L) → va_S A s.heap H locs → lv_has ls 3 [(0, .ref (aa 33)), (1, .int x1), (2, .int x2)] → G_X8_copies_33 p l e s m below meth c G cA A aa L x1₀ S' H locs (F0 m 2 ls []) := by
  obtain ⟨hx, hb, hr, hml, hT, hown, hlocks, hK, hN, hA⟩ := id F
  induction N with
  | zero =>
    intro x2 S H locs ls h
    have h : (none : Option (Tr)) = some S' := h
    cases h
  | succ N hk2 =>
    intro x2 S H locs ls h hP hD hS hl
    have h : fB_X8_copies_33_L2 x1 (lpF (fun _ _ => none) (fB_X8_copies_33_L2 x1) N) x2 S = some S' := h
    generalize hk2e : lpF (fun _ _ => none) (fB_X8_copies_33_L2 x1) N = k2 at h hk2
    unfold fB_X8_copies_33_L2 at h
    refine lv_iload_n hx hb dX8_copies_2 rfl (lv_at hl 2 rfl) ?_
    refine lv_iload_n hx hb dX8_copies_3 rfl (lv_at hl 1 rfl) ?_
    refine lv_icmp_ge (tgt := 21) hx hb dX8_copies_4 (by decide) (fun c1 => ?_) (fun c1 => ?_)
    · have h := tx_pos c1 h
      obtain rfl := tx_1 h
      exact W.vret hx hb hr (fun t ht hW => ⟨⟨(), rfl, trivial, by rw [ht]; exact hP, hD⟩, hS.F ht⟩) hS.2.2 dX8_copies_21
    · have h := tx_neg c1 h
      refine lv_aload_n hx hb dX8_copies_7 rfl (lv_at hl 0 rfl) ?_
      refine lv_iload_n hx hb dX8_copies_8 rfl (lv_at hl 2 rfl) ?_
      refine lv_aload_n hx hb dX8_copies_9 rfl (lv_at hl 0 rfl) ?_
      refine lv_iload_n hx hb dX8_copies_10 rfl (lv_at hl 1 rfl) ?_
      refine lv_iload_n hx hb dX8_copies_11 rfl (lv_at hl 2 rfl) ?_
      refine lv_iadd hx hb dX8_copies_12 ?_
      obtain ⟨g2, h⟩ := tx_ck h
      refine va_iald (i := (x1 + x2)) hx hb hK hP 14 0 rfl rfl (tx_in g2) dX8_copies_13 ?_
      obtain ⟨g3, h⟩ := tx_ck h
      refine va_iast (i := x2) hx hb hK hP hD hS 14 0 rfl rfl (tx_in g3) dX8_copies_14 (fun H locs hP hD hS => ?_)
      obtain ⟨S_4, eS_4, h⟩ := tx_lt h
      rw [sM_a32, eS_4] at hP hD
      obtain ⟨y5, ey5, h⟩ := tx_lt h
      refine lv_iinc (v := y5) (lv' := [(2, .int y5), (0, .ref (aa 33)), (1, .int x1)]) hx hb dX8_copies_15 hl (k := 2) rfl ey5 (by decide) rfl (fun ls hl => ?_)
      refine lv_goto (tgt := 2) hx hb dX8_copies_18 (by decide) ?_
      exact hk2 y5 S_4 H locs ls h hP hD hS (lv_sub hl [1, 2, 0] rfl)
set_option maxHeartbeats 4000000 in
set_option maxRecDepth 100000 in
theorem c_X8_copies_33 (l : Launch) (G : va_G) (cA : Nat → ClassId) (sz : Nat) (aa : Nat → Nat) (S : Tr) (L : Lo) (x1 : Int32)  (S' : Tr) (h : f_X8_copies_33 S x1 = some S') : Met l yX8_copies (.code yX8_copies cX8_copies 3 none :: T0) ({ frames := 0, cells := 0, slots := 0, locals := 0 } : Room) (tqP G cA [.ref (aa 33), .int x1] (wM cA aa S L) sz) (tqQv G cA (fun (_ : Unit) => True) (fun (_ : Unit) => wM cA aa S' L) (va_A (wM cA aa S L) sz)) 0 0 (va_A (wM cA aa S L) sz) := by
  refine Met.ofW (cc := cX8_copies) (maxL := 3) (ret := none) (by decide) rfl ?_
  intro p e s m args below meth c s₁ B hml hv
  obtain ⟨rfl, hsz, hP, hK, hD0, hN⟩ := hv
  have hx := B.exec
  have hb := B.bytes
  have hr := B.returns
  have hts := atoms_spec (ws := .code yX8_copies cX8_copies 3 none :: T0) B.pre
  have hT : ∀ w ∈ T0, w.before _ s = true := fun w h => hts w (List.mem_cons_of_mem _ h)
  have hown : s.vm.findClass RX8 = some m.cls := findClass_of_methodNamed B.named
  have hlocks := B.notSynchronized
  subst hsz
  have hD := hD0.self (sz := s.heap.size)
  generalize hAe : va_A (wM cA aa S L) s.heap.size = A at hD ⊢
  have hA : ∀ q : Nat, s.heap.size ≤ q → A q := fun q h => by rw [← hAe]; exact Or.inr h
  have hS : va_S A s.heap s.heap [] := va_S.rf
  have hl := lv_entry ([.ref (aa 33), .int x1]) (n := 3) (Nat.le_of_ble_eq_true rfl)
  rw [lg_entry_eq]
  generalize (lg_sl ([.ref (aa 33), .int x1]) ++ List.replicate (3 - (lg_sl ([.ref (aa 33), .int x1])).length) Slot.unset).toArray = ls at hl ⊢
  have hl : lv_has ls 3 [(0, .ref (aa 33)), (1, .int x1)] := hl
  have F : tF p s m ([.ref (aa 33), .int x1] : List Value).toArray meth c G cA A RX8 cX8_copies 3 none := ⟨hx, hb, hr, hml, hT, hown, hlocks, hK, hN, hA⟩
  obtain ⟨H, hH⟩ : ∃ z, z = s.heap := ⟨_, rfl⟩
  rw [← hH] at hP
  have hS : va_S A s.heap H [] := by rw [hH]; exact hS
  suffices hgo : G_X8_copies_33 p l e s m below meth c G cA A aa L x1 S' H [] (F0 m 0 ls []) by rw [hH] at hgo; exact hgo
  generalize ([] : List Loc) = locs at hS ⊢
  unfold f_X8_copies_33 at h
  refine lv_iconst (v := 0) hx hb dX8_copies_0 (by decide) ?_
  refine lv_istore_n (lv' := [(2, .int 0), (0, .ref (aa 33)), (1, .int x1)]) hx hb dX8_copies_1 rfl hl (by decide) rfl (fun ls hl => ?_)
  exact w_X8_copies_33_L2 F 2000 0 S H locs ls h hP hD hS (lv_sub hl [1, 2, 0] rfl)
abbrev G_X8_copies_34 (p : Program) (l : Launch) (e : Env) (s : State) (m : MethodId) (below : List Frame) (meth : Method) (c : Code) (G : va_G) (cA : Nat → ClassId) (A : Nat → Prop) (aa : Nat → Nat) (L : Lo) (x1 : Int32) (S' : Tr) (H : Heap) (locs : List Loc) (g : JFrame) : Prop := W p l e (headSpec (.code yX8_copies cX8_copies 3 none :: T0) ({ frames := 0, cells := 0, slots := 0, locals := 0 } : Room)).room s m ([.ref (aa 34), .int x1] : List Value).toArray below meth c H locs 0 0 (MQ below (tqQv G cA (fun (_ : Unit) => True) (fun (_ : Unit) => wM cA aa S' L) A) ([.ref (aa 34), .int x1] : List Value).toArray s 0 0 A) g
set_option maxHeartbeats 4000000 in
set_option maxRecDepth 100000 in
theorem w_X8_copies_34_L2 {p : Program} {l : Launch} {e : Env} {s : State} {m : MethodId} {below : List Frame} {meth : Method} {c : Code} {G : va_G} {cA : Nat → ClassId} {A : Nat → Prop} {aa : Nat → Nat} {L : Lo} {x1₀ : Int32} {S' : Tr} {x1 : Int32} (F : tF p s m ([.ref (aa 34), .int x1₀] : List Value).toArray meth c G cA A RX8 cX8_copies 3 none)    (N : Nat) : ∀ (x2 : Int32) (S : Tr) (H : Heap) (locs : List Loc) (ls : Array Slot), lpF (fun _ _ => none) (fB_X8_copies_34_L2 x1) N x2 S = some S' → va_P G vwCl (wM cA aa S L) H → va_D A (wM cA aa S L) → va_S A s.heap H locs → lv_has ls 3 [(0, .ref (aa 34)), (1, .int x1), (2, .int x2)] → G_X8_copies_34 p l e s m below meth c G cA A aa L x1₀ S' H locs (F0 m 2 ls []) := by
  obtain ⟨hx, hb, hr, hml, hT, hown, hlocks, hK, hN, hA⟩ := id F
  induction N with
  | zero =>
    intro x2 S H locs ls h
    have h : (none : Option (Tr)) = some S' := h
    cases h
  | succ N hk2 =>
    intro x2 S H locs ls h hP hD hS hl
    have h : fB_X8_copies_34_L2 x1 (lpF (fun _ _ => none) (fB_X8_copies_34_L2 x1) N) x2 S = some S' := h
    generalize hk2e : lpF (fun _ _ => none) (fB_X8_copies_34_L2 x1) N = k2 at h hk2
    unfold fB_X8_copies_34_L2 at h
    refine lv_iload_n hx hb dX8_copies_2 rfl (lv_at hl 2 rfl) ?_
    refine lv_iload_n hx hb dX8_copies_3 rfl (lv_at hl 1 rfl) ?_
    refine lv_icmp_ge (tgt := 21) hx hb dX8_copies_4 (by decide) (fun c1 => ?_) (fun c1 => ?_)
    · have h := tx_pos c1 h
      obtain rfl := tx_1 h
      exact W.vret hx hb hr (fun t ht hW => ⟨⟨(), rfl, trivial, by rw [ht]; exact hP, hD⟩, hS.F ht⟩) hS.2.2 dX8_copies_21
    · have h := tx_neg c1 h
      refine lv_aload_n hx hb dX8_copies_7 rfl (lv_at hl 0 rfl) ?_
      refine lv_iload_n hx hb dX8_copies_8 rfl (lv_at hl 2 rfl) ?_
      refine lv_aload_n hx hb dX8_copies_9 rfl (lv_at hl 0 rfl) ?_
      refine lv_iload_n hx hb dX8_copies_10 rfl (lv_at hl 1 rfl) ?_
      refine lv_iload_n hx hb dX8_copies_11 rfl (lv_at hl 2 rfl) ?_
      refine lv_iadd hx hb dX8_copies_12 ?_
      obtain ⟨g2, h⟩ := tx_ck h
      refine va_iald (i := (x1 + x2)) hx hb hK hP 15 0 rfl rfl (tx_in g2) dX8_copies_13 ?_
      obtain ⟨g3, h⟩ := tx_ck h
      refine va_iast (i := x2) hx hb hK hP hD hS 15 0 rfl rfl (tx_in g3) dX8_copies_14 (fun H locs hP hD hS => ?_)
      obtain ⟨S_4, eS_4, h⟩ := tx_lt h
      rw [sM_a33, eS_4] at hP hD
      obtain ⟨y5, ey5, h⟩ := tx_lt h
      refine lv_iinc (v := y5) (lv' := [(2, .int y5), (0, .ref (aa 34)), (1, .int x1)]) hx hb dX8_copies_15 hl (k := 2) rfl ey5 (by decide) rfl (fun ls hl => ?_)
      refine lv_goto (tgt := 2) hx hb dX8_copies_18 (by decide) ?_
      exact hk2 y5 S_4 H locs ls h hP hD hS (lv_sub hl [1, 2, 0] rfl)
set_option maxHeartbeats 4000000 in
set_option maxRecDepth 100000 in
theorem c_X8_copies_34 (l : Launch) (G : va_G) (cA : Nat → ClassId) (sz : Nat) (aa : Nat → Nat) (S : Tr) (L : Lo) (x1 : Int32)  (S' : Tr) (h : f_X8_copies_34 S x1 = some S') : Met l yX8_copies (.code yX8_copies cX8_copies 3 none :: T0) ({ frames := 0, cells := 0, slots := 0, locals := 0 } : Room) (tqP G cA [.ref (aa 34), .int x1] (wM cA aa S L) sz) (tqQv G cA (fun (_ : Unit) => True) (fun (_ : Unit) => wM cA aa S' L) (va_A (wM cA aa S L) sz)) 0 0 (va_A (wM cA aa S L) sz) := by
  refine Met.ofW (cc := cX8_copies) (maxL := 3) (ret := none) (by decide) rfl ?_
  intro p e s m args below meth c s₁ B hml hv
  obtain ⟨rfl, hsz, hP, hK, hD0, hN⟩ := hv
  have hx := B.exec
  have hb := B.bytes
  have hr := B.returns
  have hts := atoms_spec (ws := .code yX8_copies cX8_copies 3 none :: T0) B.pre
  have hT : ∀ w ∈ T0, w.before _ s = true := fun w h => hts w (List.mem_cons_of_mem _ h)
  have hown : s.vm.findClass RX8 = some m.cls := findClass_of_methodNamed B.named
  have hlocks := B.notSynchronized
  subst hsz
  have hD := hD0.self (sz := s.heap.size)
  generalize hAe : va_A (wM cA aa S L) s.heap.size = A at hD ⊢
  have hA : ∀ q : Nat, s.heap.size ≤ q → A q := fun q h => by rw [← hAe]; exact Or.inr h
  have hS : va_S A s.heap s.heap [] := va_S.rf
  have hl := lv_entry ([.ref (aa 34), .int x1]) (n := 3) (Nat.le_of_ble_eq_true rfl)
  rw [lg_entry_eq]
  generalize (lg_sl ([.ref (aa 34), .int x1]) ++ List.replicate (3 - (lg_sl ([.ref (aa 34), .int x1])).length) Slot.unset).toArray = ls at hl ⊢
  have hl : lv_has ls 3 [(0, .ref (aa 34)), (1, .int x1)] := hl
  have F : tF p s m ([.ref (aa 34), .int x1] : List Value).toArray meth c G cA A RX8 cX8_copies 3 none := ⟨hx, hb, hr, hml, hT, hown, hlocks, hK, hN, hA⟩
  obtain ⟨H, hH⟩ : ∃ z, z = s.heap := ⟨_, rfl⟩
  rw [← hH] at hP
  have hS : va_S A s.heap H [] := by rw [hH]; exact hS
  suffices hgo : G_X8_copies_34 p l e s m below meth c G cA A aa L x1 S' H [] (F0 m 0 ls []) by rw [hH] at hgo; exact hgo
  generalize ([] : List Loc) = locs at hS ⊢
  unfold f_X8_copies_34 at h
  refine lv_iconst (v := 0) hx hb dX8_copies_0 (by decide) ?_
  refine lv_istore_n (lv' := [(2, .int 0), (0, .ref (aa 34)), (1, .int x1)]) hx hb dX8_copies_1 rfl hl (by decide) rfl (fun ls hl => ?_)
  exact w_X8_copies_34_L2 F 2000 0 S H locs ls h hP hD hS (lv_sub hl [1, 2, 0] rfl)
