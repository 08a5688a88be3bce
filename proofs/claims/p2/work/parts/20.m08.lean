abbrev G_X8_least (p : Program) (l : Launch) (e : Env) (s : State) (m : MethodId) (below : List Frame) (meth : Method) (c : Code) (G : va_G) (cA : Nat → ClassId) (A : Nat → Prop) (aa : Nat → Nat) (x1 : Int32) (r0 : Int32) (S' : Tr) (L' : Lo) (H : Heap) (locs : List Loc) (g : JFrame) : Prop := W p l e (headSpec (.code yX8_least cX8_least 7 (some .int) :: T0) ({ frames := 9, cells := 0, slots := 0, locals := 211 } : Room)).room s m ([.ref (aa 0), .int x1] : List Value).toArray below meth c H locs 0 0 (MQ below (tqQi G cA (fun (r : Int32) (_ : Unit) => r = r0) (fun (_ : Unit) => wM cA aa S' L') A) ([.ref (aa 0), .int x1] : List Value).toArray s 0 0 A) g
set_option maxHeartbeats 4000000 in
set_option maxRecDepth 100000 in
theorem w_X8_least_J279 {p : Program} {l : Launch} {e : Env} {s : State} {m : MethodId} {below : List Frame} {meth : Method} {c : Code} {G : va_G} {cA : Nat → ClassId} {A : Nat → Prop} {aa : Nat → Nat} {x1₀ : Int32} {r0 : Int32} {S' : Tr} {L' : Lo} (F : tF p s m ([.ref (aa 0), .int x1₀] : List Value).toArray meth c G cA A RX8 cX8_least 7 (some .int))    (x1 : Int32) (x2 : Int32) (x3 : Int32) (S : Tr) (L : Lo) (H : Heap) (locs : List Loc) (ls : Array Slot) (h : fJ_X8_least_J279 x1 x2 x3 S L = some (r0, S', L')) (hP : va_P G vwCl (wM cA aa S L) H) (hD : va_D A (wM cA aa S L)) (hS : va_S A s.heap H locs) (hl : lv_has ls 7 [(0, .ref (aa 0)), (1, .int x1), (2, .int x2), (3, .int x3)]) : G_X8_least p l e s m below meth c G cA A aa x1₀ r0 S' L' H locs (F0 m 279 ls []) := by
  obtain ⟨hx, hb, hr, hml, hT, hown, hlocks, hK, hN, hA⟩ := id F
  unfold fJ_X8_least_J279 at h
  refine lv_iload_n hx hb dX8_least_279 rfl (lv_at hl 3 rfl) ?_
  refine lv_if_ge (tgt := 288) hx hb dX8_least_280 (by decide) (fun c12 => ?_) (fun c12 => ?_)
  · have h := tx_pos c12 h
    refine lv_iload_n hx hb dX8_least_288 rfl (lv_at hl 1 rfl) ?_
    refine lv_if_ne (tgt := 296) hx hb dX8_least_289 (by decide) (fun c13 => ?_) (fun c13 => ?_)
    · have h := tx_neg c13 h
      refine lv_iload_n hx hb dX8_least_296 rfl (lv_at hl 1 rfl) ?_
      refine lv_iload_n hx hb dX8_least_297 rfl (lv_at hl 2 rfl) ?_
      refine lv_icmp_le (tgt := 306) hx hb dX8_least_298 (by decide) (fun c14 => ?_) (fun c14 => ?_)
      · have h := tx_pos c14 h
        refine lv_aload_n hx hb dX8_least_306 rfl (lv_at hl 0 rfl) ?_
        refine va_get (D := G) (ci := 8) (v := .ref (aa 76)) (C := RX8) (T := TX8) (N := 91) hx hb hT ku_8 hown hK hP 0 rfl rfl 75 (by decide) (hT _ kw_11_3) (fun _ h9 => h9) rfl dX8_least_307 ?_
        refine lv_iload_n hx hb dX8_least_310 rfl (lv_at hl 1 rfl) ?_
        refine lv_iconst (v := 1) hx hb dX8_least_311 (by decide) ?_
        refine lv_isub hx hb dX8_least_312 ?_
        obtain ⟨g15, h⟩ := tx_ck h
        refine va_iald (i := (x1 - 1)) hx hb hK hP 41 0 rfl rfl (tx_in g15) dX8_least_313 ?_
        obtain ⟨rfl, rfl, rfl⟩ := tx_3 h
        exact W.iret hx hb hr (fun t ht hW => ⟨⟨_, (), rfl, rfl, by rw [ht]; exact hP, hD⟩, hS.F ht⟩) hS.2.2 dX8_least_314
      · have h := tx_neg c14 h
        refine lv_bipush (v := (-2)) hx hb dX8_least_301 (by decide) ?_
        refine lv_goto (tgt := 314) hx hb dX8_least_303 (by decide) ?_
        obtain ⟨rfl, rfl, rfl⟩ := tx_3 h
        exact W.iret hx hb hr (fun t ht hW => ⟨⟨_, (), rfl, rfl, by rw [ht]; exact hP, hD⟩, hS.F ht⟩) hS.2.2 dX8_least_314
    · have h := tx_pos c13 h
      refine lv_iload_n hx hb dX8_least_292 rfl (lv_at hl 3 rfl) ?_
      refine lv_goto (tgt := 314) hx hb dX8_least_293 (by decide) ?_
      obtain ⟨rfl, rfl, rfl⟩ := tx_3 h
      exact W.iret hx hb hr (fun t ht hW => ⟨⟨_, (), rfl, rfl, by rw [ht]; exact hP, hD⟩, hS.F ht⟩) hS.2.2 dX8_least_314
  · have h := tx_neg c12 h
    refine lv_bipush (v := (-3)) hx hb dX8_least_283 (by decide) ?_
    refine lv_goto (tgt := 314) hx hb dX8_least_285 (by decide) ?_
    obtain ⟨rfl, rfl, rfl⟩ := tx_3 h
    exact W.iret hx hb hr (fun t ht hW => ⟨⟨_, (), rfl, rfl, by rw [ht]; exact hP, hD⟩, hS.F ht⟩) hS.2.2 dX8_least_314
set_option maxHeartbeats 4000000 in
set_option maxRecDepth 100000 in
theorem w_X8_least_L233 {p : Program} {l : Launch} {e : Env} {s : State} {m : MethodId} {below : List Frame} {meth : Method} {c : Code} {G : va_G} {cA : Nat → ClassId} {A : Nat → Prop} {aa : Nat → Nat} {x1₀ : Int32} {r0 : Int32} {S' : Tr} {L' : Lo} {L : Lo} {x1 : Int32} {x2 : Int32} {x3 : Int32} {x4 : Int32} (F : tF p s m ([.ref (aa 0), .int x1₀] : List Value).toArray meth c G cA A RX8 cX8_least 7 (some .int))  (k79 : Int32 → Int32 → Tr → Lo → Option (Int32 × Tr × Lo)) (hk79 : ∀ (x3 : Int32) (x4 : Int32) (S : Tr) (L : Lo) (H : Heap) (locs : List Loc) (ls : Array Slot), k79 x3 x4 S L = some (r0, S', L') → va_P G vwCl (wM cA aa S L) H → va_D A (wM cA aa S L) → va_S A s.heap H locs → lv_has ls 7 [(0, .ref (aa 0)), (1, .int x1), (2, .int x2), (3, .int x3), (4, .int x4)] → G_X8_least p l e s m below meth c G cA A aa x1₀ r0 S' L' H locs (F0 m 79 ls [])) (N : Nat) : ∀ (x6 : Int32) (S : Tr) (H : Heap) (locs : List Loc) (ls : Array Slot), lpF (fun _ _ => none) (fB_X8_least_L233 k79 L x1 x2 x3 x4) N x6 S = some (r0, S', L') → va_P G vwCl (wM cA aa S L) H → va_D A (wM cA aa S L) → va_S A s.heap H locs → lv_has ls 7 [(0, .ref (aa 0)), (1, .int x1), (2, .int x2), (3, .int x3), (4, .int x4), (6, .int x6)] → G_X8_least p l e s m below meth c G cA A aa x1₀ r0 S' L' H locs (F0 m 233 ls []) := by
  obtain ⟨hx, hb, hr, hml, hT, hown, hlocks, hK, hN, hA⟩ := id F
  induction N with
  | zero =>
    intro x6 S H locs ls h
    have h : (none : Option (Int32 × Tr × Lo)) = some (r0, S', L') := h
    cases h
  | succ N hk233 =>
    intro x6 S H locs ls h hP hD hS hl
    have h : fB_X8_least_L233 k79 L x1 x2 x3 x4 (lpF (fun _ _ => none) (fB_X8_least_L233 k79 L x1 x2 x3 x4) N) x6 S = some (r0, S', L') := h
    generalize hk233e : lpF (fun _ _ => none) (fB_X8_least_L233 k79 L x1 x2 x3 x4) N = k233 at h hk233
    unfold fB_X8_least_L233 at h
    refine lv_iload hx hb dX8_least_233 (lv_at hl 5 rfl) ?_
    refine lv_iload_n hx hb dX8_least_235 rfl (lv_at hl 2 rfl) ?_
    refine lv_icmp_ge (tgt := 273) hx hb dX8_least_236 (by decide) (fun c34 => ?_) (fun c34 => ?_)
    · have h := tx_pos c34 h
      obtain ⟨y35, ey35, h⟩ := tx_lt h
      refine lv_iinc (v := y35) (lv' := [(4, .int y35), (0, .ref (aa 0)), (1, .int x1), (2, .int x2), (3, .int x3), (6, .int x6)]) hx hb dX8_least_273 hl (k := 4) rfl ey35 (by decide) rfl (fun ls hl => ?_)
      refine lv_goto (tgt := 79) hx hb dX8_least_276 (by decide) ?_
      exact hk79 x3 y35 S L H locs ls h hP hD hS (lv_sub hl [1, 2, 3, 4, 0] rfl)
    · have h := tx_neg c34 h
      refine lv_aload_n hx hb dX8_least_239 rfl (lv_at hl 0 rfl) ?_
      refine va_get (D := G) (ci := 8) (v := .ref (aa 76)) (C := RX8) (T := TX8) (N := 91) hx hb hT ku_8 hown hK hP 0 rfl rfl 75 (by decide) (hT _ kw_11_3) (fun _ h9 => h9) rfl dX8_least_240 ?_
      refine lv_iload hx hb dX8_least_243 (lv_at hl 5 rfl) ?_
      refine lv_iload hx hb dX8_least_245 (lv_at hl 4 rfl) ?_
      refine lv_aload_n hx hb dX8_least_247 rfl (lv_at hl 0 rfl) ?_
      refine va_get (D := G) (ci := 8) (v := .int (S 0 12)) (C := RX8) (T := TX8) (N := 91) hx hb hT ku_8 hown hK hP 0 rfl rfl 12 (by decide) (hT _ kw_12_3) (fun _ h9 => h9) rfl dX8_least_248 ?_
      refine lv_iload_n hx hb dX8_least_251 rfl (lv_at hl 2 rfl) ?_
      refine lv_iconst (v := 1) hx hb dX8_least_252 (by decide) ?_
      refine lv_isub hx hb dX8_least_253 ?_
      refine lv_iload hx hb dX8_least_254 (lv_at hl 5 rfl) ?_
      refine lv_isub hx hb dX8_least_256 ?_
      obtain ⟨r36, hc37, h⟩ := tx_bd h
      refine tw_ci (tw_none (ws := wM cA aa S L)) hP hD hS hA (va_runS (As := [.int (S 0 12), .int ((x2 - 1) - x6)]) (rest := [.int x4, .int x6, .ref (aa 76)]) ⟨hx, hb, hml, hown, hT⟩ (c_X8_powerOf l G cA H.size (S 0 12) ((x2 - 1) - x6)  r36 hc37) (va_cwS 2 hT (tq_gS kw_48_2 kw_48_3 kw_1_5 kw_48_4) rfl rfl rfl (by decide +kernel) ⟨Nat.le_of_ble_eq_true rfl, Nat.le_of_ble_eq_true rfl⟩) (tw_pre (tw_none (ws := wM cA aa S L)) hP hD hK hN) rfl rfl hl.1 rfl (lv_room (Nat.le_of_ble_eq_true rfl)) dX8_least_257 ⟨Nat.le_of_ble_eq_true rfl, Nat.le_of_ble_eq_true rfl⟩) (fun _ _ H locs z38 hP hD hS => ?_)
      subst z38
      have hP : va_P G vwCl (wM cA aa S L) H := hP
      have hD : va_D A (wM cA aa S L) := hD
      obtain ⟨g39, h⟩ := tx_ck h
      refine lv_idiv hx hb dX8_least_260 (tx_nz g39) ?_
      refine lv_aload_n hx hb dX8_least_261 rfl (lv_at hl 0 rfl) ?_
      refine va_get (D := G) (ci := 8) (v := .int (S 0 12)) (C := RX8) (T := TX8) (N := 91) hx hb hT ku_8 hown hK hP 0 rfl rfl 12 (by decide) (hT _ kw_12_3) (fun _ h9 => h9) rfl dX8_least_262 ?_
      obtain ⟨g40, h⟩ := tx_ck h
      refine lv_irem hx hb dX8_least_265 (tx_nz g40) ?_
      obtain ⟨g41, h⟩ := tx_ck h
      refine va_iast (i := x6) hx hb hK hP hD hS 41 0 rfl rfl (tx_in g41) dX8_least_266 (fun H locs hP hD hS => ?_)
      obtain ⟨S_42, eS_42, h⟩ := tx_lt h
      rw [sM_a75, eS_42] at hP hD
      obtain ⟨y43, ey43, h⟩ := tx_lt h
      refine lv_iinc (v := y43) (lv' := [(6, .int y43), (0, .ref (aa 0)), (1, .int x1), (2, .int x2), (3, .int x3), (4, .int x4)]) hx hb dX8_least_267 hl (k := 5) rfl ey43 (by decide) rfl (fun ls hl => ?_)
      refine lv_goto (tgt := 233) hx hb dX8_least_270 (by decide) ?_
      exact hk233 y43 S_42 H locs ls h hP hD hS (lv_sub hl [1, 2, 3, 4, 5, 0] rfl)
set_option maxHeartbeats 4000000 in
set_option maxRecDepth 100000 in
theorem w_X8_least_J225 {p : Program} {l : Launch} {e : Env} {s : State} {m : MethodId} {below : List Frame} {meth : Method} {c : Code} {G : va_G} {cA : Nat → ClassId} {A : Nat → Prop} {aa : Nat → Nat} {x1₀ : Int32} {r0 : Int32} {S' : Tr} {L' : Lo} {x1 : Int32} {x2 : Int32} (F : tF p s m ([.ref (aa 0), .int x1₀] : List Value).toArray meth c G cA A RX8 cX8_least 7 (some .int))  (k79 : Int32 → Int32 → Tr → Lo → Option (Int32 × Tr × Lo)) (hk79 : ∀ (x3 : Int32) (x4 : Int32) (S : Tr) (L : Lo) (H : Heap) (locs : List Loc) (ls : Array Slot), k79 x3 x4 S L = some (r0, S', L') → va_P G vwCl (wM cA aa S L) H → va_D A (wM cA aa S L) → va_S A s.heap H locs → lv_has ls 7 [(0, .ref (aa 0)), (1, .int x1), (2, .int x2), (3, .int x3), (4, .int x4)] → G_X8_least p l e s m below meth c G cA A aa x1₀ r0 S' L' H locs (F0 m 79 ls [])) (x4 : Int32) (S : Tr) (L : Lo) (H : Heap) (locs : List Loc) (ls : Array Slot) (h : fJ_X8_least_J225 k79 x1 x2 x4 S L = some (r0, S', L')) (hP : va_P G vwCl (wM cA aa S L) H) (hD : va_D A (wM cA aa S L)) (hS : va_S A s.heap H locs) (hl : lv_has ls 7 [(6, .int 0), (3, .int r31), (0, .ref (aa 0)), (1, .int x1), (2, .int x2), (4, .int x4)]) : G_X8_least p l e s m below meth c G cA A aa x1₀ r0 S' L' H locs (F0 m 225 ls []) := by
  obtain ⟨hx, hb, hr, hml, hT, hown, hlocks, hK, hN, hA⟩ := id F
  unfold fJ_X8_least_J225 at h
  refine lv_aload_n hx hb dX8_least_225 rfl (lv_at hl 0 rfl) ?_
  obtain ⟨r31, hc32, h⟩ := tx_bd h
  refine tw_ci tw_all hP hD hS hA (va_runV (As := []) (rest := []) ⟨hx, hb, hml, hown, hT⟩ (c_X8_more l G cA H.size aa S L  r31 hc32) (cwV 0 hT (tq_gV kw_48_9 kw_48_10 kw_48_11 kw_1_5 kw_48_12) rfl rfl rfl (by decide +kernel) ⟨Nat.le_of_ble_eq_true rfl, Nat.le_of_ble_eq_true rfl⟩) ⟨(tw_pre tw_all hP hD hK hN).1, va_recv hK hP (ci := 8) (q0 := 0) rfl rfl, (tw_pre tw_all hP hD hK hN).2⟩ rfl rfl hl.1 rfl (lv_room (Nat.le_of_ble_eq_true rfl)) dX8_least_226 ⟨Nat.le_of_ble_eq_true rfl, Nat.le_of_ble_eq_true rfl⟩) (fun _ _ H locs z33 hP hD hS => ?_)
  subst z33
  rw [List.append_nil] at hP hD
  have hP : va_P G vwCl (wM cA aa S L) H := hP
  have hD : va_D A (wM cA aa S L) := hD
  refine lv_istore_n (lv' := [(3, .int r31), (0, .ref (aa 0)), (1, .int x1), (2, .int x2), (4, .int x4)]) hx hb dX8_least_229 rfl hl (by decide) rfl (fun ls hl => ?_)
  refine lv_iconst (v := 0) hx hb dX8_least_230 (by decide) ?_
  refine lv_istore (lv' := [(6, .int 0), (3, .int r31), (0, .ref (aa 0)), (1, .int x1), (2, .int x2), (4, .int x4)]) hx hb dX8_least_231 hl (by decide) rfl (fun ls hl => ?_)
  exact w_X8_least_L233 F k79 hk79 2000 0 S H locs ls h hP hD hS (lv_sub hl [2, 3, 4, 1, 5, 0] rfl)
set_option maxHeartbeats 4000000 in
set_option maxRecDepth 100000 in
theorem w_X8_least_J198 {p : Program} {l : Launch} {e : Env} {s : State} {m : MethodId} {below : List Frame} {meth : Method} {c : Code} {G : va_G} {cA : Nat → ClassId} {A : Nat → Prop} {aa : Nat → Nat} {x1₀ : Int32} {r0 : Int32} {S' : Tr} {L' : Lo} {x1 : Int32} {x2 : Int32} (F : tF p s m ([.ref (aa 0), .int x1₀] : List Value).toArray meth c G cA A RX8 cX8_least 7 (some .int))  (k79 : Int32 → Int32 → Tr → Lo → Option (Int32 × Tr × Lo)) (hk79 : ∀ (x3 : Int32) (x4 : Int32) (S : Tr) (L : Lo) (H : Heap) (locs : List Loc) (ls : Array Slot), k79 x3 x4 S L = some (r0, S', L') → va_P G vwCl (wM cA aa S L) H → va_D A (wM cA aa S L) → va_S A s.heap H locs → lv_has ls 7 [(0, .ref (aa 0)), (1, .int x1), (2, .int x2), (3, .int x3), (4, .int x4)] → G_X8_least p l e s m below meth c G cA A aa x1₀ r0 S' L' H locs (F0 m 79 ls [])) (x3 : Int32) (x4 : Int32) (x5 : Int32) (S : Tr) (L : Lo) (H : Heap) (locs : List Loc) (ls : Array Slot) (h : fJ_X8_least_J198 k79 x1 x2 x3 x4 x5 S L = some (r0, S', L')) (hP : va_P G vwCl (wM cA aa S L) H) (hD : va_D A (wM cA aa S L)) (hS : va_S A s.heap H locs) (hl : lv_has ls 7 [(0, .ref (aa 0)), (1, .int x1), (2, .int x2), (3, .int x3), (4, .int x4), (5, .int x5)]) : G_X8_least p l e s m below meth c G cA A aa x1₀ r0 S' L' H locs (F0 m 198 ls []) := by
  obtain ⟨hx, hb, hr, hml, hT, hown, hlocks, hK, hN, hA⟩ := id F
  unfold fJ_X8_least_J198 at h
  refine lv_iload hx hb dX8_least_198 (lv_at hl 5 rfl) ?_
  refine lv_if_ne (tgt := 206) hx hb dX8_least_200 (by decide) (fun c25 => ?_) (fun c25 => ?_)
  · have h := tx_neg c25 h
    refine lv_aload_n hx hb dX8_least_206 rfl (lv_at hl 0 rfl) ?_
    obtain ⟨⟨S_26, L_27⟩, hc28, h⟩ := tx_bd h
    replace h := tx_let (y := S_26) rfl h
    replace h := tx_let (y := L_27) rfl h
    refine tw_cv tw_all hP hD hS hA (va_runV (As := []) (rest := []) ⟨hx, hb, hml, hown, hT⟩ (c_X8_toEnd l G cA H.size aa S L  S_26 L_27 hc28) (cwV 0 hT (tq_gV kw_48_5 kw_48_6 kw_48_7 kw_1_5 kw_48_8) rfl rfl rfl (by decide +kernel) ⟨Nat.le_of_ble_eq_true rfl, Nat.le_of_ble_eq_true rfl⟩) ⟨(tw_pre tw_all hP hD hK hN).1, va_recv hK hP (ci := 8) (q0 := 0) rfl rfl, (tw_pre tw_all hP hD hK hN).2⟩ rfl rfl hl.1 rfl (lv_room (Nat.le_of_ble_eq_true rfl)) dX8_least_207 ⟨Nat.le_of_ble_eq_true rfl, Nat.le_of_ble_eq_true rfl⟩) (fun _ H locs z29 hP hD hS => ?_)
    rw [List.append_nil] at hP hD
    have hP : va_P G vwCl (wM cA aa S_26 L_27) H := hP
    have hD : va_D A (wM cA aa S_26 L_27) := hD
    refine lv_iload_n hx hb dX8_least_210 rfl (lv_at hl 3 rfl) ?_
    refine lv_if_lt (tgt := 225) hx hb dX8_least_211 (by decide) (fun c30 => ?_) (fun c30 => ?_)
    · have h := tx_pos c30 h
      exact w_X8_least_J225 F k79 hk79 x4 S_26 L_27 H locs ls h hP hD hS (lv_sub hl [0, 1, 2, 4] rfl)
    · have h := tx_neg c30 h
      refine lv_aload_n hx hb dX8_least_214 rfl (lv_at hl 0 rfl) ?_
      obtain ⟨r44, hc45, h⟩ := tx_bd h
      refine tw_ci tw_all hP hD hS hA (va_runV (As := []) (rest := []) ⟨hx, hb, hml, hown, hT⟩ (c_X8_more l G cA H.size aa S_26 L_27  r44 hc45) (cwV 0 hT (tq_gV kw_48_9 kw_48_10 kw_48_11 kw_1_5 kw_48_12) rfl rfl rfl (by decide +kernel) ⟨Nat.le_of_ble_eq_true rfl, Nat.le_of_ble_eq_true rfl⟩) ⟨(tw_pre tw_all hP hD hK hN).1, va_recv hK hP (ci := 8) (q0 := 0) rfl rfl, (tw_pre tw_all hP hD hK hN).2⟩ rfl rfl hl.1 rfl (lv_room (Nat.le_of_ble_eq_true rfl)) dX8_least_215 ⟨Nat.le_of_ble_eq_true rfl, Nat.le_of_ble_eq_true rfl⟩) (fun _ _ H locs z46 hP hD hS => ?_)
      subst z46
      rw [List.append_nil] at hP hD
      have hP : va_P G vwCl (wM cA aa S_26 L_27) H := hP
      have hD : va_D A (wM cA aa S_26 L_27) := hD
      refine lv_iload_n hx hb dX8_least_218 rfl (lv_at hl 3 rfl) ?_
      refine lv_icmp_lt (tgt := 225) hx hb dX8_least_219 (by decide) (fun c47 => ?_) (fun c47 => ?_)
      · have h := tx_pos c47 h
        exact w_X8_least_J225 F k79 hk79 x4 S_26 L_27 H locs ls h hP hD hS (lv_sub hl [0, 1, 2, 4] rfl)
      · have h := tx_neg c47 h
        refine lv_goto (tgt := 273) hx hb dX8_least_222 (by decide) ?_
        obtain ⟨y48, ey48, h⟩ := tx_lt h
        refine lv_iinc (v := y48) (lv' := [(4, .int y48), (0, .ref (aa 0)), (1, .int x1), (2, .int x2), (3, .int x3), (5, .int x5)]) hx hb dX8_least_273 hl (k := 4) rfl ey48 (by decide) rfl (fun ls hl => ?_)
        refine lv_goto (tgt := 79) hx hb dX8_least_276 (by decide) ?_
        exact hk79 x3 y48 S_26 L_27 H locs ls h hP hD hS (lv_sub hl [1, 2, 3, 4, 0] rfl)
  · have h := tx_pos c25 h
    refine lv_goto (tgt := 273) hx hb dX8_least_203 (by decide) ?_
    obtain ⟨y49, ey49, h⟩ := tx_lt h
    refine lv_iinc (v := y49) (lv' := [(4, .int y49), (0, .ref (aa 0)), (1, .int x1), (2, .int x2), (3, .int x3), (5, .int x5)]) hx hb dX8_least_273 hl (k := 4) rfl ey49 (by decide) rfl (fun ls hl => ?_)
    refine lv_goto (tgt := 79) hx hb dX8_least_276 (by decide) ?_
    exact hk79 x3 y49 S L H locs ls h hP hD hS (lv_sub hl [1, 2, 3, 4, 0] rfl)
set_option maxHeartbeats 4000000 in
set_option maxRecDepth 100000 in
theorem w_X8_least_L155 {p : Program} {l : Launch} {e : Env} {s : State} {m : MethodId} {below : List Frame} {meth : Method} {c : Code} {G : va_G} {cA : Nat → ClassId} {A : Nat → Prop} {aa : Nat → Nat} {x1₀ : Int32} {r0 : Int32} {S' : Tr} {L' : Lo} {S : Tr} {L : Lo} {x1 : Int32} {x2 : Int32} {x3 : Int32} {x4 : Int32} (F : tF p s m ([.ref (aa 0), .int x1₀] : List Value).toArray meth c G cA A RX8 cX8_least 7 (some .int))  (k79 : Int32 → Int32 → Tr → Lo → Option (Int32 × Tr × Lo)) (hk79 : ∀ (x3 : Int32) (x4 : Int32) (S : Tr) (L : Lo) (H : Heap) (locs : List Loc) (ls : Array Slot), k79 x3 x4 S L = some (r0, S', L') → va_P G vwCl (wM cA aa S L) H → va_D A (wM cA aa S L) → va_S A s.heap H locs → lv_has ls 7 [(0, .ref (aa 0)), (1, .int x1), (2, .int x2), (3, .int x3), (4, .int x4)] → G_X8_least p l e s m below meth c G cA A aa x1₀ r0 S' L' H locs (F0 m 79 ls [])) (N : Nat) : ∀ (x5 : Int32) (x6 : Int32) (H : Heap) (locs : List Loc) (ls : Array Slot), lpF (fun _ _ => none) (fB_X8_least_L155 k79 S L x1 x2 x3 x4) N x5 x6 = some (r0, S', L') → va_P G vwCl (wM cA aa S L) H → va_D A (wM cA aa S L) → va_S A s.heap H locs → lv_has ls 7 [(0, .ref (aa 0)), (1, .int x1), (2, .int x2), (3, .int x3), (4, .int x4), (5, .int x5), (6, .int x6)] → G_X8_least p l e s m below meth c G cA A aa x1₀ r0 S' L' H locs (F0 m 155 ls []) := by
  obtain ⟨hx, hb, hr, hml, hT, hown, hlocks, hK, hN, hA⟩ := id F
  induction N with
  | zero =>
    intro x5 x6 H locs ls h
    have h : (none : Option (Int32 × Tr × Lo)) = some (r0, S', L') := h
    cases h
  | succ N hk155 =>
    intro x5 x6 H locs ls h hP hD hS hl
    have h : fB_X8_least_L155 k79 S L x1 x2 x3 x4 (lpF (fun _ _ => none) (fB_X8_least_L155 k79 S L x1 x2 x3 x4) N) x5 x6 = some (r0, S', L') := h
    generalize hk155e : lpF (fun _ _ => none) (fB_X8_least_L155 k79 S L x1 x2 x3 x4) N = k155 at h hk155
    unfold fB_X8_least_L155 at h
    refine lv_iload hx hb dX8_least_155 (lv_at hl 6 rfl) ?_
    refine lv_iload_n hx hb dX8_least_157 rfl (lv_at hl 2 rfl) ?_
    refine lv_icmp_ge (tgt := 198) hx hb dX8_least_158 (by decide) (fun c24 => ?_) (fun c24 => ?_)
    · have h := tx_pos c24 h
      exact w_X8_least_J198 F k79 hk79 x3 x4 x5 S L H locs ls h hP hD hS (lv_sub hl [0, 1, 2, 3, 4, 5] rfl)
    · have h := tx_neg c24 h
      refine lv_iload hx hb dX8_least_161 (lv_at hl 5 rfl) ?_
      refine lv_if_eq (tgt := 189) hx hb dX8_least_163 (by decide) (fun c50 => ?_) (fun c50 => ?_)
      · have h := tx_pos c50 h
        refine lv_iconst (v := 0) hx hb dX8_least_189 (by decide) ?_
        refine lv_istore (lv' := [(5, .int 0), (0, .ref (aa 0)), (1, .int x1), (2, .int x2), (3, .int x3), (4, .int x4), (6, .int x6)]) hx hb dX8_least_190 hl (by decide) rfl (fun ls hl => ?_)
        obtain ⟨y51, ey51, h⟩ := tx_lt h
        refine lv_iinc (v := y51) (lv' := [(6, .int y51), (5, .int 0), (0, .ref (aa 0)), (1, .int x1), (2, .int x2), (3, .int x3), (4, .int x4)]) hx hb dX8_least_192 hl (k := 6) rfl ey51 (by decide) rfl (fun ls hl => ?_)
        refine lv_goto (tgt := 155) hx hb dX8_least_195 (by decide) ?_
        exact hk155 0 y51 H locs ls h hP hD hS (lv_sub hl [2, 3, 4, 5, 6, 1, 0] rfl)
      · have h := tx_neg c50 h
        refine lv_aload_n hx hb dX8_least_166 rfl (lv_at hl 0 rfl) ?_
        refine va_get (D := G) (ci := 8) (v := .ref (aa 53)) (C := RX8) (T := TX8) (N := 91) hx hb hT ku_8 hown hK hP 0 rfl rfl 52 (by decide) (hT _ kw_10_13) (fun _ h9 => h9) rfl dX8_least_167 ?_
        refine lv_bipush (v := 10) hx hb dX8_least_170 (by decide) ?_
        refine lv_aload_n hx hb dX8_least_172 rfl (lv_at hl 0 rfl) ?_
        refine va_get (D := G) (ci := 8) (v := .ref (aa 75)) (C := RX8) (T := TX8) (N := 91) hx hb hT ku_8 hown hK hP 0 rfl rfl 74 (by decide) (hT _ kw_11_2) (fun _ h9 => h9) rfl dX8_least_173 ?_
        refine lv_iload hx hb dX8_least_176 (lv_at hl 6 rfl) ?_
        obtain ⟨g52, h⟩ := tx_ck h
        refine va_iald (i := x6) hx hb hK hP 40 0 rfl rfl (tx_in g52) dX8_least_178 ?_
        refine lv_iadd hx hb dX8_least_179 ?_
        obtain ⟨g53, h⟩ := tx_ck h
        refine va_iald (i := ((10 : Int32) + (S 75 x6.toNatClampNeg))) hx hb hK hP 27 0 rfl rfl (tx_in g53) dX8_least_180 ?_
        refine lv_iconst (v := 5) hx hb dX8_least_181 (by decide) ?_
        refine lv_icmp_eq (tgt := 189) hx hb dX8_least_182 (by decide) (fun c54 => ?_) (fun c54 => ?_)
        · have h := tx_pos c54 h
          refine lv_iconst (v := 0) hx hb dX8_least_189 (by decide) ?_
          refine lv_istore (lv' := [(5, .int 0), (0, .ref (aa 0)), (1, .int x1), (2, .int x2), (3, .int x3), (4, .int x4), (6, .int x6)]) hx hb dX8_least_190 hl (by decide) rfl (fun ls hl => ?_)
          obtain ⟨y55, ey55, h⟩ := tx_lt h
          refine lv_iinc (v := y55) (lv' := [(6, .int y55), (5, .int 0), (0, .ref (aa 0)), (1, .int x1), (2, .int x2), (3, .int x3), (4, .int x4)]) hx hb dX8_least_192 hl (k := 6) rfl ey55 (by decide) rfl (fun ls hl => ?_)
          refine lv_goto (tgt := 155) hx hb dX8_least_195 (by decide) ?_
          exact hk155 0 y55 H locs ls h hP hD hS (lv_sub hl [2, 3, 4, 5, 6, 1, 0] rfl)
        · have h := tx_neg c54 h
          refine lv_iconst (v := 1) hx hb dX8_least_185 (by decide) ?_
          refine lv_goto (tgt := 190) hx hb dX8_least_186 (by decide) ?_
          refine lv_istore (lv' := [(5, .int 1), (0, .ref (aa 0)), (1, .int x1), (2, .int x2), (3, .int x3), (4, .int x4), (6, .int x6)]) hx hb dX8_least_190 hl (by decide) rfl (fun ls hl => ?_)
          obtain ⟨y56, ey56, h⟩ := tx_lt h
          refine lv_iinc (v := y56) (lv' := [(6, .int y56), (5, .int 1), (0, .ref (aa 0)), (1, .int x1), (2, .int x2), (3, .int x3), (4, .int x4)]) hx hb dX8_least_192 hl (k := 6) rfl ey56 (by decide) rfl (fun ls hl => ?_)
          refine lv_goto (tgt := 155) hx hb dX8_least_195 (by decide) ?_
          exact hk155 1 y56 H locs ls h hP hD hS (lv_sub hl [2, 3, 4, 5, 6, 1, 0] rfl)
set_option maxHeartbeats 4000000 in
set_option maxRecDepth 100000 in
theorem w_X8_least_J144 {p : Program} {l : Launch} {e : Env} {s : State} {m : MethodId} {below : List Frame} {meth : Method} {c : Code} {G : va_G} {cA : Nat → ClassId} {A : Nat → Prop} {aa : Nat → Nat} {x1₀ : Int32} {r0 : Int32} {S' : Tr} {L' : Lo} {x1 : Int32} {x2 : Int32} (F : tF p s m ([.ref (aa 0), .int x1₀] : List Value).toArray meth c G cA A RX8 cX8_least 7 (some .int))  (k79 : Int32 → Int32 → Tr → Lo → Option (Int32 × Tr × Lo)) (hk79 : ∀ (x3 : Int32) (x4 : Int32) (S : Tr) (L : Lo) (H : Heap) (locs : List Loc) (ls : Array Slot), k79 x3 x4 S L = some (r0, S', L') → va_P G vwCl (wM cA aa S L) H → va_D A (wM cA aa S L) → va_S A s.heap H locs → lv_has ls 7 [(0, .ref (aa 0)), (1, .int x1), (2, .int x2), (3, .int x3), (4, .int x4)] → G_X8_least p l e s m below meth c G cA A aa x1₀ r0 S' L' H locs (F0 m 79 ls [])) (x3 : Int32) (x4 : Int32) (S : Tr) (L : Lo) (H : Heap) (locs : List Loc) (ls : Array Slot) (h : fJ_X8_least_J144 k79 x1 x2 x3 x4 S L = some (r0, S', L')) (hP : va_P G vwCl (wM cA aa S_20 L_21) H) (hD : va_D A (wM cA aa S_20 L_21)) (hS : va_S A s.heap H locs) (hl : lv_has ls 7 [(6, .int 0), (5, .int 1), (0, .ref (aa 0)), (1, .int x1), (2, .int x2), (3, .int x3), (4, .int x4)]) : G_X8_least p l e s m below meth c G cA A aa x1₀ r0 S' L' H locs (F0 m 144 ls []) := by
  obtain ⟨hx, hb, hr, hml, hT, hown, hlocks, hK, hN, hA⟩ := id F
  unfold fJ_X8_least_J144 at h
  refine lv_aload_n hx hb dX8_least_144 rfl (lv_at hl 0 rfl) ?_
  refine lv_iconst (v := 1) hx hb dX8_least_145 (by decide) ?_
  obtain ⟨⟨S_20, L_21⟩, hc22, h⟩ := tx_bd h
  replace h := tx_let (y := S_20) rfl h
  replace h := tx_let (y := L_21) rfl h
  refine tw_cv tw_all hP hD hS hA (va_runV (As := [.int 1]) (rest := []) ⟨hx, hb, hml, hown, hT⟩ (c_X8_goOn l G cA H.size aa S L (1 : Int32)  S_20 L_21 hc22) (cwV 1 hT (tq_gV kw_43_14 kw_43_15 kw_43_16 kw_1_5 kw_43_17) rfl rfl rfl (by decide +kernel) ⟨Nat.le_of_ble_eq_true rfl, Nat.le_of_ble_eq_true rfl⟩) ⟨(tw_pre tw_all hP hD hK hN).1, va_recv hK hP (ci := 8) (q0 := 0) rfl rfl, (tw_pre tw_all hP hD hK hN).2⟩ rfl rfl hl.1 rfl (lv_room (Nat.le_of_ble_eq_true rfl)) dX8_least_146 ⟨Nat.le_of_ble_eq_true rfl, Nat.le_of_ble_eq_true rfl⟩) (fun _ H locs z23 hP hD hS => ?_)
  rw [List.append_nil] at hP hD
  have hP : va_P G vwCl (wM cA aa S_20 L_21) H := hP
  have hD : va_D A (wM cA aa S_20 L_21) := hD
  refine lv_iconst (v := 1) hx hb dX8_least_149 (by decide) ?_
  refine lv_istore (lv' := [(5, .int 1), (0, .ref (aa 0)), (1, .int x1), (2, .int x2), (3, .int x3), (4, .int x4)]) hx hb dX8_least_150 hl (by decide) rfl (fun ls hl => ?_)
  refine lv_iconst (v := 0) hx hb dX8_least_152 (by decide) ?_
  refine lv_istore (lv' := [(6, .int 0), (5, .int 1), (0, .ref (aa 0)), (1, .int x1), (2, .int x2), (3, .int x3), (4, .int x4)]) hx hb dX8_least_153 hl (by decide) rfl (fun ls hl => ?_)
  exact w_X8_least_L155 F k79 hk79 2000 1 0 H locs ls h hP hD hS (lv_sub hl [2, 3, 4, 5, 6, 1, 0] rfl)
set_option maxHeartbeats 4000000 in
set_option maxRecDepth 100000 in
theorem w_X8_least_L99 {p : Program} {l : Launch} {e : Env} {s : State} {m : MethodId} {below : List Frame} {meth : Method} {c : Code} {G : va_G} {cA : Nat → ClassId} {A : Nat → Prop} {aa : Nat → Nat} {x1₀ : Int32} {r0 : Int32} {S' : Tr} {L' : Lo} {L : Lo} {x1 : Int32} {x2 : Int32} {x3 : Int32} {x4 : Int32} (F : tF p s m ([.ref (aa 0), .int x1₀] : List Value).toArray meth c G cA A RX8 cX8_least 7 (some .int))  (k79 : Int32 → Int32 → Tr → Lo → Option (Int32 × Tr × Lo)) (hk79 : ∀ (x3 : Int32) (x4 : Int32) (S : Tr) (L : Lo) (H : Heap) (locs : List Loc) (ls : Array Slot), k79 x3 x4 S L = some (r0, S', L') → va_P G vwCl (wM cA aa S L) H → va_D A (wM cA aa S L) → va_S A s.heap H locs → lv_has ls 7 [(0, .ref (aa 0)), (1, .int x1), (2, .int x2), (3, .int x3), (4, .int x4)] → G_X8_least p l e s m below meth c G cA A aa x1₀ r0 S' L' H locs (F0 m 79 ls [])) (N : Nat) : ∀ (x5 : Int32) (S : Tr) (H : Heap) (locs : List Loc) (ls : Array Slot), lpF (fun _ _ => none) (fB_X8_least_L99 k79 L x1 x2 x3 x4) N x5 S = some (r0, S', L') → va_P G vwCl (wM cA aa S L) H → va_D A (wM cA aa S L) → va_S A s.heap H locs → lv_has ls 7 [(0, .ref (aa 0)), (1, .int x1), (2, .int x2), (3, .int x3), (4, .int x4), (5, .int x5)] → G_X8_least p l e s m below meth c G cA A aa x1₀ r0 S' L' H locs (F0 m 99 ls []) := by
  obtain ⟨hx, hb, hr, hml, hT, hown, hlocks, hK, hN, hA⟩ := id F
  induction N with
  | zero =>
    intro x5 S H locs ls h
    have h : (none : Option (Int32 × Tr × Lo)) = some (r0, S', L') := h
    cases h
  | succ N hk99 =>
    intro x5 S H locs ls h hP hD hS hl
    have h : fB_X8_least_L99 k79 L x1 x2 x3 x4 (lpF (fun _ _ => none) (fB_X8_least_L99 k79 L x1 x2 x3 x4) N) x5 S = some (r0, S', L') := h
    generalize hk99e : lpF (fun _ _ => none) (fB_X8_least_L99 k79 L x1 x2 x3 x4) N = k99 at h hk99
    unfold fB_X8_least_L99 at h
    refine lv_iload hx hb dX8_least_99 (lv_at hl 5 rfl) ?_
    refine lv_iload_n hx hb dX8_least_101 rfl (lv_at hl 2 rfl) ?_
    refine lv_icmp_ge (tgt := 144) hx hb dX8_least_102 (by decide) (fun c19 => ?_) (fun c19 => ?_)
    · have h := tx_pos c19 h
      exact w_X8_least_J144 F k79 hk79 x3 x4 S L H locs ls h hP hD hS (lv_sub hl [0, 1, 2, 3, 4] rfl)
    · have h := tx_neg c19 h
      refine lv_aload_n hx hb dX8_least_105 rfl (lv_at hl 0 rfl) ?_
      refine va_get (D := G) (ci := 8) (v := .ref (aa 72)) (C := RX8) (T := TX8) (N := 91) hx hb hT ku_8 hown hK hP 0 rfl rfl 71 (by decide) (hT _ kw_11_0) (fun _ h9 => h9) rfl dX8_least_106 ?_
      refine lv_aload_n hx hb dX8_least_109 rfl (lv_at hl 0 rfl) ?_
      refine va_get (D := G) (ci := 8) (v := .ref (aa 75)) (C := RX8) (T := TX8) (N := 91) hx hb hT ku_8 hown hK hP 0 rfl rfl 74 (by decide) (hT _ kw_11_2) (fun _ h9 => h9) rfl dX8_least_110 ?_
      refine lv_iload hx hb dX8_least_113 (lv_at hl 5 rfl) ?_
      obtain ⟨g57, h⟩ := tx_ck h
      refine va_iald (i := x5) hx hb hK hP 40 0 rfl rfl (tx_in g57) dX8_least_115 ?_
      refine lv_iload hx hb dX8_least_116 (lv_at hl 4 rfl) ?_
      refine lv_aload_n hx hb dX8_least_118 rfl (lv_at hl 0 rfl) ?_
      refine va_get (D := G) (ci := 8) (v := .int (S 0 12)) (C := RX8) (T := TX8) (N := 91) hx hb hT ku_8 hown hK hP 0 rfl rfl 12 (by decide) (hT _ kw_12_3) (fun _ h9 => h9) rfl dX8_least_119 ?_
      refine lv_iload_n hx hb dX8_least_122 rfl (lv_at hl 2 rfl) ?_
      refine lv_iconst (v := 1) hx hb dX8_least_123 (by decide) ?_
      refine lv_isub hx hb dX8_least_124 ?_
      refine lv_iload hx hb dX8_least_125 (lv_at hl 5 rfl) ?_
      refine lv_isub hx hb dX8_least_127 ?_
      obtain ⟨r58, hc59, h⟩ := tx_bd h
      refine tw_ci (tw_none (ws := wM cA aa S L)) hP hD hS hA (va_runS (As := [.int (S 0 12), .int ((x2 - 1) - x5)]) (rest := [.int x4, .int (S 75 x5.toNatClampNeg), .ref (aa 72)]) ⟨hx, hb, hml, hown, hT⟩ (c_X8_powerOf l G cA H.size (S 0 12) ((x2 - 1) - x5)  r58 hc59) (va_cwS 2 hT (tq_gS kw_48_2 kw_48_3 kw_1_5 kw_48_4) rfl rfl rfl (by decide +kernel) ⟨Nat.le_of_ble_eq_true rfl, Nat.le_of_ble_eq_true rfl⟩) (tw_pre (tw_none (ws := wM cA aa S L)) hP hD hK hN) rfl rfl hl.1 rfl (lv_room (Nat.le_of_ble_eq_true rfl)) dX8_least_128 ⟨Nat.le_of_ble_eq_true rfl, Nat.le_of_ble_eq_true rfl⟩) (fun _ _ H locs z60 hP hD hS => ?_)
      subst z60
      have hP : va_P G vwCl (wM cA aa S L) H := hP
      have hD : va_D A (wM cA aa S L) := hD
      obtain ⟨g61, h⟩ := tx_ck h
      refine lv_idiv hx hb dX8_least_131 (tx_nz g61) ?_
      refine lv_aload_n hx hb dX8_least_132 rfl (lv_at hl 0 rfl) ?_
      refine va_get (D := G) (ci := 8) (v := .int (S 0 12)) (C := RX8) (T := TX8) (N := 91) hx hb hT ku_8 hown hK hP 0 rfl rfl 12 (by decide) (hT _ kw_12_3) (fun _ h9 => h9) rfl dX8_least_133 ?_
      obtain ⟨g62, h⟩ := tx_ck h
      refine lv_irem hx hb dX8_least_136 (tx_nz g62) ?_
      obtain ⟨g63, h⟩ := tx_ck h
      refine va_iast (i := (S 75 x5.toNatClampNeg)) hx hb hK hP hD hS 38 0 rfl rfl (tx_in g63) dX8_least_137 (fun H locs hP hD hS => ?_)
      obtain ⟨S_64, eS_64, h⟩ := tx_lt h
      rw [sM_a71, eS_64] at hP hD
      obtain ⟨y65, ey65, h⟩ := tx_lt h
      refine lv_iinc (v := y65) (lv' := [(5, .int y65), (0, .ref (aa 0)), (1, .int x1), (2, .int x2), (3, .int x3), (4, .int x4)]) hx hb dX8_least_138 hl (k := 5) rfl ey65 (by decide) rfl (fun ls hl => ?_)
      refine lv_goto (tgt := 99) hx hb dX8_least_141 (by decide) ?_
      exact hk99 y65 S_64 H locs ls h hP hD hS (lv_sub hl [1, 2, 3, 4, 5, 0] rfl)
set_option maxHeartbeats 4000000 in
set_option maxRecDepth 100000 in
theorem w_X8_least_L79 {p : Program} {l : Launch} {e : Env} {s : State} {m : MethodId} {below : List Frame} {meth : Method} {c : Code} {G : va_G} {cA : Nat → ClassId} {A : Nat → Prop} {aa : Nat → Nat} {x1₀ : Int32} {r0 : Int32} {S' : Tr} {L' : Lo} {x1 : Int32} {x2 : Int32} (F : tF p s m ([.ref (aa 0), .int x1₀] : List Value).toArray meth c G cA A RX8 cX8_least 7 (some .int))    (N : Nat) : ∀ (x3 : Int32) (x4 : Int32) (S : Tr) (L : Lo) (H : Heap) (locs : List Loc) (ls : Array Slot), lpF (fun _ _ _ _ => none) (fB_X8_least_L79 x1 x2) N x3 x4 S L = some (r0, S', L') → va_P G vwCl (wM cA aa S L) H → va_D A (wM cA aa S L) → va_S A s.heap H locs → lv_has ls 7 [(0, .ref (aa 0)), (1, .int x1), (2, .int x2), (3, .int x3), (4, .int x4)] → G_X8_least p l e s m below meth c G cA A aa x1₀ r0 S' L' H locs (F0 m 79 ls []) := by
  obtain ⟨hx, hb, hr, hml, hT, hown, hlocks, hK, hN, hA⟩ := id F
  induction N with
  | zero =>
    intro x3 x4 S L H locs ls h
    have h : (none : Option (Int32 × Tr × Lo)) = some (r0, S', L') := h
    cases h
  | succ N hk79 =>
    intro x3 x4 S L H locs ls h hP hD hS hl
    have h : fB_X8_least_L79 x1 x2 (lpF (fun _ _ _ _ => none) (fB_X8_least_L79 x1 x2) N) x3 x4 S L = some (r0, S', L') := h
    generalize hk79e : lpF (fun _ _ _ _ => none) (fB_X8_least_L79 x1 x2) N = k79 at h hk79
    unfold fB_X8_least_L79 at h
    refine lv_iload hx hb dX8_least_79 (lv_at hl 4 rfl) ?_
    refine lv_aload_n hx hb dX8_least_81 rfl (lv_at hl 0 rfl) ?_
    refine va_get (D := G) (ci := 8) (v := .int (S 0 12)) (C := RX8) (T := TX8) (N := 91) hx hb hT ku_8 hown hK hP 0 rfl rfl 12 (by decide) (hT _ kw_12_3) (fun _ h9 => h9) rfl dX8_least_82 ?_
    refine lv_iload_n hx hb dX8_least_85 rfl (lv_at hl 2 rfl) ?_
    obtain ⟨r8, hc9, h⟩ := tx_bd h
    refine tw_ci (tw_none (ws := wM cA aa S L)) hP hD hS hA (va_runS (As := [.int (S 0 12), .int x2]) (rest := [.int x4]) ⟨hx, hb, hml, hown, hT⟩ (c_X8_powerOf l G cA H.size (S 0 12) x2  r8 hc9) (va_cwS 2 hT (tq_gS kw_48_2 kw_48_3 kw_1_5 kw_48_4) rfl rfl rfl (by decide +kernel) ⟨Nat.le_of_ble_eq_true rfl, Nat.le_of_ble_eq_true rfl⟩) (tw_pre (tw_none (ws := wM cA aa S L)) hP hD hK hN) rfl rfl hl.1 rfl (lv_room (Nat.le_of_ble_eq_true rfl)) dX8_least_86 ⟨Nat.le_of_ble_eq_true rfl, Nat.le_of_ble_eq_true rfl⟩) (fun _ _ H locs z10 hP hD hS => ?_)
    subst z10
    have hP : va_P G vwCl (wM cA aa S L) H := hP
    have hD : va_D A (wM cA aa S L) := hD
    refine lv_icmp_ge (tgt := 279) hx hb dX8_least_89 (by decide) (fun c11 => ?_) (fun c11 => ?_)
    · have h := tx_pos c11 h
      exact w_X8_least_J279 F x1 x2 x3 S L H locs ls h hP hD hS (lv_sub hl [0, 1, 2, 3] rfl)
    · have h := tx_neg c11 h
      refine lv_aload_n hx hb dX8_least_92 rfl (lv_at hl 0 rfl) ?_
      obtain ⟨S_16, hc17, h⟩ := tx_bd h
      refine tw_cv tw_all hP hD hS hA (va_runV (As := []) (rest := []) ⟨hx, hb, hml, hown, hT⟩ (c_X8_layTried l G cA H.size aa S L  S_16 hc17) (cwV 0 hT (tq_gV kw_39_5 kw_39_6 kw_39_7 kw_1_5 kw_39_8) rfl rfl rfl (by decide +kernel) ⟨Nat.le_of_ble_eq_true rfl, Nat.le_of_ble_eq_true rfl⟩) ⟨(tw_pre tw_all hP hD hK hN).1, va_recv hK hP (ci := 8) (q0 := 0) rfl rfl, (tw_pre tw_all hP hD hK hN).2⟩ rfl rfl hl.1 rfl (lv_room (Nat.le_of_ble_eq_true rfl)) dX8_least_93 ⟨Nat.le_of_ble_eq_true rfl, Nat.le_of_ble_eq_true rfl⟩) (fun _ H locs z18 hP hD hS => ?_)
      rw [List.append_nil] at hP hD
      have hP : va_P G vwCl (wM cA aa S_16 L) H := hP
      have hD : va_D A (wM cA aa S_16 L) := hD
      refine lv_iconst (v := 0) hx hb dX8_least_96 (by decide) ?_
      refine lv_istore (lv' := [(5, .int 0), (0, .ref (aa 0)), (1, .int x1), (2, .int x2), (3, .int x3), (4, .int x4)]) hx hb dX8_least_97 hl (by decide) rfl (fun ls hl => ?_)
      exact w_X8_least_L99 F k79 hk79 2000 0 S_16 H locs ls h hP hD hS (lv_sub hl [1, 2, 3, 4, 5, 0] rfl)
set_option maxHeartbeats 4000000 in
set_option maxRecDepth 100000 in
theorem w_X8_least_L31 {p : Program} {l : Launch} {e : Env} {s : State} {m : MethodId} {below : List Frame} {meth : Method} {c : Code} {G : va_G} {cA : Nat → ClassId} {A : Nat → Prop} {aa : Nat → Nat} {x1₀ : Int32} {r0 : Int32} {S' : Tr} {L' : Lo} {L : Lo} {x1 : Int32} (F : tF p s m ([.ref (aa 0), .int x1₀] : List Value).toArray meth c G cA A RX8 cX8_least 7 (some .int))    (N : Nat) : ∀ (x2 : Int32) (x3 : Int32) (S : Tr) (H : Heap) (locs : List Loc) (ls : Array Slot), lpF (fun _ _ _ => none) (fB_X8_least_L31 L x1) N x2 x3 S = some (r0, S', L') → va_P G vwCl (wM cA aa S L) H → va_D A (wM cA aa S L) → va_S A s.heap H locs → lv_has ls 7 [(0, .ref (aa 0)), (1, .int x1), (2, .int x2), (3, .int x3)] → G_X8_least p l e s m below meth c G cA A aa x1₀ r0 S' L' H locs (F0 m 31 ls []) := by
  obtain ⟨hx, hb, hr, hml, hT, hown, hlocks, hK, hN, hA⟩ := id F
  induction N with
  | zero =>
    intro x2 x3 S H locs ls h
    have h : (none : Option (Int32 × Tr × Lo)) = some (r0, S', L') := h
    cases h
  | succ N hk31 =>
    intro x2 x3 S H locs ls h hP hD hS hl
    have h : fB_X8_least_L31 L x1 (lpF (fun _ _ _ => none) (fB_X8_least_L31 L x1) N) x2 x3 S = some (r0, S', L') := h
    generalize hk31e : lpF (fun _ _ _ => none) (fB_X8_least_L31 L x1) N = k31 at h hk31
    unfold fB_X8_least_L31 at h
    refine lv_iload_n hx hb dX8_least_31 rfl (lv_at hl 3 rfl) ?_
    refine lv_aload_n hx hb dX8_least_32 rfl (lv_at hl 0 rfl) ?_
    refine va_get (D := G) (ci := 8) (v := .int (S 0 14)) (C := RX8) (T := TX8) (N := 91) hx hb hT ku_8 hown hK hP 0 rfl rfl 14 (by decide) (hT _ kw_12_5) (fun _ h9 => h9) rfl dX8_least_33 ?_
    refine lv_icmp_ge (tgt := 74) hx hb dX8_least_36 (by decide) (fun c7 => ?_) (fun c7 => ?_)
    · have h := tx_pos c7 h
      refine lv_iconst (v := (-1)) hx hb dX8_least_74 (by decide) ?_
      refine lv_istore_n (lv' := [(3, .int (-1)), (0, .ref (aa 0)), (1, .int x1), (2, .int x2)]) hx hb dX8_least_75 rfl hl (by decide) rfl (fun ls hl => ?_)
      refine lv_iconst (v := 0) hx hb dX8_least_76 (by decide) ?_
      refine lv_istore (lv' := [(4, .int 0), (3, .int (-1)), (0, .ref (aa 0)), (1, .int x1), (2, .int x2)]) hx hb dX8_least_77 hl (by decide) rfl (fun ls hl => ?_)
      exact w_X8_least_L79 F 2000 (-1) 0 S L H locs ls h hP hD hS (lv_sub hl [2, 3, 4, 1, 0] rfl)
    · have h := tx_neg c7 h
      refine lv_aload_n hx hb dX8_least_39 rfl (lv_at hl 0 rfl) ?_
      refine lv_iload_n hx hb dX8_least_40 rfl (lv_at hl 3 rfl) ?_
      obtain ⟨r66, hc67, h⟩ := tx_bd h
      refine tw_ci tw_all hP hD hS hA (va_runV (As := [.int x3]) (rest := []) ⟨hx, hb, hml, hown, hT⟩ (c_X8_isComing l G cA H.size aa S L x3  r66 hc67) (cwV 1 hT (tq_gV kw_47_22 kw_47_23 kw_48_0 kw_1_5 kw_48_1) rfl rfl rfl (by decide +kernel) ⟨Nat.le_of_ble_eq_true rfl, Nat.le_of_ble_eq_true rfl⟩) ⟨(tw_pre tw_all hP hD hK hN).1, va_recv hK hP (ci := 8) (q0 := 0) rfl rfl, (tw_pre tw_all hP hD hK hN).2⟩ rfl rfl hl.1 rfl (lv_room (Nat.le_of_ble_eq_true rfl)) dX8_least_41 ⟨Nat.le_of_ble_eq_true rfl, Nat.le_of_ble_eq_true rfl⟩) (fun _ _ H locs z68 hP hD hS => ?_)
      subst z68
      rw [List.append_nil] at hP hD
      have hP : va_P G vwCl (wM cA aa S L) H := hP
      have hD : va_D A (wM cA aa S L) := hD
      refine lv_if_ne (tgt := 50) hx hb dX8_least_44 (by decide) (fun c69 => ?_) (fun c69 => ?_)
      · have h := tx_neg c69 h
        refine lv_iload_n hx hb dX8_least_50 rfl (lv_at hl 2 rfl) ?_
        refine lv_iconst (v := 4) hx hb dX8_least_51 (by decide) ?_
        refine lv_icmp_ne (tgt := 58) hx hb dX8_least_52 (by decide) (fun c70 => ?_) (fun c70 => ?_)
        · have h := tx_neg c70 h
          refine lv_aload_n hx hb dX8_least_58 rfl (lv_at hl 0 rfl) ?_
          refine va_get (D := G) (ci := 8) (v := .ref (aa 75)) (C := RX8) (T := TX8) (N := 91) hx hb hT ku_8 hown hK hP 0 rfl rfl 74 (by decide) (hT _ kw_11_2) (fun _ h9 => h9) rfl dX8_least_59 ?_
          refine lv_iload_n hx hb dX8_least_62 rfl (lv_at hl 2 rfl) ?_
          refine lv_iload_n hx hb dX8_least_63 rfl (lv_at hl 3 rfl) ?_
          obtain ⟨g71, h⟩ := tx_ck h
          refine va_iast (i := x2) hx hb hK hP hD hS 40 0 rfl rfl (tx_in g71) dX8_least_64 (fun H locs hP hD hS => ?_)
          obtain ⟨S_72, eS_72, h⟩ := tx_lt h
          rw [sM_a74, eS_72] at hP hD
          obtain ⟨y73, ey73, h⟩ := tx_lt h
          refine lv_iinc (v := y73) (lv' := [(2, .int y73), (0, .ref (aa 0)), (1, .int x1), (3, .int x3)]) hx hb dX8_least_65 hl (k := 2) rfl ey73 (by decide) rfl (fun ls hl => ?_)
          obtain ⟨y74, ey74, h⟩ := tx_lt h
          refine lv_iinc (v := y74) (lv' := [(3, .int y74), (2, .int y73), (0, .ref (aa 0)), (1, .int x1)]) hx hb dX8_least_68 hl (k := 3) rfl ey74 (by decide) rfl (fun ls hl => ?_)
          refine lv_goto (tgt := 31) hx hb dX8_least_71 (by decide) ?_
          exact hk31 y73 y74 S_72 H locs ls h hP hD hS (lv_sub hl [2, 3, 1, 0] rfl)
        · have h := tx_pos c70 h
          refine lv_bipush (v := (-4)) hx hb dX8_least_55 (by decide) ?_
          obtain ⟨rfl, rfl, rfl⟩ := tx_3 h
          exact W.iret hx hb hr (fun t ht hW => ⟨⟨_, (), rfl, rfl, by rw [ht]; exact hP, hD⟩, hS.F ht⟩) hS.2.2 dX8_least_57
      · have h := tx_pos c69 h
        refine lv_goto (tgt := 68) hx hb dX8_least_47 (by decide) ?_
        obtain ⟨y75, ey75, h⟩ := tx_lt h
        refine lv_iinc (v := y75) (lv' := [(3, .int y75), (0, .ref (aa 0)), (1, .int x1), (2, .int x2)]) hx hb dX8_least_68 hl (k := 3) rfl ey75 (by decide) rfl (fun ls hl => ?_)
        refine lv_goto (tgt := 31) hx hb dX8_least_71 (by decide) ?_
        exact hk31 x2 y75 S H locs ls h hP hD hS (lv_sub hl [1, 2, 3, 0] rfl)
set_option maxHeartbeats 4000000 in
set_option maxRecDepth 100000 in
theorem c_X8_least (l : Launch) (G : va_G) (cA : Nat → ClassId) (sz : Nat) (aa : Nat → Nat) (S : Tr) (L : Lo) (x1 : Int32)  (r0 : Int32) (S' : Tr) (L' : Lo) (h : f_X8_least S L x1 = some (r0, S', L')) : Met l yX8_least (.code yX8_least cX8_least 7 (some .int) :: T0) ({ frames := 9, cells := 0, slots := 0, locals := 211 } : Room) (tqP G cA [.ref (aa 0), .int x1] (wM cA aa S L) sz) (tqQi G cA (fun (r : Int32) (_ : Unit) => r = r0) (fun (_ : Unit) => wM cA aa S' L') (va_A (wM cA aa S L) sz)) 0 0 (va_A (wM cA aa S L) sz) := by
  refine Met.ofW (cc := cX8_least) (maxL := 7) (ret := (some .int)) (by decide) rfl ?_
  intro p e s m args below meth c s₁ B hml hv
  obtain ⟨rfl, hsz, hP, hK, hD0, hN⟩ := hv
  have hx := B.exec
  have hb := B.bytes
  have hr := B.returns
  have hts := atoms_spec (ws := .code yX8_least cX8_least 7 (some .int) :: T0) B.pre
  have hT : ∀ w ∈ T0, w.before _ s = true := fun w h => hts w (List.mem_cons_of_mem _ h)
  have hown : s.vm.findClass RX8 = some m.cls := findClass_of_methodNamed B.named
  have hlocks := B.notSynchronized
  subst hsz
  have hD := hD0.self (sz := s.heap.size)
  generalize hAe : va_A (wM cA aa S L) s.heap.size = A at hD ⊢
  have hA : ∀ q : Nat, s.heap.size ≤ q → A q := fun q h => by rw [← hAe]; exact Or.inr h
  have hS : va_S A s.heap s.heap [] := va_S.rf
  have hl := lv_entry ([.ref (aa 0), .int x1]) (n := 7) (Nat.le_of_ble_eq_true rfl)
  rw [lg_entry_eq]
  generalize (lg_sl ([.ref (aa 0), .int x1]) ++ List.replicate (7 - (lg_sl ([.ref (aa 0), .int x1])).length) Slot.unset).toArray = ls at hl ⊢
  have hl : lv_has ls 7 [(0, .ref (aa 0)), (1, .int x1)] := hl
  have F : tF p s m ([.ref (aa 0), .int x1] : List Value).toArray meth c G cA A RX8 cX8_least 7 (some .int) := ⟨hx, hb, hr, hml, hT, hown, hlocks, hK, hN, hA⟩
  obtain ⟨H, hH⟩ : ∃ z, z = s.heap := ⟨_, rfl⟩
  rw [← hH] at hP
  have hS : va_S A s.heap H [] := by rw [hH]; exact hS
  suffices hgo : G_X8_least p l e s m below meth c G cA A aa x1 r0 S' L' H [] (F0 m 0 ls []) by rw [hH] at hgo; exact hgo
  generalize ([] : List Loc) = locs at hS ⊢
  unfold f_X8_least at h
  refine lv_aload_n hx hb dX8_least_0 rfl (lv_at hl 0 rfl) ?_
  refine lv_iconst (v := 0) hx hb dX8_least_1 (by decide) ?_
  refine va_put (D := G) (ci := 8) (v := .int 0) (ty := .int) (C := RX8) (T := TX8) (N := 91) hx hb hT ku_8 tyX8 tyX8_ok nmX8 hown hK hP hD hS 0 rfl rfl 2 (by decide) (hT _ kw_14_0) (fun _ h9 => h9) rfl (by decide +kernel) rfl rfl (Nat.le_of_ble_eq_true rfl) dX8_least_2 (fun H locs hP hD hS => ?_)
  obtain ⟨S_1, eS_1, h⟩ := tx_lt h
  rw [sM_f2, eS_1] at hP hD
  refine lv_iload_n hx hb dX8_least_5 rfl (lv_at hl 1 rfl) ?_
  refine lv_iconst (v := 0) hx hb dX8_least_6 (by decide) ?_
  refine lv_iconst (v := 4) hx hb dX8_least_7 (by decide) ?_
  obtain ⟨r2, hc3, h⟩ := tx_bd h
  refine tw_ci (tw_none (ws := wM cA aa S_1 L)) hP hD hS hA (va_runS (As := [.int x1, .int 0, .int 4]) (rest := []) ⟨hx, hb, hml, hown, hT⟩ (c_X8_isIn l G cA H.size x1 (0 : Int32) (4 : Int32)  r2 hc3) (va_cwS 3 hT (tq_gS kw_24_11 kw_24_12 kw_1_5 kw_24_13) rfl rfl rfl (by decide +kernel) ⟨Nat.le_of_ble_eq_true rfl, Nat.le_of_ble_eq_true rfl⟩) (tw_pre (tw_none (ws := wM cA aa S_1 L)) hP hD hK hN) rfl rfl hl.1 rfl (lv_room (Nat.le_of_ble_eq_true rfl)) dX8_least_8 ⟨Nat.le_of_ble_eq_true rfl, Nat.le_of_ble_eq_true rfl⟩) (fun _ _ H locs z4 hP hD hS => ?_)
  subst z4
  have hP : va_P G vwCl (wM cA aa S_1 L) H := hP
  have hD : va_D A (wM cA aa S_1 L) := hD
  refine lv_if_eq (tgt := 25) hx hb dX8_least_11 (by decide) (fun c5 => ?_) (fun c5 => ?_)
  · have h := tx_pos c5 h
    refine lv_iconst (v := (-1)) hx hb dX8_least_25 (by decide) ?_
    obtain ⟨rfl, rfl, rfl⟩ := tx_3 h
    exact W.iret hx hb hr (fun t ht hW => ⟨⟨_, (), rfl, rfl, by rw [ht]; exact hP, hD⟩, hS.F ht⟩) hS.2.2 dX8_least_26
  · have h := tx_neg c5 h
    refine lv_aload_n hx hb dX8_least_14 rfl (lv_at hl 0 rfl) ?_
    refine va_get (D := G) (ci := 8) (v := .ref (aa 62)) (C := RX8) (T := TX8) (N := 91) hx hb hT ku_8 hown hK hP 0 rfl rfl 61 (by decide) (hT _ kw_10_22) (fun _ h9 => h9) rfl dX8_least_15 ?_
    refine lv_iconst (v := 0) hx hb dX8_least_18 (by decide) ?_
    refine va_iald (i := 0) hx hb hK hP 36 0 rfl rfl (tq_in (by decide)) dX8_least_19 ?_
    refine tq_i (w := (S_1 62 0)) rfl ?_
    refine lv_bipush (v := 21) hx hb dX8_least_20 (by decide) ?_
    refine lv_icmp_lt (tgt := 27) hx hb dX8_least_22 (by decide) (fun c6 => ?_) (fun c6 => ?_)
    · have h := tx_pos c6 h
      refine lv_iconst (v := 0) hx hb dX8_least_27 (by decide) ?_
      refine lv_istore_n (lv' := [(2, .int 0), (0, .ref (aa 0)), (1, .int x1)]) hx hb dX8_least_28 rfl hl (by decide) rfl (fun ls hl => ?_)
      refine lv_iconst (v := 0) hx hb dX8_least_29 (by decide) ?_
      refine lv_istore_n (lv' := [(3, .int 0), (2, .int 0), (0, .ref (aa 0)), (1, .int x1)]) hx hb dX8_least_30 rfl hl (by decide) rfl (fun ls hl => ?_)
      exact w_X8_least_L31 F 2000 0 0 S_1 H locs ls h hP hD hS (lv_sub hl [2, 3, 1, 0] rfl)
    · have h := tx_neg c6 h
      refine lv_iconst (v := (-1)) hx hb dX8_least_25 (by decide) ?_
      obtain ⟨rfl, rfl, rfl⟩ := tx_3 h
      exact W.iret hx hb hr (fun t ht hW => ⟨⟨_, (), rfl, rfl, by rw [ht]; exact hP, hD⟩, hS.F ht⟩) hS.2.2 dX8_least_26
abbrev G_X8_signs (p : Program) (l : Launch) (e : Env) (s : State) (m : MethodId) (below : List Frame) (meth : Method) (c : Code) (G : va_G) (cA : Nat → ClassId) (A : Nat → Prop) (aa : Nat → Nat) (L : Lo) (r0 : Int32) (S' : Tr) (H : Heap) (locs : List Loc) (g : JFrame) : Prop := W p l e (headSpec (.code yX8_signs cX8_signs 2 (some .boolean) :: T0) ({ frames := 2, cells := 0, slots := 0, locals := 47 } : Room)).room s m ([.ref (aa 0)] : List Value).toArray below meth c H locs 0 0 (MQ below (tqQi G cA (fun (r : Int32) (_ : Unit) => r = r0) (fun (_ : Unit) => wM cA aa S' L) A) ([.ref (aa 0)] : List Value).toArray s 0 0 A) g
set_option maxHeartbeats 4000000 in
set_option maxRecDepth 100000 in
theorem w_X8_signs_J250 {p : Program} {l : Launch} {e : Env} {s : State} {m : MethodId} {below : List Frame} {meth : Method} {c : Code} {G : va_G} {cA : Nat → ClassId} {A : Nat → Prop} {aa : Nat → Nat} {L : Lo} {r0 : Int32} {S' : Tr} (F : tF p s m ([.ref (aa 0)] : List Value).toArray meth c G cA A RX8 cX8_signs 2 (some .boolean))    (s0 : Int32) (S : Tr) (H : Heap) (locs : List Loc) (ls : Array Slot) (h : fJ_X8_signs_J250 s0 S = some (r0, S')) (hP : va_P G vwCl (wM cA aa S_60 L) H) (hD : va_D A (wM cA aa S_60 L)) (hS : va_S A s.heap H locs) (hl : lv_has ls 2 [(0, .ref (aa 0))]) : G_X8_signs p l e s m below meth c G cA A aa L r0 S' H locs (F0 m 250 ls []) := by
  obtain ⟨hx, hb, hr, hml, hT, hown, hlocks, hK, hN, hA⟩ := id F
  unfold fJ_X8_signs_J250 at h
  obtain ⟨g58, h⟩ := tx_ck h
  refine va_put (D := G) (ci := 8) (v := .int s0) (ty := .boolean) (C := RX8) (T := TX8) (N := 91) hx hb hT ku_8 tyX8 tyX8_ok nmX8 hown hK hP hD hS 0 rfl rfl 48 (by decide) (hT _ kw_25_17) (fun _ h9 => h9) rfl (by decide +kernel) (tx_z g58) rfl (Nat.le_of_ble_eq_true rfl) dX8_signs_250 (fun H locs hP hD hS => ?_)
  obtain ⟨S_59, eS_59, h⟩ := tx_lt h
  rw [sM_f48, eS_59] at hP hD
  refine lv_aload_n hx hb dX8_signs_253 rfl (lv_at hl 0 rfl) ?_
  obtain ⟨S_60, hc61, h⟩ := tx_bd h
  refine tw_cv tw_all hP hD hS hA (va_runV (As := []) (rest := []) ⟨hx, hb, hml, hown, hT⟩ (c_X8_token l G cA H.size aa S_59 L  S_60 hc61) (cwV 0 hT (tq_gV kw_22_15 kw_22_16 kw_22_17 kw_1_5 kw_22_18) rfl rfl rfl (by decide +kernel) ⟨Nat.le_of_ble_eq_true rfl, Nat.le_of_ble_eq_true rfl⟩) ⟨(tw_pre tw_all hP hD hK hN).1, va_recv hK hP (ci := 8) (q0 := 0) rfl rfl, (tw_pre tw_all hP hD hK hN).2⟩ rfl rfl hl.1 rfl (lv_room (Nat.le_of_ble_eq_true rfl)) dX8_signs_254 ⟨Nat.le_of_ble_eq_true rfl, Nat.le_of_ble_eq_true rfl⟩) (fun _ H locs z62 hP hD hS => ?_)
  rw [List.append_nil] at hP hD
  have hP : va_P G vwCl (wM cA aa S_60 L) H := hP
  have hD : va_D A (wM cA aa S_60 L) := hD
  refine lv_iconst (v := 1) hx hb dX8_signs_257 (by decide) ?_
  obtain ⟨rfl, rfl⟩ := tx_2 h
  exact W.zret (ty := .boolean) hx hb hr rfl (fun t ht hW => ⟨⟨_, (), rfl, rfl, by rw [ht]; exact hP, hD⟩, hS.F ht⟩) hS.2.2 dX8_signs_258
set_option maxHeartbeats 4000000 in
set_option maxRecDepth 100000 in
theorem w_X8_signs_J217 {p : Program} {l : Launch} {e : Env} {s : State} {m : MethodId} {below : List Frame} {meth : Method} {c : Code} {G : va_G} {cA : Nat → ClassId} {A : Nat → Prop} {aa : Nat → Nat} {L : Lo} {r0 : Int32} {S' : Tr} (F : tF p s m ([.ref (aa 0)] : List Value).toArray meth c G cA A RX8 cX8_signs 2 (some .boolean))    (x1 : Int32) (S : Tr) (H : Heap) (locs : List Loc) (ls : Array Slot) (h : fJ_X8_signs_J217 x1 S = some (r0, S')) (hP : va_P G vwCl (wM cA aa S_46 L) H) (hD : va_D A (wM cA aa S_46 L)) (hS : va_S A s.heap H locs) (hl : lv_has ls 2 [(0, .ref (aa 0)), (1, .int x1)]) : G_X8_signs p l e s m below meth c G cA A aa L r0 S' H locs (F0 m 217 ls []) := by
  obtain ⟨hx, hb, hr, hml, hT, hown, hlocks, hK, hN, hA⟩ := id F
  unfold fJ_X8_signs_J217 at h
  refine lv_aload_n hx hb dX8_signs_217 rfl (lv_at hl 0 rfl) ?_
  obtain ⟨⟨r45, S_46⟩, hc47, h⟩ := tx_bd h
  replace h := tx_let (y := r45) rfl h
  replace h := tx_let (y := S_46) rfl h
  refine tw_ci tw_all hP hD hS hA (va_runV (As := []) (rest := []) ⟨hx, hb, hml, hown, hT⟩ (c_X8_isCounted l G cA H.size aa S L  r45 S_46 hc47) (cwV 0 hT (tq_gV kw_26_10 kw_26_11 kw_26_12 kw_1_5 kw_26_13) rfl rfl rfl (by decide +kernel) ⟨Nat.le_of_ble_eq_true rfl, Nat.le_of_ble_eq_true rfl⟩) ⟨(tw_pre tw_all hP hD hK hN).1, va_recv hK hP (ci := 8) (q0 := 0) rfl rfl, (tw_pre tw_all hP hD hK hN).2⟩ rfl rfl hl.1 rfl (lv_room (Nat.le_of_ble_eq_true rfl)) dX8_signs_218 ⟨Nat.le_of_ble_eq_true rfl, Nat.le_of_ble_eq_true rfl⟩) (fun _ _ H locs z48 hP hD hS => ?_)
  subst z48
  rw [List.append_nil] at hP hD
  have hP : va_P G vwCl (wM cA aa S_46 L) H := hP
  have hD : va_D A (wM cA aa S_46 L) := hD
  refine lv_if_ne (tgt := 226) hx hb dX8_signs_221 (by decide) (fun c49 => ?_) (fun c49 => ?_)
  · have h := tx_neg c49 h
    refine lv_aload_n hx hb dX8_signs_226 rfl (lv_at hl 0 rfl) ?_
    refine lv_iload_n hx hb dX8_signs_227 rfl (lv_at hl 1 rfl) ?_
    obtain ⟨S_50, hc51, h⟩ := tx_bd h
    refine tw_cv tw_all hP hD hS hA (va_runV (As := [.int x1]) (rest := []) ⟨hx, hb, hml, hown, hT⟩ (c_X8_waitsFor l G cA H.size aa S_46 L x1  S_50 hc51) (cwV 1 hT (tq_gV kw_26_2 kw_26_3 kw_26_4 kw_1_5 kw_26_5) rfl rfl rfl (by decide +kernel) ⟨Nat.le_of_ble_eq_true rfl, Nat.le_of_ble_eq_true rfl⟩) ⟨(tw_pre tw_all hP hD hK hN).1, va_recv hK hP (ci := 8) (q0 := 0) rfl rfl, (tw_pre tw_all hP hD hK hN).2⟩ rfl rfl hl.1 rfl (lv_room (Nat.le_of_ble_eq_true rfl)) dX8_signs_228 ⟨Nat.le_of_ble_eq_true rfl, Nat.le_of_ble_eq_true rfl⟩) (fun _ H locs z52 hP hD hS => ?_)
    rw [List.append_nil] at hP hD
    have hP : va_P G vwCl (wM cA aa S_50 L) H := hP
    have hD : va_D A (wM cA aa S_50 L) := hD
    refine lv_aload_n hx hb dX8_signs_231 rfl (lv_at hl 0 rfl) ?_
    refine lv_iconst (v := 1) hx hb dX8_signs_232 (by decide) ?_
    refine va_put (D := G) (ci := 8) (v := .int 1) (ty := .boolean) (C := RX8) (T := TX8) (N := 91) hx hb hT ku_8 tyX8 tyX8_ok nmX8 hown hK hP hD hS 0 rfl rfl 47 (by decide) (hT _ kw_25_16) (fun _ h9 => h9) rfl (by decide +kernel) rfl rfl (Nat.le_of_ble_eq_true rfl) dX8_signs_233 (fun H locs hP hD hS => ?_)
    obtain ⟨S_53, eS_53, h⟩ := tx_lt h
    rw [sM_f47, eS_53] at hP hD
    refine lv_aload_n hx hb dX8_signs_236 rfl (lv_at hl 0 rfl) ?_
    refine lv_iload_n hx hb dX8_signs_237 rfl (lv_at hl 1 rfl) ?_
    obtain ⟨r54, hc55, h⟩ := tx_bd h
    refine tw_ci (tw_none (ws := wM cA aa S_53 L)) hP hD hS hA (va_runS (As := [.int x1]) (rest := [.ref (aa 0)]) ⟨hx, hb, hml, hown, hT⟩ (c_X8_rank l G cA H.size x1  r54 hc55) (va_cwS 1 hT (tq_gS kw_27_6 kw_27_7 kw_1_5 kw_27_8) rfl rfl rfl (by decide +kernel) ⟨Nat.le_of_ble_eq_true rfl, Nat.le_of_ble_eq_true rfl⟩) (tw_pre (tw_none (ws := wM cA aa S_53 L)) hP hD hK hN) rfl rfl hl.1 rfl (lv_room (Nat.le_of_ble_eq_true rfl)) dX8_signs_238 ⟨Nat.le_of_ble_eq_true rfl, Nat.le_of_ble_eq_true rfl⟩) (fun _ _ H locs z56 hP hD hS => ?_)
    subst z56
    have hP : va_P G vwCl (wM cA aa S_53 L) H := hP
    have hD : va_D A (wM cA aa S_53 L) := hD
    refine lv_iconst (v := 3) hx hb dX8_signs_241 (by decide) ?_
    refine lv_icmp_ge (tgt := 249) hx hb dX8_signs_242 (by decide) (fun c57 => ?_) (fun c57 => ?_)
    · have h := tx_pos c57 h
      refine lv_iconst (v := 0) hx hb dX8_signs_249 (by decide) ?_
      exact w_X8_signs_J250 F 0 S_53 H locs ls h hP hD hS (lv_sub hl [0] rfl)
    · have h := tx_neg c57 h
      refine lv_iconst (v := 1) hx hb dX8_signs_245 (by decide) ?_
      refine lv_goto (tgt := 250) hx hb dX8_signs_246 (by decide) ?_
      exact w_X8_signs_J250 F 1 S_53 H locs ls h hP hD hS (lv_sub hl [0] rfl)
  · have h := tx_pos c49 h
    refine lv_iconst (v := 0) hx hb dX8_signs_224 (by decide) ?_
    obtain ⟨rfl, rfl⟩ := tx_2 h
    exact W.zret (ty := .boolean) hx hb hr rfl (fun t ht hW => ⟨⟨_, (), rfl, rfl, by rw [ht]; exact hP, hD⟩, hS.F ht⟩) hS.2.2 dX8_signs_225
set_option maxHeartbeats 4000000 in
set_option maxRecDepth 100000 in
theorem w_X8_signs_J175 {p : Program} {l : Launch} {e : Env} {s : State} {m : MethodId} {below : List Frame} {meth : Method} {c : Code} {G : va_G} {cA : Nat → ClassId} {A : Nat → Prop} {aa : Nat → Nat} {L : Lo} {r0 : Int32} {S' : Tr} (F : tF p s m ([.ref (aa 0)] : List Value).toArray meth c G cA A RX8 cX8_signs 2 (some .boolean))    (x1 : Int32) (s0 : Int32) (S : Tr) (H : Heap) (locs : List Loc) (ls : Array Slot) (h : fJ_X8_signs_J175 x1 s0 S = some (r0, S')) (hP : va_P G vwCl (wM cA aa S_38 L) H) (hD : va_D A (wM cA aa S_38 L)) (hS : va_S A s.heap H locs) (hl : lv_has ls 2 [(0, .ref (aa 0)), (1, .int x1)]) : G_X8_signs p l e s m below meth c G cA A aa L r0 S' H locs (F0 m 175 ls []) := by
  obtain ⟨hx, hb, hr, hml, hT, hown, hlocks, hK, hN, hA⟩ := id F
  unfold fJ_X8_signs_J175 at h
  obtain ⟨S_38, hc39, h⟩ := tx_bd h
  refine tw_cv tw_all hP hD hS hA (va_runV (As := [.int s0]) (rest := []) ⟨hx, hb, hml, hown, hT⟩ (c_X8_bind l G cA H.size aa S L s0  S_38 hc39) (cwV 1 hT (tq_gV kw_27_2 kw_27_3 kw_27_4 kw_1_5 kw_27_5) rfl rfl rfl (by decide +kernel) ⟨Nat.le_of_ble_eq_true rfl, Nat.le_of_ble_eq_true rfl⟩) ⟨(tw_pre tw_all hP hD hK hN).1, va_recv hK hP (ci := 8) (q0 := 0) rfl rfl, (tw_pre tw_all hP hD hK hN).2⟩ rfl rfl hl.1 rfl (lv_room (Nat.le_of_ble_eq_true rfl)) dX8_signs_175 ⟨Nat.le_of_ble_eq_true rfl, Nat.le_of_ble_eq_true rfl⟩) (fun _ H locs z40 hP hD hS => ?_)
  rw [List.append_nil] at hP hD
  have hP : va_P G vwCl (wM cA aa S_38 L) H := hP
  have hD : va_D A (wM cA aa S_38 L) := hD
  refine lv_iload_n hx hb dX8_signs_178 rfl (lv_at hl 1 rfl) ?_
  obtain ⟨r41, hc42, h⟩ := tx_bd h
  refine tw_ci (tw_none (ws := wM cA aa S_38 L)) hP hD hS hA (va_runS (As := [.int x1]) (rest := []) ⟨hx, hb, hml, hown, hT⟩ (c_X8_rank l G cA H.size x1  r41 hc42) (va_cwS 1 hT (tq_gS kw_27_6 kw_27_7 kw_1_5 kw_27_8) rfl rfl rfl (by decide +kernel) ⟨Nat.le_of_ble_eq_true rfl, Nat.le_of_ble_eq_true rfl⟩) (tw_pre (tw_none (ws := wM cA aa S_38 L)) hP hD hK hN) rfl rfl hl.1 rfl (lv_room (Nat.le_of_ble_eq_true rfl)) dX8_signs_179 ⟨Nat.le_of_ble_eq_true rfl, Nat.le_of_ble_eq_true rfl⟩) (fun _ _ H locs z43 hP hD hS => ?_)
  subst z43
  have hP : va_P G vwCl (wM cA aa S_38 L) H := hP
  have hD : va_D A (wM cA aa S_38 L) := hD
  refine lv_iconst (v := 4) hx hb dX8_signs_182 (by decide) ?_
  refine lv_icmp_ne (tgt := 217) hx hb dX8_signs_183 (by decide) (fun c44 => ?_) (fun c44 => ?_)
  · have h := tx_neg c44 h
    exact w_X8_signs_J217 F x1 S_38 H locs ls h hP hD hS (lv_sub hl [0, 1] rfl)
  · have h := tx_pos c44 h
    refine lv_aload_n hx hb dX8_signs_186 rfl (lv_at hl 0 rfl) ?_
    refine va_get (D := G) (ci := 8) (v := .int (S_38 0 43)) (C := RX8) (T := TX8) (N := 91) hx hb hT ku_8 hown hK hP 0 rfl rfl 43 (by decide) (hT _ kw_25_13) (fun _ h9 => h9) rfl dX8_signs_187 ?_
    refine lv_if_le (tgt := 217) hx hb dX8_signs_190 (by decide) (fun c63 => ?_) (fun c63 => ?_)
    · have h := tx_pos c63 h
      exact w_X8_signs_J217 F x1 S_38 H locs ls h hP hD hS (lv_sub hl [0, 1] rfl)
    · have h := tx_neg c63 h
      refine lv_aload_n hx hb dX8_signs_193 rfl (lv_at hl 0 rfl) ?_
      refine va_get (D := G) (ci := 8) (v := .ref (aa 42)) (C := RX8) (T := TX8) (N := 91) hx hb hT ku_8 hown hK hP 0 rfl rfl 41 (by decide) (hT _ kw_10_9) (fun _ h9 => h9) rfl dX8_signs_194 ?_
      refine lv_aload_n hx hb dX8_signs_197 rfl (lv_at hl 0 rfl) ?_
      refine va_get (D := G) (ci := 8) (v := .int (S_38 0 43)) (C := RX8) (T := TX8) (N := 91) hx hb hT ku_8 hown hK hP 0 rfl rfl 43 (by decide) (hT _ kw_25_13) (fun _ h9 => h9) rfl dX8_signs_198 ?_
      refine lv_iconst (v := 1) hx hb dX8_signs_201 (by decide) ?_
      refine lv_isub hx hb dX8_signs_202 ?_
      obtain ⟨g64, h⟩ := tx_ck h
      refine va_iald (i := ((S_38 0 43) - 1)) hx hb hK hP 23 0 rfl rfl (tx_in g64) dX8_signs_203 ?_
      obtain ⟨r65, hc66, h⟩ := tx_bd h
      refine tw_ci (tw_none (ws := wM cA aa S_38 L)) hP hD hS hA (va_runS (As := [.int (S_38 42 ((S_38 0 43) - 1).toNatClampNeg)]) (rest := []) ⟨hx, hb, hml, hown, hT⟩ (c_X8_rank l G cA H.size (S_38 42 ((S_38 0 43) - 1).toNatClampNeg)  r65 hc66) (va_cwS 1 hT (tq_gS kw_27_6 kw_27_7 kw_1_5 kw_27_8) rfl rfl rfl (by decide +kernel) ⟨Nat.le_of_ble_eq_true rfl, Nat.le_of_ble_eq_true rfl⟩) (tw_pre (tw_none (ws := wM cA aa S_38 L)) hP hD hK hN) rfl rfl hl.1 rfl (lv_room (Nat.le_of_ble_eq_true rfl)) dX8_signs_204 ⟨Nat.le_of_ble_eq_true rfl, Nat.le_of_ble_eq_true rfl⟩) (fun _ _ H locs z67 hP hD hS => ?_)
      subst z67
      have hP : va_P G vwCl (wM cA aa S_38 L) H := hP
      have hD : va_D A (wM cA aa S_38 L) := hD
      refine lv_iconst (v := 4) hx hb dX8_signs_207 (by decide) ?_
      refine lv_icmp_ne (tgt := 217) hx hb dX8_signs_208 (by decide) (fun c68 => ?_) (fun c68 => ?_)
      · have h := tx_neg c68 h
        exact w_X8_signs_J217 F x1 S_38 H locs ls h hP hD hS (lv_sub hl [0, 1] rfl)
      · have h := tx_pos c68 h
        refine lv_aload_n hx hb dX8_signs_211 rfl (lv_at hl 0 rfl) ?_
        refine lv_iconst (v := 1) hx hb dX8_signs_212 (by decide) ?_
        obtain ⟨⟨r69, S_70⟩, hc71, h⟩ := tx_bd h
        replace h := tx_let (y := r69) rfl h
        replace h := tx_let (y := S_70) rfl h
        refine tw_ci tw_all hP hD hS hA (va_runV (As := [.int 1]) (rest := []) ⟨hx, hb, hml, hown, hT⟩ (c_X8_wrong l G cA H.size aa S_38 L (1 : Int32)  r69 S_70 hc71) (cwV 1 hT (tq_gV kw_23_23 kw_24_0 kw_24_1 kw_1_5 kw_24_2) rfl rfl rfl (by decide +kernel) ⟨Nat.le_of_ble_eq_true rfl, Nat.le_of_ble_eq_true rfl⟩) ⟨(tw_pre tw_all hP hD hK hN).1, va_recv hK hP (ci := 8) (q0 := 0) rfl rfl, (tw_pre tw_all hP hD hK hN).2⟩ rfl rfl hl.1 rfl (lv_room (Nat.le_of_ble_eq_true rfl)) dX8_signs_213 ⟨Nat.le_of_ble_eq_true rfl, Nat.le_of_ble_eq_true rfl⟩) (fun _ _ H locs z72 hP hD hS => ?_)
        subst z72
        rw [List.append_nil] at hP hD
        have hP : va_P G vwCl (wM cA aa S_70 L) H := hP
        have hD : va_D A (wM cA aa S_70 L) := hD
        obtain ⟨g73, h⟩ := tx_ck h
        obtain ⟨rfl, rfl⟩ := tx_2 h
        exact W.zret (ty := .boolean) hx hb hr (tx_z g73) (fun t ht hW => ⟨⟨_, (), rfl, rfl, by rw [ht]; exact hP, hD⟩, hS.F ht⟩) hS.2.2 dX8_signs_216
set_option maxHeartbeats 4000000 in
set_option maxRecDepth 100000 in
theorem w_X8_signs_J147 {p : Program} {l : Launch} {e : Env} {s : State} {m : MethodId} {below : List Frame} {meth : Method} {c : Code} {G : va_G} {cA : Nat → ClassId} {A : Nat → Prop} {aa : Nat → Nat} {L : Lo} {r0 : Int32} {S' : Tr} (F : tF p s m ([.ref (aa 0)] : List Value).toArray meth c G cA A RX8 cX8_signs 2 (some .boolean))    (s0 : Int32) (S : Tr) (H : Heap) (locs : List Loc) (ls : Array Slot) (h : fJ_X8_signs_J147 s0 S = some (r0, S')) (hP : va_P G vwCl (wM cA aa S L) H) (hD : va_D A (wM cA aa S L)) (hS : va_S A s.heap H locs) (hl : lv_has ls 2 [(1, .int s0), (0, .ref (aa 0))]) : G_X8_signs p l e s m below meth c G cA A aa L r0 S' H locs (F0 m 147 ls []) := by
  obtain ⟨hx, hb, hr, hml, hT, hown, hlocks, hK, hN, hA⟩ := id F
  unfold fJ_X8_signs_J147 at h
  refine lv_istore_n (lv' := [(1, .int s0), (0, .ref (aa 0))]) hx hb dX8_signs_147 rfl hl (by decide) rfl (fun ls hl => ?_)
  refine lv_iload_n hx hb dX8_signs_148 rfl (lv_at hl 0 rfl) ?_
  refine lv_if_ne (tgt := 158) hx hb dX8_signs_149 (by decide) (fun c30 => ?_) (fun c30 => ?_)
  · have h := tx_neg c30 h
    refine lv_aload_n hx hb dX8_signs_158 rfl (lv_at hl 1 rfl) ?_
    refine lv_iload_n hx hb dX8_signs_159 rfl (lv_at hl 0 rfl) ?_
    obtain ⟨r31, hc32, h⟩ := tx_bd h
    refine tw_ci (tw_none (ws := wM cA aa S L)) hP hD hS hA (va_runS (As := [.int s0]) (rest := [.ref (aa 0)]) ⟨hx, hb, hml, hown, hT⟩ (c_X8_rank l G cA H.size s0  r31 hc32) (va_cwS 1 hT (tq_gS kw_27_6 kw_27_7 kw_1_5 kw_27_8) rfl rfl rfl (by decide +kernel) ⟨Nat.le_of_ble_eq_true rfl, Nat.le_of_ble_eq_true rfl⟩) (tw_pre (tw_none (ws := wM cA aa S L)) hP hD hK hN) rfl rfl hl.1 rfl (lv_room (Nat.le_of_ble_eq_true rfl)) dX8_signs_160 ⟨Nat.le_of_ble_eq_true rfl, Nat.le_of_ble_eq_true rfl⟩) (fun _ _ H locs z33 hP hD hS => ?_)
    subst z33
    have hP : va_P G vwCl (wM cA aa S L) H := hP
    have hD : va_D A (wM cA aa S L) := hD
    refine lv_iconst (v := 4) hx hb dX8_signs_163 (by decide) ?_
    refine lv_icmp_ne (tgt := 171) hx hb dX8_signs_164 (by decide) (fun c34 => ?_) (fun c34 => ?_)
    · have h := tx_neg c34 h
      refine lv_iload_n hx hb dX8_signs_171 rfl (lv_at hl 0 rfl) ?_
      obtain ⟨r35, hc36, h⟩ := tx_bd h
      refine tw_ci (tw_none (ws := wM cA aa S L)) hP hD hS hA (va_runS (As := [.int s0]) (rest := [.ref (aa 0)]) ⟨hx, hb, hml, hown, hT⟩ (c_X8_rank l G cA H.size s0  r35 hc36) (va_cwS 1 hT (tq_gS kw_27_6 kw_27_7 kw_1_5 kw_27_8) rfl rfl rfl (by decide +kernel) ⟨Nat.le_of_ble_eq_true rfl, Nat.le_of_ble_eq_true rfl⟩) (tw_pre (tw_none (ws := wM cA aa S L)) hP hD hK hN) rfl rfl hl.1 rfl (lv_room (Nat.le_of_ble_eq_true rfl)) dX8_signs_172 ⟨Nat.le_of_ble_eq_true rfl, Nat.le_of_ble_eq_true rfl⟩) (fun _ _ H locs z37 hP hD hS => ?_)
      subst z37
      have hP : va_P G vwCl (wM cA aa S L) H := hP
      have hD : va_D A (wM cA aa S L) := hD
      exact w_X8_signs_J175 F s0 r35 S H locs ls h hP hD hS (lv_sub hl [1, 0] rfl)
    · have h := tx_pos c34 h
      refine lv_iconst (v := 5) hx hb dX8_signs_167 (by decide) ?_
      refine lv_goto (tgt := 175) hx hb dX8_signs_168 (by decide) ?_
      exact w_X8_signs_J175 F s0 5 S H locs ls h hP hD hS (lv_sub hl [1, 0] rfl)
  · have h := tx_pos c30 h
    refine lv_aload_n hx hb dX8_signs_152 rfl (lv_at hl 1 rfl) ?_
    refine lv_iconst (v := 1) hx hb dX8_signs_153 (by decide) ?_
    obtain ⟨⟨r74, S_75⟩, hc76, h⟩ := tx_bd h
    replace h := tx_let (y := r74) rfl h
    replace h := tx_let (y := S_75) rfl h
    refine tw_ci tw_all hP hD hS hA (va_runV (As := [.int 1]) (rest := []) ⟨hx, hb, hml, hown, hT⟩ (c_X8_wrong l G cA H.size aa S L (1 : Int32)  r74 S_75 hc76) (cwV 1 hT (tq_gV kw_23_23 kw_24_0 kw_24_1 kw_1_5 kw_24_2) rfl rfl rfl (by decide +kernel) ⟨Nat.le_of_ble_eq_true rfl, Nat.le_of_ble_eq_true rfl⟩) ⟨(tw_pre tw_all hP hD hK hN).1, va_recv hK hP (ci := 8) (q0 := 0) rfl rfl, (tw_pre tw_all hP hD hK hN).2⟩ rfl rfl hl.1 rfl (lv_room (Nat.le_of_ble_eq_true rfl)) dX8_signs_154 ⟨Nat.le_of_ble_eq_true rfl, Nat.le_of_ble_eq_true rfl⟩) (fun _ _ H locs z77 hP hD hS => ?_)
    subst z77
    rw [List.append_nil] at hP hD
    have hP : va_P G vwCl (wM cA aa S_75 L) H := hP
    have hD : va_D A (wM cA aa S_75 L) := hD
    obtain ⟨g78, h⟩ := tx_ck h
    obtain ⟨rfl, rfl⟩ := tx_2 h
    exact W.zret (ty := .boolean) hx hb hr (tx_z g78) (fun t ht hW => ⟨⟨_, (), rfl, rfl, by rw [ht]; exact hP, hD⟩, hS.F ht⟩) hS.2.2 dX8_signs_157
set_option maxHeartbeats 4000000 in
set_option maxRecDepth 100000 in
theorem w_X8_signs_J47 {p : Program} {l : Launch} {e : Env} {s : State} {m : MethodId} {below : List Frame} {meth : Method} {c : Code} {G : va_G} {cA : Nat → ClassId} {A : Nat → Prop} {aa : Nat → Nat} {L : Lo} {r0 : Int32} {S' : Tr} (F : tF p s m ([.ref (aa 0)] : List Value).toArray meth c G cA A RX8 cX8_signs 2 (some .boolean))    (S : Tr) (H : Heap) (locs : List Loc) (ls : Array Slot) (h : fJ_X8_signs_J47 S = some (r0, S')) (hP : va_P G vwCl (wM cA aa S L) H) (hD : va_D A (wM cA aa S L)) (hS : va_S A s.heap H locs) (hl : lv_has ls 2 [(0, .ref (aa 0))]) : G_X8_signs p l e s m below meth c G cA A aa L r0 S' H locs (F0 m 47 ls []) := by
  obtain ⟨hx, hb, hr, hml, hT, hown, hlocks, hK, hN, hA⟩ := id F
  unfold fJ_X8_signs_J47 at h
  refine lv_aload_n hx hb dX8_signs_47 rfl (lv_at hl 0 rfl) ?_
  refine lv_bipush (v := 19) hx hb dX8_signs_48 (by decide) ?_
  obtain ⟨r5, hc6, h⟩ := tx_bd h
  refine tw_ci tw_all hP hD hS hA (va_runV (As := [.int 19]) (rest := []) ⟨hx, hb, hml, hown, hT⟩ (c_X8_isKey l G cA H.size aa S L (19 : Int32)  r5 hc6) (cwV 1 hT (tq_gV kw_26_6 kw_26_7 kw_26_8 kw_1_5 kw_26_9) rfl rfl rfl (by decide +kernel) ⟨Nat.le_of_ble_eq_true rfl, Nat.le_of_ble_eq_true rfl⟩) ⟨(tw_pre tw_all hP hD hK hN).1, va_recv hK hP (ci := 8) (q0 := 0) rfl rfl, (tw_pre tw_all hP hD hK hN).2⟩ rfl rfl hl.1 rfl (lv_room (Nat.le_of_ble_eq_true rfl)) dX8_signs_50 ⟨Nat.le_of_ble_eq_true rfl, Nat.le_of_ble_eq_true rfl⟩) (fun _ _ H locs z7 hP hD hS => ?_)
  subst z7
  rw [List.append_nil] at hP hD
  have hP : va_P G vwCl (wM cA aa S L) H := hP
  have hD : va_D A (wM cA aa S L) := hD
  refine lv_if_eq (tgt := 60) hx hb dX8_signs_53 (by decide) (fun c8 => ?_) (fun c8 => ?_)
  · have h := tx_pos c8 h
    refine lv_aload_n hx hb dX8_signs_60 rfl (lv_at hl 0 rfl) ?_
    refine lv_bipush (v := 20) hx hb dX8_signs_61 (by decide) ?_
    obtain ⟨r9, hc10, h⟩ := tx_bd h
    refine tw_ci tw_all hP hD hS hA (va_runV (As := [.int 20]) (rest := []) ⟨hx, hb, hml, hown, hT⟩ (c_X8_isKey l G cA H.size aa S L (20 : Int32)  r9 hc10) (cwV 1 hT (tq_gV kw_26_6 kw_26_7 kw_26_8 kw_1_5 kw_26_9) rfl rfl rfl (by decide +kernel) ⟨Nat.le_of_ble_eq_true rfl, Nat.le_of_ble_eq_true rfl⟩) ⟨(tw_pre tw_all hP hD hK hN).1, va_recv hK hP (ci := 8) (q0 := 0) rfl rfl, (tw_pre tw_all hP hD hK hN).2⟩ rfl rfl hl.1 rfl (lv_room (Nat.le_of_ble_eq_true rfl)) dX8_signs_63 ⟨Nat.le_of_ble_eq_true rfl, Nat.le_of_ble_eq_true rfl⟩) (fun _ _ H locs z11 hP hD hS => ?_)
    subst z11
    rw [List.append_nil] at hP hD
    have hP : va_P G vwCl (wM cA aa S L) H := hP
    have hD : va_D A (wM cA aa S L) := hD
    refine lv_if_eq (tgt := 73) hx hb dX8_signs_66 (by decide) (fun c12 => ?_) (fun c12 => ?_)
    · have h := tx_pos c12 h
      refine lv_aload_n hx hb dX8_signs_73 rfl (lv_at hl 0 rfl) ?_
      refine va_get (D := G) (ci := 8) (v := .int (S 0 8)) (C := RX8) (T := TX8) (N := 91) hx hb hT ku_8 hown hK hP 0 rfl rfl 8 (by decide) (hT _ kw_22_14) (fun _ h9 => h9) rfl dX8_signs_74 ?_
      refine lv_iconst (v := 5) hx hb dX8_signs_77 (by decide) ?_
      refine lv_icmp_ne (tgt := 90) hx hb dX8_signs_78 (by decide) (fun c13 => ?_) (fun c13 => ?_)
      · have h := tx_neg c13 h
        refine lv_aload_n hx hb dX8_signs_90 rfl (lv_at hl 0 rfl) ?_
        refine lv_bipush (v := 43) hx hb dX8_signs_91 (by decide) ?_
        obtain ⟨r14, hc15, h⟩ := tx_bd h
        refine tw_ci tw_all hP hD hS hA (va_runV (As := [.int 43]) (rest := []) ⟨hx, hb, hml, hown, hT⟩ (c_X8_isSign l G cA H.size aa S L (43 : Int32)  r14 hc15) (cwV 1 hT (tq_gV kw_25_18 kw_25_19 kw_25_20 kw_1_5 kw_25_21) rfl rfl rfl (by decide +kernel) ⟨Nat.le_of_ble_eq_true rfl, Nat.le_of_ble_eq_true rfl⟩) ⟨(tw_pre tw_all hP hD hK hN).1, va_recv hK hP (ci := 8) (q0 := 0) rfl rfl, (tw_pre tw_all hP hD hK hN).2⟩ rfl rfl hl.1 rfl (lv_room (Nat.le_of_ble_eq_true rfl)) dX8_signs_93 ⟨Nat.le_of_ble_eq_true rfl, Nat.le_of_ble_eq_true rfl⟩) (fun _ _ H locs z16 hP hD hS => ?_)
        subst z16
        rw [List.append_nil] at hP hD
        have hP : va_P G vwCl (wM cA aa S L) H := hP
        have hD : va_D A (wM cA aa S L) := hD
        refine lv_if_eq (tgt := 104) hx hb dX8_signs_96 (by decide) (fun c17 => ?_) (fun c17 => ?_)
        · have h := tx_pos c17 h
          refine lv_aload_n hx hb dX8_signs_104 rfl (lv_at hl 0 rfl) ?_
          refine lv_bipush (v := 45) hx hb dX8_signs_105 (by decide) ?_
          obtain ⟨r18, hc19, h⟩ := tx_bd h
          refine tw_ci tw_all hP hD hS hA (va_runV (As := [.int 45]) (rest := []) ⟨hx, hb, hml, hown, hT⟩ (c_X8_isSign l G cA H.size aa S L (45 : Int32)  r18 hc19) (cwV 1 hT (tq_gV kw_25_18 kw_25_19 kw_25_20 kw_1_5 kw_25_21) rfl rfl rfl (by decide +kernel) ⟨Nat.le_of_ble_eq_true rfl, Nat.le_of_ble_eq_true rfl⟩) ⟨(tw_pre tw_all hP hD hK hN).1, va_recv hK hP (ci := 8) (q0 := 0) rfl rfl, (tw_pre tw_all hP hD hK hN).2⟩ rfl rfl hl.1 rfl (lv_room (Nat.le_of_ble_eq_true rfl)) dX8_signs_107 ⟨Nat.le_of_ble_eq_true rfl, Nat.le_of_ble_eq_true rfl⟩) (fun _ _ H locs z20 hP hD hS => ?_)
          subst z20
          rw [List.append_nil] at hP hD
          have hP : va_P G vwCl (wM cA aa S L) H := hP
          have hD : va_D A (wM cA aa S L) := hD
          refine lv_if_eq (tgt := 118) hx hb dX8_signs_110 (by decide) (fun c21 => ?_) (fun c21 => ?_)
          · have h := tx_pos c21 h
            refine lv_aload_n hx hb dX8_signs_118 rfl (lv_at hl 0 rfl) ?_
            refine lv_bipush (v := 42) hx hb dX8_signs_119 (by decide) ?_
            obtain ⟨r22, hc23, h⟩ := tx_bd h
            refine tw_ci tw_all hP hD hS hA (va_runV (As := [.int 42]) (rest := []) ⟨hx, hb, hml, hown, hT⟩ (c_X8_isSign l G cA H.size aa S L (42 : Int32)  r22 hc23) (cwV 1 hT (tq_gV kw_25_18 kw_25_19 kw_25_20 kw_1_5 kw_25_21) rfl rfl rfl (by decide +kernel) ⟨Nat.le_of_ble_eq_true rfl, Nat.le_of_ble_eq_true rfl⟩) ⟨(tw_pre tw_all hP hD hK hN).1, va_recv hK hP (ci := 8) (q0 := 0) rfl rfl, (tw_pre tw_all hP hD hK hN).2⟩ rfl rfl hl.1 rfl (lv_room (Nat.le_of_ble_eq_true rfl)) dX8_signs_121 ⟨Nat.le_of_ble_eq_true rfl, Nat.le_of_ble_eq_true rfl⟩) (fun _ _ H locs z24 hP hD hS => ?_)
            subst z24
            rw [List.append_nil] at hP hD
            have hP : va_P G vwCl (wM cA aa S L) H := hP
            have hD : va_D A (wM cA aa S L) := hD
            refine lv_if_eq (tgt := 132) hx hb dX8_signs_124 (by decide) (fun c25 => ?_) (fun c25 => ?_)
            · have h := tx_pos c25 h
              refine lv_aload_n hx hb dX8_signs_132 rfl (lv_at hl 0 rfl) ?_
              refine lv_bipush (v := 47) hx hb dX8_signs_133 (by decide) ?_
              obtain ⟨r26, hc27, h⟩ := tx_bd h
              refine tw_ci tw_all hP hD hS hA (va_runV (As := [.int 47]) (rest := []) ⟨hx, hb, hml, hown, hT⟩ (c_X8_isSign l G cA H.size aa S L (47 : Int32)  r26 hc27) (cwV 1 hT (tq_gV kw_25_18 kw_25_19 kw_25_20 kw_1_5 kw_25_21) rfl rfl rfl (by decide +kernel) ⟨Nat.le_of_ble_eq_true rfl, Nat.le_of_ble_eq_true rfl⟩) ⟨(tw_pre tw_all hP hD hK hN).1, va_recv hK hP (ci := 8) (q0 := 0) rfl rfl, (tw_pre tw_all hP hD hK hN).2⟩ rfl rfl hl.1 rfl (lv_room (Nat.le_of_ble_eq_true rfl)) dX8_signs_135 ⟨Nat.le_of_ble_eq_true rfl, Nat.le_of_ble_eq_true rfl⟩) (fun _ _ H locs z28 hP hD hS => ?_)
              subst z28
              rw [List.append_nil] at hP hD
              have hP : va_P G vwCl (wM cA aa S L) H := hP
              have hD : va_D A (wM cA aa S L) := hD
              refine lv_if_eq (tgt := 146) hx hb dX8_signs_138 (by decide) (fun c29 => ?_) (fun c29 => ?_)
              · have h := tx_pos c29 h
                refine lv_iconst (v := 0) hx hb dX8_signs_146 (by decide) ?_
                exact w_X8_signs_J147 F 0 S H locs ls h hP hD hS (lv_sub hl [0] rfl)
              · have h := tx_neg c29 h
                refine lv_bipush (v := 14) hx hb dX8_signs_141 (by decide) ?_
                refine lv_goto (tgt := 147) hx hb dX8_signs_143 (by decide) ?_
                exact w_X8_signs_J147 F 14 S H locs ls h hP hD hS (lv_sub hl [0] rfl)
            · have h := tx_neg c25 h
              refine lv_bipush (v := 13) hx hb dX8_signs_127 (by decide) ?_
              refine lv_goto (tgt := 147) hx hb dX8_signs_129 (by decide) ?_
              exact w_X8_signs_J147 F 13 S H locs ls h hP hD hS (lv_sub hl [0] rfl)
          · have h := tx_neg c21 h
            refine lv_bipush (v := 12) hx hb dX8_signs_113 (by decide) ?_
            refine lv_goto (tgt := 147) hx hb dX8_signs_115 (by decide) ?_
            exact w_X8_signs_J147 F 12 S H locs ls h hP hD hS (lv_sub hl [0] rfl)
        · have h := tx_neg c17 h
          refine lv_bipush (v := 11) hx hb dX8_signs_99 (by decide) ?_
          refine lv_goto (tgt := 147) hx hb dX8_signs_101 (by decide) ?_
          exact w_X8_signs_J147 F 11 S H locs ls h hP hD hS (lv_sub hl [0] rfl)
      · have h := tx_pos c13 h
        refine lv_iconst (v := 5) hx hb dX8_signs_81 (by decide) ?_
        refine lv_aload_n hx hb dX8_signs_82 rfl (lv_at hl 0 rfl) ?_
        refine va_get (D := G) (ci := 8) (v := .int (S 0 9)) (C := RX8) (T := TX8) (N := 91) hx hb hT ku_8 hown hK hP 0 rfl rfl 9 (by decide) (hT _ kw_22_20) (fun _ h9 => h9) rfl dX8_signs_83 ?_
        refine lv_iadd hx hb dX8_signs_86 ?_
        refine lv_goto (tgt := 147) hx hb dX8_signs_87 (by decide) ?_
        exact w_X8_signs_J147 F ((5 : Int32) + (S 0 9)) S H locs ls h hP hD hS (lv_sub hl [0] rfl)
    · have h := tx_neg c12 h
      refine lv_iconst (v := 4) hx hb dX8_signs_69 (by decide) ?_
      refine lv_goto (tgt := 147) hx hb dX8_signs_70 (by decide) ?_
      exact w_X8_signs_J147 F 4 S H locs ls h hP hD hS (lv_sub hl [0] rfl)
  · have h := tx_neg c8 h
    refine lv_iconst (v := 3) hx hb dX8_signs_56 (by decide) ?_
    refine lv_goto (tgt := 147) hx hb dX8_signs_57 (by decide) ?_
    exact w_X8_signs_J147 F 3 S H locs ls h hP hD hS (lv_sub hl [0] rfl)
set_option maxHeartbeats 4000000 in
set_option maxRecDepth 100000 in
theorem c_X8_signs (l : Launch) (G : va_G) (cA : Nat → ClassId) (sz : Nat) (aa : Nat → Nat) (S : Tr) (L : Lo)  (r0 : Int32) (S' : Tr) (h : f_X8_signs S = some (r0, S')) : Met l yX8_signs (.code yX8_signs cX8_signs 2 (some .boolean) :: T0) ({ frames := 2, cells := 0, slots := 0, locals := 47 } : Room) (tqP G cA [.ref (aa 0)] (wM cA aa S L) sz) (tqQi G cA (fun (r : Int32) (_ : Unit) => r = r0) (fun (_ : Unit) => wM cA aa S' L) (va_A (wM cA aa S L) sz)) 0 0 (va_A (wM cA aa S L) sz) := by
  refine Met.ofW (cc := cX8_signs) (maxL := 2) (ret := (some .boolean)) (by decide) rfl ?_
  intro p e s m args below meth c s₁ B hml hv
  obtain ⟨rfl, hsz, hP, hK, hD0, hN⟩ := hv
  have hx := B.exec
  have hb := B.bytes
  have hr := B.returns
  have hts := atoms_spec (ws := .code yX8_signs cX8_signs 2 (some .boolean) :: T0) B.pre
  have hT : ∀ w ∈ T0, w.before _ s = true := fun w h => hts w (List.mem_cons_of_mem _ h)
  have hown : s.vm.findClass RX8 = some m.cls := findClass_of_methodNamed B.named
  have hlocks := B.notSynchronized
  subst hsz
  have hD := hD0.self (sz := s.heap.size)
  generalize hAe : va_A (wM cA aa S L) s.heap.size = A at hD ⊢
  have hA : ∀ q : Nat, s.heap.size ≤ q → A q := fun q h => by rw [← hAe]; exact Or.inr h
  have hS : va_S A s.heap s.heap [] := va_S.rf
  have hl := lv_entry ([.ref (aa 0)]) (n := 2) (Nat.le_of_ble_eq_true rfl)
  rw [lg_entry_eq]
  generalize (lg_sl ([.ref (aa 0)]) ++ List.replicate (2 - (lg_sl ([.ref (aa 0)])).length) Slot.unset).toArray = ls at hl ⊢
  have hl : lv_has ls 2 [(0, .ref (aa 0))] := hl
  have F : tF p s m ([.ref (aa 0)] : List Value).toArray meth c G cA A RX8 cX8_signs 2 (some .boolean) := ⟨hx, hb, hr, hml, hT, hown, hlocks, hK, hN, hA⟩
  obtain ⟨H, hH⟩ : ∃ z, z = s.heap := ⟨_, rfl⟩
  rw [← hH] at hP
  have hS : va_S A s.heap H [] := by rw [hH]; exact hS
  suffices hgo : G_X8_signs p l e s m below meth c G cA A aa L r0 S' H [] (F0 m 0 ls []) by rw [hH] at hgo; exact hgo
  generalize ([] : List Loc) = locs at hS ⊢
  unfold f_X8_signs at h
  refine lv_aload_n hx hb dX8_signs_0 rfl (lv_at hl 0 rfl) ?_
  refine lv_bipush (v := 41) hx hb dX8_signs_1 (by decide) ?_
  obtain ⟨r1, hc2, h⟩ := tx_bd h
  refine tw_ci tw_all hP hD hS hA (va_runV (As := [.int 41]) (rest := []) ⟨hx, hb, hml, hown, hT⟩ (c_X8_isSign l G cA H.size aa S L (41 : Int32)  r1 hc2) (cwV 1 hT (tq_gV kw_25_18 kw_25_19 kw_25_20 kw_1_5 kw_25_21) rfl rfl rfl (by decide +kernel) ⟨Nat.le_of_ble_eq_true rfl, Nat.le_of_ble_eq_true rfl⟩) ⟨(tw_pre tw_all hP hD hK hN).1, va_recv hK hP (ci := 8) (q0 := 0) rfl rfl, (tw_pre tw_all hP hD hK hN).2⟩ rfl rfl hl.1 rfl (lv_room (Nat.le_of_ble_eq_true rfl)) dX8_signs_3 ⟨Nat.le_of_ble_eq_true rfl, Nat.le_of_ble_eq_true rfl⟩) (fun _ _ H locs z3 hP hD hS => ?_)
  subst z3
  rw [List.append_nil] at hP hD
  have hP : va_P G vwCl (wM cA aa S L) H := hP
  have hD : va_D A (wM cA aa S L) := hD
  refine lv_if_eq (tgt := 47) hx hb dX8_signs_6 (by decide) (fun c4 => ?_) (fun c4 => ?_)
  · have h := tx_pos c4 h
    exact w_X8_signs_J47 F S H locs ls h hP hD hS (lv_sub hl [0] rfl)
  · have h := tx_neg c4 h
    refine lv_aload_n hx hb dX8_signs_9 rfl (lv_at hl 0 rfl) ?_
    refine va_get (D := G) (ci := 8) (v := .int (S 0 45)) (C := RX8) (T := TX8) (N := 91) hx hb hT ku_8 hown hK hP 0 rfl rfl 45 (by decide) (hT _ kw_25_15) (fun _ h9 => h9) rfl dX8_signs_10 ?_
    refine lv_if_le (tgt := 47) hx hb dX8_signs_13 (by decide) (fun c79 => ?_) (fun c79 => ?_)
    · have h := tx_pos c79 h
      exact w_X8_signs_J47 F S H locs ls h hP hD hS (lv_sub hl [0] rfl)
    · have h := tx_neg c79 h
      refine lv_aload_n hx hb dX8_signs_16 rfl (lv_at hl 0 rfl) ?_
      refine lv_iconst (v := 1) hx hb dX8_signs_17 (by decide) ?_
      obtain ⟨S_80, hc81, h⟩ := tx_bd h
      refine tw_cv tw_all hP hD hS hA (va_runV (As := [.int 1]) (rest := []) ⟨hx, hb, hml, hown, hT⟩ (c_X8_bind l G cA H.size aa S L (1 : Int32)  S_80 hc81) (cwV 1 hT (tq_gV kw_27_2 kw_27_3 kw_27_4 kw_1_5 kw_27_5) rfl rfl rfl (by decide +kernel) ⟨Nat.le_of_ble_eq_true rfl, Nat.le_of_ble_eq_true rfl⟩) ⟨(tw_pre tw_all hP hD hK hN).1, va_recv hK hP (ci := 8) (q0 := 0) rfl rfl, (tw_pre tw_all hP hD hK hN).2⟩ rfl rfl hl.1 rfl (lv_room (Nat.le_of_ble_eq_true rfl)) dX8_signs_18 ⟨Nat.le_of_ble_eq_true rfl, Nat.le_of_ble_eq_true rfl⟩) (fun _ H locs z82 hP hD hS => ?_)
      rw [List.append_nil] at hP hD
      have hP : va_P G vwCl (wM cA aa S_80 L) H := hP
      have hD : va_D A (wM cA aa S_80 L) := hD
      refine lv_aload_n hx hb dX8_signs_21 rfl (lv_at hl 0 rfl) ?_
      refine lv_dup hx hb dX8_signs_22 rfl ?_
      refine va_get (D := G) (ci := 8) (v := .int (S_80 0 43)) (C := RX8) (T := TX8) (N := 91) hx hb hT ku_8 hown hK hP 0 rfl rfl 43 (by decide) (hT _ kw_25_13) (fun _ h9 => h9) rfl dX8_signs_23 ?_
      refine lv_iconst (v := 1) hx hb dX8_signs_26 (by decide) ?_
      refine lv_isub hx hb dX8_signs_27 ?_
      refine va_put (D := G) (ci := 8) (v := .int ((S_80 0 43) - 1)) (ty := .int) (C := RX8) (T := TX8) (N := 91) hx hb hT ku_8 tyX8 tyX8_ok nmX8 hown hK hP hD hS 0 rfl rfl 43 (by decide) (hT _ kw_25_13) (fun _ h9 => h9) rfl (by decide +kernel) rfl rfl (Nat.le_of_ble_eq_true rfl) dX8_signs_28 (fun H locs hP hD hS => ?_)
      obtain ⟨S_83, eS_83, h⟩ := tx_lt h
      rw [sM_f43, eS_83] at hP hD
      refine lv_aload_n hx hb dX8_signs_31 rfl (lv_at hl 0 rfl) ?_
      refine lv_dup hx hb dX8_signs_32 rfl ?_
      refine va_get (D := G) (ci := 8) (v := .int (S_83 0 45)) (C := RX8) (T := TX8) (N := 91) hx hb hT ku_8 hown hK hP 0 rfl rfl 45 (by decide) (hT _ kw_25_15) (fun _ h9 => h9) rfl dX8_signs_33 ?_
      refine lv_iconst (v := 1) hx hb dX8_signs_36 (by decide) ?_
      refine lv_isub hx hb dX8_signs_37 ?_
      refine va_put (D := G) (ci := 8) (v := .int ((S_83 0 45) - 1)) (ty := .int) (C := RX8) (T := TX8) (N := 91) hx hb hT ku_8 tyX8 tyX8_ok nmX8 hown hK hP hD hS 0 rfl rfl 45 (by decide) (hT _ kw_25_15) (fun _ h9 => h9) rfl (by decide +kernel) rfl rfl (Nat.le_of_ble_eq_true rfl) dX8_signs_38 (fun H locs hP hD hS => ?_)
      obtain ⟨S_84, eS_84, h⟩ := tx_lt h
      rw [sM_f45, eS_84] at hP hD
      refine lv_aload_n hx hb dX8_signs_41 rfl (lv_at hl 0 rfl) ?_
      obtain ⟨S_85, hc86, h⟩ := tx_bd h
      refine tw_cv tw_all hP hD hS hA (va_runV (As := []) (rest := []) ⟨hx, hb, hml, hown, hT⟩ (c_X8_token l G cA H.size aa S_84 L  S_85 hc86) (cwV 0 hT (tq_gV kw_22_15 kw_22_16 kw_22_17 kw_1_5 kw_22_18) rfl rfl rfl (by decide +kernel) ⟨Nat.le_of_ble_eq_true rfl, Nat.le_of_ble_eq_true rfl⟩) ⟨(tw_pre tw_all hP hD hK hN).1, va_recv hK hP (ci := 8) (q0 := 0) rfl rfl, (tw_pre tw_all hP hD hK hN).2⟩ rfl rfl hl.1 rfl (lv_room (Nat.le_of_ble_eq_true rfl)) dX8_signs_42 ⟨Nat.le_of_ble_eq_true rfl, Nat.le_of_ble_eq_true rfl⟩) (fun _ H locs z87 hP hD hS => ?_)
      rw [List.append_nil] at hP hD
      have hP : va_P G vwCl (wM cA aa S_85 L) H := hP
      have hD : va_D A (wM cA aa S_85 L) := hD
      refine lv_iconst (v := 1) hx hb dX8_signs_45 (by decide) ?_
      obtain ⟨rfl, rfl⟩ := tx_2 h
      exact W.zret (ty := .boolean) hx hb hr rfl (fun t ht hW => ⟨⟨_, (), rfl, rfl, by rw [ht]; exact hP, hD⟩, hS.F ht⟩) hS.2.2 dX8_signs_46
abbrev G_X8_sumRead (p : Program) (l : Launch) (e : Env) (s : State) (m : MethodId) (below : List Frame) (meth : Method) (c : Code) (G : va_G) (cA : Nat → ClassId) (A : Nat → Prop) (aa : Nat → Nat) (L : Lo) (r0 : Int32) (S' : Tr) (H : Heap) (locs : List Loc) (g : JFrame) : Prop := W p l e (headSpec (.code yX8_sumRead cX8_sumRead 1 (some .boolean) :: T0) ({ frames := 3, cells := 0, slots := 0, locals := 68 } : Room)).room s m ([.ref (aa 0)] : List Value).toArray below meth c H locs 0 0 (MQ below (tqQi G cA (fun (r : Int32) (_ : Unit) => r = r0) (fun (_ : Unit) => wM cA aa S' L) A) ([.ref (aa 0)] : List Value).toArray s 0 0 A) g
set_option maxHeartbeats 4000000 in
set_option maxRecDepth 100000 in
theorem w_X8_sumRead_J48 {p : Program} {l : Launch} {e : Env} {s : State} {m : MethodId} {below : List Frame} {meth : Method} {c : Code} {G : va_G} {cA : Nat → ClassId} {A : Nat → Prop} {aa : Nat → Nat} {L : Lo} {r0 : Int32} {S' : Tr} (F : tF p s m ([.ref (aa 0)] : List Value).toArray meth c G cA A RX8 cX8_sumRead 1 (some .boolean))  (k25 : Tr → Option (Int32 × Tr)) (hk25 : ∀ (S : Tr) (H : Heap) (locs : List Loc) (ls : Array Slot), k25 S = some (r0, S') → va_P G vwCl (wM cA aa S L) H → va_D A (wM cA aa S L) → va_S A s.heap H locs → lv_has ls 1 [(0, .ref (aa 0))] → G_X8_sumRead p l e s m below meth c G cA A aa L r0 S' H locs (F0 m 25 ls [])) (S : Tr) (H : Heap) (locs : List Loc) (ls : Array Slot) (h : fJ_X8_sumRead_J48 k25 S = some (r0, S')) (hP : va_P G vwCl (wM cA aa S L) H) (hD : va_D A (wM cA aa S L)) (hS : va_S A s.heap H locs) (hl : lv_has ls 1 [(0, .ref (aa 0))]) : G_X8_sumRead p l e s m below meth c G cA A aa L r0 S' H locs (F0 m 48 ls []) := by
  obtain ⟨hx, hb, hr, hml, hT, hown, hlocks, hK, hN, hA⟩ := id F
  unfold fJ_X8_sumRead_J48 at h
  refine lv_aload_n hx hb dX8_sumRead_48 rfl (lv_at hl 0 rfl) ?_
  refine va_get (D := G) (ci := 8) (v := .int (S 0 47)) (C := RX8) (T := TX8) (N := 91) hx hb hT ku_8 hown hK hP 0 rfl rfl 47 (by decide) (hT _ kw_25_16) (fun _ h9 => h9) rfl dX8_sumRead_49 ?_
  refine lv_if_eq (tgt := 65) hx hb dX8_sumRead_52 (by decide) (fun c10 => ?_) (fun c10 => ?_)
  · have h := tx_pos c10 h
    refine lv_aload_n hx hb dX8_sumRead_65 rfl (lv_at hl 0 rfl) ?_
    obtain ⟨⟨r11, S_12⟩, hc13, h⟩ := tx_bd h
    replace h := tx_let (y := r11) rfl h
    replace h := tx_let (y := S_12) rfl h
    refine tw_ci tw_all hP hD hS hA (va_runV (As := []) (rest := []) ⟨hx, hb, hml, hown, hT⟩ (c_X8_signs l G cA H.size aa S L  r11 S_12 hc13) (cwV 0 hT (tq_gV kw_26_22 kw_26_23 kw_27_0 kw_1_5 kw_27_1) rfl rfl rfl (by decide +kernel) ⟨Nat.le_of_ble_eq_true rfl, Nat.le_of_ble_eq_true rfl⟩) ⟨(tw_pre tw_all hP hD hK hN).1, va_recv hK hP (ci := 8) (q0 := 0) rfl rfl, (tw_pre tw_all hP hD hK hN).2⟩ rfl rfl hl.1 rfl (lv_room (Nat.le_of_ble_eq_true rfl)) dX8_sumRead_66 ⟨Nat.le_of_ble_eq_true rfl, Nat.le_of_ble_eq_true rfl⟩) (fun _ _ H locs z14 hP hD hS => ?_)
    subst z14
    rw [List.append_nil] at hP hD
    have hP : va_P G vwCl (wM cA aa S_12 L) H := hP
    have hD : va_D A (wM cA aa S_12 L) := hD
    refine lv_if_ne (tgt := 25) hx hb dX8_sumRead_69 (by decide) (fun c15 => ?_) (fun c15 => ?_)
    · have h := tx_neg c15 h
      exact hk25 S_12 H locs ls h hP hD hS (lv_sub hl [0] rfl)
    · have h := tx_pos c15 h
      refine lv_iconst (v := 0) hx hb dX8_sumRead_72 (by decide) ?_
      obtain ⟨rfl, rfl⟩ := tx_2 h
      exact W.zret (ty := .boolean) hx hb hr rfl (fun t ht hW => ⟨⟨_, (), rfl, rfl, by rw [ht]; exact hP, hD⟩, hS.F ht⟩) hS.2.2 dX8_sumRead_73
  · have h := tx_neg c10 h
    refine lv_aload_n hx hb dX8_sumRead_55 rfl (lv_at hl 0 rfl) ?_
    obtain ⟨⟨r16, S_17⟩, hc18, h⟩ := tx_bd h
    replace h := tx_let (y := r16) rfl h
    replace h := tx_let (y := S_17) rfl h
    refine tw_ci tw_all hP hD hS hA (va_runV (As := []) (rest := []) ⟨hx, hb, hml, hown, hT⟩ (c_X8_leafRead l G cA H.size aa S L  r16 S_17 hc18) (cwV 0 hT (tq_gV kw_25_22 kw_25_23 kw_26_0 kw_1_5 kw_26_1) rfl rfl rfl (by decide +kernel) ⟨Nat.le_of_ble_eq_true rfl, Nat.le_of_ble_eq_true rfl⟩) ⟨(tw_pre tw_all hP hD hK hN).1, va_recv hK hP (ci := 8) (q0 := 0) rfl rfl, (tw_pre tw_all hP hD hK hN).2⟩ rfl rfl hl.1 rfl (lv_room (Nat.le_of_ble_eq_true rfl)) dX8_sumRead_56 ⟨Nat.le_of_ble_eq_true rfl, Nat.le_of_ble_eq_true rfl⟩) (fun _ _ H locs z19 hP hD hS => ?_)
    subst z19
    rw [List.append_nil] at hP hD
    have hP : va_P G vwCl (wM cA aa S_17 L) H := hP
    have hD : va_D A (wM cA aa S_17 L) := hD
    refine lv_if_eq (tgt := 72) hx hb dX8_sumRead_59 (by decide) (fun c20 => ?_) (fun c20 => ?_)
    · have h := tx_pos c20 h
      refine lv_iconst (v := 0) hx hb dX8_sumRead_72 (by decide) ?_
      obtain ⟨rfl, rfl⟩ := tx_2 h
      exact W.zret (ty := .boolean) hx hb hr rfl (fun t ht hW => ⟨⟨_, (), rfl, rfl, by rw [ht]; exact hP, hD⟩, hS.F ht⟩) hS.2.2 dX8_sumRead_73
    · have h := tx_neg c20 h
      refine lv_goto (tgt := 25) hx hb dX8_sumRead_62 (by decide) ?_
      exact hk25 S_17 H locs ls h hP hD hS (lv_sub hl [0] rfl)
set_option maxHeartbeats 4000000 in
set_option maxRecDepth 100000 in
theorem w_X8_sumRead_J74 {p : Program} {l : Launch} {e : Env} {s : State} {m : MethodId} {below : List Frame} {meth : Method} {c : Code} {G : va_G} {cA : Nat → ClassId} {A : Nat → Prop} {aa : Nat → Nat} {L : Lo} {r0 : Int32} {S' : Tr} (F : tF p s m ([.ref (aa 0)] : List Value).toArray meth c G cA A RX8 cX8_sumRead 1 (some .boolean))    (S : Tr) (H : Heap) (locs : List Loc) (ls : Array Slot) (h : fJ_X8_sumRead_J74 S = some (r0, S')) (hP : va_P G vwCl (wM cA aa S_23 L) H) (hD : va_D A (wM cA aa S_23 L)) (hS : va_S A s.heap H locs) (hl : lv_has ls 1 [(0, .ref (aa 0))]) : G_X8_sumRead p l e s m below meth c G cA A aa L r0 S' H locs (F0 m 74 ls []) := by
  obtain ⟨hx, hb, hr, hml, hT, hown, hlocks, hK, hN, hA⟩ := id F
  unfold fJ_X8_sumRead_J74 at h
  refine lv_aload_n hx hb dX8_sumRead_74 rfl (lv_at hl 0 rfl) ?_
  refine lv_iconst (v := 1) hx hb dX8_sumRead_75 (by decide) ?_
  obtain ⟨S_23, hc24, h⟩ := tx_bd h
  refine tw_cv tw_all hP hD hS hA (va_runV (As := [.int 1]) (rest := []) ⟨hx, hb, hml, hown, hT⟩ (c_X8_bind l G cA H.size aa S L (1 : Int32)  S_23 hc24) (cwV 1 hT (tq_gV kw_27_2 kw_27_3 kw_27_4 kw_1_5 kw_27_5) rfl rfl rfl (by decide +kernel) ⟨Nat.le_of_ble_eq_true rfl, Nat.le_of_ble_eq_true rfl⟩) ⟨(tw_pre tw_all hP hD hK hN).1, va_recv hK hP (ci := 8) (q0 := 0) rfl rfl, (tw_pre tw_all hP hD hK hN).2⟩ rfl rfl hl.1 rfl (lv_room (Nat.le_of_ble_eq_true rfl)) dX8_sumRead_76 ⟨Nat.le_of_ble_eq_true rfl, Nat.le_of_ble_eq_true rfl⟩) (fun _ H locs z25 hP hD hS => ?_)
  rw [List.append_nil] at hP hD
  have hP : va_P G vwCl (wM cA aa S_23 L) H := hP
  have hD : va_D A (wM cA aa S_23 L) := hD
  refine lv_iconst (v := 1) hx hb dX8_sumRead_79 (by decide) ?_
  obtain ⟨rfl, rfl⟩ := tx_2 h
  exact W.zret (ty := .boolean) hx hb hr rfl (fun t ht hW => ⟨⟨_, (), rfl, rfl, by rw [ht]; exact hP, hD⟩, hS.F ht⟩) hS.2.2 dX8_sumRead_80
set_option maxHeartbeats 4000000 in
set_option maxRecDepth 100000 in
theorem w_X8_sumRead_L25 {p : Program} {l : Launch} {e : Env} {s : State} {m : MethodId} {below : List Frame} {meth : Method} {c : Code} {G : va_G} {cA : Nat → ClassId} {A : Nat → Prop} {aa : Nat → Nat} {L : Lo} {r0 : Int32} {S' : Tr} (F : tF p s m ([.ref (aa 0)] : List Value).toArray meth c G cA A RX8 cX8_sumRead 1 (some .boolean))    (N : Nat) : ∀ (S : Tr) (H : Heap) (locs : List Loc) (ls : Array Slot), lpF (fun _ => none) (fB_X8_sumRead_L25 ) N S = some (r0, S') → va_P G vwCl (wM cA aa S L) H → va_D A (wM cA aa S L) → va_S A s.heap H locs → lv_has ls 1 [(0, .ref (aa 0))] → G_X8_sumRead p l e s m below meth c G cA A aa L r0 S' H locs (F0 m 25 ls []) := by
  obtain ⟨hx, hb, hr, hml, hT, hown, hlocks, hK, hN, hA⟩ := id F
  induction N with
  | zero =>
    intro S H locs ls h
    have h : (none : Option (Int32 × Tr)) = some (r0, S') := h
    cases h
  | succ N hk25 =>
    intro S H locs ls h hP hD hS hl
    have h : fB_X8_sumRead_L25  (lpF (fun _ => none) (fB_X8_sumRead_L25 ) N) S = some (r0, S') := h
    generalize hk25e : lpF (fun _ => none) (fB_X8_sumRead_L25 ) N = k25 at h hk25
    unfold fB_X8_sumRead_L25 at h
    refine lv_aload_n hx hb dX8_sumRead_25 rfl (lv_at hl 0 rfl) ?_
    refine lv_bipush (v := 59) hx hb dX8_sumRead_26 (by decide) ?_
    obtain ⟨r6, hc7, h⟩ := tx_bd h
    refine tw_ci tw_all hP hD hS hA (va_runV (As := [.int 59]) (rest := []) ⟨hx, hb, hml, hown, hT⟩ (c_X8_isSign l G cA H.size aa S L (59 : Int32)  r6 hc7) (cwV 1 hT (tq_gV kw_25_18 kw_25_19 kw_25_20 kw_1_5 kw_25_21) rfl rfl rfl (by decide +kernel) ⟨Nat.le_of_ble_eq_true rfl, Nat.le_of_ble_eq_true rfl⟩) ⟨(tw_pre tw_all hP hD hK hN).1, va_recv hK hP (ci := 8) (q0 := 0) rfl rfl, (tw_pre tw_all hP hD hK hN).2⟩ rfl rfl hl.1 rfl (lv_room (Nat.le_of_ble_eq_true rfl)) dX8_sumRead_28 ⟨Nat.le_of_ble_eq_true rfl, Nat.le_of_ble_eq_true rfl⟩) (fun _ _ H locs z8 hP hD hS => ?_)
    subst z8
    rw [List.append_nil] at hP hD
    have hP : va_P G vwCl (wM cA aa S L) H := hP
    have hD : va_D A (wM cA aa S L) := hD
    refine lv_if_eq (tgt := 48) hx hb dX8_sumRead_31 (by decide) (fun c9 => ?_) (fun c9 => ?_)
    · have h := tx_pos c9 h
      exact w_X8_sumRead_J48 F k25 hk25 S H locs ls h hP hD hS (lv_sub hl [0] rfl)
    · have h := tx_neg c9 h
      refine lv_aload_n hx hb dX8_sumRead_34 rfl (lv_at hl 0 rfl) ?_
      refine va_get (D := G) (ci := 8) (v := .int (S 0 47)) (C := RX8) (T := TX8) (N := 91) hx hb hT ku_8 hown hK hP 0 rfl rfl 47 (by decide) (hT _ kw_25_16) (fun _ h9 => h9) rfl dX8_sumRead_35 ?_
      refine lv_if_ne (tgt := 48) hx hb dX8_sumRead_38 (by decide) (fun c21 => ?_) (fun c21 => ?_)
      · have h := tx_neg c21 h
        exact w_X8_sumRead_J48 F k25 hk25 S H locs ls h hP hD hS (lv_sub hl [0] rfl)
      · have h := tx_pos c21 h
        refine lv_aload_n hx hb dX8_sumRead_41 rfl (lv_at hl 0 rfl) ?_
        refine va_get (D := G) (ci := 8) (v := .int (S 0 45)) (C := RX8) (T := TX8) (N := 91) hx hb hT ku_8 hown hK hP 0 rfl rfl 45 (by decide) (hT _ kw_25_15) (fun _ h9 => h9) rfl dX8_sumRead_42 ?_
        refine lv_if_le (tgt := 74) hx hb dX8_sumRead_45 (by decide) (fun c22 => ?_) (fun c22 => ?_)
        · have h := tx_pos c22 h
          exact w_X8_sumRead_J74 F S H locs ls h hP hD hS (lv_sub hl [0] rfl)
        · have h := tx_neg c22 h
          exact w_X8_sumRead_J48 F k25 hk25 S H locs ls h hP hD hS (lv_sub hl [0] rfl)
set_option maxHeartbeats 4000000 in
set_option maxRecDepth 100000 in
theorem c_X8_sumRead (l : Launch) (G : va_G) (cA : Nat → ClassId) (sz : Nat) (aa : Nat → Nat) (S : Tr) (L : Lo)  (r0 : Int32) (S' : Tr) (h : f_X8_sumRead S = some (r0, S')) : Met l yX8_sumRead (.code yX8_sumRead cX8_sumRead 1 (some .boolean) :: T0) ({ frames := 3, cells := 0, slots := 0, locals := 68 } : Room) (tqP G cA [.ref (aa 0)] (wM cA aa S L) sz) (tqQi G cA (fun (r : Int32) (_ : Unit) => r = r0) (fun (_ : Unit) => wM cA aa S' L) (va_A (wM cA aa S L) sz)) 0 0 (va_A (wM cA aa S L) sz) := by
  refine Met.ofW (cc := cX8_sumRead) (maxL := 1) (ret := (some .boolean)) (by decide) rfl ?_
  intro p e s m args below meth c s₁ B hml hv
  obtain ⟨rfl, hsz, hP, hK, hD0, hN⟩ := hv
  have hx := B.exec
  have hb := B.bytes
  have hr := B.returns
  have hts := atoms_spec (ws := .code yX8_sumRead cX8_sumRead 1 (some .boolean) :: T0) B.pre
  have hT : ∀ w ∈ T0, w.before _ s = true := fun w h => hts w (List.mem_cons_of_mem _ h)
  have hown : s.vm.findClass RX8 = some m.cls := findClass_of_methodNamed B.named
  have hlocks := B.notSynchronized
  subst hsz
  have hD := hD0.self (sz := s.heap.size)
  generalize hAe : va_A (wM cA aa S L) s.heap.size = A at hD ⊢
  have hA : ∀ q : Nat, s.heap.size ≤ q → A q := fun q h => by rw [← hAe]; exact Or.inr h
  have hS : va_S A s.heap s.heap [] := va_S.rf
  have hl := lv_entry ([.ref (aa 0)]) (n := 1) (Nat.le_of_ble_eq_true rfl)
  rw [lg_entry_eq]
  generalize (lg_sl ([.ref (aa 0)]) ++ List.replicate (1 - (lg_sl ([.ref (aa 0)])).length) Slot.unset).toArray = ls at hl ⊢
  have hl : lv_has ls 1 [(0, .ref (aa 0))] := hl
  have F : tF p s m ([.ref (aa 0)] : List Value).toArray meth c G cA A RX8 cX8_sumRead 1 (some .boolean) := ⟨hx, hb, hr, hml, hT, hown, hlocks, hK, hN, hA⟩
  obtain ⟨H, hH⟩ : ∃ z, z = s.heap := ⟨_, rfl⟩
  rw [← hH] at hP
  have hS : va_S A s.heap H [] := by rw [hH]; exact hS
  suffices hgo : G_X8_sumRead p l e s m below meth c G cA A aa L r0 S' H [] (F0 m 0 ls []) by rw [hH] at hgo; exact hgo
  generalize ([] : List Loc) = locs at hS ⊢
  unfold f_X8_sumRead at h
  refine lv_aload_n hx hb dX8_sumRead_0 rfl (lv_at hl 0 rfl) ?_
  refine lv_iconst (v := 0) hx hb dX8_sumRead_1 (by decide) ?_
  refine va_put (D := G) (ci := 8) (v := .int 0) (ty := .int) (C := RX8) (T := TX8) (N := 91) hx hb hT ku_8 tyX8 tyX8_ok nmX8 hown hK hP hD hS 0 rfl rfl 43 (by decide) (hT _ kw_25_13) (fun _ h9 => h9) rfl (by decide +kernel) rfl rfl (Nat.le_of_ble_eq_true rfl) dX8_sumRead_2 (fun H locs hP hD hS => ?_)
  obtain ⟨S_1, eS_1, h⟩ := tx_lt h
  rw [sM_f43, eS_1] at hP hD
  refine lv_aload_n hx hb dX8_sumRead_5 rfl (lv_at hl 0 rfl) ?_
  refine lv_iconst (v := 0) hx hb dX8_sumRead_6 (by decide) ?_
  refine va_put (D := G) (ci := 8) (v := .int 0) (ty := .int) (C := RX8) (T := TX8) (N := 91) hx hb hT ku_8 tyX8 tyX8_ok nmX8 hown hK hP hD hS 0 rfl rfl 44 (by decide) (hT _ kw_25_14) (fun _ h9 => h9) rfl (by decide +kernel) rfl rfl (Nat.le_of_ble_eq_true rfl) dX8_sumRead_7 (fun H locs hP hD hS => ?_)
  obtain ⟨S_2, eS_2, h⟩ := tx_lt h
  rw [sM_f44, eS_2] at hP hD
  refine lv_aload_n hx hb dX8_sumRead_10 rfl (lv_at hl 0 rfl) ?_
  refine lv_iconst (v := 0) hx hb dX8_sumRead_11 (by decide) ?_
  refine va_put (D := G) (ci := 8) (v := .int 0) (ty := .int) (C := RX8) (T := TX8) (N := 91) hx hb hT ku_8 tyX8 tyX8_ok nmX8 hown hK hP hD hS 0 rfl rfl 45 (by decide) (hT _ kw_25_15) (fun _ h9 => h9) rfl (by decide +kernel) rfl rfl (Nat.le_of_ble_eq_true rfl) dX8_sumRead_12 (fun H locs hP hD hS => ?_)
  obtain ⟨S_3, eS_3, h⟩ := tx_lt h
  rw [sM_f45, eS_3] at hP hD
  refine lv_aload_n hx hb dX8_sumRead_15 rfl (lv_at hl 0 rfl) ?_
  refine lv_iconst (v := 1) hx hb dX8_sumRead_16 (by decide) ?_
  refine va_put (D := G) (ci := 8) (v := .int 1) (ty := .boolean) (C := RX8) (T := TX8) (N := 91) hx hb hT ku_8 tyX8 tyX8_ok nmX8 hown hK hP hD hS 0 rfl rfl 47 (by decide) (hT _ kw_25_16) (fun _ h9 => h9) rfl (by decide +kernel) rfl rfl (Nat.le_of_ble_eq_true rfl) dX8_sumRead_17 (fun H locs hP hD hS => ?_)
  obtain ⟨S_4, eS_4, h⟩ := tx_lt h
  rw [sM_f47, eS_4] at hP hD
  refine lv_aload_n hx hb dX8_sumRead_20 rfl (lv_at hl 0 rfl) ?_
  refine lv_iconst (v := 1) hx hb dX8_sumRead_21 (by decide) ?_
  refine va_put (D := G) (ci := 8) (v := .int 1) (ty := .boolean) (C := RX8) (T := TX8) (N := 91) hx hb hT ku_8 tyX8 tyX8_ok nmX8 hown hK hP hD hS 0 rfl rfl 48 (by decide) (hT _ kw_25_17) (fun _ h9 => h9) rfl (by decide +kernel) rfl rfl (Nat.le_of_ble_eq_true rfl) dX8_sumRead_22 (fun H locs hP hD hS => ?_)
  obtain ⟨S_5, eS_5, h⟩ := tx_lt h
  rw [sM_f48, eS_5] at hP hD
  exact w_X8_sumRead_L25 F 2000 S_5 H locs ls h hP hD hS (lv_sub hl [0] rfl)
abbrev G_X8_number (p : Program) (l : Launch) (e : Env) (s : State) (m : MethodId) (below : List Frame) (meth : Method) (c : Code) (G : va_G) (cA : Nat → ClassId) (A : Nat → Prop) (aa : Nat → Nat) (L : Lo) (x1 : Int32) (x2 : Int32) (r0 : Int32) (S' : Tr) (H : Heap) (locs : List Loc) (g : JFrame) : Prop := W p l e (headSpec (.code yX8_number cX8_number 3 (some .boolean) :: T0) ({ frames := 2, cells := 0, slots := 0, locals := 47 } : Room)).room s m ([.ref (aa 0), .int x1, .int x2] : List Value).toArray below meth c H locs 0 0 (MQ below (tqQi G cA (fun (r : Int32) (_ : Unit) => r = r0) (fun (_ : Unit) => wM cA aa S' L) A) ([.ref (aa 0), .int x1, .int x2] : List Value).toArray s 0 0 A) g
set_option maxHeartbeats 4000000 in
set_option maxRecDepth 100000 in
theorem c_X8_number (l : Launch) (G : va_G) (cA : Nat → ClassId) (sz : Nat) (aa : Nat → Nat) (S : Tr) (L : Lo) (x1 : Int32) (x2 : Int32)  (r0 : Int32) (S' : Tr) (h : f_X8_number S x1 x2 = some (r0, S')) : Met l yX8_number (.code yX8_number cX8_number 3 (some .boolean) :: T0) ({ frames := 2, cells := 0, slots := 0, locals := 47 } : Room) (tqP G cA [.ref (aa 0), .int x1, .int x2] (wM cA aa S L) sz) (tqQi G cA (fun (r : Int32) (_ : Unit) => r = r0) (fun (_ : Unit) => wM cA aa S' L) (va_A (wM cA aa S L) sz)) 0 0 (va_A (wM cA aa S L) sz) := by
  refine Met.ofW (cc := cX8_number) (maxL := 3) (ret := (some .boolean)) (by decide) rfl ?_
  intro p e s m args below meth c s₁ B hml hv
  obtain ⟨rfl, hsz, hP, hK, hD0, hN⟩ := hv
  have hx := B.exec
  have hb := B.bytes
  have hr := B.returns
  have hts := atoms_spec (ws := .code yX8_number cX8_number 3 (some .boolean) :: T0) B.pre
  have hT : ∀ w ∈ T0, w.before _ s = true := fun w h => hts w (List.mem_cons_of_mem _ h)
  have hown : s.vm.findClass RX8 = some m.cls := findClass_of_methodNamed B.named
  have hlocks := B.notSynchronized
  subst hsz
  have hD := hD0.self (sz := s.heap.size)
  generalize hAe : va_A (wM cA aa S L) s.heap.size = A at hD ⊢
  have hA : ∀ q : Nat, s.heap.size ≤ q → A q := fun q h => by rw [← hAe]; exact Or.inr h
  have hS : va_S A s.heap s.heap [] := va_S.rf
  have hl := lv_entry ([.ref (aa 0), .int x1, .int x2]) (n := 3) (Nat.le_of_ble_eq_true rfl)
  rw [lg_entry_eq]
  generalize (lg_sl ([.ref (aa 0), .int x1, .int x2]) ++ List.replicate (3 - (lg_sl ([.ref (aa 0), .int x1, .int x2])).length) Slot.unset).toArray = ls at hl ⊢
  have hl : lv_has ls 3 [(0, .ref (aa 0)), (1, .int x1), (2, .int x2)] := hl
  have F : tF p s m ([.ref (aa 0), .int x1, .int x2] : List Value).toArray meth c G cA A RX8 cX8_number 3 (some .boolean) := ⟨hx, hb, hr, hml, hT, hown, hlocks, hK, hN, hA⟩
  obtain ⟨H, hH⟩ : ∃ z, z = s.heap := ⟨_, rfl⟩
  rw [← hH] at hP
  have hS : va_S A s.heap H [] := by rw [hH]; exact hS
  suffices hgo : G_X8_number p l e s m below meth c G cA A aa L x1 x2 r0 S' H [] (F0 m 0 ls []) by rw [hH] at hgo; exact hgo
  generalize ([] : List Loc) = locs at hS ⊢
  unfold f_X8_number at h
  refine lv_aload_n hx hb dX8_number_0 rfl (lv_at hl 0 rfl) ?_
  refine va_get (D := G) (ci := 8) (v := .int (S 0 8)) (C := RX8) (T := TX8) (N := 91) hx hb hT ku_8 hown hK hP 0 rfl rfl 8 (by decide) (hT _ kw_22_14) (fun _ h9 => h9) rfl dX8_number_1 ?_
  refine lv_iconst (v := 3) hx hb dX8_number_4 (by decide) ?_
  refine lv_icmp_eq (tgt := 14) hx hb dX8_number_5 (by decide) (fun c1 => ?_) (fun c1 => ?_)
  · have h := tx_pos c1 h
    refine lv_aload_n hx hb dX8_number_14 rfl (lv_at hl 0 rfl) ?_
    refine va_get (D := G) (ci := 8) (v := .int (S 0 9)) (C := RX8) (T := TX8) (N := 91) hx hb hT ku_8 hown hK hP 0 rfl rfl 9 (by decide) (hT _ kw_22_20) (fun _ h9 => h9) rfl dX8_number_15 ?_
    refine lv_iload_n hx hb dX8_number_18 rfl (lv_at hl 1 rfl) ?_
    refine lv_iload_n hx hb dX8_number_19 rfl (lv_at hl 2 rfl) ?_
    obtain ⟨r2, hc3, h⟩ := tx_bd h
    refine tw_ci (tw_none (ws := wM cA aa S L)) hP hD hS hA (va_runS (As := [.int (S 0 9), .int x1, .int x2]) (rest := []) ⟨hx, hb, hml, hown, hT⟩ (c_X8_isIn l G cA H.size (S 0 9) x1 x2  r2 hc3) (va_cwS 3 hT (tq_gS kw_24_11 kw_24_12 kw_1_5 kw_24_13) rfl rfl rfl (by decide +kernel) ⟨Nat.le_of_ble_eq_true rfl, Nat.le_of_ble_eq_true rfl⟩) (tw_pre (tw_none (ws := wM cA aa S L)) hP hD hK hN) rfl rfl hl.1 rfl (lv_room (Nat.le_of_ble_eq_true rfl)) dX8_number_20 ⟨Nat.le_of_ble_eq_true rfl, Nat.le_of_ble_eq_true rfl⟩) (fun _ _ H locs z4 hP hD hS => ?_)
    subst z4
    have hP : va_P G vwCl (wM cA aa S L) H := hP
    have hD : va_D A (wM cA aa S L) := hD
    refine lv_if_ne (tgt := 32) hx hb dX8_number_23 (by decide) (fun c5 => ?_) (fun c5 => ?_)
    · have h := tx_neg c5 h
      refine lv_aload_n hx hb dX8_number_32 rfl (lv_at hl 0 rfl) ?_
      refine lv_aload_n hx hb dX8_number_33 rfl (lv_at hl 0 rfl) ?_
      refine va_get (D := G) (ci := 8) (v := .int (S 0 9)) (C := RX8) (T := TX8) (N := 91) hx hb hT ku_8 hown hK hP 0 rfl rfl 9 (by decide) (hT _ kw_22_20) (fun _ h9 => h9) rfl dX8_number_34 ?_
      refine va_put (D := G) (ci := 8) (v := .int (S 0 9)) (ty := .int) (C := RX8) (T := TX8) (N := 91) hx hb hT ku_8 tyX8 tyX8_ok nmX8 hown hK hP hD hS 0 rfl rfl 11 (by decide) (hT _ kw_23_22) (fun _ h9 => h9) rfl (by decide +kernel) rfl rfl (Nat.le_of_ble_eq_true rfl) dX8_number_37 (fun H locs hP hD hS => ?_)
      obtain ⟨S_6, eS_6, h⟩ := tx_lt h
      rw [sM_f11, eS_6] at hP hD
      refine lv_aload_n hx hb dX8_number_40 rfl (lv_at hl 0 rfl) ?_
      obtain ⟨S_7, hc8, h⟩ := tx_bd h
      refine tw_cv tw_all hP hD hS hA (va_runV (As := []) (rest := []) ⟨hx, hb, hml, hown, hT⟩ (c_X8_token l G cA H.size aa S_6 L  S_7 hc8) (cwV 0 hT (tq_gV kw_22_15 kw_22_16 kw_22_17 kw_1_5 kw_22_18) rfl rfl rfl (by decide +kernel) ⟨Nat.le_of_ble_eq_true rfl, Nat.le_of_ble_eq_true rfl⟩) ⟨(tw_pre tw_all hP hD hK hN).1, va_recv hK hP (ci := 8) (q0 := 0) rfl rfl, (tw_pre tw_all hP hD hK hN).2⟩ rfl rfl hl.1 rfl (lv_room (Nat.le_of_ble_eq_true rfl)) dX8_number_41 ⟨Nat.le_of_ble_eq_true rfl, Nat.le_of_ble_eq_true rfl⟩) (fun _ H locs z9 hP hD hS => ?_)
      rw [List.append_nil] at hP hD
      have hP : va_P G vwCl (wM cA aa S_7 L) H := hP
      have hD : va_D A (wM cA aa S_7 L) := hD
      refine lv_iconst (v := 1) hx hb dX8_number_44 (by decide) ?_
      obtain ⟨rfl, rfl⟩ := tx_2 h
      exact W.zret (ty := .boolean) hx hb hr rfl (fun t ht hW => ⟨⟨_, (), rfl, rfl, by rw [ht]; exact hP, hD⟩, hS.F ht⟩) hS.2.2 dX8_number_45
    · have h := tx_pos c5 h
      refine lv_aload_n hx hb dX8_number_26 rfl (lv_at hl 0 rfl) ?_
      refine lv_iconst (v := 2) hx hb dX8_number_27 (by decide) ?_
      obtain ⟨⟨r10, S_11⟩, hc12, h⟩ := tx_bd h
      replace h := tx_let (y := r10) rfl h
      replace h := tx_let (y := S_11) rfl h
      refine tw_ci tw_all hP hD hS hA (va_runV (As := [.int 2]) (rest := []) ⟨hx, hb, hml, hown, hT⟩ (c_X8_wrong l G cA H.size aa S L (2 : Int32)  r10 S_11 hc12) (cwV 1 hT (tq_gV kw_23_23 kw_24_0 kw_24_1 kw_1_5 kw_24_2) rfl rfl rfl (by decide +kernel) ⟨Nat.le_of_ble_eq_true rfl, Nat.le_of_ble_eq_true rfl⟩) ⟨(tw_pre tw_all hP hD hK hN).1, va_recv hK hP (ci := 8) (q0 := 0) rfl rfl, (tw_pre tw_all hP hD hK hN).2⟩ rfl rfl hl.1 rfl (lv_room (Nat.le_of_ble_eq_true rfl)) dX8_number_28 ⟨Nat.le_of_ble_eq_true rfl, Nat.le_of_ble_eq_true rfl⟩) (fun _ _ H locs z13 hP hD hS => ?_)
      subst z13
      rw [List.append_nil] at hP hD
      have hP : va_P G vwCl (wM cA aa S_11 L) H := hP
      have hD : va_D A (wM cA aa S_11 L) := hD
      obtain ⟨g14, h⟩ := tx_ck h
      obtain ⟨rfl, rfl⟩ := tx_2 h
      exact W.zret (ty := .boolean) hx hb hr (tx_z g14) (fun t ht hW => ⟨⟨_, (), rfl, rfl, by rw [ht]; exact hP, hD⟩, hS.F ht⟩) hS.2.2 dX8_number_31
  · have h := tx_neg c1 h
    refine lv_aload_n hx hb dX8_number_8 rfl (lv_at hl 0 rfl) ?_
    refine lv_iconst (v := 1) hx hb dX8_number_9 (by decide) ?_
    obtain ⟨⟨r15, S_16⟩, hc17, h⟩ := tx_bd h
    replace h := tx_let (y := r15) rfl h
    replace h := tx_let (y := S_16) rfl h
    refine tw_ci tw_all hP hD hS hA (va_runV (As := [.int 1]) (rest := []) ⟨hx, hb, hml, hown, hT⟩ (c_X8_wrong l G cA H.size aa S L (1 : Int32)  r15 S_16 hc17) (cwV 1 hT (tq_gV kw_23_23 kw_24_0 kw_24_1 kw_1_5 kw_24_2) rfl rfl rfl (by decide +kernel) ⟨Nat.le_of_ble_eq_true rfl, Nat.le_of_ble_eq_true rfl⟩) ⟨(tw_pre tw_all hP hD hK hN).1, va_recv hK hP (ci := 8) (q0 := 0) rfl rfl, (tw_pre tw_all hP hD hK hN).2⟩ rfl rfl hl.1 rfl (lv_room (Nat.le_of_ble_eq_true rfl)) dX8_number_10 ⟨Nat.le_of_ble_eq_true rfl, Nat.le_of_ble_eq_true rfl⟩) (fun _ _ H locs z18 hP hD hS => ?_)
    subst z18
    rw [List.append_nil] at hP hD
    have hP : va_P G vwCl (wM cA aa S_16 L) H := hP
    have hD : va_D A (wM cA aa S_16 L) := hD
    obtain ⟨g19, h⟩ := tx_ck h
    obtain ⟨rfl, rfl⟩ := tx_2 h
    exact W.zret (ty := .boolean) hx hb hr (tx_z g19) (fun t ht hW => ⟨⟨_, (), rfl, rfl, by rw [ht]; exact hP, hD⟩, hS.F ht⟩) hS.2.2 dX8_number_13
abbrev G_X8_waitLine (p : Program) (l : Launch) (e : Env) (s : State) (m : MethodId) (below : List Frame) (meth : Method) (c : Code) (G : va_G) (cA : Nat → ClassId) (A : Nat → Prop) (aa : Nat → Nat) (L : Lo) (r0 : Int32) (S' : Tr) (H : Heap) (locs : List Loc) (g : JFrame) : Prop := W p l e (headSpec (.code yX8_waitLine cX8_waitLine 3 (some .boolean) :: T0) ({ frames := 3, cells := 0, slots := 0, locals := 69 } : Room)).room s m ([.ref (aa 0)] : List Value).toArray below meth c H locs 0 0 (MQ below (tqQi G cA (fun (r : Int32) (_ : Unit) => r = r0) (fun (_ : Unit) => wM cA aa S' L) A) ([.ref (aa 0)] : List Value).toArray s 0 0 A) g
set_option maxHeartbeats 4000000 in
set_option maxRecDepth 100000 in
theorem c_X8_waitLine (l : Launch) (G : va_G) (cA : Nat → ClassId) (sz : Nat) (aa : Nat → Nat) (S : Tr) (L : Lo)  (r0 : Int32) (S' : Tr) (h : f_X8_waitLine S = some (r0, S')) : Met l yX8_waitLine (.code yX8_waitLine cX8_waitLine 3 (some .boolean) :: T0) ({ frames := 3, cells := 0, slots := 0, locals := 69 } : Room) (tqP G cA [.ref (aa 0)] (wM cA aa S L) sz) (tqQi G cA (fun (r : Int32) (_ : Unit) => r = r0) (fun (_ : Unit) => wM cA aa S' L) (va_A (wM cA aa S L) sz)) 0 0 (va_A (wM cA aa S L) sz) := by
  refine Met.ofW (cc := cX8_waitLine) (maxL := 3) (ret := (some .boolean)) (by decide) rfl ?_
  intro p e s m args below meth c s₁ B hml hv
  obtain ⟨rfl, hsz, hP, hK, hD0, hN⟩ := hv
  have hx := B.exec
  have hb := B.bytes
  have hr := B.returns
  have hts := atoms_spec (ws := .code yX8_waitLine cX8_waitLine 3 (some .boolean) :: T0) B.pre
  have hT : ∀ w ∈ T0, w.before _ s = true := fun w h => hts w (List.mem_cons_of_mem _ h)
  have hown : s.vm.findClass RX8 = some m.cls := findClass_of_methodNamed B.named
  have hlocks := B.notSynchronized
  subst hsz
  have hD := hD0.self (sz := s.heap.size)
  generalize hAe : va_A (wM cA aa S L) s.heap.size = A at hD ⊢
  have hA : ∀ q : Nat, s.heap.size ≤ q → A q := fun q h => by rw [← hAe]; exact Or.inr h
  have hS : va_S A s.heap s.heap [] := va_S.rf
  have hl := lv_entry ([.ref (aa 0)]) (n := 3) (Nat.le_of_ble_eq_true rfl)
  rw [lg_entry_eq]
  generalize (lg_sl ([.ref (aa 0)]) ++ List.replicate (3 - (lg_sl ([.ref (aa 0)])).length) Slot.unset).toArray = ls at hl ⊢
  have hl : lv_has ls 3 [(0, .ref (aa 0))] := hl
  have F : tF p s m ([.ref (aa 0)] : List Value).toArray meth c G cA A RX8 cX8_waitLine 3 (some .boolean) := ⟨hx, hb, hr, hml, hT, hown, hlocks, hK, hN, hA⟩
  obtain ⟨H, hH⟩ : ∃ z, z = s.heap := ⟨_, rfl⟩
  rw [← hH] at hP
  have hS : va_S A s.heap H [] := by rw [hH]; exact hS
  suffices hgo : G_X8_waitLine p l e s m below meth c G cA A aa L r0 S' H [] (F0 m 0 ls []) by rw [hH] at hgo; exact hgo
  generalize ([] : List Loc) = locs at hS ⊢
  unfold f_X8_waitLine at h
  refine lv_aload_n hx hb dX8_waitLine_0 rfl (lv_at hl 0 rfl) ?_
  refine va_get (D := G) (ci := 8) (v := .int (S 0 20)) (C := RX8) (T := TX8) (N := 91) hx hb hT ku_8 hown hK hP 0 rfl rfl 20 (by decide) (hT _ kw_11_21) (fun _ h9 => h9) rfl dX8_waitLine_1 ?_
  refine lv_bipush (v := 10) hx hb dX8_waitLine_4 (by decide) ?_
  refine lv_icmp_ne (tgt := 15) hx hb dX8_waitLine_6 (by decide) (fun c1 => ?_) (fun c1 => ?_)
  · have h := tx_neg c1 h
    refine lv_aload_n hx hb dX8_waitLine_15 rfl (lv_at hl 0 rfl) ?_
    obtain ⟨S_2, hc3, h⟩ := tx_bd h
    refine tw_cv tw_all hP hD hS hA (va_runV (As := []) (rest := []) ⟨hx, hb, hml, hown, hT⟩ (c_X8_token l G cA H.size aa S L  S_2 hc3) (cwV 0 hT (tq_gV kw_22_15 kw_22_16 kw_22_17 kw_1_5 kw_22_18) rfl rfl rfl (by decide +kernel) ⟨Nat.le_of_ble_eq_true rfl, Nat.le_of_ble_eq_true rfl⟩) ⟨(tw_pre tw_all hP hD hK hN).1, va_recv hK hP (ci := 8) (q0 := 0) rfl rfl, (tw_pre tw_all hP hD hK hN).2⟩ rfl rfl hl.1 rfl (lv_room (Nat.le_of_ble_eq_true rfl)) dX8_waitLine_16 ⟨Nat.le_of_ble_eq_true rfl, Nat.le_of_ble_eq_true rfl⟩) (fun _ H locs z4 hP hD hS => ?_)
    rw [List.append_nil] at hP hD
    have hP : va_P G vwCl (wM cA aa S_2 L) H := hP
    have hD : va_D A (wM cA aa S_2 L) := hD
    refine lv_aload_n hx hb dX8_waitLine_19 rfl (lv_at hl 0 rfl) ?_
    refine va_get (D := G) (ci := 8) (v := .int (S_2 0 10)) (C := RX8) (T := TX8) (N := 91) hx hb hT ku_8 hown hK hP 0 rfl rfl 10 (by decide) (hT _ kw_22_19) (fun _ h9 => h9) rfl dX8_waitLine_20 ?_
    refine lv_topi (fun y5 ey5 => ?_)
    have h := tx_let ey5 h
    refine lv_istore_n (lv' := [(1, .int y5), (0, .ref (aa 0))]) hx hb dX8_waitLine_23 rfl hl (by decide) rfl (fun ls hl => ?_)
    refine lv_aload_n hx hb dX8_waitLine_24 rfl (lv_at hl 1 rfl) ?_
    refine lv_iconst (v := 0) hx hb dX8_waitLine_25 (by decide) ?_
    refine lv_bipush (v := 19) hx hb dX8_waitLine_26 (by decide) ?_
    obtain ⟨⟨r6, S_7⟩, hc8, h⟩ := tx_bd h
    replace h := tx_let (y := r6) rfl h
    replace h := tx_let (y := S_7) rfl h
    refine tw_ci tw_all hP hD hS hA (va_runV (As := [.int 0, .int 19]) (rest := []) ⟨hx, hb, hml, hown, hT⟩ (c_X8_number l G cA H.size aa S_2 L (0 : Int32) (19 : Int32)  r6 S_7 hc8) (cwV 2 hT (tq_gV kw_24_7 kw_24_8 kw_24_9 kw_1_5 kw_24_10) rfl rfl rfl (by decide +kernel) ⟨Nat.le_of_ble_eq_true rfl, Nat.le_of_ble_eq_true rfl⟩) ⟨(tw_pre tw_all hP hD hK hN).1, va_recv hK hP (ci := 8) (q0 := 0) rfl rfl, (tw_pre tw_all hP hD hK hN).2⟩ rfl rfl hl.1 rfl (lv_room (Nat.le_of_ble_eq_true rfl)) dX8_waitLine_28 ⟨Nat.le_of_ble_eq_true rfl, Nat.le_of_ble_eq_true rfl⟩) (fun _ _ H locs z9 hP hD hS => ?_)
    subst z9
    rw [List.append_nil] at hP hD
    have hP : va_P G vwCl (wM cA aa S_7 L) H := hP
    have hD : va_D A (wM cA aa S_7 L) := hD
    refine lv_if_ne (tgt := 36) hx hb dX8_waitLine_31 (by decide) (fun c10 => ?_) (fun c10 => ?_)
    · have h := tx_neg c10 h
      refine lv_aload_n hx hb dX8_waitLine_36 rfl (lv_at hl 1 rfl) ?_
      refine va_get (D := G) (ci := 8) (v := .int (S_7 0 11)) (C := RX8) (T := TX8) (N := 91) hx hb hT ku_8 hown hK hP 0 rfl rfl 11 (by decide) (hT _ kw_23_22) (fun _ h9 => h9) rfl dX8_waitLine_37 ?_
      refine lv_topi (fun y11 ey11 => ?_)
      have h := tx_let ey11 h
      refine lv_istore_n (lv' := [(2, .int y11), (1, .int y5), (0, .ref (aa 0))]) hx hb dX8_waitLine_40 rfl hl (by decide) rfl (fun ls hl => ?_)
      refine lv_aload_n hx hb dX8_waitLine_41 rfl (lv_at hl 2 rfl) ?_
      refine va_get (D := G) (ci := 8) (v := .ref (aa 35)) (C := RX8) (T := TX8) (N := 91) hx hb hT ku_8 hown hK hP 0 rfl rfl 34 (by decide) (hT _ kw_10_2) (fun _ h9 => h9) rfl dX8_waitLine_42 ?_
      refine lv_iload_n hx hb dX8_waitLine_45 rfl (lv_at hl 0 rfl) ?_
      obtain ⟨g12, h⟩ := tx_ck h
      refine va_zald (i := y11) hx hb hK hP 16 1 rfl rfl (tx_in g12) dX8_waitLine_46 ?_
      refine lv_if_eq (tgt := 61) hx hb dX8_waitLine_47 (by decide) (fun c13 => ?_) (fun c13 => ?_)
      · have h := tx_pos c13 h
        refine lv_aload_n hx hb dX8_waitLine_61 rfl (lv_at hl 2 rfl) ?_
        refine va_get (D := G) (ci := 8) (v := .ref (aa 35)) (C := RX8) (T := TX8) (N := 91) hx hb hT ku_8 hown hK hP 0 rfl rfl 34 (by decide) (hT _ kw_10_2) (fun _ h9 => h9) rfl dX8_waitLine_62 ?_
        refine lv_iload_n hx hb dX8_waitLine_65 rfl (lv_at hl 0 rfl) ?_
        refine lv_iconst (v := 1) hx hb dX8_waitLine_66 (by decide) ?_
        refine va_zast (i := y11) hx hb hK hP hD hS 16 1 rfl rfl (tx_in g12) dX8_waitLine_67 (fun H locs hP hD hS => ?_)
        obtain ⟨S_14, eS_14, h⟩ := tx_lt h
        rw [sM_a34, eS_14] at hP hD
        refine lv_aload_n hx hb dX8_waitLine_68 rfl (lv_at hl 2 rfl) ?_
        refine lv_iconst (v := 0) hx hb dX8_waitLine_69 (by decide) ?_
        refine lv_sipush (v := 999) hx hb dX8_waitLine_70 (by decide) ?_
        obtain ⟨⟨r15, S_16⟩, hc17, h⟩ := tx_bd h
        replace h := tx_let (y := r15) rfl h
        replace h := tx_let (y := S_16) rfl h
        refine tw_ci tw_all hP hD hS hA (va_runV (As := [.int 0, .int 999]) (rest := []) ⟨hx, hb, hml, hown, hT⟩ (c_X8_number l G cA H.size aa S_14 L (0 : Int32) (999 : Int32)  r15 S_16 hc17) (cwV 2 hT (tq_gV kw_24_7 kw_24_8 kw_24_9 kw_1_5 kw_24_10) rfl rfl rfl (by decide +kernel) ⟨Nat.le_of_ble_eq_true rfl, Nat.le_of_ble_eq_true rfl⟩) ⟨(tw_pre tw_all hP hD hK hN).1, va_recv hK hP (ci := 8) (q0 := 0) rfl rfl, (tw_pre tw_all hP hD hK hN).2⟩ rfl rfl hl.1 rfl (lv_room (Nat.le_of_ble_eq_true rfl)) dX8_waitLine_73 ⟨Nat.le_of_ble_eq_true rfl, Nat.le_of_ble_eq_true rfl⟩) (fun _ _ H locs z18 hP hD hS => ?_)
        subst z18
        rw [List.append_nil] at hP hD
        have hP : va_P G vwCl (wM cA aa S_16 L) H := hP
        have hD : va_D A (wM cA aa S_16 L) := hD
        refine lv_if_ne (tgt := 81) hx hb dX8_waitLine_76 (by decide) (fun c19 => ?_) (fun c19 => ?_)
        · have h := tx_neg c19 h
          refine lv_aload_n hx hb dX8_waitLine_81 rfl (lv_at hl 2 rfl) ?_
          refine va_get (D := G) (ci := 8) (v := .ref (aa 34)) (C := RX8) (T := TX8) (N := 91) hx hb hT ku_8 hown hK hP 0 rfl rfl 33 (by decide) (hT _ kw_10_1) (fun _ h9 => h9) rfl dX8_waitLine_82 ?_
          refine lv_bipush (v := 21) hx hb dX8_waitLine_85 (by decide) ?_
          refine lv_iload_n hx hb dX8_waitLine_87 rfl (lv_at hl 0 rfl) ?_
          refine lv_iadd hx hb dX8_waitLine_88 ?_
          refine lv_aload_n hx hb dX8_waitLine_89 rfl (lv_at hl 2 rfl) ?_
          refine va_get (D := G) (ci := 8) (v := .int (S_16 0 11)) (C := RX8) (T := TX8) (N := 91) hx hb hT ku_8 hown hK hP 0 rfl rfl 11 (by decide) (hT _ kw_23_22) (fun _ h9 => h9) rfl dX8_waitLine_90 ?_
          obtain ⟨g20, h⟩ := tx_ck h
          refine va_iast (i := ((21 : Int32) + y11)) hx hb hK hP hD hS 15 0 rfl rfl (tx_in g20) dX8_waitLine_93 (fun H locs hP hD hS => ?_)
          obtain ⟨S_21, eS_21, h⟩ := tx_lt h
          rw [sM_a33, eS_21] at hP hD
          refine lv_aload_n hx hb dX8_waitLine_94 rfl (lv_at hl 2 rfl) ?_
          refine lv_dup hx hb dX8_waitLine_95 rfl ?_
          refine va_get (D := G) (ci := 8) (v := .int (S_21 0 20)) (C := RX8) (T := TX8) (N := 91) hx hb hT ku_8 hown hK hP 0 rfl rfl 20 (by decide) (hT _ kw_11_21) (fun _ h9 => h9) rfl dX8_waitLine_96 ?_
          refine lv_iconst (v := 1) hx hb dX8_waitLine_99 (by decide) ?_
          refine lv_iadd hx hb dX8_waitLine_100 ?_
          refine va_put (D := G) (ci := 8) (v := .int ((S_21 0 20) + 1)) (ty := .int) (C := RX8) (T := TX8) (N := 91) hx hb hT ku_8 tyX8 tyX8_ok nmX8 hown hK hP hD hS 0 rfl rfl 20 (by decide) (hT _ kw_11_21) (fun _ h9 => h9) rfl (by decide +kernel) rfl rfl (Nat.le_of_ble_eq_true rfl) dX8_waitLine_101 (fun H locs hP hD hS => ?_)
          obtain ⟨S_22, eS_22, h⟩ := tx_lt h
          rw [sM_f20, eS_22] at hP hD
          refine lv_iconst (v := 1) hx hb dX8_waitLine_104 (by decide) ?_
          obtain ⟨rfl, rfl⟩ := tx_2 h
          exact W.zret (ty := .boolean) hx hb hr rfl (fun t ht hW => ⟨⟨_, (), rfl, rfl, by rw [ht]; exact hP, hD⟩, hS.F ht⟩) hS.2.2 dX8_waitLine_105
        · have h := tx_pos c19 h
          refine lv_iconst (v := 0) hx hb dX8_waitLine_79 (by decide) ?_
          obtain ⟨rfl, rfl⟩ := tx_2 h
          exact W.zret (ty := .boolean) hx hb hr rfl (fun t ht hW => ⟨⟨_, (), rfl, rfl, by rw [ht]; exact hP, hD⟩, hS.F ht⟩) hS.2.2 dX8_waitLine_80
      · have h := tx_neg c13 h
        refine lv_aload_n hx hb dX8_waitLine_50 rfl (lv_at hl 2 rfl) ?_
        refine lv_iload_n hx hb dX8_waitLine_51 rfl (lv_at hl 1 rfl) ?_
        refine va_put (D := G) (ci := 8) (v := .int y5) (ty := .int) (C := RX8) (T := TX8) (N := 91) hx hb hT ku_8 tyX8 tyX8_ok nmX8 hown hK hP hD hS 0 rfl rfl 10 (by decide) (hT _ kw_22_19) (fun _ h9 => h9) rfl (by decide +kernel) rfl rfl (Nat.le_of_ble_eq_true rfl) dX8_waitLine_52 (fun H locs hP hD hS => ?_)
        obtain ⟨S_23, eS_23, h⟩ := tx_lt h
        rw [sM_f10, eS_23] at hP hD
        refine lv_aload_n hx hb dX8_waitLine_55 rfl (lv_at hl 2 rfl) ?_
        refine lv_iconst (v := 3) hx hb dX8_waitLine_56 (by decide) ?_
        obtain ⟨⟨r24, S_25⟩, hc26, h⟩ := tx_bd h
        replace h := tx_let (y := r24) rfl h
        replace h := tx_let (y := S_25) rfl h
        refine tw_ci tw_all hP hD hS hA (va_runV (As := [.int 3]) (rest := []) ⟨hx, hb, hml, hown, hT⟩ (c_X8_wrong l G cA H.size aa S_23 L (3 : Int32)  r24 S_25 hc26) (cwV 1 hT (tq_gV kw_23_23 kw_24_0 kw_24_1 kw_1_5 kw_24_2) rfl rfl rfl (by decide +kernel) ⟨Nat.le_of_ble_eq_true rfl, Nat.le_of_ble_eq_true rfl⟩) ⟨(tw_pre tw_all hP hD hK hN).1, va_recv hK hP (ci := 8) (q0 := 0) rfl rfl, (tw_pre tw_all hP hD hK hN).2⟩ rfl rfl hl.1 rfl (lv_room (Nat.le_of_ble_eq_true rfl)) dX8_waitLine_57 ⟨Nat.le_of_ble_eq_true rfl, Nat.le_of_ble_eq_true rfl⟩) (fun _ _ H locs z27 hP hD hS => ?_)
        subst z27
        rw [List.append_nil] at hP hD
        have hP : va_P G vwCl (wM cA aa S_25 L) H := hP
        have hD : va_D A (wM cA aa S_25 L) := hD
        obtain ⟨g28, h⟩ := tx_ck h
        obtain ⟨rfl, rfl⟩ := tx_2 h
        exact W.zret (ty := .boolean) hx hb hr (tx_z g28) (fun t ht hW => ⟨⟨_, (), rfl, rfl, by rw [ht]; exact hP, hD⟩, hS.F ht⟩) hS.2.2 dX8_waitLine_60
    · have h := tx_pos c10 h
      refine lv_iconst (v := 0) hx hb dX8_waitLine_34 (by decide) ?_
      obtain ⟨rfl, rfl⟩ := tx_2 h
      exact W.zret (ty := .boolean) hx hb hr rfl (fun t ht hW => ⟨⟨_, (), rfl, rfl, by rw [ht]; exact hP, hD⟩, hS.F ht⟩) hS.2.2 dX8_waitLine_35
  · have h := tx_pos c1 h
    refine lv_aload_n hx hb dX8_waitLine_9 rfl (lv_at hl 0 rfl) ?_
    refine lv_iconst (v := 2) hx hb dX8_waitLine_10 (by decide) ?_
    obtain ⟨⟨r29, S_30⟩, hc31, h⟩ := tx_bd h
    replace h := tx_let (y := r29) rfl h
    replace h := tx_let (y := S_30) rfl h
    refine tw_ci tw_all hP hD hS hA (va_runV (As := [.int 2]) (rest := []) ⟨hx, hb, hml, hown, hT⟩ (c_X8_wrong l G cA H.size aa S L (2 : Int32)  r29 S_30 hc31) (cwV 1 hT (tq_gV kw_23_23 kw_24_0 kw_24_1 kw_1_5 kw_24_2) rfl rfl rfl (by decide +kernel) ⟨Nat.le_of_ble_eq_true rfl, Nat.le_of_ble_eq_true rfl⟩) ⟨(tw_pre tw_all hP hD hK hN).1, va_recv hK hP (ci := 8) (q0 := 0) rfl rfl, (tw_pre tw_all hP hD hK hN).2⟩ rfl rfl hl.1 rfl (lv_room (Nat.le_of_ble_eq_true rfl)) dX8_waitLine_11 ⟨Nat.le_of_ble_eq_true rfl, Nat.le_of_ble_eq_true rfl⟩) (fun _ _ H locs z32 hP hD hS => ?_)
    subst z32
    rw [List.append_nil] at hP hD
    have hP : va_P G vwCl (wM cA aa S_30 L) H := hP
    have hD : va_D A (wM cA aa S_30 L) := hD
    obtain ⟨g33, h⟩ := tx_ck h
    obtain ⟨rfl, rfl⟩ := tx_2 h
    exact W.zret (ty := .boolean) hx hb hr (tx_z g33) (fun t ht hW => ⟨⟨_, (), rfl, rfl, by rw [ht]; exact hP, hD⟩, hS.F ht⟩) hS.2.2 dX8_waitLine_14
abbrev G_X8_find_26 (p : Program) (l : Launch) (e : Env) (s : State) (m : MethodId) (below : List Frame) (meth : Method) (c : Code) (G : va_G) (cA : Nat → ClassId) (A : Nat → Prop) (aa : Nat → Nat) (S : Tr) (L : Lo) (x1 : Int32) (x2 : Int32) (x3 : Int32) (r0 : Int32) (H : Heap) (locs : List Loc) (g : JFrame) : Prop := W p l e (headSpec (.code yX8_find cX8_find 5 (some .int) :: T0) ({ frames := 0, cells := 0, slots := 0, locals := 0 } : Room)).room s m ([.ref (aa 26), .int x1, .int x2, .int x3] : List Value).toArray below meth c H locs 0 0 (MQ below (tqQi G cA (fun (r : Int32) (_ : Unit) => r = r0) (fun (_ : Unit) => wM cA aa S L) A) ([.ref (aa 26), .int x1, .int x2, .int x3] : List Value).toArray s 0 0 A) g
set_option maxHeartbeats 4000000 in
set_option maxRecDepth 100000 in
theorem w_X8_find_26_L3 {p : Program} {l : Launch} {e : Env} {s : State} {m : MethodId} {below : List Frame} {meth : Method} {c : Code} {G : va_G} {cA : Nat → ClassId} {A : Nat → Prop} {aa : Nat → Nat} {S : Tr} {L : Lo} {x1₀ : Int32} {x2₀ : Int32} {x3₀ : Int32} {r0 : Int32} {x1 : Int32} {x2 : Int32} {x3 : Int32} (F : tF p s m ([.ref (aa 26), .int x1₀, .int x2₀, .int x3₀] : List Value).toArray meth c G cA A RX8 cX8_find 5 (some .int))    (N : Nat) : ∀ (x4 : Int32) (H : Heap) (locs : List Loc) (ls : Array Slot), lpF (fun _ => none) (fB_X8_find_26_L3 S x1 x2 x3) N x4 = some r0 → va_P G vwCl (wM cA aa S L) H → va_D A (wM cA aa S L) → va_S A s.heap H locs → lv_has ls 5 [(0, .ref (aa 26)), (1, .int x1), (2, .int x2), (3, .int x3), (4, .int x4)] → G_X8_find_26 p l e s m below meth c G cA A aa S L x1₀ x2₀ x3₀ r0 H locs (F0 m 3 ls []) := by
  obtain ⟨hx, hb, hr, hml, hT, hown, hlocks, hK, hN, hA⟩ := id F
  induction N with
  | zero =>
    intro x4 H locs ls h
    have h : (none : Option (Int32)) = some r0 := h
    cases h
  | succ N hk3 =>
    intro x4 H locs ls h hP hD hS hl
    have h : fB_X8_find_26_L3 S x1 x2 x3 (lpF (fun _ => none) (fB_X8_find_26_L3 S x1 x2 x3) N) x4 = some r0 := h
    generalize hk3e : lpF (fun _ => none) (fB_X8_find_26_L3 S x1 x2 x3) N = k3 at h hk3
    unfold fB_X8_find_26_L3 at h
    refine lv_iload hx hb dX8_find_3 (lv_at hl 4 rfl) ?_
    refine lv_iload_n hx hb dX8_find_5 rfl (lv_at hl 2 rfl) ?_
    refine lv_icmp_ge (tgt := 28) hx hb dX8_find_6 (by decide) (fun c1 => ?_) (fun c1 => ?_)
    · have h := tx_pos c1 h
      refine lv_iconst (v := (-1)) hx hb dX8_find_28 (by decide) ?_
      obtain rfl := tx_1 h
      exact W.iret hx hb hr (fun t ht hW => ⟨⟨_, (), rfl, rfl, by rw [ht]; exact hP, hD⟩, hS.F ht⟩) hS.2.2 dX8_find_29
    · have h := tx_neg c1 h
      refine lv_aload_n hx hb dX8_find_9 rfl (lv_at hl 0 rfl) ?_
      refine lv_iload_n hx hb dX8_find_10 rfl (lv_at hl 1 rfl) ?_
      refine lv_iload hx hb dX8_find_11 (lv_at hl 4 rfl) ?_
      refine lv_iadd hx hb dX8_find_13 ?_
      obtain ⟨g2, h⟩ := tx_ck h
      refine va_iald (i := (x1 + x4)) hx hb hK hP 7 0 rfl rfl (tx_in g2) dX8_find_14 ?_
      refine lv_iload_n hx hb dX8_find_15 rfl (lv_at hl 3 rfl) ?_
      refine lv_icmp_ne (tgt := 22) hx hb dX8_find_16 (by decide) (fun c3 => ?_) (fun c3 => ?_)
      · have h := tx_neg c3 h
        obtain ⟨y4, ey4, h⟩ := tx_lt h
        refine lv_iinc (v := y4) (lv' := [(4, .int y4), (0, .ref (aa 26)), (1, .int x1), (2, .int x2), (3, .int x3)]) hx hb dX8_find_22 hl (k := 4) rfl ey4 (by decide) rfl (fun ls hl => ?_)
        refine lv_goto (tgt := 3) hx hb dX8_find_25 (by decide) ?_
        exact hk3 y4 H locs ls h hP hD hS (lv_sub hl [1, 2, 3, 4, 0] rfl)
      · have h := tx_pos c3 h
        refine lv_iload hx hb dX8_find_19 (lv_at hl 4 rfl) ?_
        obtain rfl := tx_1 h
        exact W.iret hx hb hr (fun t ht hW => ⟨⟨_, (), rfl, rfl, by rw [ht]; exact hP, hD⟩, hS.F ht⟩) hS.2.2 dX8_find_21
set_option maxHeartbeats 4000000 in
set_option maxRecDepth 100000 in
theorem c_X8_find_26 (l : Launch) (G : va_G) (cA : Nat → ClassId) (sz : Nat) (aa : Nat → Nat) (S : Tr) (L : Lo) (x1 : Int32) (x2 : Int32) (x3 : Int32)  (r0 : Int32) (h : f_X8_find_26 S x1 x2 x3 = some r0) : Met l yX8_find (.code yX8_find cX8_find 5 (some .int) :: T0) ({ frames := 0, cells := 0, slots := 0, locals := 0 } : Room) (tqP G cA [.ref (aa 26), .int x1, .int x2, .int x3] (wM cA aa S L) sz) (tqQi G cA (fun (r : Int32) (_ : Unit) => r = r0) (fun (_ : Unit) => wM cA aa S L) (va_A (wM cA aa S L) sz)) 0 0 (va_A (wM cA aa S L) sz) := by
  refine Met.ofW (cc := cX8_find) (maxL := 5) (ret := (some .int)) (by decide) rfl ?_
  intro p e s m args below meth c s₁ B hml hv
  obtain ⟨rfl, hsz, hP, hK, hD0, hN⟩ := hv
  have hx := B.exec
  have hb := B.bytes
  have hr := B.returns
  have hts := atoms_spec (ws := .code yX8_find cX8_find 5 (some .int) :: T0) B.pre
  have hT : ∀ w ∈ T0, w.before _ s = true := fun w h => hts w (List.mem_cons_of_mem _ h)
  have hown : s.vm.findClass RX8 = some m.cls := findClass_of_methodNamed B.named
  have hlocks := B.notSynchronized
  subst hsz
  have hD := hD0.self (sz := s.heap.size)
  generalize hAe : va_A (wM cA aa S L) s.heap.size = A at hD ⊢
  have hA : ∀ q : Nat, s.heap.size ≤ q → A q := fun q h => by rw [← hAe]; exact Or.inr h
  have hS : va_S A s.heap s.heap [] := va_S.rf
  have hl := lv_entry ([.ref (aa 26), .int x1, .int x2, .int x3]) (n := 5) (Nat.le_of_ble_eq_true rfl)
  rw [lg_entry_eq]
  generalize (lg_sl ([.ref (aa 26), .int x1, .int x2, .int x3]) ++ List.replicate (5 - (lg_sl ([.ref (aa 26), .int x1, .int x2, .int x3])).length) Slot.unset).toArray = ls at hl ⊢
  have hl : lv_has ls 5 [(0, .ref (aa 26)), (1, .int x1), (2, .int x2), (3, .int x3)] := hl
  have F : tF p s m ([.ref (aa 26), .int x1, .int x2, .int x3] : List Value).toArray meth c G cA A RX8 cX8_find 5 (some .int) := ⟨hx, hb, hr, hml, hT, hown, hlocks, hK, hN, hA⟩
  obtain ⟨H, hH⟩ : ∃ z, z = s.heap := ⟨_, rfl⟩
  rw [← hH] at hP
  have hS : va_S A s.heap H [] := by rw [hH]; exact hS
  suffices hgo : G_X8_find_26 p l e s m below meth c G cA A aa S L x1 x2 x3 r0 H [] (F0 m 0 ls []) by rw [hH] at hgo; exact hgo
  generalize ([] : List Loc) = locs at hS ⊢
  unfold f_X8_find_26 at h
  refine lv_iconst (v := 0) hx hb dX8_find_0 (by decide) ?_
  refine lv_istore (lv' := [(4, .int 0), (0, .ref (aa 26)), (1, .int x1), (2, .int x2), (3, .int x3)]) hx hb dX8_find_1 hl (by decide) rfl (fun ls hl => ?_)
  exact w_X8_find_26_L3 F 2000 0 H locs ls h hP hD hS (lv_sub hl [1, 2, 3, 4, 0] rfl)
