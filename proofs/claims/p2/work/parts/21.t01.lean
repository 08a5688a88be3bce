abbrev G_X6_firstLate (p : Program) (l : Launch) (e : Env) (s : State) (m : MethodId) (below : List Frame) (meth : Method) (c : Code) (G : va_G) (cA : Nat → ClassId) (A : Nat → Prop) (ta : Nat → Nat) (pa : Nat → Nat) (T : Tr) (P : Tr) (L : Lo) (r0 : Int32) (H : Heap) (locs : List Loc) (g : JFrame) : Prop := W p l e (headSpec (.code yX6_firstLate cX6_firstLate 2 (some .int) :: T0) ({ frames := 0, cells := 0, slots := 0, locals := 0 } : Room)).room s m ([.ref (ta 0)] : List Value).toArray below meth c H locs 0 0 (MQ below (tqQi G cA (fun (r : Int32) (_ : Unit) => r = r0) (fun (_ : Unit) => wTP cA ta pa T P L) A) ([.ref (ta 0)] : List Value).toArray s 0 0 A) g
set_option maxHeartbeats 4000000 in
set_option maxRecDepth 100000 in
theorem w_X6_firstLate_L2 {p : Program} {l : Launch} {e : Env} {s : State} {m : MethodId} {below : List Frame} {meth : Method} {c : Code} {G : va_G} {cA : Nat → ClassId} {A : Nat → Prop} {ta : Nat → Nat} {pa : Nat → Nat} {T : Tr} {P : Tr} {L : Lo} {r0 : Int32} (F : tF p s m ([.ref (ta 0)] : List Value).toArray meth c G cA A RX6 cX6_firstLate 2 (some .int))    (N : Nat) : ∀ (x1 : Int32) (H : Heap) (locs : List Loc) (ls : Array Slot), lpF (fun _ => none) (fB_X6_firstLate_L2 T P) N x1 = some r0 → va_P G vwCl (wTP cA ta pa T P L) H → va_D A (wTP cA ta pa T P L) → va_S A s.heap H locs → lv_has ls 2 [(0, .ref (ta 0)), (1, .int x1)] → G_X6_firstLate p l e s m below meth c G cA A ta pa T P L r0 H locs (F0 m 2 ls []) := by
  obtain ⟨hx, hb, hr, hml, hT, hown, hlocks, hK, hN, hA⟩ := id F
  induction N with
  | zero =>
    intro x1 H locs ls h
    have h : (none : Option (Int32)) = some r0 := h
    cases h
  | succ N hk2 =>
    intro x1 H locs ls h hP hD hS hl
    have h : fB_X6_firstLate_L2 T P (lpF (fun _ => none) (fB_X6_firstLate_L2 T P) N) x1 = some r0 := h
    generalize hk2e : lpF (fun _ => none) (fB_X6_firstLate_L2 T P) N = k2 at h hk2
    unfold fB_X6_firstLate_L2 at h
    refine lv_iload_n hx hb dX6_firstLate_2 rfl (lv_at hl 1 rfl) ?_
    refine lv_aload_n hx hb dX6_firstLate_3 rfl (lv_at hl 0 rfl) ?_
    refine va_get (D := G) (ci := 6) (v := .ref (pa 0)) (C := RX6) (T := TX6) (N := 20) hx hb hT ku_6 hown hK hP 0 rfl rfl 19 (by decide) (hT _ kw_8_1) (fun _ h9 => h9) rfl dX6_firstLate_4 ?_
    refine va_get (D := G) (ci := 2) (v := .int (P 0 1)) (C := RX2) (T := TX2) (N := 19) hx hb hT ku_2 hown hK hP 12 rfl rfl 1 (by decide) (hT _ kw_40_16) (fun _ h9 => h9) rfl dX6_firstLate_7 ?_
    refine lv_icmp_ge (tgt := 47) hx hb dX6_firstLate_10 (by decide) (fun c1 => ?_) (fun c1 => ?_)
    · have h := tx_pos c1 h
      refine lv_iconst (v := (-1)) hx hb dX6_firstLate_47 (by decide) ?_
      obtain rfl := tx_1 h
      exact W.iret hx hb hr (fun t ht hW => ⟨⟨_, (), rfl, rfl, by rw [ht]; exact hP, hD⟩, hS.F ht⟩) hS.2.2 dX6_firstLate_48
    · have h := tx_neg c1 h
      refine lv_aload_n hx hb dX6_firstLate_13 rfl (lv_at hl 0 rfl) ?_
      refine va_get (D := G) (ci := 6) (v := .ref (ta 11)) (C := RX6) (T := TX6) (N := 20) hx hb hT ku_6 hown hK hP 0 rfl rfl 10 (by decide) (hT _ kw_7_9) (fun _ h9 => h9) rfl dX6_firstLate_14 ?_
      refine lv_iload_n hx hb dX6_firstLate_17 rfl (lv_at hl 1 rfl) ?_
      obtain ⟨g2, h⟩ := tx_ck h
      refine va_iald (i := x1) hx hb hK hP 3 0 rfl rfl (tx_in g2) dX6_firstLate_18 ?_
      refine lv_iconst (v := 1) hx hb dX6_firstLate_19 (by decide) ?_
      refine lv_icmp_ne (tgt := 41) hx hb dX6_firstLate_20 (by decide) (fun c3 => ?_) (fun c3 => ?_)
      · have h := tx_neg c3 h
        obtain ⟨y4, ey4, h⟩ := tx_lt h
        refine lv_iinc (v := y4) (lv' := [(1, .int y4), (0, .ref (ta 0))]) hx hb dX6_firstLate_41 hl (k := 1) rfl ey4 (by decide) rfl (fun ls hl => ?_)
        refine lv_goto (tgt := 2) hx hb dX6_firstLate_44 (by decide) ?_
        exact hk2 y4 H locs ls h hP hD hS (lv_sub hl [1, 0] rfl)
      · have h := tx_pos c3 h
        refine lv_aload_n hx hb dX6_firstLate_23 rfl (lv_at hl 0 rfl) ?_
        refine va_get (D := G) (ci := 6) (v := .ref (pa 0)) (C := RX6) (T := TX6) (N := 20) hx hb hT ku_6 hown hK hP 0 rfl rfl 19 (by decide) (hT _ kw_8_1) (fun _ h9 => h9) rfl dX6_firstLate_24 ?_
        refine va_get (D := G) (ci := 2) (v := .ref (pa 12)) (C := RX2) (T := TX2) (N := 19) hx hb hT ku_2 hown hK hP 12 rfl rfl 11 (by decide) (hT _ kw_38_23) (fun _ h9 => h9) rfl dX6_firstLate_27 ?_
        refine lv_iload_n hx hb dX6_firstLate_30 rfl (lv_at hl 1 rfl) ?_
        refine va_iald (i := x1) hx hb hK hP 17 0 rfl rfl (tx_in g2) dX6_firstLate_31 ?_
        refine lv_aload_n hx hb dX6_firstLate_32 rfl (lv_at hl 0 rfl) ?_
        refine va_get (D := G) (ci := 6) (v := .int (T 0 0)) (C := RX6) (T := TX6) (N := 20) hx hb hT ku_6 hown hK hP 0 rfl rfl 0 (by decide) (hT _ kw_8_2) (fun _ h9 => h9) rfl dX6_firstLate_33 ?_
        refine lv_icmp_ne (tgt := 41) hx hb dX6_firstLate_36 (by decide) (fun c5 => ?_) (fun c5 => ?_)
        · have h := tx_neg c5 h
          obtain ⟨y6, ey6, h⟩ := tx_lt h
          refine lv_iinc (v := y6) (lv' := [(1, .int y6), (0, .ref (ta 0))]) hx hb dX6_firstLate_41 hl (k := 1) rfl ey6 (by decide) rfl (fun ls hl => ?_)
          refine lv_goto (tgt := 2) hx hb dX6_firstLate_44 (by decide) ?_
          exact hk2 y6 H locs ls h hP hD hS (lv_sub hl [1, 0] rfl)
        · have h := tx_pos c5 h
          refine lv_iload_n hx hb dX6_firstLate_39 rfl (lv_at hl 1 rfl) ?_
          obtain rfl := tx_1 h
          exact W.iret hx hb hr (fun t ht hW => ⟨⟨_, (), rfl, rfl, by rw [ht]; exact hP, hD⟩, hS.F ht⟩) hS.2.2 dX6_firstLate_40
set_option maxHeartbeats 4000000 in
set_option maxRecDepth 100000 in
theorem c_X6_firstLate (l : Launch) (G : va_G) (cA : Nat → ClassId) (sz : Nat) (ta : Nat → Nat) (pa : Nat → Nat) (T : Tr) (P : Tr) (L : Lo)  (r0 : Int32) (h : f_X6_firstLate T P = some r0) : Met l yX6_firstLate (.code yX6_firstLate cX6_firstLate 2 (some .int) :: T0) ({ frames := 0, cells := 0, slots := 0, locals := 0 } : Room) (tqP G cA [.ref (ta 0)] (wTP cA ta pa T P L) sz) (tqQi G cA (fun (r : Int32) (_ : Unit) => r = r0) (fun (_ : Unit) => wTP cA ta pa T P L) (va_A (wTP cA ta pa T P L) sz)) 0 0 (va_A (wTP cA ta pa T P L) sz) := by
  refine Met.ofW (cc := cX6_firstLate) (maxL := 2) (ret := (some .int)) (by decide) rfl ?_
  intro p e s m args below meth c s₁ B hml hv
  obtain ⟨rfl, hsz, hP, hK, hD0, hN⟩ := hv
  have hx := B.exec
  have hb := B.bytes
  have hr := B.returns
  have hts := atoms_spec (ws := .code yX6_firstLate cX6_firstLate 2 (some .int) :: T0) B.pre
  have hT : ∀ w ∈ T0, w.before _ s = true := fun w h => hts w (List.mem_cons_of_mem _ h)
  have hown : s.vm.findClass RX6 = some m.cls := findClass_of_methodNamed B.named
  have hlocks := B.notSynchronized
  subst hsz
  have hD := hD0.self (sz := s.heap.size)
  generalize hAe : va_A (wTP cA ta pa T P L) s.heap.size = A at hD ⊢
  have hA : ∀ q : Nat, s.heap.size ≤ q → A q := fun q h => by rw [← hAe]; exact Or.inr h
  have hS : va_S A s.heap s.heap [] := va_S.rf
  have hl := lv_entry ([.ref (ta 0)]) (n := 2) (Nat.le_of_ble_eq_true rfl)
  rw [lg_entry_eq]
  generalize (lg_sl ([.ref (ta 0)]) ++ List.replicate (2 - (lg_sl ([.ref (ta 0)])).length) Slot.unset).toArray = ls at hl ⊢
  have hl : lv_has ls 2 [(0, .ref (ta 0))] := hl
  have F : tF p s m ([.ref (ta 0)] : List Value).toArray meth c G cA A RX6 cX6_firstLate 2 (some .int) := ⟨hx, hb, hr, hml, hT, hown, hlocks, hK, hN, hA⟩
  obtain ⟨H, hH⟩ : ∃ z, z = s.heap := ⟨_, rfl⟩
  rw [← hH] at hP
  have hS : va_S A s.heap H [] := by rw [hH]; exact hS
  suffices hgo : G_X6_firstLate p l e s m below meth c G cA A ta pa T P L r0 H [] (F0 m 0 ls []) by rw [hH] at hgo; exact hgo
  generalize ([] : List Loc) = locs at hS ⊢
  unfold f_X6_firstLate at h
  refine lv_iconst (v := 0) hx hb dX6_firstLate_0 (by decide) ?_
  refine lv_istore_n (lv' := [(1, .int 0), (0, .ref (ta 0))]) hx hb dX6_firstLate_1 rfl hl (by decide) rfl (fun ls hl => ?_)
  exact w_X6_firstLate_L2 F 2000 0 H locs ls h hP hD hS (lv_sub hl [1, 0] rfl)
abbrev G_X6_hasRoom (p : Program) (l : Launch) (e : Env) (s : State) (m : MethodId) (below : List Frame) (meth : Method) (c : Code) (G : va_G) (cA : Nat → ClassId) (A : Nat → Prop) (ta : Nat → Nat) (pa : Nat → Nat) (T : Tr) (P : Tr) (L : Lo) (x1 : Int32) (x2 : Int32) (r0 : Int32) (H : Heap) (locs : List Loc) (g : JFrame) : Prop := W p l e (headSpec (.code yX6_hasRoom cX6_hasRoom 3 (some .boolean) :: T0) ({ frames := 0, cells := 0, slots := 0, locals := 0 } : Room)).room s m ([.ref (ta 0), .int x1, .int x2] : List Value).toArray below meth c H locs 0 0 (MQ below (tqQi G cA (fun (r : Int32) (_ : Unit) => r = r0) (fun (_ : Unit) => wTP cA ta pa T P L) A) ([.ref (ta 0), .int x1, .int x2] : List Value).toArray s 0 0 A) g
set_option maxHeartbeats 4000000 in
set_option maxRecDepth 100000 in
theorem c_X6_hasRoom (l : Launch) (G : va_G) (cA : Nat → ClassId) (sz : Nat) (ta : Nat → Nat) (pa : Nat → Nat) (T : Tr) (P : Tr) (L : Lo) (x1 : Int32) (x2 : Int32)  (r0 : Int32) (h : f_X6_hasRoom T P x1 x2 = some r0) : Met l yX6_hasRoom (.code yX6_hasRoom cX6_hasRoom 3 (some .boolean) :: T0) ({ frames := 0, cells := 0, slots := 0, locals := 0 } : Room) (tqP G cA [.ref (ta 0), .int x1, .int x2] (wTP cA ta pa T P L) sz) (tqQi G cA (fun (r : Int32) (_ : Unit) => r = r0) (fun (_ : Unit) => wTP cA ta pa T P L) (va_A (wTP cA ta pa T P L) sz)) 0 0 (va_A (wTP cA ta pa T P L) sz) := by
  refine Met.ofW (cc := cX6_hasRoom) (maxL := 3) (ret := (some .boolean)) (by decide) rfl ?_
  intro p e s m args below meth c s₁ B hml hv
  obtain ⟨rfl, hsz, hP, hK, hD0, hN⟩ := hv
  have hx := B.exec
  have hb := B.bytes
  have hr := B.returns
  have hts := atoms_spec (ws := .code yX6_hasRoom cX6_hasRoom 3 (some .boolean) :: T0) B.pre
  have hT : ∀ w ∈ T0, w.before _ s = true := fun w h => hts w (List.mem_cons_of_mem _ h)
  have hown : s.vm.findClass RX6 = some m.cls := findClass_of_methodNamed B.named
  have hlocks := B.notSynchronized
  subst hsz
  have hD := hD0.self (sz := s.heap.size)
  generalize hAe : va_A (wTP cA ta pa T P L) s.heap.size = A at hD ⊢
  have hA : ∀ q : Nat, s.heap.size ≤ q → A q := fun q h => by rw [← hAe]; exact Or.inr h
  have hS : va_S A s.heap s.heap [] := va_S.rf
  have hl := lv_entry ([.ref (ta 0), .int x1, .int x2]) (n := 3) (Nat.le_of_ble_eq_true rfl)
  rw [lg_entry_eq]
  generalize (lg_sl ([.ref (ta 0), .int x1, .int x2]) ++ List.replicate (3 - (lg_sl ([.ref (ta 0), .int x1, .int x2])).length) Slot.unset).toArray = ls at hl ⊢
  have hl : lv_has ls 3 [(0, .ref (ta 0)), (1, .int x1), (2, .int x2)] := hl
  have F : tF p s m ([.ref (ta 0), .int x1, .int x2] : List Value).toArray meth c G cA A RX6 cX6_hasRoom 3 (some .boolean) := ⟨hx, hb, hr, hml, hT, hown, hlocks, hK, hN, hA⟩
  obtain ⟨H, hH⟩ : ∃ z, z = s.heap := ⟨_, rfl⟩
  rw [← hH] at hP
  have hS : va_S A s.heap H [] := by rw [hH]; exact hS
  suffices hgo : G_X6_hasRoom p l e s m below meth c G cA A ta pa T P L x1 x2 r0 H [] (F0 m 0 ls []) by rw [hH] at hgo; exact hgo
  generalize ([] : List Loc) = locs at hS ⊢
  unfold f_X6_hasRoom at h
  refine lv_aload_n hx hb dX6_hasRoom_0 rfl (lv_at hl 0 rfl) ?_
  refine va_get (D := G) (ci := 6) (v := .ref (ta 18)) (C := RX6) (T := TX6) (N := 20) hx hb hT ku_6 hown hK hP 0 rfl rfl 17 (by decide) (hT _ kw_7_16) (fun _ h9 => h9) rfl dX6_hasRoom_1 ?_
  refine lv_iload_n hx hb dX6_hasRoom_4 rfl (lv_at hl 1 rfl) ?_
  obtain ⟨g1, h⟩ := tx_ck h
  refine va_iald (i := x1) hx hb hK hP 10 0 rfl rfl (tx_in g1) dX6_hasRoom_5 ?_
  refine lv_aload_n hx hb dX6_hasRoom_6 rfl (lv_at hl 0 rfl) ?_
  refine va_get (D := G) (ci := 6) (v := .ref (pa 0)) (C := RX6) (T := TX6) (N := 20) hx hb hT ku_6 hown hK hP 0 rfl rfl 19 (by decide) (hT _ kw_8_1) (fun _ h9 => h9) rfl dX6_hasRoom_7 ?_
  refine va_get (D := G) (ci := 2) (v := .ref (pa 15)) (C := RX2) (T := TX2) (N := 19) hx hb hT ku_2 hown hK hP 12 rfl rfl 14 (by decide) (hT _ kw_33_16) (fun _ h9 => h9) rfl dX6_hasRoom_10 ?_
  refine lv_iload_n hx hb dX6_hasRoom_13 rfl (lv_at hl 2 rfl) ?_
  obtain ⟨g2, h⟩ := tx_ck h
  refine va_iald (i := x2) hx hb hK hP 20 0 rfl rfl (tx_in g2) dX6_hasRoom_14 ?_
  refine lv_iadd hx hb dX6_hasRoom_15 ?_
  refine lv_aload_n hx hb dX6_hasRoom_16 rfl (lv_at hl 0 rfl) ?_
  refine va_get (D := G) (ci := 6) (v := .ref (pa 0)) (C := RX6) (T := TX6) (N := 20) hx hb hT ku_6 hown hK hP 0 rfl rfl 19 (by decide) (hT _ kw_8_1) (fun _ h9 => h9) rfl dX6_hasRoom_17 ?_
  refine va_get (D := G) (ci := 2) (v := .ref (pa 9)) (C := RX2) (T := TX2) (N := 19) hx hb hT ku_2 hown hK hP 12 rfl rfl 8 (by decide) (hT _ kw_36_0) (fun _ h9 => h9) rfl dX6_hasRoom_20 ?_
  refine lv_iload_n hx hb dX6_hasRoom_23 rfl (lv_at hl 1 rfl) ?_
  refine va_iald (i := x1) hx hb hK hP 14 0 rfl rfl (tx_in g1) dX6_hasRoom_24 ?_
  refine lv_icmp_gt (tgt := 32) hx hb dX6_hasRoom_25 (by decide) (fun c3 => ?_) (fun c3 => ?_)
  · have h := tx_pos c3 h
    refine lv_iconst (v := 0) hx hb dX6_hasRoom_32 (by decide) ?_
    obtain rfl := tx_1 h
    exact W.zret (ty := .boolean) hx hb hr rfl (fun t ht hW => ⟨⟨_, (), rfl, rfl, by rw [ht]; exact hP, hD⟩, hS.F ht⟩) hS.2.2 dX6_hasRoom_33
  · have h := tx_neg c3 h
    refine lv_iconst (v := 1) hx hb dX6_hasRoom_28 (by decide) ?_
    refine lv_goto (tgt := 33) hx hb dX6_hasRoom_29 (by decide) ?_
    obtain rfl := tx_1 h
    exact W.zret (ty := .boolean) hx hb hr rfl (fun t ht hW => ⟨⟨_, (), rfl, rfl, by rw [ht]; exact hP, hD⟩, hS.F ht⟩) hS.2.2 dX6_hasRoom_33
abbrev G_X6_placeByRule (p : Program) (l : Launch) (e : Env) (s : State) (m : MethodId) (below : List Frame) (meth : Method) (c : Code) (G : va_G) (cA : Nat → ClassId) (A : Nat → Prop) (ta : Nat → Nat) (pa : Nat → Nat) (T : Tr) (P : Tr) (L : Lo) (x1 : Int32) (r0 : Int32) (H : Heap) (locs : List Loc) (g : JFrame) : Prop := W p l e (headSpec (.code yX6_placeByRule cX6_placeByRule 5 (some .int) :: T0) ({ frames := 1, cells := 0, slots := 0, locals := 22 } : Room)).room s m ([.ref (ta 0), .int x1] : List Value).toArray below meth c H locs 0 0 (MQ below (tqQi G cA (fun (r : Int32) (_ : Unit) => r = r0) (fun (_ : Unit) => wTP cA ta pa T P L) A) ([.ref (ta 0), .int x1] : List Value).toArray s 0 0 A) g
set_option maxHeartbeats 4000000 in
set_option maxRecDepth 100000 in
theorem w_X6_placeByRule_J75 {p : Program} {l : Launch} {e : Env} {s : State} {m : MethodId} {below : List Frame} {meth : Method} {c : Code} {G : va_G} {cA : Nat → ClassId} {A : Nat → Prop} {ta : Nat → Nat} {pa : Nat → Nat} {T : Tr} {P : Tr} {L : Lo} {x1₀ : Int32} {r0 : Int32} {x1 : Int32} (F : tF p s m ([.ref (ta 0), .int x1₀] : List Value).toArray meth c G cA A RX6 cX6_placeByRule 5 (some .int))  (k4 : Int32 → Int32 → Option (Int32)) (hk4 : ∀ (x2 : Int32) (x3 : Int32) (H : Heap) (locs : List Loc) (ls : Array Slot), k4 x2 x3 = some r0 → va_P G vwCl (wTP cA ta pa T P L) H → va_D A (wTP cA ta pa T P L) → va_S A s.heap H locs → lv_has ls 5 [(0, .ref (ta 0)), (1, .int x1), (2, .int x2), (3, .int x3)] → G_X6_placeByRule p l e s m below meth c G cA A ta pa T P L x1₀ r0 H locs (F0 m 4 ls [])) (x2 : Int32) (x3 : Int32) (s0 : Int32) (H : Heap) (locs : List Loc) (ls : Array Slot) (h : fJ_X6_placeByRule_J75 k4 T P x1 x2 x3 s0 = some r0) (hP : va_P G vwCl (wTP cA ta pa T P L) H) (hD : va_D A (wTP cA ta pa T P L)) (hS : va_S A s.heap H locs) (hl : lv_has ls 5 [(4, .int s0), (0, .ref (ta 0)), (1, .int x1), (2, .int x2), (3, .int x3)]) : G_X6_placeByRule p l e s m below meth c G cA A ta pa T P L x1₀ r0 H locs (F0 m 75 ls []) := by
  obtain ⟨hx, hb, hr, hml, hT, hown, hlocks, hK, hN, hA⟩ := id F
  unfold fJ_X6_placeByRule_J75 at h
  refine lv_istore (lv' := [(4, .int s0), (0, .ref (ta 0)), (1, .int x1), (2, .int x2), (3, .int x3)]) hx hb dX6_placeByRule_75 hl (by decide) rfl (fun ls hl => ?_)
  refine lv_iload hx hb dX6_placeByRule_77 (lv_at hl 0 rfl) ?_
  refine lv_if_eq (tgt := 86) hx hb dX6_placeByRule_79 (by decide) (fun c9 => ?_) (fun c9 => ?_)
  · have h := tx_pos c9 h
    refine lv_iload_n hx hb dX6_placeByRule_86 rfl (lv_at hl 3 rfl) ?_
    refine lv_istore_n (lv' := [(2, .int x2), (4, .int s0), (0, .ref (ta 0)), (1, .int x1), (3, .int x3)]) hx hb dX6_placeByRule_87 rfl hl (by decide) rfl (fun ls hl => ?_)
    obtain ⟨y10, ey10, h⟩ := tx_lt h
    refine lv_iinc (v := y10) (lv' := [(3, .int y10), (2, .int x2), (4, .int s0), (0, .ref (ta 0)), (1, .int x1)]) hx hb dX6_placeByRule_88 hl (k := 4) rfl ey10 (by decide) rfl (fun ls hl => ?_)
    refine lv_goto (tgt := 4) hx hb dX6_placeByRule_91 (by decide) ?_
    exact hk4 x2 y10 H locs ls h hP hD hS (lv_sub hl [3, 4, 1, 0] rfl)
  · have h := tx_neg c9 h
    refine lv_iload_n hx hb dX6_placeByRule_82 rfl (lv_at hl 4 rfl) ?_
    refine lv_goto (tgt := 87) hx hb dX6_placeByRule_83 (by decide) ?_
    refine lv_istore_n (lv' := [(2, .int x3), (4, .int s0), (0, .ref (ta 0)), (1, .int x1), (3, .int x3)]) hx hb dX6_placeByRule_87 rfl hl (by decide) rfl (fun ls hl => ?_)
    obtain ⟨y11, ey11, h⟩ := tx_lt h
    refine lv_iinc (v := y11) (lv' := [(3, .int y11), (2, .int x3), (4, .int s0), (0, .ref (ta 0)), (1, .int x1)]) hx hb dX6_placeByRule_88 hl (k := 4) rfl ey11 (by decide) rfl (fun ls hl => ?_)
    refine lv_goto (tgt := 4) hx hb dX6_placeByRule_91 (by decide) ?_
    exact hk4 x3 y11 H locs ls h hP hD hS (lv_sub hl [3, 4, 1, 0] rfl)
set_option maxHeartbeats 4000000 in
set_option maxRecDepth 100000 in
theorem w_X6_placeByRule_J70 {p : Program} {l : Launch} {e : Env} {s : State} {m : MethodId} {below : List Frame} {meth : Method} {c : Code} {G : va_G} {cA : Nat → ClassId} {A : Nat → Prop} {ta : Nat → Nat} {pa : Nat → Nat} {T : Tr} {P : Tr} {L : Lo} {x1₀ : Int32} {r0 : Int32} {x1 : Int32} (F : tF p s m ([.ref (ta 0), .int x1₀] : List Value).toArray meth c G cA A RX6 cX6_placeByRule 5 (some .int))  (k4 : Int32 → Int32 → Option (Int32)) (hk4 : ∀ (x2 : Int32) (x3 : Int32) (H : Heap) (locs : List Loc) (ls : Array Slot), k4 x2 x3 = some r0 → va_P G vwCl (wTP cA ta pa T P L) H → va_D A (wTP cA ta pa T P L) → va_S A s.heap H locs → lv_has ls 5 [(0, .ref (ta 0)), (1, .int x1), (2, .int x2), (3, .int x3)] → G_X6_placeByRule p l e s m below meth c G cA A ta pa T P L x1₀ r0 H locs (F0 m 4 ls [])) (x2 : Int32) (x3 : Int32) (H : Heap) (locs : List Loc) (ls : Array Slot) (h : fJ_X6_placeByRule_J70 k4 T P x1 x2 x3 = some r0) (hP : va_P G vwCl (wTP cA ta pa T P L) H) (hD : va_D A (wTP cA ta pa T P L)) (hS : va_S A s.heap H locs) (hl : lv_has ls 5 [(0, .ref (ta 0)), (1, .int x1), (2, .int x2), (3, .int x3)]) : G_X6_placeByRule p l e s m below meth c G cA A ta pa T P L x1₀ r0 H locs (F0 m 70 ls [.int 1]) := by
  obtain ⟨hx, hb, hr, hml, hT, hown, hlocks, hK, hN, hA⟩ := id F
  unfold fJ_X6_placeByRule_J70 at h
  refine lv_iconst (v := 1) hx hb dX6_placeByRule_70 (by decide) ?_
  refine lv_goto (tgt := 75) hx hb dX6_placeByRule_71 (by decide) ?_
  exact w_X6_placeByRule_J75 F k4 hk4 x2 x3 1 H locs ls h hP hD hS (lv_sub hl [0, 1, 2, 3] rfl)
set_option maxHeartbeats 4000000 in
set_option maxRecDepth 100000 in
theorem w_X6_placeByRule_L4 {p : Program} {l : Launch} {e : Env} {s : State} {m : MethodId} {below : List Frame} {meth : Method} {c : Code} {G : va_G} {cA : Nat → ClassId} {A : Nat → Prop} {ta : Nat → Nat} {pa : Nat → Nat} {T : Tr} {P : Tr} {L : Lo} {x1₀ : Int32} {r0 : Int32} {x1 : Int32} (F : tF p s m ([.ref (ta 0), .int x1₀] : List Value).toArray meth c G cA A RX6 cX6_placeByRule 5 (some .int))    (N : Nat) : ∀ (x2 : Int32) (x3 : Int32) (H : Heap) (locs : List Loc) (ls : Array Slot), lpF (fun _ _ => none) (fB_X6_placeByRule_L4 T P x1) N x2 x3 = some r0 → va_P G vwCl (wTP cA ta pa T P L) H → va_D A (wTP cA ta pa T P L) → va_S A s.heap H locs → lv_has ls 5 [(0, .ref (ta 0)), (1, .int x1), (2, .int x2), (3, .int x3)] → G_X6_placeByRule p l e s m below meth c G cA A ta pa T P L x1₀ r0 H locs (F0 m 4 ls []) := by
  obtain ⟨hx, hb, hr, hml, hT, hown, hlocks, hK, hN, hA⟩ := id F
  induction N with
  | zero =>
    intro x2 x3 H locs ls h
    have h : (none : Option (Int32)) = some r0 := h
    cases h
  | succ N hk4 =>
    intro x2 x3 H locs ls h hP hD hS hl
    have h : fB_X6_placeByRule_L4 T P x1 (lpF (fun _ _ => none) (fB_X6_placeByRule_L4 T P x1) N) x2 x3 = some r0 := h
    generalize hk4e : lpF (fun _ _ => none) (fB_X6_placeByRule_L4 T P x1) N = k4 at h hk4
    unfold fB_X6_placeByRule_L4 at h
    refine lv_iload_n hx hb dX6_placeByRule_4 rfl (lv_at hl 3 rfl) ?_
    refine lv_aload_n hx hb dX6_placeByRule_5 rfl (lv_at hl 0 rfl) ?_
    refine va_get (D := G) (ci := 6) (v := .ref (pa 0)) (C := RX6) (T := TX6) (N := 20) hx hb hT ku_6 hown hK hP 0 rfl rfl 19 (by decide) (hT _ kw_8_1) (fun _ h9 => h9) rfl dX6_placeByRule_6 ?_
    refine va_get (D := G) (ci := 2) (v := .int (P 0 0)) (C := RX2) (T := TX2) (N := 19) hx hb hT ku_2 hown hK hP 12 rfl rfl 0 (by decide) (hT _ kw_42_0) (fun _ h9 => h9) rfl dX6_placeByRule_9 ?_
    refine lv_icmp_ge (tgt := 94) hx hb dX6_placeByRule_12 (by decide) (fun c1 => ?_) (fun c1 => ?_)
    · have h := tx_pos c1 h
      refine lv_iload_n hx hb dX6_placeByRule_94 rfl (lv_at hl 2 rfl) ?_
      obtain rfl := tx_1 h
      exact W.iret hx hb hr (fun t ht hW => ⟨⟨_, (), rfl, rfl, by rw [ht]; exact hP, hD⟩, hS.F ht⟩) hS.2.2 dX6_placeByRule_95
    · have h := tx_neg c1 h
      refine lv_aload_n hx hb dX6_placeByRule_15 rfl (lv_at hl 0 rfl) ?_
      refine lv_iload_n hx hb dX6_placeByRule_16 rfl (lv_at hl 3 rfl) ?_
      refine lv_iload_n hx hb dX6_placeByRule_17 rfl (lv_at hl 1 rfl) ?_
      obtain ⟨r2, hc3, h⟩ := tx_bd h
      refine tw_ci tw_all hP hD hS hA (va_runV (As := [.int x3, .int x1]) (rest := []) ⟨hx, hb, hml, hown, hT⟩ (c_X6_hasRoom l G cA H.size ta pa T P L x3 x1  r2 hc3) (cwV 2 hT (tq_gV kw_42_1 kw_35_21 kw_35_22 kw_1_23 kw_35_23) rfl rfl rfl (by decide +kernel) ⟨Nat.le_of_ble_eq_true rfl, Nat.le_of_ble_eq_true rfl⟩) ⟨(tw_pre tw_all hP hD hK hN).1, va_recv hK hP (ci := 6) (q0 := 0) rfl rfl, (tw_pre tw_all hP hD hK hN).2⟩ rfl rfl hl.1 rfl (lv_room (Nat.le_of_ble_eq_true rfl)) dX6_placeByRule_18 ⟨Nat.le_of_ble_eq_true rfl, Nat.le_of_ble_eq_true rfl⟩) (fun _ _ H locs z4 hP hD hS => ?_)
      subst z4
      rw [List.append_nil] at hP hD
      have hP : va_P G vwCl (wTP cA ta pa T P L) H := hP
      have hD : va_D A (wTP cA ta pa T P L) := hD
      refine lv_if_eq (tgt := 88) hx hb dX6_placeByRule_21 (by decide) (fun c5 => ?_) (fun c5 => ?_)
      · have h := tx_pos c5 h
        obtain ⟨y6, ey6, h⟩ := tx_lt h
        refine lv_iinc (v := y6) (lv' := [(3, .int y6), (0, .ref (ta 0)), (1, .int x1), (2, .int x2)]) hx hb dX6_placeByRule_88 hl (k := 3) rfl ey6 (by decide) rfl (fun ls hl => ?_)
        refine lv_goto (tgt := 4) hx hb dX6_placeByRule_91 (by decide) ?_
        exact hk4 x2 y6 H locs ls h hP hD hS (lv_sub hl [1, 2, 3, 0] rfl)
      · have h := tx_neg c5 h
        refine lv_aload_n hx hb dX6_placeByRule_24 rfl (lv_at hl 0 rfl) ?_
        refine va_get (D := G) (ci := 6) (v := .int (T 0 3)) (C := RX6) (T := TX6) (N := 20) hx hb hT ku_6 hown hK hP 0 rfl rfl 3 (by decide) (hT _ kw_8_7) (fun _ h9 => h9) rfl dX6_placeByRule_25 ?_
        refine lv_if_ne (tgt := 43) hx hb dX6_placeByRule_28 (by decide) (fun c7 => ?_) (fun c7 => ?_)
        · have h := tx_neg c7 h
          refine lv_aload_n hx hb dX6_placeByRule_43 rfl (lv_at hl 0 rfl) ?_
          refine va_get (D := G) (ci := 6) (v := .int (T 0 3)) (C := RX6) (T := TX6) (N := 20) hx hb hT ku_6 hown hK hP 0 rfl rfl 3 (by decide) (hT _ kw_8_7) (fun _ h9 => h9) rfl dX6_placeByRule_44 ?_
          refine lv_iconst (v := 1) hx hb dX6_placeByRule_47 (by decide) ?_
          refine lv_icmp_ne (tgt := 70) hx hb dX6_placeByRule_48 (by decide) (fun c8 => ?_) (fun c8 => ?_)
          · have h := tx_neg c8 h
            exact w_X6_placeByRule_J70 F k4 hk4 x2 x3 H locs ls h hP hD hS (lv_sub hl [0, 1, 2, 3] rfl)
          · have h := tx_pos c8 h
            refine lv_iload_n hx hb dX6_placeByRule_51 rfl (lv_at hl 2 rfl) ?_
            refine lv_if_lt (tgt := 70) hx hb dX6_placeByRule_52 (by decide) (fun c12 => ?_) (fun c12 => ?_)
            · have h := tx_pos c12 h
              exact w_X6_placeByRule_J70 F k4 hk4 x2 x3 H locs ls h hP hD hS (lv_sub hl [0, 1, 2, 3] rfl)
            · have h := tx_neg c12 h
              refine lv_aload_n hx hb dX6_placeByRule_55 rfl (lv_at hl 0 rfl) ?_
              refine va_get (D := G) (ci := 6) (v := .ref (ta 18)) (C := RX6) (T := TX6) (N := 20) hx hb hT ku_6 hown hK hP 0 rfl rfl 17 (by decide) (hT _ kw_7_16) (fun _ h9 => h9) rfl dX6_placeByRule_56 ?_
              refine lv_iload_n hx hb dX6_placeByRule_59 rfl (lv_at hl 3 rfl) ?_
              obtain ⟨g13, h⟩ := tx_ck h
              refine va_iald (i := x3) hx hb hK hP 10 0 rfl rfl (tx_in g13) dX6_placeByRule_60 ?_
              refine lv_aload_n hx hb dX6_placeByRule_61 rfl (lv_at hl 0 rfl) ?_
              refine va_get (D := G) (ci := 6) (v := .ref (ta 18)) (C := RX6) (T := TX6) (N := 20) hx hb hT ku_6 hown hK hP 0 rfl rfl 17 (by decide) (hT _ kw_7_16) (fun _ h9 => h9) rfl dX6_placeByRule_62 ?_
              refine lv_iload_n hx hb dX6_placeByRule_65 rfl (lv_at hl 2 rfl) ?_
              obtain ⟨g14, h⟩ := tx_ck h
              refine va_iald (i := x2) hx hb hK hP 10 0 rfl rfl (tx_in g14) dX6_placeByRule_66 ?_
              refine lv_icmp_ge (tgt := 74) hx hb dX6_placeByRule_67 (by decide) (fun c15 => ?_) (fun c15 => ?_)
              · have h := tx_pos c15 h
                refine lv_iconst (v := 0) hx hb dX6_placeByRule_74 (by decide) ?_
                exact w_X6_placeByRule_J75 F k4 hk4 x2 x3 0 H locs ls h hP hD hS (lv_sub hl [0, 1, 2, 3] rfl)
              · have h := tx_neg c15 h
                exact w_X6_placeByRule_J70 F k4 hk4 x2 x3 H locs ls h hP hD hS (lv_sub hl [0, 1, 2, 3] rfl)
        · have h := tx_pos c7 h
          refine lv_iload_n hx hb dX6_placeByRule_31 rfl (lv_at hl 2 rfl) ?_
          refine lv_if_ge (tgt := 39) hx hb dX6_placeByRule_32 (by decide) (fun c16 => ?_) (fun c16 => ?_)
          · have h := tx_pos c16 h
            refine lv_iconst (v := 0) hx hb dX6_placeByRule_39 (by decide) ?_
            refine lv_goto (tgt := 75) hx hb dX6_placeByRule_40 (by decide) ?_
            exact w_X6_placeByRule_J75 F k4 hk4 x2 x3 0 H locs ls h hP hD hS (lv_sub hl [0, 1, 2, 3] rfl)
          · have h := tx_neg c16 h
            refine lv_iconst (v := 1) hx hb dX6_placeByRule_35 (by decide) ?_
            refine lv_goto (tgt := 75) hx hb dX6_placeByRule_36 (by decide) ?_
            exact w_X6_placeByRule_J75 F k4 hk4 x2 x3 1 H locs ls h hP hD hS (lv_sub hl [0, 1, 2, 3] rfl)
set_option maxHeartbeats 4000000 in
set_option maxRecDepth 100000 in
theorem c_X6_placeByRule (l : Launch) (G : va_G) (cA : Nat → ClassId) (sz : Nat) (ta : Nat → Nat) (pa : Nat → Nat) (T : Tr) (P : Tr) (L : Lo) (x1 : Int32)  (r0 : Int32) (h : f_X6_placeByRule T P x1 = some r0) : Met l yX6_placeByRule (.code yX6_placeByRule cX6_placeByRule 5 (some .int) :: T0) ({ frames := 1, cells := 0, slots := 0, locals := 22 } : Room) (tqP G cA [.ref (ta 0), .int x1] (wTP cA ta pa T P L) sz) (tqQi G cA (fun (r : Int32) (_ : Unit) => r = r0) (fun (_ : Unit) => wTP cA ta pa T P L) (va_A (wTP cA ta pa T P L) sz)) 0 0 (va_A (wTP cA ta pa T P L) sz) := by
  refine Met.ofW (cc := cX6_placeByRule) (maxL := 5) (ret := (some .int)) (by decide) rfl ?_
  intro p e s m args below meth c s₁ B hml hv
  obtain ⟨rfl, hsz, hP, hK, hD0, hN⟩ := hv
  have hx := B.exec
  have hb := B.bytes
  have hr := B.returns
  have hts := atoms_spec (ws := .code yX6_placeByRule cX6_placeByRule 5 (some .int) :: T0) B.pre
  have hT : ∀ w ∈ T0, w.before _ s = true := fun w h => hts w (List.mem_cons_of_mem _ h)
  have hown : s.vm.findClass RX6 = some m.cls := findClass_of_methodNamed B.named
  have hlocks := B.notSynchronized
  subst hsz
  have hD := hD0.self (sz := s.heap.size)
  generalize hAe : va_A (wTP cA ta pa T P L) s.heap.size = A at hD ⊢
  have hA : ∀ q : Nat, s.heap.size ≤ q → A q := fun q h => by rw [← hAe]; exact Or.inr h
  have hS : va_S A s.heap s.heap [] := va_S.rf
  have hl := lv_entry ([.ref (ta 0), .int x1]) (n := 5) (Nat.le_of_ble_eq_true rfl)
  rw [lg_entry_eq]
  generalize (lg_sl ([.ref (ta 0), .int x1]) ++ List.replicate (5 - (lg_sl ([.ref (ta 0), .int x1])).length) Slot.unset).toArray = ls at hl ⊢
  have hl : lv_has ls 5 [(0, .ref (ta 0)), (1, .int x1)] := hl
  have F : tF p s m ([.ref (ta 0), .int x1] : List Value).toArray meth c G cA A RX6 cX6_placeByRule 5 (some .int) := ⟨hx, hb, hr, hml, hT, hown, hlocks, hK, hN, hA⟩
  obtain ⟨H, hH⟩ : ∃ z, z = s.heap := ⟨_, rfl⟩
  rw [← hH] at hP
  have hS : va_S A s.heap H [] := by rw [hH]; exact hS
  suffices hgo : G_X6_placeByRule p l e s m below meth c G cA A ta pa T P L x1 r0 H [] (F0 m 0 ls []) by rw [hH] at hgo; exact hgo
  generalize ([] : List Loc) = locs at hS ⊢
  unfold f_X6_placeByRule at h
  refine lv_iconst (v := (-1)) hx hb dX6_placeByRule_0 (by decide) ?_
  refine lv_istore_n (lv' := [(2, .int (-1)), (0, .ref (ta 0)), (1, .int x1)]) hx hb dX6_placeByRule_1 rfl hl (by decide) rfl (fun ls hl => ?_)
  refine lv_iconst (v := 0) hx hb dX6_placeByRule_2 (by decide) ?_
  refine lv_istore_n (lv' := [(3, .int 0), (2, .int (-1)), (0, .ref (ta 0)), (1, .int x1)]) hx hb dX6_placeByRule_3 rfl hl (by decide) rfl (fun ls hl => ?_)
  exact w_X6_placeByRule_L4 F 2000 (-1) 0 H locs ls h hP hD hS (lv_sub hl [2, 3, 1, 0] rfl)
abbrev G_X6_putOn (p : Program) (l : Launch) (e : Env) (s : State) (m : MethodId) (below : List Frame) (meth : Method) (c : Code) (G : va_G) (cA : Nat → ClassId) (A : Nat → Prop) (ta : Nat → Nat) (pa : Nat → Nat) (P : Tr) (L : Lo) (x1 : Int32) (x2 : Int32) (T' : Tr) (H : Heap) (locs : List Loc) (g : JFrame) : Prop := W p l e (headSpec (.code yX6_putOn cX6_putOn 4 none :: T0) ({ frames := 0, cells := 0, slots := 0, locals := 0 } : Room)).room s m ([.ref (ta 0), .int x1, .int x2] : List Value).toArray below meth c H locs 0 0 (MQ below (tqQv G cA (fun (_ : Unit) => True) (fun (_ : Unit) => wTP cA ta pa (T') P L) A) ([.ref (ta 0), .int x1, .int x2] : List Value).toArray s 0 0 A) g
set_option maxHeartbeats 4000000 in
set_option maxRecDepth 100000 in
theorem c_X6_putOn (l : Launch) (G : va_G) (cA : Nat → ClassId) (sz : Nat) (ta : Nat → Nat) (pa : Nat → Nat) (T : Tr) (P : Tr) (L : Lo) (x1 : Int32) (x2 : Int32)  (T' : Tr) (h : f_X6_putOn T P x1 x2 = some T') : Met l yX6_putOn (.code yX6_putOn cX6_putOn 4 none :: T0) ({ frames := 0, cells := 0, slots := 0, locals := 0 } : Room) (tqP G cA [.ref (ta 0), .int x1, .int x2] (wTP cA ta pa T P L) sz) (tqQv G cA (fun (_ : Unit) => True) (fun (_ : Unit) => wTP cA ta pa (T') P L) (va_A (wTP cA ta pa T P L) sz)) 0 0 (va_A (wTP cA ta pa T P L) sz) := by
  refine Met.ofW (cc := cX6_putOn) (maxL := 4) (ret := none) (by decide) rfl ?_
  intro p e s m args below meth c s₁ B hml hv
  obtain ⟨rfl, hsz, hP, hK, hD0, hN⟩ := hv
  have hx := B.exec
  have hb := B.bytes
  have hr := B.returns
  have hts := atoms_spec (ws := .code yX6_putOn cX6_putOn 4 none :: T0) B.pre
  have hT : ∀ w ∈ T0, w.before _ s = true := fun w h => hts w (List.mem_cons_of_mem _ h)
  have hown : s.vm.findClass RX6 = some m.cls := findClass_of_methodNamed B.named
  have hlocks := B.notSynchronized
  subst hsz
  have hD := hD0.self (sz := s.heap.size)
  generalize hAe : va_A (wTP cA ta pa T P L) s.heap.size = A at hD ⊢
  have hA : ∀ q : Nat, s.heap.size ≤ q → A q := fun q h => by rw [← hAe]; exact Or.inr h
  have hS : va_S A s.heap s.heap [] := va_S.rf
  have hl := lv_entry ([.ref (ta 0), .int x1, .int x2]) (n := 4) (Nat.le_of_ble_eq_true rfl)
  rw [lg_entry_eq]
  generalize (lg_sl ([.ref (ta 0), .int x1, .int x2]) ++ List.replicate (4 - (lg_sl ([.ref (ta 0), .int x1, .int x2])).length) Slot.unset).toArray = ls at hl ⊢
  have hl : lv_has ls 4 [(0, .ref (ta 0)), (1, .int x1), (2, .int x2)] := hl
  have F : tF p s m ([.ref (ta 0), .int x1, .int x2] : List Value).toArray meth c G cA A RX6 cX6_putOn 4 none := ⟨hx, hb, hr, hml, hT, hown, hlocks, hK, hN, hA⟩
  obtain ⟨H, hH⟩ : ∃ z, z = s.heap := ⟨_, rfl⟩
  rw [← hH] at hP
  have hS : va_S A s.heap H [] := by rw [hH]; exact hS
  suffices hgo : G_X6_putOn p l e s m below meth c G cA A ta pa P L x1 x2 T' H [] (F0 m 0 ls []) by rw [hH] at hgo; exact hgo
  generalize ([] : List Loc) = locs at hS ⊢
  unfold f_X6_putOn at h
  refine lv_aload_n hx hb dX6_putOn_0 rfl (lv_at hl 0 rfl) ?_
  refine va_get (D := G) (ci := 6) (v := .ref (ta 17)) (C := RX6) (T := TX6) (N := 20) hx hb hT ku_6 hown hK hP 0 rfl rfl 16 (by decide) (hT _ kw_7_15) (fun _ h9 => h9) rfl dX6_putOn_1 ?_
  refine lv_iload_n hx hb dX6_putOn_4 rfl (lv_at hl 1 rfl) ?_
  obtain ⟨g1, h⟩ := tx_ck h
  refine va_iald (i := x1) hx hb hK hP 9 0 rfl rfl (tx_in g1) dX6_putOn_5 ?_
  refine lv_topi (fun y2 ey2 => ?_)
  have h := tx_let ey2 h
  refine lv_istore_n (lv' := [(3, .int y2), (0, .ref (ta 0)), (1, .int x1), (2, .int x2)]) hx hb dX6_putOn_6 rfl hl (by decide) rfl (fun ls hl => ?_)
  refine lv_iload_n hx hb dX6_putOn_7 rfl (lv_at hl 0 rfl) ?_
  refine lv_bipush (v := 10) hx hb dX6_putOn_8 (by decide) ?_
  refine lv_icmp_ge (tgt := 66) hx hb dX6_putOn_10 (by decide) (fun c3 => ?_) (fun c3 => ?_)
  · have h := tx_pos c3 h
    obtain rfl := tx_1 h
    exact W.vret hx hb hr (fun t ht hW => ⟨⟨(), rfl, trivial, by rw [ht]; exact hP, hD⟩, hS.F ht⟩) hS.2.2 dX6_putOn_66
  · have h := tx_neg c3 h
    refine lv_aload_n hx hb dX6_putOn_13 rfl (lv_at hl 1 rfl) ?_
    refine va_get (D := G) (ci := 6) (v := .ref (ta 16)) (C := RX6) (T := TX6) (N := 20) hx hb hT ku_6 hown hK hP 0 rfl rfl 15 (by decide) (hT _ kw_7_14) (fun _ h9 => h9) rfl dX6_putOn_14 ?_
    refine lv_iload_n hx hb dX6_putOn_17 rfl (lv_at hl 2 rfl) ?_
    refine lv_bipush (v := 10) hx hb dX6_putOn_18 (by decide) ?_
    refine lv_imul hx hb dX6_putOn_20 ?_
    refine lv_iload_n hx hb dX6_putOn_21 rfl (lv_at hl 0 rfl) ?_
    refine lv_iadd hx hb dX6_putOn_22 ?_
    refine lv_iload_n hx hb dX6_putOn_23 rfl (lv_at hl 3 rfl) ?_
    obtain ⟨g4, h⟩ := tx_ck h
    refine va_iast (i := ((x1 * 10) + y2)) hx hb hK hP hD hS 8 0 rfl rfl (tx_in g4) dX6_putOn_24 (fun H locs hP hD hS => ?_)
    obtain ⟨T_5, eT_5, h⟩ := tx_lt h
    rw [sTP_ta_a15, eT_5] at hP hD
    refine lv_aload_n hx hb dX6_putOn_25 rfl (lv_at hl 1 rfl) ?_
    refine va_get (D := G) (ci := 6) (v := .ref (ta 17)) (C := RX6) (T := TX6) (N := 20) hx hb hT ku_6 hown hK hP 0 rfl rfl 16 (by decide) (hT _ kw_7_15) (fun _ h9 => h9) rfl dX6_putOn_26 ?_
    refine lv_iload_n hx hb dX6_putOn_29 rfl (lv_at hl 2 rfl) ?_
    refine lv_iload_n hx hb dX6_putOn_30 rfl (lv_at hl 0 rfl) ?_
    refine lv_iconst (v := 1) hx hb dX6_putOn_31 (by decide) ?_
    refine lv_iadd hx hb dX6_putOn_32 ?_
    refine va_iast (i := x1) hx hb hK hP hD hS 9 0 rfl rfl (tx_in g1) dX6_putOn_33 (fun H locs hP hD hS => ?_)
    obtain ⟨T_6, eT_6, h⟩ := tx_lt h
    rw [sTP_ta_a16, eT_6] at hP hD
    refine lv_aload_n hx hb dX6_putOn_34 rfl (lv_at hl 1 rfl) ?_
    refine va_get (D := G) (ci := 6) (v := .ref (ta 18)) (C := RX6) (T := TX6) (N := 20) hx hb hT ku_6 hown hK hP 0 rfl rfl 17 (by decide) (hT _ kw_7_16) (fun _ h9 => h9) rfl dX6_putOn_35 ?_
    refine lv_iload_n hx hb dX6_putOn_38 rfl (lv_at hl 2 rfl) ?_
    refine lv_dup2_11 hx hb dX6_putOn_39 rfl rfl ?_
    refine va_iald (i := x1) hx hb hK hP 10 0 rfl rfl (tx_in g1) dX6_putOn_40 ?_
    refine lv_aload_n hx hb dX6_putOn_41 rfl (lv_at hl 1 rfl) ?_
    refine va_get (D := G) (ci := 6) (v := .ref (pa 0)) (C := RX6) (T := TX6) (N := 20) hx hb hT ku_6 hown hK hP 0 rfl rfl 19 (by decide) (hT _ kw_8_1) (fun _ h9 => h9) rfl dX6_putOn_42 ?_
    refine va_get (D := G) (ci := 2) (v := .ref (pa 15)) (C := RX2) (T := TX2) (N := 19) hx hb hT ku_2 hown hK hP 12 rfl rfl 14 (by decide) (hT _ kw_33_16) (fun _ h9 => h9) rfl dX6_putOn_45 ?_
    refine lv_iload_n hx hb dX6_putOn_48 rfl (lv_at hl 3 rfl) ?_
    obtain ⟨g7, h⟩ := tx_ck h
    refine va_iald (i := x2) hx hb hK hP 20 0 rfl rfl (tx_in g7) dX6_putOn_49 ?_
    refine lv_iadd hx hb dX6_putOn_50 ?_
    refine va_iast (i := x1) hx hb hK hP hD hS 10 0 rfl rfl (tx_in g1) dX6_putOn_51 (fun H locs hP hD hS => ?_)
    obtain ⟨T_8, eT_8, h⟩ := tx_lt h
    rw [sTP_ta_a17, eT_8] at hP hD
    refine lv_aload_n hx hb dX6_putOn_52 rfl (lv_at hl 1 rfl) ?_
    refine va_get (D := G) (ci := 6) (v := .ref (ta 15)) (C := RX6) (T := TX6) (N := 20) hx hb hT ku_6 hown hK hP 0 rfl rfl 14 (by decide) (hT _ kw_7_13) (fun _ h9 => h9) rfl dX6_putOn_53 ?_
    refine lv_iload_n hx hb dX6_putOn_56 rfl (lv_at hl 3 rfl) ?_
    refine lv_iload_n hx hb dX6_putOn_57 rfl (lv_at hl 2 rfl) ?_
    refine va_iast (i := x2) hx hb hK hP hD hS 7 0 rfl rfl (tx_in g7) dX6_putOn_58 (fun H locs hP hD hS => ?_)
    obtain ⟨T_9, eT_9, h⟩ := tx_lt h
    rw [sTP_ta_a14, eT_9] at hP hD
    refine lv_aload_n hx hb dX6_putOn_59 rfl (lv_at hl 1 rfl) ?_
    refine va_get (D := G) (ci := 6) (v := .ref (ta 14)) (C := RX6) (T := TX6) (N := 20) hx hb hT ku_6 hown hK hP 0 rfl rfl 13 (by decide) (hT _ kw_7_12) (fun _ h9 => h9) rfl dX6_putOn_60 ?_
    refine lv_iload_n hx hb dX6_putOn_63 rfl (lv_at hl 3 rfl) ?_
    refine lv_iconst (v := 1) hx hb dX6_putOn_64 (by decide) ?_
    refine va_iast (i := x2) hx hb hK hP hD hS 6 0 rfl rfl (tx_in g7) dX6_putOn_65 (fun H locs hP hD hS => ?_)
    obtain ⟨T_10, eT_10, h⟩ := tx_lt h
    rw [sTP_ta_a13, eT_10] at hP hD
    obtain rfl := tx_1 h
    exact W.vret hx hb hr (fun t ht hW => ⟨⟨(), rfl, trivial, by rw [ht]; exact hP, hD⟩, hS.F ht⟩) hS.2.2 dX6_putOn_66
abbrev G_X6_stow (p : Program) (l : Launch) (e : Env) (s : State) (m : MethodId) (below : List Frame) (meth : Method) (c : Code) (G : va_G) (cA : Nat → ClassId) (A : Nat → Prop) (ta : Nat → Nat) (pa : Nat → Nat) (P : Tr) (L : Lo) (x1 : Int32) (T' : Tr) (H : Heap) (locs : List Loc) (g : JFrame) : Prop := W p l e (headSpec (.code yX6_stow cX6_stow 3 none :: T0) ({ frames := 2, cells := 0, slots := 0, locals := 46 } : Room)).room s m ([.ref (ta 0), .int x1] : List Value).toArray below meth c H locs 0 0 (MQ below (tqQv G cA (fun (_ : Unit) => True) (fun (_ : Unit) => wTP cA ta pa (T') P L) A) ([.ref (ta 0), .int x1] : List Value).toArray s 0 0 A) g
set_option maxHeartbeats 4000000 in
set_option maxRecDepth 100000 in
theorem w_X6_stow_J31 {p : Program} {l : Launch} {e : Env} {s : State} {m : MethodId} {below : List Frame} {meth : Method} {c : Code} {G : va_G} {cA : Nat → ClassId} {A : Nat → Prop} {ta : Nat → Nat} {pa : Nat → Nat} {P : Tr} {L : Lo} {x1₀ : Int32} {T' : Tr} (F : tF p s m ([.ref (ta 0), .int x1₀] : List Value).toArray meth c G cA A RX6 cX6_stow 3 none)    (x1 : Int32) (x2 : Int32) (T : Tr) (H : Heap) (locs : List Loc) (ls : Array Slot) (h : fJ_X6_stow_J31 P x1 x2 T = some T') (hP : va_P G vwCl (wTP cA ta pa T P L) H) (hD : va_D A (wTP cA ta pa T P L)) (hS : va_S A s.heap H locs) (hl : lv_has ls 3 [(0, .ref (ta 0)), (1, .int x1), (2, .int x2)]) : G_X6_stow p l e s m below meth c G cA A ta pa P L x1₀ T' H locs (F0 m 31 ls []) := by
  obtain ⟨hx, hb, hr, hml, hT, hown, hlocks, hK, hN, hA⟩ := id F
  unfold fJ_X6_stow_J31 at h
  refine lv_iload_n hx hb dX6_stow_31 rfl (lv_at hl 2 rfl) ?_
  refine lv_if_ge (tgt := 45) hx hb dX6_stow_32 (by decide) (fun c8 => ?_) (fun c8 => ?_)
  · have h := tx_pos c8 h
    refine lv_aload_n hx hb dX6_stow_45 rfl (lv_at hl 0 rfl) ?_
    refine lv_iload_n hx hb dX6_stow_46 rfl (lv_at hl 2 rfl) ?_
    refine lv_iload_n hx hb dX6_stow_47 rfl (lv_at hl 1 rfl) ?_
    obtain ⟨T_9, hc10, h⟩ := tx_bd h
    refine tw_cv tw_all hP hD hS hA (va_runV (As := [.int x2, .int x1]) (rest := []) ⟨hx, hb, hml, hown, hT⟩ (c_X6_putOn l G cA H.size ta pa T P L x2 x1  T_9 hc10) (cwV 2 hT (tq_gV kw_42_2 kw_36_23 kw_37_0 kw_1_23 kw_37_1) rfl rfl rfl (by decide +kernel) ⟨Nat.le_of_ble_eq_true rfl, Nat.le_of_ble_eq_true rfl⟩) ⟨(tw_pre tw_all hP hD hK hN).1, va_recv hK hP (ci := 6) (q0 := 0) rfl rfl, (tw_pre tw_all hP hD hK hN).2⟩ rfl rfl hl.1 rfl (lv_room (Nat.le_of_ble_eq_true rfl)) dX6_stow_48 ⟨Nat.le_of_ble_eq_true rfl, Nat.le_of_ble_eq_true rfl⟩) (fun _ H locs z11 hP hD hS => ?_)
    rw [List.append_nil] at hP hD
    have hP : va_P G vwCl (wTP cA ta pa T_9 P L) H := hP
    have hD : va_D A (wTP cA ta pa T_9 P L) := hD
    obtain rfl := tx_1 h
    exact W.vret hx hb hr (fun t ht hW => ⟨⟨(), rfl, trivial, by rw [ht]; exact hP, hD⟩, hS.F ht⟩) hS.2.2 dX6_stow_51
  · have h := tx_neg c8 h
    refine lv_aload_n hx hb dX6_stow_35 rfl (lv_at hl 0 rfl) ?_
    refine va_get (D := G) (ci := 6) (v := .ref (ta 14)) (C := RX6) (T := TX6) (N := 20) hx hb hT ku_6 hown hK hP 0 rfl rfl 13 (by decide) (hT _ kw_7_12) (fun _ h9 => h9) rfl dX6_stow_36 ?_
    refine lv_iload_n hx hb dX6_stow_39 rfl (lv_at hl 1 rfl) ?_
    refine lv_iconst (v := 5) hx hb dX6_stow_40 (by decide) ?_
    obtain ⟨g12, h⟩ := tx_ck h
    refine va_iast (i := x1) hx hb hK hP hD hS 6 0 rfl rfl (tx_in g12) dX6_stow_41 (fun H locs hP hD hS => ?_)
    obtain ⟨T_13, eT_13, h⟩ := tx_lt h
    rw [sTP_ta_a13, eT_13] at hP hD
    refine lv_goto (tgt := 51) hx hb dX6_stow_42 (by decide) ?_
    obtain rfl := tx_1 h
    exact W.vret hx hb hr (fun t ht hW => ⟨⟨(), rfl, trivial, by rw [ht]; exact hP, hD⟩, hS.F ht⟩) hS.2.2 dX6_stow_51
set_option maxHeartbeats 4000000 in
set_option maxRecDepth 100000 in
theorem c_X6_stow (l : Launch) (G : va_G) (cA : Nat → ClassId) (sz : Nat) (ta : Nat → Nat) (pa : Nat → Nat) (T : Tr) (P : Tr) (L : Lo) (x1 : Int32)  (T' : Tr) (h : f_X6_stow T P x1 = some T') : Met l yX6_stow (.code yX6_stow cX6_stow 3 none :: T0) ({ frames := 2, cells := 0, slots := 0, locals := 46 } : Room) (tqP G cA [.ref (ta 0), .int x1] (wTP cA ta pa T P L) sz) (tqQv G cA (fun (_ : Unit) => True) (fun (_ : Unit) => wTP cA ta pa (T') P L) (va_A (wTP cA ta pa T P L) sz)) 0 0 (va_A (wTP cA ta pa T P L) sz) := by
  refine Met.ofW (cc := cX6_stow) (maxL := 3) (ret := none) (by decide) rfl ?_
  intro p e s m args below meth c s₁ B hml hv
  obtain ⟨rfl, hsz, hP, hK, hD0, hN⟩ := hv
  have hx := B.exec
  have hb := B.bytes
  have hr := B.returns
  have hts := atoms_spec (ws := .code yX6_stow cX6_stow 3 none :: T0) B.pre
  have hT : ∀ w ∈ T0, w.before _ s = true := fun w h => hts w (List.mem_cons_of_mem _ h)
  have hown : s.vm.findClass RX6 = some m.cls := findClass_of_methodNamed B.named
  have hlocks := B.notSynchronized
  subst hsz
  have hD := hD0.self (sz := s.heap.size)
  generalize hAe : va_A (wTP cA ta pa T P L) s.heap.size = A at hD ⊢
  have hA : ∀ q : Nat, s.heap.size ≤ q → A q := fun q h => by rw [← hAe]; exact Or.inr h
  have hS : va_S A s.heap s.heap [] := va_S.rf
  have hl := lv_entry ([.ref (ta 0), .int x1]) (n := 3) (Nat.le_of_ble_eq_true rfl)
  rw [lg_entry_eq]
  generalize (lg_sl ([.ref (ta 0), .int x1]) ++ List.replicate (3 - (lg_sl ([.ref (ta 0), .int x1])).length) Slot.unset).toArray = ls at hl ⊢
  have hl : lv_has ls 3 [(0, .ref (ta 0)), (1, .int x1)] := hl
  have F : tF p s m ([.ref (ta 0), .int x1] : List Value).toArray meth c G cA A RX6 cX6_stow 3 none := ⟨hx, hb, hr, hml, hT, hown, hlocks, hK, hN, hA⟩
  obtain ⟨H, hH⟩ : ∃ z, z = s.heap := ⟨_, rfl⟩
  rw [← hH] at hP
  have hS : va_S A s.heap H [] := by rw [hH]; exact hS
  suffices hgo : G_X6_stow p l e s m below meth c G cA A ta pa P L x1 T' H [] (F0 m 0 ls []) by rw [hH] at hgo; exact hgo
  generalize ([] : List Loc) = locs at hS ⊢
  unfold f_X6_stow at h
  refine lv_aload_n hx hb dX6_stow_0 rfl (lv_at hl 0 rfl) ?_
  refine va_get (D := G) (ci := 6) (v := .ref (ta 13)) (C := RX6) (T := TX6) (N := 20) hx hb hT ku_6 hown hK hP 0 rfl rfl 12 (by decide) (hT _ kw_7_11) (fun _ h9 => h9) rfl dX6_stow_1 ?_
  refine lv_iload_n hx hb dX6_stow_4 rfl (lv_at hl 1 rfl) ?_
  obtain ⟨g1, h⟩ := tx_ck h
  refine va_iald (i := x1) hx hb hK hP 5 0 rfl rfl (tx_in g1) dX6_stow_5 ?_
  refine lv_topi (fun y2 ey2 => ?_)
  have h := tx_let ey2 h
  refine lv_istore_n (lv' := [(2, .int y2), (0, .ref (ta 0)), (1, .int x1)]) hx hb dX6_stow_6 rfl hl (by decide) rfl (fun ls hl => ?_)
  refine lv_iload_n hx hb dX6_stow_7 rfl (lv_at hl 0 rfl) ?_
  refine lv_if_ge (tgt := 20) hx hb dX6_stow_8 (by decide) (fun c3 => ?_) (fun c3 => ?_)
  · have h := tx_pos c3 h
    refine lv_aload_n hx hb dX6_stow_20 rfl (lv_at hl 1 rfl) ?_
    refine lv_iload_n hx hb dX6_stow_21 rfl (lv_at hl 0 rfl) ?_
    refine lv_iload_n hx hb dX6_stow_22 rfl (lv_at hl 2 rfl) ?_
    obtain ⟨r4, hc5, h⟩ := tx_bd h
    refine tw_ci tw_all hP hD hS hA (va_runV (As := [.int y2, .int x1]) (rest := []) ⟨hx, hb, hml, hown, hT⟩ (c_X6_hasRoom l G cA H.size ta pa T P L y2 x1  r4 hc5) (cwV 2 hT (tq_gV kw_42_1 kw_35_21 kw_35_22 kw_1_23 kw_35_23) rfl rfl rfl (by decide +kernel) ⟨Nat.le_of_ble_eq_true rfl, Nat.le_of_ble_eq_true rfl⟩) ⟨(tw_pre tw_all hP hD hK hN).1, va_recv hK hP (ci := 6) (q0 := 0) rfl rfl, (tw_pre tw_all hP hD hK hN).2⟩ rfl rfl hl.1 rfl (lv_room (Nat.le_of_ble_eq_true rfl)) dX6_stow_23 ⟨Nat.le_of_ble_eq_true rfl, Nat.le_of_ble_eq_true rfl⟩) (fun _ _ H locs z6 hP hD hS => ?_)
    subst z6
    rw [List.append_nil] at hP hD
    have hP : va_P G vwCl (wTP cA ta pa T P L) H := hP
    have hD : va_D A (wTP cA ta pa T P L) := hD
    refine lv_if_ne (tgt := 31) hx hb dX6_stow_26 (by decide) (fun c7 => ?_) (fun c7 => ?_)
    · have h := tx_neg c7 h
      exact w_X6_stow_J31 F x1 y2 T H locs ls h hP hD hS (lv_sub hl [1, 2, 0] rfl)
    · have h := tx_pos c7 h
      refine lv_iconst (v := (-1)) hx hb dX6_stow_29 (by decide) ?_
      refine lv_istore_n (lv' := [(2, .int (-1)), (0, .ref (ta 0)), (1, .int x1)]) hx hb dX6_stow_30 rfl hl (by decide) rfl (fun ls hl => ?_)
      exact w_X6_stow_J31 F x1 (-1) T H locs ls h hP hD hS (lv_sub hl [1, 2, 0] rfl)
  · have h := tx_neg c3 h
    refine lv_aload_n hx hb dX6_stow_11 rfl (lv_at hl 1 rfl) ?_
    refine lv_iload_n hx hb dX6_stow_12 rfl (lv_at hl 2 rfl) ?_
    obtain ⟨r14, hc15, h⟩ := tx_bd h
    refine tw_ci tw_all hP hD hS hA (va_runV (As := [.int x1]) (rest := []) ⟨hx, hb, hml, hown, hT⟩ (c_X6_placeByRule l G cA H.size ta pa T P L x1  r14 hc15) (cwV 1 hT (tq_gV kw_41_20 kw_41_21 kw_41_22 kw_1_23 kw_41_23) rfl rfl rfl (by decide +kernel) ⟨Nat.le_of_ble_eq_true rfl, Nat.le_of_ble_eq_true rfl⟩) ⟨(tw_pre tw_all hP hD hK hN).1, va_recv hK hP (ci := 6) (q0 := 0) rfl rfl, (tw_pre tw_all hP hD hK hN).2⟩ rfl rfl hl.1 rfl (lv_room (Nat.le_of_ble_eq_true rfl)) dX6_stow_13 ⟨Nat.le_of_ble_eq_true rfl, Nat.le_of_ble_eq_true rfl⟩) (fun _ _ H locs z16 hP hD hS => ?_)
    subst z16
    rw [List.append_nil] at hP hD
    have hP : va_P G vwCl (wTP cA ta pa T P L) H := hP
    have hD : va_D A (wTP cA ta pa T P L) := hD
    refine lv_istore_n (lv' := [(2, .int r14), (0, .ref (ta 0)), (1, .int x1)]) hx hb dX6_stow_16 rfl hl (by decide) rfl (fun ls hl => ?_)
    refine lv_goto (tgt := 31) hx hb dX6_stow_17 (by decide) ?_
    exact w_X6_stow_J31 F x1 r14 T H locs ls h hP hD hS (lv_sub hl [1, 2, 0] rfl)
abbrev G_X6_getIn (p : Program) (l : Launch) (e : Env) (s : State) (m : MethodId) (below : List Frame) (meth : Method) (c : Code) (G : va_G) (cA : Nat → ClassId) (A : Nat → Prop) (ta : Nat → Nat) (pa : Nat → Nat) (P : Tr) (L : Lo) (T' : Tr) (H : Heap) (locs : List Loc) (g : JFrame) : Prop := W p l e (headSpec (.code yX6_getIn cX6_getIn 3 none :: T0) ({ frames := 3, cells := 0, slots := 0, locals := 68 } : Room)).room s m ([.ref (ta 0)] : List Value).toArray below meth c H locs 0 0 (MQ below (tqQv G cA (fun (_ : Unit) => True) (fun (_ : Unit) => wTP cA ta pa (T') P L) A) ([.ref (ta 0)] : List Value).toArray s 0 0 A) g
set_option maxHeartbeats 4000000 in
set_option maxRecDepth 100000 in
theorem w_X6_getIn_L47 {p : Program} {l : Launch} {e : Env} {s : State} {m : MethodId} {below : List Frame} {meth : Method} {c : Code} {G : va_G} {cA : Nat → ClassId} {A : Nat → Prop} {ta : Nat → Nat} {pa : Nat → Nat} {P : Tr} {L : Lo} {T' : Tr} {x1 : Int32} (F : tF p s m ([.ref (ta 0)] : List Value).toArray meth c G cA A RX6 cX6_getIn 3 none)  (k2 : Int32 → Tr → Option (Tr)) (hk2 : ∀ (x1 : Int32) (T : Tr) (H : Heap) (locs : List Loc) (ls : Array Slot), k2 x1 T = some T' → va_P G vwCl (wTP cA ta pa T P L) H → va_D A (wTP cA ta pa T P L) → va_S A s.heap H locs → lv_has ls 3 [(0, .ref (ta 0)), (1, .int x1)] → G_X6_getIn p l e s m below meth c G cA A ta pa P L T' H locs (F0 m 2 ls [])) (N : Nat) : ∀ (x2 : Int32) (T : Tr) (H : Heap) (locs : List Loc) (ls : Array Slot), lpF (fun _ _ => none) (fB_X6_getIn_L47 k2 P x1) N x2 T = some T' → va_P G vwCl (wTP cA ta pa T P L) H → va_D A (wTP cA ta pa T P L) → va_S A s.heap H locs → lv_has ls 3 [(0, .ref (ta 0)), (1, .int x1), (2, .int x2)] → G_X6_getIn p l e s m below meth c G cA A ta pa P L T' H locs (F0 m 47 ls []) := by
  obtain ⟨hx, hb, hr, hml, hT, hown, hlocks, hK, hN, hA⟩ := id F
  induction N with
  | zero =>
    intro x2 T H locs ls h
    have h : (none : Option (Tr)) = some T' := h
    cases h
  | succ N hk47 =>
    intro x2 T H locs ls h hP hD hS hl
    have h : fB_X6_getIn_L47 k2 P x1 (lpF (fun _ _ => none) (fB_X6_getIn_L47 k2 P x1) N) x2 T = some T' := h
    generalize hk47e : lpF (fun _ _ => none) (fB_X6_getIn_L47 k2 P x1) N = k47 at h hk47
    unfold fB_X6_getIn_L47 at h
    refine lv_iload_n hx hb dX6_getIn_47 rfl (lv_at hl 2 rfl) ?_
    refine lv_aload_n hx hb dX6_getIn_48 rfl (lv_at hl 0 rfl) ?_
    refine va_get (D := G) (ci := 6) (v := .ref (pa 0)) (C := RX6) (T := TX6) (N := 20) hx hb hT ku_6 hown hK hP 0 rfl rfl 19 (by decide) (hT _ kw_8_1) (fun _ h9 => h9) rfl dX6_getIn_49 ?_
    refine va_get (D := G) (ci := 2) (v := .int (P 0 2)) (C := RX2) (T := TX2) (N := 19) hx hb hT ku_2 hown hK hP 12 rfl rfl 2 (by decide) (hT _ kw_40_17) (fun _ h9 => h9) rfl dX6_getIn_52 ?_
    refine lv_icmp_ge (tgt := 82) hx hb dX6_getIn_55 (by decide) (fun c7 => ?_) (fun c7 => ?_)
    · have h := tx_pos c7 h
      obtain ⟨y8, ey8, h⟩ := tx_lt h
      refine lv_iinc (v := y8) (lv' := [(1, .int y8), (0, .ref (ta 0)), (2, .int x2)]) hx hb dX6_getIn_82 hl (k := 1) rfl ey8 (by decide) rfl (fun ls hl => ?_)
      refine lv_goto (tgt := 2) hx hb dX6_getIn_85 (by decide) ?_
      exact hk2 y8 T H locs ls h hP hD hS (lv_sub hl [1, 0] rfl)
    · have h := tx_neg c7 h
      refine lv_aload_n hx hb dX6_getIn_58 rfl (lv_at hl 0 rfl) ?_
      refine va_get (D := G) (ci := 6) (v := .ref (pa 0)) (C := RX6) (T := TX6) (N := 20) hx hb hT ku_6 hown hK hP 0 rfl rfl 19 (by decide) (hT _ kw_8_1) (fun _ h9 => h9) rfl dX6_getIn_59 ?_
      refine va_get (D := G) (ci := 2) (v := .ref (pa 14)) (C := RX2) (T := TX2) (N := 19) hx hb hT ku_2 hown hK hP 12 rfl rfl 13 (by decide) (hT _ kw_39_0) (fun _ h9 => h9) rfl dX6_getIn_62 ?_
      refine lv_iload_n hx hb dX6_getIn_65 rfl (lv_at hl 2 rfl) ?_
      obtain ⟨g9, h⟩ := tx_ck h
      refine va_iald (i := x2) hx hb hK hP 19 0 rfl rfl (tx_in g9) dX6_getIn_66 ?_
      refine lv_iload_n hx hb dX6_getIn_67 rfl (lv_at hl 1 rfl) ?_
      refine lv_icmp_ne (tgt := 76) hx hb dX6_getIn_68 (by decide) (fun c10 => ?_) (fun c10 => ?_)
      · have h := tx_neg c10 h
        obtain ⟨y11, ey11, h⟩ := tx_lt h
        refine lv_iinc (v := y11) (lv' := [(2, .int y11), (0, .ref (ta 0)), (1, .int x1)]) hx hb dX6_getIn_76 hl (k := 2) rfl ey11 (by decide) rfl (fun ls hl => ?_)
        refine lv_goto (tgt := 47) hx hb dX6_getIn_79 (by decide) ?_
        exact hk47 y11 T H locs ls h hP hD hS (lv_sub hl [1, 2, 0] rfl)
      · have h := tx_pos c10 h
        refine lv_aload_n hx hb dX6_getIn_71 rfl (lv_at hl 0 rfl) ?_
        refine lv_iload_n hx hb dX6_getIn_72 rfl (lv_at hl 2 rfl) ?_
        obtain ⟨T_12, hc13, h⟩ := tx_bd h
        refine tw_cv tw_all hP hD hS hA (va_runV (As := [.int x2]) (rest := []) ⟨hx, hb, hml, hown, hT⟩ (c_X6_stow l G cA H.size ta pa T P L x2  T_12 hc13) (cwV 1 hT (tq_gV kw_41_16 kw_41_17 kw_41_18 kw_1_23 kw_41_19) rfl rfl rfl (by decide +kernel) ⟨Nat.le_of_ble_eq_true rfl, Nat.le_of_ble_eq_true rfl⟩) ⟨(tw_pre tw_all hP hD hK hN).1, va_recv hK hP (ci := 6) (q0 := 0) rfl rfl, (tw_pre tw_all hP hD hK hN).2⟩ rfl rfl hl.1 rfl (lv_room (Nat.le_of_ble_eq_true rfl)) dX6_getIn_73 ⟨Nat.le_of_ble_eq_true rfl, Nat.le_of_ble_eq_true rfl⟩) (fun _ H locs z14 hP hD hS => ?_)
        rw [List.append_nil] at hP hD
        have hP : va_P G vwCl (wTP cA ta pa T_12 P L) H := hP
        have hD : va_D A (wTP cA ta pa T_12 P L) := hD
        obtain ⟨y15, ey15, h⟩ := tx_lt h
        refine lv_iinc (v := y15) (lv' := [(2, .int y15), (0, .ref (ta 0)), (1, .int x1)]) hx hb dX6_getIn_76 hl (k := 2) rfl ey15 (by decide) rfl (fun ls hl => ?_)
        refine lv_goto (tgt := 47) hx hb dX6_getIn_79 (by decide) ?_
        exact hk47 y15 T_12 H locs ls h hP hD hS (lv_sub hl [1, 2, 0] rfl)
set_option maxHeartbeats 4000000 in
set_option maxRecDepth 100000 in
theorem w_X6_getIn_L2 {p : Program} {l : Launch} {e : Env} {s : State} {m : MethodId} {below : List Frame} {meth : Method} {c : Code} {G : va_G} {cA : Nat → ClassId} {A : Nat → Prop} {ta : Nat → Nat} {pa : Nat → Nat} {P : Tr} {L : Lo} {T' : Tr} (F : tF p s m ([.ref (ta 0)] : List Value).toArray meth c G cA A RX6 cX6_getIn 3 none)    (N : Nat) : ∀ (x1 : Int32) (T : Tr) (H : Heap) (locs : List Loc) (ls : Array Slot), lpF (fun _ _ => none) (fB_X6_getIn_L2 P) N x1 T = some T' → va_P G vwCl (wTP cA ta pa T P L) H → va_D A (wTP cA ta pa T P L) → va_S A s.heap H locs → lv_has ls 3 [(0, .ref (ta 0)), (1, .int x1)] → G_X6_getIn p l e s m below meth c G cA A ta pa P L T' H locs (F0 m 2 ls []) := by
  obtain ⟨hx, hb, hr, hml, hT, hown, hlocks, hK, hN, hA⟩ := id F
  induction N with
  | zero =>
    intro x1 T H locs ls h
    have h : (none : Option (Tr)) = some T' := h
    cases h
  | succ N hk2 =>
    intro x1 T H locs ls h hP hD hS hl
    have h : fB_X6_getIn_L2 P (lpF (fun _ _ => none) (fB_X6_getIn_L2 P) N) x1 T = some T' := h
    generalize hk2e : lpF (fun _ _ => none) (fB_X6_getIn_L2 P) N = k2 at h hk2
    unfold fB_X6_getIn_L2 at h
    refine lv_iload_n hx hb dX6_getIn_2 rfl (lv_at hl 1 rfl) ?_
    refine lv_aload_n hx hb dX6_getIn_3 rfl (lv_at hl 0 rfl) ?_
    refine va_get (D := G) (ci := 6) (v := .ref (pa 0)) (C := RX6) (T := TX6) (N := 20) hx hb hT ku_6 hown hK hP 0 rfl rfl 19 (by decide) (hT _ kw_8_1) (fun _ h9 => h9) rfl dX6_getIn_4 ?_
    refine va_get (D := G) (ci := 2) (v := .int (P 0 1)) (C := RX2) (T := TX2) (N := 19) hx hb hT ku_2 hown hK hP 12 rfl rfl 1 (by decide) (hT _ kw_40_16) (fun _ h9 => h9) rfl dX6_getIn_7 ?_
    refine lv_icmp_ge (tgt := 88) hx hb dX6_getIn_10 (by decide) (fun c1 => ?_) (fun c1 => ?_)
    · have h := tx_pos c1 h
      obtain rfl := tx_1 h
      exact W.vret hx hb hr (fun t ht hW => ⟨⟨(), rfl, trivial, by rw [ht]; exact hP, hD⟩, hS.F ht⟩) hS.2.2 dX6_getIn_88
    · have h := tx_neg c1 h
      refine lv_aload_n hx hb dX6_getIn_13 rfl (lv_at hl 0 rfl) ?_
      refine va_get (D := G) (ci := 6) (v := .ref (ta 11)) (C := RX6) (T := TX6) (N := 20) hx hb hT ku_6 hown hK hP 0 rfl rfl 10 (by decide) (hT _ kw_7_9) (fun _ h9 => h9) rfl dX6_getIn_14 ?_
      refine lv_iload_n hx hb dX6_getIn_17 rfl (lv_at hl 1 rfl) ?_
      obtain ⟨g2, h⟩ := tx_ck h
      refine va_iald (i := x1) hx hb hK hP 3 0 rfl rfl (tx_in g2) dX6_getIn_18 ?_
      refine lv_if_ne (tgt := 82) hx hb dX6_getIn_19 (by decide) (fun c3 => ?_) (fun c3 => ?_)
      · have h := tx_neg c3 h
        obtain ⟨y4, ey4, h⟩ := tx_lt h
        refine lv_iinc (v := y4) (lv' := [(1, .int y4), (0, .ref (ta 0))]) hx hb dX6_getIn_82 hl (k := 1) rfl ey4 (by decide) rfl (fun ls hl => ?_)
        refine lv_goto (tgt := 2) hx hb dX6_getIn_85 (by decide) ?_
        exact hk2 y4 T H locs ls h hP hD hS (lv_sub hl [1, 0] rfl)
      · have h := tx_pos c3 h
        refine lv_aload_n hx hb dX6_getIn_22 rfl (lv_at hl 0 rfl) ?_
        refine va_get (D := G) (ci := 6) (v := .ref (ta 9)) (C := RX6) (T := TX6) (N := 20) hx hb hT ku_6 hown hK hP 0 rfl rfl 8 (by decide) (hT _ kw_7_7) (fun _ h9 => h9) rfl dX6_getIn_23 ?_
        refine lv_iload_n hx hb dX6_getIn_26 rfl (lv_at hl 1 rfl) ?_
        refine va_iald (i := x1) hx hb hK hP 1 0 rfl rfl (tx_in g2) dX6_getIn_27 ?_
        refine lv_aload_n hx hb dX6_getIn_28 rfl (lv_at hl 0 rfl) ?_
        refine va_get (D := G) (ci := 6) (v := .int (T 0 0)) (C := RX6) (T := TX6) (N := 20) hx hb hT ku_6 hown hK hP 0 rfl rfl 0 (by decide) (hT _ kw_8_2) (fun _ h9 => h9) rfl dX6_getIn_29 ?_
        refine lv_icmp_eq (tgt := 38) hx hb dX6_getIn_32 (by decide) (fun c5 => ?_) (fun c5 => ?_)
        · have h := tx_pos c5 h
          refine lv_aload_n hx hb dX6_getIn_38 rfl (lv_at hl 0 rfl) ?_
          refine va_get (D := G) (ci := 6) (v := .ref (ta 11)) (C := RX6) (T := TX6) (N := 20) hx hb hT ku_6 hown hK hP 0 rfl rfl 10 (by decide) (hT _ kw_7_9) (fun _ h9 => h9) rfl dX6_getIn_39 ?_
          refine lv_iload_n hx hb dX6_getIn_42 rfl (lv_at hl 1 rfl) ?_
          refine lv_iconst (v := 1) hx hb dX6_getIn_43 (by decide) ?_
          refine va_iast (i := x1) hx hb hK hP hD hS 3 0 rfl rfl (tx_in g2) dX6_getIn_44 (fun H locs hP hD hS => ?_)
          obtain ⟨T_6, eT_6, h⟩ := tx_lt h
          rw [sTP_ta_a10, eT_6] at hP hD
          refine lv_iconst (v := 0) hx hb dX6_getIn_45 (by decide) ?_
          refine lv_istore_n (lv' := [(2, .int 0), (0, .ref (ta 0)), (1, .int x1)]) hx hb dX6_getIn_46 rfl hl (by decide) rfl (fun ls hl => ?_)
          exact w_X6_getIn_L47 F k2 hk2 2000 0 T_6 H locs ls h hP hD hS (lv_sub hl [1, 2, 0] rfl)
        · have h := tx_neg c5 h
          refine lv_goto (tgt := 82) hx hb dX6_getIn_35 (by decide) ?_
          obtain ⟨y16, ey16, h⟩ := tx_lt h
          refine lv_iinc (v := y16) (lv' := [(1, .int y16), (0, .ref (ta 0))]) hx hb dX6_getIn_82 hl (k := 1) rfl ey16 (by decide) rfl (fun ls hl => ?_)
          refine lv_goto (tgt := 2) hx hb dX6_getIn_85 (by decide) ?_
          exact hk2 y16 T H locs ls h hP hD hS (lv_sub hl [1, 0] rfl)
set_option maxHeartbeats 4000000 in
set_option maxRecDepth 100000 in
theorem c_X6_getIn (l : Launch) (G : va_G) (cA : Nat → ClassId) (sz : Nat) (ta : Nat → Nat) (pa : Nat → Nat) (T : Tr) (P : Tr) (L : Lo)  (T' : Tr) (h : f_X6_getIn T P = some T') : Met l yX6_getIn (.code yX6_getIn cX6_getIn 3 none :: T0) ({ frames := 3, cells := 0, slots := 0, locals := 68 } : Room) (tqP G cA [.ref (ta 0)] (wTP cA ta pa T P L) sz) (tqQv G cA (fun (_ : Unit) => True) (fun (_ : Unit) => wTP cA ta pa (T') P L) (va_A (wTP cA ta pa T P L) sz)) 0 0 (va_A (wTP cA ta pa T P L) sz) := by
  refine Met.ofW (cc := cX6_getIn) (maxL := 3) (ret := none) (by decide) rfl ?_
  intro p e s m args below meth c s₁ B hml hv
  obtain ⟨rfl, hsz, hP, hK, hD0, hN⟩ := hv
  have hx := B.exec
  have hb := B.bytes
  have hr := B.returns
  have hts := atoms_spec (ws := .code yX6_getIn cX6_getIn 3 none :: T0) B.pre
  have hT : ∀ w ∈ T0, w.before _ s = true := fun w h => hts w (List.mem_cons_of_mem _ h)
  have hown : s.vm.findClass RX6 = some m.cls := findClass_of_methodNamed B.named
  have hlocks := B.notSynchronized
  subst hsz
  have hD := hD0.self (sz := s.heap.size)
  generalize hAe : va_A (wTP cA ta pa T P L) s.heap.size = A at hD ⊢
  have hA : ∀ q : Nat, s.heap.size ≤ q → A q := fun q h => by rw [← hAe]; exact Or.inr h
  have hS : va_S A s.heap s.heap [] := va_S.rf
  have hl := lv_entry ([.ref (ta 0)]) (n := 3) (Nat.le_of_ble_eq_true rfl)
  rw [lg_entry_eq]
  generalize (lg_sl ([.ref (ta 0)]) ++ List.replicate (3 - (lg_sl ([.ref (ta 0)])).length) Slot.unset).toArray = ls at hl ⊢
  have hl : lv_has ls 3 [(0, .ref (ta 0))] := hl
  have F : tF p s m ([.ref (ta 0)] : List Value).toArray meth c G cA A RX6 cX6_getIn 3 none := ⟨hx, hb, hr, hml, hT, hown, hlocks, hK, hN, hA⟩
  obtain ⟨H, hH⟩ : ∃ z, z = s.heap := ⟨_, rfl⟩
  rw [← hH] at hP
  have hS : va_S A s.heap H [] := by rw [hH]; exact hS
  suffices hgo : G_X6_getIn p l e s m below meth c G cA A ta pa P L T' H [] (F0 m 0 ls []) by rw [hH] at hgo; exact hgo
  generalize ([] : List Loc) = locs at hS ⊢
  unfold f_X6_getIn at h
  refine lv_iconst (v := 0) hx hb dX6_getIn_0 (by decide) ?_
  refine lv_istore_n (lv' := [(1, .int 0), (0, .ref (ta 0))]) hx hb dX6_getIn_1 rfl hl (by decide) rfl (fun ls hl => ?_)
  exact w_X6_getIn_L2 F 2000 0 T H locs ls h hP hD hS (lv_sub hl [1, 0] rfl)
abbrev G_X6_goesAbove (p : Program) (l : Launch) (e : Env) (s : State) (m : MethodId) (below : List Frame) (meth : Method) (c : Code) (G : va_G) (cA : Nat → ClassId) (A : Nat → Prop) (ta : Nat → Nat) (pa : Nat → Nat) (T : Tr) (P : Tr) (L : Lo) (x1 : Int32) (x2 : Int32) (r0 : Int32) (H : Heap) (locs : List Loc) (g : JFrame) : Prop := W p l e (headSpec (.code yX6_goesAbove cX6_goesAbove 5 (some .boolean) :: T0) ({ frames := 0, cells := 0, slots := 0, locals := 0 } : Room)).room s m ([.ref (ta 0), .int x1, .int x2] : List Value).toArray below meth c H locs 0 0 (MQ below (tqQi G cA (fun (r : Int32) (_ : Unit) => r = r0) (fun (_ : Unit) => wTP cA ta pa T P L) A) ([.ref (ta 0), .int x1, .int x2] : List Value).toArray s 0 0 A) g
set_option maxHeartbeats 4000000 in
set_option maxRecDepth 100000 in
theorem c_X6_goesAbove (l : Launch) (G : va_G) (cA : Nat → ClassId) (sz : Nat) (ta : Nat → Nat) (pa : Nat → Nat) (T : Tr) (P : Tr) (L : Lo) (x1 : Int32) (x2 : Int32)  (r0 : Int32) (h : f_X6_goesAbove P x1 x2 = some r0) : Met l yX6_goesAbove (.code yX6_goesAbove cX6_goesAbove 5 (some .boolean) :: T0) ({ frames := 0, cells := 0, slots := 0, locals := 0 } : Room) (tqP G cA [.ref (ta 0), .int x1, .int x2] (wTP cA ta pa T P L) sz) (tqQi G cA (fun (r : Int32) (_ : Unit) => r = r0) (fun (_ : Unit) => wTP cA ta pa T P L) (va_A (wTP cA ta pa T P L) sz)) 0 0 (va_A (wTP cA ta pa T P L) sz) := by
  refine Met.ofW (cc := cX6_goesAbove) (maxL := 5) (ret := (some .boolean)) (by decide) rfl ?_
  intro p e s m args below meth c s₁ B hml hv
  obtain ⟨rfl, hsz, hP, hK, hD0, hN⟩ := hv
  have hx := B.exec
  have hb := B.bytes
  have hr := B.returns
  have hts := atoms_spec (ws := .code yX6_goesAbove cX6_goesAbove 5 (some .boolean) :: T0) B.pre
  have hT : ∀ w ∈ T0, w.before _ s = true := fun w h => hts w (List.mem_cons_of_mem _ h)
  have hown : s.vm.findClass RX6 = some m.cls := findClass_of_methodNamed B.named
  have hlocks := B.notSynchronized
  subst hsz
  have hD := hD0.self (sz := s.heap.size)
  generalize hAe : va_A (wTP cA ta pa T P L) s.heap.size = A at hD ⊢
  have hA : ∀ q : Nat, s.heap.size ≤ q → A q := fun q h => by rw [← hAe]; exact Or.inr h
  have hS : va_S A s.heap s.heap [] := va_S.rf
  have hl := lv_entry ([.ref (ta 0), .int x1, .int x2]) (n := 5) (Nat.le_of_ble_eq_true rfl)
  rw [lg_entry_eq]
  generalize (lg_sl ([.ref (ta 0), .int x1, .int x2]) ++ List.replicate (5 - (lg_sl ([.ref (ta 0), .int x1, .int x2])).length) Slot.unset).toArray = ls at hl ⊢
  have hl : lv_has ls 5 [(0, .ref (ta 0)), (1, .int x1), (2, .int x2)] := hl
  have F : tF p s m ([.ref (ta 0), .int x1, .int x2] : List Value).toArray meth c G cA A RX6 cX6_goesAbove 5 (some .boolean) := ⟨hx, hb, hr, hml, hT, hown, hlocks, hK, hN, hA⟩
  obtain ⟨H, hH⟩ : ∃ z, z = s.heap := ⟨_, rfl⟩
  rw [← hH] at hP
  have hS : va_S A s.heap H [] := by rw [hH]; exact hS
  suffices hgo : G_X6_goesAbove p l e s m below meth c G cA A ta pa T P L x1 x2 r0 H [] (F0 m 0 ls []) by rw [hH] at hgo; exact hgo
  generalize ([] : List Loc) = locs at hS ⊢
  unfold f_X6_goesAbove at h
  refine lv_aload_n hx hb dX6_goesAbove_0 rfl (lv_at hl 0 rfl) ?_
  refine va_get (D := G) (ci := 6) (v := .ref (pa 0)) (C := RX6) (T := TX6) (N := 20) hx hb hT ku_6 hown hK hP 0 rfl rfl 19 (by decide) (hT _ kw_8_1) (fun _ h9 => h9) rfl dX6_goesAbove_1 ?_
  refine va_get (D := G) (ci := 2) (v := .ref (pa 12)) (C := RX2) (T := TX2) (N := 19) hx hb hT ku_2 hown hK hP 12 rfl rfl 11 (by decide) (hT _ kw_38_23) (fun _ h9 => h9) rfl dX6_goesAbove_4 ?_
  refine lv_aload_n hx hb dX6_goesAbove_7 rfl (lv_at hl 0 rfl) ?_
  refine va_get (D := G) (ci := 6) (v := .ref (pa 0)) (C := RX6) (T := TX6) (N := 20) hx hb hT ku_6 hown hK hP 0 rfl rfl 19 (by decide) (hT _ kw_8_1) (fun _ h9 => h9) rfl dX6_goesAbove_8 ?_
  refine va_get (D := G) (ci := 2) (v := .ref (pa 14)) (C := RX2) (T := TX2) (N := 19) hx hb hT ku_2 hown hK hP 12 rfl rfl 13 (by decide) (hT _ kw_39_0) (fun _ h9 => h9) rfl dX6_goesAbove_11 ?_
  refine lv_iload_n hx hb dX6_goesAbove_14 rfl (lv_at hl 1 rfl) ?_
  obtain ⟨g1, h⟩ := tx_ck h
  refine va_iald (i := x1) hx hb hK hP 19 0 rfl rfl (tx_in g1) dX6_goesAbove_15 ?_
  obtain ⟨g2, h⟩ := tx_ck h
  refine va_iald (i := (P 14 x1.toNatClampNeg)) hx hb hK hP 17 0 rfl rfl (tx_in g2) dX6_goesAbove_16 ?_
  refine lv_topi (fun y3 ey3 => ?_)
  have h := tx_let ey3 h
  refine lv_istore_n (lv' := [(3, .int y3), (0, .ref (ta 0)), (1, .int x1), (2, .int x2)]) hx hb dX6_goesAbove_17 rfl hl (by decide) rfl (fun ls hl => ?_)
  refine lv_aload_n hx hb dX6_goesAbove_18 rfl (lv_at hl 1 rfl) ?_
  refine va_get (D := G) (ci := 6) (v := .ref (pa 0)) (C := RX6) (T := TX6) (N := 20) hx hb hT ku_6 hown hK hP 0 rfl rfl 19 (by decide) (hT _ kw_8_1) (fun _ h9 => h9) rfl dX6_goesAbove_19 ?_
  refine va_get (D := G) (ci := 2) (v := .ref (pa 12)) (C := RX2) (T := TX2) (N := 19) hx hb hT ku_2 hown hK hP 12 rfl rfl 11 (by decide) (hT _ kw_38_23) (fun _ h9 => h9) rfl dX6_goesAbove_22 ?_
  refine lv_aload_n hx hb dX6_goesAbove_25 rfl (lv_at hl 1 rfl) ?_
  refine va_get (D := G) (ci := 6) (v := .ref (pa 0)) (C := RX6) (T := TX6) (N := 20) hx hb hT ku_6 hown hK hP 0 rfl rfl 19 (by decide) (hT _ kw_8_1) (fun _ h9 => h9) rfl dX6_goesAbove_26 ?_
  refine va_get (D := G) (ci := 2) (v := .ref (pa 14)) (C := RX2) (T := TX2) (N := 19) hx hb hT ku_2 hown hK hP 12 rfl rfl 13 (by decide) (hT _ kw_39_0) (fun _ h9 => h9) rfl dX6_goesAbove_29 ?_
  refine lv_iload_n hx hb dX6_goesAbove_32 rfl (lv_at hl 3 rfl) ?_
  obtain ⟨g4, h⟩ := tx_ck h
  refine va_iald (i := x2) hx hb hK hP 19 0 rfl rfl (tx_in g4) dX6_goesAbove_33 ?_
  obtain ⟨g5, h⟩ := tx_ck h
  refine va_iald (i := (P 14 x2.toNatClampNeg)) hx hb hK hP 17 0 rfl rfl (tx_in g5) dX6_goesAbove_34 ?_
  refine lv_topi (fun y6 ey6 => ?_)
  have h := tx_let ey6 h
  refine lv_istore (lv' := [(4, .int y6), (3, .int y3), (0, .ref (ta 0)), (1, .int x1), (2, .int x2)]) hx hb dX6_goesAbove_35 hl (by decide) rfl (fun ls hl => ?_)
  refine lv_iload_n hx hb dX6_goesAbove_37 rfl (lv_at hl 1 rfl) ?_
  refine lv_iload hx hb dX6_goesAbove_38 (lv_at hl 0 rfl) ?_
  refine lv_icmp_eq (tgt := 57) hx hb dX6_goesAbove_40 (by decide) (fun c7 => ?_) (fun c7 => ?_)
  · have h := tx_pos c7 h
    refine lv_iload_n hx hb dX6_goesAbove_57 rfl (lv_at hl 3 rfl) ?_
    refine lv_iload_n hx hb dX6_goesAbove_58 rfl (lv_at hl 4 rfl) ?_
    refine lv_icmp_ge (tgt := 66) hx hb dX6_goesAbove_59 (by decide) (fun c8 => ?_) (fun c8 => ?_)
    · have h := tx_pos c8 h
      refine lv_iconst (v := 0) hx hb dX6_goesAbove_66 (by decide) ?_
      obtain rfl := tx_1 h
      exact W.zret (ty := .boolean) hx hb hr rfl (fun t ht hW => ⟨⟨_, (), rfl, rfl, by rw [ht]; exact hP, hD⟩, hS.F ht⟩) hS.2.2 dX6_goesAbove_67
    · have h := tx_neg c8 h
      refine lv_iconst (v := 1) hx hb dX6_goesAbove_62 (by decide) ?_
      refine lv_goto (tgt := 67) hx hb dX6_goesAbove_63 (by decide) ?_
      obtain rfl := tx_1 h
      exact W.zret (ty := .boolean) hx hb hr rfl (fun t ht hW => ⟨⟨_, (), rfl, rfl, by rw [ht]; exact hP, hD⟩, hS.F ht⟩) hS.2.2 dX6_goesAbove_67
  · have h := tx_neg c7 h
    refine lv_iload_n hx hb dX6_goesAbove_43 rfl (lv_at hl 1 rfl) ?_
    refine lv_iload hx hb dX6_goesAbove_44 (lv_at hl 0 rfl) ?_
    refine lv_icmp_ge (tgt := 53) hx hb dX6_goesAbove_46 (by decide) (fun c9 => ?_) (fun c9 => ?_)
    · have h := tx_pos c9 h
      refine lv_iconst (v := 0) hx hb dX6_goesAbove_53 (by decide) ?_
      refine lv_goto (tgt := 67) hx hb dX6_goesAbove_54 (by decide) ?_
      obtain rfl := tx_1 h
      exact W.zret (ty := .boolean) hx hb hr rfl (fun t ht hW => ⟨⟨_, (), rfl, rfl, by rw [ht]; exact hP, hD⟩, hS.F ht⟩) hS.2.2 dX6_goesAbove_67
    · have h := tx_neg c9 h
      refine lv_iconst (v := 1) hx hb dX6_goesAbove_49 (by decide) ?_
      refine lv_goto (tgt := 67) hx hb dX6_goesAbove_50 (by decide) ?_
      obtain rfl := tx_1 h
      exact W.zret (ty := .boolean) hx hb hr rfl (fun t ht hW => ⟨⟨_, (), rfl, rfl, by rw [ht]; exact hP, hD⟩, hS.F ht⟩) hS.2.2 dX6_goesAbove_67
abbrev G_X6_hasPlaced (p : Program) (l : Launch) (e : Env) (s : State) (m : MethodId) (below : List Frame) (meth : Method) (c : Code) (G : va_G) (cA : Nat → ClassId) (A : Nat → Prop) (ta : Nat → Nat) (pa : Nat → Nat) (T : Tr) (P : Tr) (L : Lo) (x1 : Int32) (r0 : Int32) (H : Heap) (locs : List Loc) (g : JFrame) : Prop := W p l e (headSpec (.code yX6_hasPlaced cX6_hasPlaced 3 (some .boolean) :: T0) ({ frames := 0, cells := 0, slots := 0, locals := 0 } : Room)).room s m ([.ref (ta 0), .int x1] : List Value).toArray below meth c H locs 0 0 (MQ below (tqQi G cA (fun (r : Int32) (_ : Unit) => r = r0) (fun (_ : Unit) => wTP cA ta pa T P L) A) ([.ref (ta 0), .int x1] : List Value).toArray s 0 0 A) g
set_option maxHeartbeats 4000000 in
set_option maxRecDepth 100000 in
theorem w_X6_hasPlaced_L2 {p : Program} {l : Launch} {e : Env} {s : State} {m : MethodId} {below : List Frame} {meth : Method} {c : Code} {G : va_G} {cA : Nat → ClassId} {A : Nat → Prop} {ta : Nat → Nat} {pa : Nat → Nat} {T : Tr} {P : Tr} {L : Lo} {x1₀ : Int32} {r0 : Int32} {x1 : Int32} (F : tF p s m ([.ref (ta 0), .int x1₀] : List Value).toArray meth c G cA A RX6 cX6_hasPlaced 3 (some .boolean))    (N : Nat) : ∀ (x2 : Int32) (H : Heap) (locs : List Loc) (ls : Array Slot), lpF (fun _ => none) (fB_X6_hasPlaced_L2 T P x1) N x2 = some r0 → va_P G vwCl (wTP cA ta pa T P L) H → va_D A (wTP cA ta pa T P L) → va_S A s.heap H locs → lv_has ls 3 [(0, .ref (ta 0)), (1, .int x1), (2, .int x2)] → G_X6_hasPlaced p l e s m below meth c G cA A ta pa T P L x1₀ r0 H locs (F0 m 2 ls []) := by
  obtain ⟨hx, hb, hr, hml, hT, hown, hlocks, hK, hN, hA⟩ := id F
  induction N with
  | zero =>
    intro x2 H locs ls h
    have h : (none : Option (Int32)) = some r0 := h
    cases h
  | succ N hk2 =>
    intro x2 H locs ls h hP hD hS hl
    have h : fB_X6_hasPlaced_L2 T P x1 (lpF (fun _ => none) (fB_X6_hasPlaced_L2 T P x1) N) x2 = some r0 := h
    generalize hk2e : lpF (fun _ => none) (fB_X6_hasPlaced_L2 T P x1) N = k2 at h hk2
    unfold fB_X6_hasPlaced_L2 at h
    refine lv_iload_n hx hb dX6_hasPlaced_2 rfl (lv_at hl 2 rfl) ?_
    refine lv_aload_n hx hb dX6_hasPlaced_3 rfl (lv_at hl 0 rfl) ?_
    refine va_get (D := G) (ci := 6) (v := .ref (pa 0)) (C := RX6) (T := TX6) (N := 20) hx hb hT ku_6 hown hK hP 0 rfl rfl 19 (by decide) (hT _ kw_8_1) (fun _ h9 => h9) rfl dX6_hasPlaced_4 ?_
    refine va_get (D := G) (ci := 2) (v := .int (P 0 2)) (C := RX2) (T := TX2) (N := 19) hx hb hT ku_2 hown hK hP 12 rfl rfl 2 (by decide) (hT _ kw_40_17) (fun _ h9 => h9) rfl dX6_hasPlaced_7 ?_
    refine lv_icmp_ge (tgt := 44) hx hb dX6_hasPlaced_10 (by decide) (fun c1 => ?_) (fun c1 => ?_)
    · have h := tx_pos c1 h
      refine lv_iconst (v := 0) hx hb dX6_hasPlaced_44 (by decide) ?_
      obtain rfl := tx_1 h
      exact W.zret (ty := .boolean) hx hb hr rfl (fun t ht hW => ⟨⟨_, (), rfl, rfl, by rw [ht]; exact hP, hD⟩, hS.F ht⟩) hS.2.2 dX6_hasPlaced_45
    · have h := tx_neg c1 h
      refine lv_aload_n hx hb dX6_hasPlaced_13 rfl (lv_at hl 0 rfl) ?_
      refine va_get (D := G) (ci := 6) (v := .ref (pa 0)) (C := RX6) (T := TX6) (N := 20) hx hb hT ku_6 hown hK hP 0 rfl rfl 19 (by decide) (hT _ kw_8_1) (fun _ h9 => h9) rfl dX6_hasPlaced_14 ?_
      refine va_get (D := G) (ci := 2) (v := .ref (pa 14)) (C := RX2) (T := TX2) (N := 19) hx hb hT ku_2 hown hK hP 12 rfl rfl 13 (by decide) (hT _ kw_39_0) (fun _ h9 => h9) rfl dX6_hasPlaced_17 ?_
      refine lv_iload_n hx hb dX6_hasPlaced_20 rfl (lv_at hl 2 rfl) ?_
      obtain ⟨g2, h⟩ := tx_ck h
      refine va_iald (i := x2) hx hb hK hP 19 0 rfl rfl (tx_in g2) dX6_hasPlaced_21 ?_
      refine lv_iload_n hx hb dX6_hasPlaced_22 rfl (lv_at hl 1 rfl) ?_
      refine lv_icmp_ne (tgt := 38) hx hb dX6_hasPlaced_23 (by decide) (fun c3 => ?_) (fun c3 => ?_)
      · have h := tx_neg c3 h
        obtain ⟨y4, ey4, h⟩ := tx_lt h
        refine lv_iinc (v := y4) (lv' := [(2, .int y4), (0, .ref (ta 0)), (1, .int x1)]) hx hb dX6_hasPlaced_38 hl (k := 2) rfl ey4 (by decide) rfl (fun ls hl => ?_)
        refine lv_goto (tgt := 2) hx hb dX6_hasPlaced_41 (by decide) ?_
        exact hk2 y4 H locs ls h hP hD hS (lv_sub hl [1, 2, 0] rfl)
      · have h := tx_pos c3 h
        refine lv_aload_n hx hb dX6_hasPlaced_26 rfl (lv_at hl 0 rfl) ?_
        refine va_get (D := G) (ci := 6) (v := .ref (ta 14)) (C := RX6) (T := TX6) (N := 20) hx hb hT ku_6 hown hK hP 0 rfl rfl 13 (by decide) (hT _ kw_7_12) (fun _ h9 => h9) rfl dX6_hasPlaced_27 ?_
        refine lv_iload_n hx hb dX6_hasPlaced_30 rfl (lv_at hl 2 rfl) ?_
        refine va_iald (i := x2) hx hb hK hP 6 0 rfl rfl (tx_in g2) dX6_hasPlaced_31 ?_
        refine lv_iconst (v := 1) hx hb dX6_hasPlaced_32 (by decide) ?_
        refine lv_icmp_ne (tgt := 38) hx hb dX6_hasPlaced_33 (by decide) (fun c5 => ?_) (fun c5 => ?_)
        · have h := tx_neg c5 h
          obtain ⟨y6, ey6, h⟩ := tx_lt h
          refine lv_iinc (v := y6) (lv' := [(2, .int y6), (0, .ref (ta 0)), (1, .int x1)]) hx hb dX6_hasPlaced_38 hl (k := 2) rfl ey6 (by decide) rfl (fun ls hl => ?_)
          refine lv_goto (tgt := 2) hx hb dX6_hasPlaced_41 (by decide) ?_
          exact hk2 y6 H locs ls h hP hD hS (lv_sub hl [1, 2, 0] rfl)
        · have h := tx_pos c5 h
          refine lv_iconst (v := 1) hx hb dX6_hasPlaced_36 (by decide) ?_
          obtain rfl := tx_1 h
          exact W.zret (ty := .boolean) hx hb hr rfl (fun t ht hW => ⟨⟨_, (), rfl, rfl, by rw [ht]; exact hP, hD⟩, hS.F ht⟩) hS.2.2 dX6_hasPlaced_37
set_option maxHeartbeats 4000000 in
set_option maxRecDepth 100000 in
theorem c_X6_hasPlaced (l : Launch) (G : va_G) (cA : Nat → ClassId) (sz : Nat) (ta : Nat → Nat) (pa : Nat → Nat) (T : Tr) (P : Tr) (L : Lo) (x1 : Int32)  (r0 : Int32) (h : f_X6_hasPlaced T P x1 = some r0) : Met l yX6_hasPlaced (.code yX6_hasPlaced cX6_hasPlaced 3 (some .boolean) :: T0) ({ frames := 0, cells := 0, slots := 0, locals := 0 } : Room) (tqP G cA [.ref (ta 0), .int x1] (wTP cA ta pa T P L) sz) (tqQi G cA (fun (r : Int32) (_ : Unit) => r = r0) (fun (_ : Unit) => wTP cA ta pa T P L) (va_A (wTP cA ta pa T P L) sz)) 0 0 (va_A (wTP cA ta pa T P L) sz) := by
  refine Met.ofW (cc := cX6_hasPlaced) (maxL := 3) (ret := (some .boolean)) (by decide) rfl ?_
  intro p e s m args below meth c s₁ B hml hv
  obtain ⟨rfl, hsz, hP, hK, hD0, hN⟩ := hv
  have hx := B.exec
  have hb := B.bytes
  have hr := B.returns
  have hts := atoms_spec (ws := .code yX6_hasPlaced cX6_hasPlaced 3 (some .boolean) :: T0) B.pre
  have hT : ∀ w ∈ T0, w.before _ s = true := fun w h => hts w (List.mem_cons_of_mem _ h)
  have hown : s.vm.findClass RX6 = some m.cls := findClass_of_methodNamed B.named
  have hlocks := B.notSynchronized
  subst hsz
  have hD := hD0.self (sz := s.heap.size)
  generalize hAe : va_A (wTP cA ta pa T P L) s.heap.size = A at hD ⊢
  have hA : ∀ q : Nat, s.heap.size ≤ q → A q := fun q h => by rw [← hAe]; exact Or.inr h
  have hS : va_S A s.heap s.heap [] := va_S.rf
  have hl := lv_entry ([.ref (ta 0), .int x1]) (n := 3) (Nat.le_of_ble_eq_true rfl)
  rw [lg_entry_eq]
  generalize (lg_sl ([.ref (ta 0), .int x1]) ++ List.replicate (3 - (lg_sl ([.ref (ta 0), .int x1])).length) Slot.unset).toArray = ls at hl ⊢
  have hl : lv_has ls 3 [(0, .ref (ta 0)), (1, .int x1)] := hl
  have F : tF p s m ([.ref (ta 0), .int x1] : List Value).toArray meth c G cA A RX6 cX6_hasPlaced 3 (some .boolean) := ⟨hx, hb, hr, hml, hT, hown, hlocks, hK, hN, hA⟩
  obtain ⟨H, hH⟩ : ∃ z, z = s.heap := ⟨_, rfl⟩
  rw [← hH] at hP
  have hS : va_S A s.heap H [] := by rw [hH]; exact hS
  suffices hgo : G_X6_hasPlaced p l e s m below meth c G cA A ta pa T P L x1 r0 H [] (F0 m 0 ls []) by rw [hH] at hgo; exact hgo
  generalize ([] : List Loc) = locs at hS ⊢
  unfold f_X6_hasPlaced at h
  refine lv_iconst (v := 0) hx hb dX6_hasPlaced_0 (by decide) ?_
  refine lv_istore_n (lv' := [(2, .int 0), (0, .ref (ta 0)), (1, .int x1)]) hx hb dX6_hasPlaced_1 rfl hl (by decide) rfl (fun ls hl => ?_)
  exact w_X6_hasPlaced_L2 F 2000 0 H locs ls h hP hD hS (lv_sub hl [1, 2, 0] rfl)
abbrev G_X6_isBusy (p : Program) (l : Launch) (e : Env) (s : State) (m : MethodId) (below : List Frame) (meth : Method) (c : Code) (G : va_G) (cA : Nat → ClassId) (A : Nat → Prop) (ta : Nat → Nat) (pa : Nat → Nat) (T : Tr) (P : Tr) (L : Lo) (r0 : Int32) (H : Heap) (locs : List Loc) (g : JFrame) : Prop := W p l e (headSpec (.code yX6_isBusy cX6_isBusy 2 (some .boolean) :: T0) ({ frames := 0, cells := 0, slots := 0, locals := 0 } : Room)).room s m ([.ref (ta 0)] : List Value).toArray below meth c H locs 0 0 (MQ below (tqQi G cA (fun (r : Int32) (_ : Unit) => r = r0) (fun (_ : Unit) => wTP cA ta pa T P L) A) ([.ref (ta 0)] : List Value).toArray s 0 0 A) g
set_option maxHeartbeats 4000000 in
set_option maxRecDepth 100000 in
theorem w_X6_isBusy_L2 {p : Program} {l : Launch} {e : Env} {s : State} {m : MethodId} {below : List Frame} {meth : Method} {c : Code} {G : va_G} {cA : Nat → ClassId} {A : Nat → Prop} {ta : Nat → Nat} {pa : Nat → Nat} {T : Tr} {P : Tr} {L : Lo} {r0 : Int32} (F : tF p s m ([.ref (ta 0)] : List Value).toArray meth c G cA A RX6 cX6_isBusy 2 (some .boolean))    (N : Nat) : ∀ (x1 : Int32) (H : Heap) (locs : List Loc) (ls : Array Slot), lpF (fun _ => none) (fB_X6_isBusy_L2 T P) N x1 = some r0 → va_P G vwCl (wTP cA ta pa T P L) H → va_D A (wTP cA ta pa T P L) → va_S A s.heap H locs → lv_has ls 2 [(0, .ref (ta 0)), (1, .int x1)] → G_X6_isBusy p l e s m below meth c G cA A ta pa T P L r0 H locs (F0 m 2 ls []) := by
  obtain ⟨hx, hb, hr, hml, hT, hown, hlocks, hK, hN, hA⟩ := id F
  induction N with
  | zero =>
    intro x1 H locs ls h
    have h : (none : Option (Int32)) = some r0 := h
    cases h
  | succ N hk2 =>
    intro x1 H locs ls h hP hD hS hl
    have h : fB_X6_isBusy_L2 T P (lpF (fun _ => none) (fB_X6_isBusy_L2 T P) N) x1 = some r0 := h
    generalize hk2e : lpF (fun _ => none) (fB_X6_isBusy_L2 T P) N = k2 at h hk2
    unfold fB_X6_isBusy_L2 at h
    refine lv_iload_n hx hb dX6_isBusy_2 rfl (lv_at hl 1 rfl) ?_
    refine lv_aload_n hx hb dX6_isBusy_3 rfl (lv_at hl 0 rfl) ?_
    refine va_get (D := G) (ci := 6) (v := .ref (pa 0)) (C := RX6) (T := TX6) (N := 20) hx hb hT ku_6 hown hK hP 0 rfl rfl 19 (by decide) (hT _ kw_8_1) (fun _ h9 => h9) rfl dX6_isBusy_4 ?_
    refine va_get (D := G) (ci := 2) (v := .int (P 0 1)) (C := RX2) (T := TX2) (N := 19) hx hb hT ku_2 hown hK hP 12 rfl rfl 1 (by decide) (hT _ kw_40_16) (fun _ h9 => h9) rfl dX6_isBusy_7 ?_
    refine lv_icmp_ge (tgt := 31) hx hb dX6_isBusy_10 (by decide) (fun c1 => ?_) (fun c1 => ?_)
    · have h := tx_pos c1 h
      refine lv_iconst (v := 0) hx hb dX6_isBusy_31 (by decide) ?_
      obtain rfl := tx_1 h
      exact W.zret (ty := .boolean) hx hb hr rfl (fun t ht hW => ⟨⟨_, (), rfl, rfl, by rw [ht]; exact hP, hD⟩, hS.F ht⟩) hS.2.2 dX6_isBusy_32
    · have h := tx_neg c1 h
      refine lv_aload_n hx hb dX6_isBusy_13 rfl (lv_at hl 0 rfl) ?_
      refine va_get (D := G) (ci := 6) (v := .ref (ta 11)) (C := RX6) (T := TX6) (N := 20) hx hb hT ku_6 hown hK hP 0 rfl rfl 10 (by decide) (hT _ kw_7_9) (fun _ h9 => h9) rfl dX6_isBusy_14 ?_
      refine lv_iload_n hx hb dX6_isBusy_17 rfl (lv_at hl 1 rfl) ?_
      obtain ⟨g2, h⟩ := tx_ck h
      refine va_iald (i := x1) hx hb hK hP 3 0 rfl rfl (tx_in g2) dX6_isBusy_18 ?_
      refine lv_iconst (v := 2) hx hb dX6_isBusy_19 (by decide) ?_
      refine lv_icmp_eq (tgt := 25) hx hb dX6_isBusy_20 (by decide) (fun c3 => ?_) (fun c3 => ?_)
      · have h := tx_pos c3 h
        obtain ⟨y4, ey4, h⟩ := tx_lt h
        refine lv_iinc (v := y4) (lv' := [(1, .int y4), (0, .ref (ta 0))]) hx hb dX6_isBusy_25 hl (k := 1) rfl ey4 (by decide) rfl (fun ls hl => ?_)
        refine lv_goto (tgt := 2) hx hb dX6_isBusy_28 (by decide) ?_
        exact hk2 y4 H locs ls h hP hD hS (lv_sub hl [1, 0] rfl)
      · have h := tx_neg c3 h
        refine lv_iconst (v := 1) hx hb dX6_isBusy_23 (by decide) ?_
        obtain rfl := tx_1 h
        exact W.zret (ty := .boolean) hx hb hr rfl (fun t ht hW => ⟨⟨_, (), rfl, rfl, by rw [ht]; exact hP, hD⟩, hS.F ht⟩) hS.2.2 dX6_isBusy_24
set_option maxHeartbeats 4000000 in
set_option maxRecDepth 100000 in
theorem c_X6_isBusy (l : Launch) (G : va_G) (cA : Nat → ClassId) (sz : Nat) (ta : Nat → Nat) (pa : Nat → Nat) (T : Tr) (P : Tr) (L : Lo)  (r0 : Int32) (h : f_X6_isBusy T P = some r0) : Met l yX6_isBusy (.code yX6_isBusy cX6_isBusy 2 (some .boolean) :: T0) ({ frames := 0, cells := 0, slots := 0, locals := 0 } : Room) (tqP G cA [.ref (ta 0)] (wTP cA ta pa T P L) sz) (tqQi G cA (fun (r : Int32) (_ : Unit) => r = r0) (fun (_ : Unit) => wTP cA ta pa T P L) (va_A (wTP cA ta pa T P L) sz)) 0 0 (va_A (wTP cA ta pa T P L) sz) := by
  refine Met.ofW (cc := cX6_isBusy) (maxL := 2) (ret := (some .boolean)) (by decide) rfl ?_
  intro p e s m args below meth c s₁ B hml hv
  obtain ⟨rfl, hsz, hP, hK, hD0, hN⟩ := hv
  have hx := B.exec
  have hb := B.bytes
  have hr := B.returns
  have hts := atoms_spec (ws := .code yX6_isBusy cX6_isBusy 2 (some .boolean) :: T0) B.pre
  have hT : ∀ w ∈ T0, w.before _ s = true := fun w h => hts w (List.mem_cons_of_mem _ h)
  have hown : s.vm.findClass RX6 = some m.cls := findClass_of_methodNamed B.named
  have hlocks := B.notSynchronized
  subst hsz
  have hD := hD0.self (sz := s.heap.size)
  generalize hAe : va_A (wTP cA ta pa T P L) s.heap.size = A at hD ⊢
  have hA : ∀ q : Nat, s.heap.size ≤ q → A q := fun q h => by rw [← hAe]; exact Or.inr h
  have hS : va_S A s.heap s.heap [] := va_S.rf
  have hl := lv_entry ([.ref (ta 0)]) (n := 2) (Nat.le_of_ble_eq_true rfl)
  rw [lg_entry_eq]
  generalize (lg_sl ([.ref (ta 0)]) ++ List.replicate (2 - (lg_sl ([.ref (ta 0)])).length) Slot.unset).toArray = ls at hl ⊢
  have hl : lv_has ls 2 [(0, .ref (ta 0))] := hl
  have F : tF p s m ([.ref (ta 0)] : List Value).toArray meth c G cA A RX6 cX6_isBusy 2 (some .boolean) := ⟨hx, hb, hr, hml, hT, hown, hlocks, hK, hN, hA⟩
  obtain ⟨H, hH⟩ : ∃ z, z = s.heap := ⟨_, rfl⟩
  rw [← hH] at hP
  have hS : va_S A s.heap H [] := by rw [hH]; exact hS
  suffices hgo : G_X6_isBusy p l e s m below meth c G cA A ta pa T P L r0 H [] (F0 m 0 ls []) by rw [hH] at hgo; exact hgo
  generalize ([] : List Loc) = locs at hS ⊢
  unfold f_X6_isBusy at h
  refine lv_iconst (v := 0) hx hb dX6_isBusy_0 (by decide) ?_
  refine lv_istore_n (lv' := [(1, .int 0), (0, .ref (ta 0))]) hx hb dX6_isBusy_1 rfl hl (by decide) rfl (fun ls hl => ?_)
  exact w_X6_isBusy_L2 F 2000 0 H locs ls h hP hD hS (lv_sub hl [1, 0] rfl)
abbrev G_X6_secondsFor (p : Program) (l : Launch) (e : Env) (s : State) (m : MethodId) (below : List Frame) (meth : Method) (c : Code) (G : va_G) (cA : Nat → ClassId) (A : Nat → Prop) (ta : Nat → Nat) (pa : Nat → Nat) (P : Tr) (x1 : Int32) (x2 : Int32) (r0 : Int32) (T' : Tr) (L' : Lo) (H : Heap) (locs : List Loc) (g : JFrame) : Prop := W p l e (headSpec (.code yX6_secondsFor cX6_secondsFor 10 (some .int) :: T0) ({ frames := 3, cells := 0, slots := 0, locals := 78 } : Room)).room s m ([.ref (ta 0), .int x1, .int x2] : List Value).toArray below meth c H locs 0 0 (MQ below (tqQi G cA (fun (r : Int32) (_ : Unit) => r = r0) (fun (_ : Unit) => wTP cA ta pa (T') P (L')) A) ([.ref (ta 0), .int x1, .int x2] : List Value).toArray s 0 0 A) g
set_option maxHeartbeats 4000000 in
set_option maxRecDepth 100000 in
theorem w_X6_secondsFor_L26 {p : Program} {l : Launch} {e : Env} {s : State} {m : MethodId} {below : List Frame} {meth : Method} {c : Code} {G : va_G} {cA : Nat → ClassId} {A : Nat → Prop} {ta : Nat → Nat} {pa : Nat → Nat} {P : Tr} {x1₀ : Int32} {x2₀ : Int32} {r0 : Int32} {T' : Tr} {L' : Lo} {x2 : Int32} {x4 : Int32} (F : tF p s m ([.ref (ta 0), .int x1₀, .int x2₀] : List Value).toArray meth c G cA A RX6 cX6_secondsFor 10 (some .int))    (N : Nat) : ∀ (x5 : Int32) (x6 : Int32) (T : Tr) (L : Lo) (H : Heap) (locs : List Loc) (ls : Array Slot), lpF (fun _ _ _ _ => none) (fB_X6_secondsFor_L26 P x2 x4) N x5 x6 T L = some (r0, T', L') → va_P G vwCl (wTP cA ta pa T P L) H → va_D A (wTP cA ta pa T P L) → va_S A s.heap H locs → lv_has ls 10 [(0, .ref (ta 0)), (2, .int x2), (4, .int x4), (5, .int x5), (6, .int x6)] → G_X6_secondsFor p l e s m below meth c G cA A ta pa P x1₀ x2₀ r0 T' L' H locs (F0 m 26 ls []) := by
  obtain ⟨hx, hb, hr, hml, hT, hown, hlocks, hK, hN, hA⟩ := id F
  induction N with
  | zero =>
    intro x5 x6 T L H locs ls h
    have h : (none : Option (Int32 × Tr × Lo)) = some (r0, T', L') := h
    cases h
  | succ N hk26 =>
    intro x5 x6 T L H locs ls h hP hD hS hl
    have h : fB_X6_secondsFor_L26 P x2 x4 (lpF (fun _ _ _ _ => none) (fB_X6_secondsFor_L26 P x2 x4) N) x5 x6 T L = some (r0, T', L') := h
    generalize hk26e : lpF (fun _ _ _ _ => none) (fB_X6_secondsFor_L26 P x2 x4) N = k26 at h hk26
    unfold fB_X6_secondsFor_L26 at h
    refine lv_iload hx hb dX6_secondsFor_26 (lv_at hl 4 rfl) ?_
    refine lv_aload_n hx hb dX6_secondsFor_28 rfl (lv_at hl 0 rfl) ?_
    refine va_get (D := G) (ci := 6) (v := .ref (ta 17)) (C := RX6) (T := TX6) (N := 20) hx hb hT ku_6 hown hK hP 0 rfl rfl 16 (by decide) (hT _ kw_7_15) (fun _ h9 => h9) rfl dX6_secondsFor_29 ?_
    refine lv_iload hx hb dX6_secondsFor_32 (lv_at hl 2 rfl) ?_
    obtain ⟨g7, h⟩ := tx_ck h
    refine va_iald (i := x4) hx hb hK hP 9 0 rfl rfl (tx_in g7) dX6_secondsFor_34 ?_
    refine lv_icmp_ge (tgt := 116) hx hb dX6_secondsFor_35 (by decide) (fun c8 => ?_) (fun c8 => ?_)
    · have h := tx_pos c8 h
      refine lv_iload hx hb dX6_secondsFor_116 (lv_at hl 3 rfl) ?_
      obtain ⟨rfl, rfl, rfl⟩ := tx_3 h
      exact W.iret hx hb hr (fun t ht hW => ⟨⟨_, (), rfl, rfl, by rw [ht]; exact hP, hD⟩, hS.F ht⟩) hS.2.2 dX6_secondsFor_118
    · have h := tx_neg c8 h
      refine lv_aload_n hx hb dX6_secondsFor_38 rfl (lv_at hl 0 rfl) ?_
      refine va_get (D := G) (ci := 6) (v := .ref (ta 16)) (C := RX6) (T := TX6) (N := 20) hx hb hT ku_6 hown hK hP 0 rfl rfl 15 (by decide) (hT _ kw_7_14) (fun _ h9 => h9) rfl dX6_secondsFor_39 ?_
      refine lv_iload hx hb dX6_secondsFor_42 (lv_at hl 2 rfl) ?_
      refine lv_bipush (v := 10) hx hb dX6_secondsFor_44 (by decide) ?_
      refine lv_imul hx hb dX6_secondsFor_46 ?_
      refine lv_iload hx hb dX6_secondsFor_47 (lv_at hl 4 rfl) ?_
      refine lv_iadd hx hb dX6_secondsFor_49 ?_
      obtain ⟨g9, h⟩ := tx_ck h
      refine va_iald (i := ((x4 * 10) + x6)) hx hb hK hP 8 0 rfl rfl (tx_in g9) dX6_secondsFor_50 ?_
      refine lv_topi (fun y10 ey10 => ?_)
      have h := tx_let ey10 h
      refine lv_istore (lv' := [(7, .int y10), (0, .ref (ta 0)), (2, .int x2), (4, .int x4), (5, .int x5), (6, .int x6)]) hx hb dX6_secondsFor_51 hl (by decide) rfl (fun ls hl => ?_)
      refine lv_aload_n hx hb dX6_secondsFor_53 rfl (lv_at hl 1 rfl) ?_
      refine lv_iconst (v := 0) hx hb dX6_secondsFor_54 (by decide) ?_
      refine lv_iload hx hb dX6_secondsFor_55 (lv_at hl 0 rfl) ?_
      refine lv_iload_n hx hb dX6_secondsFor_57 rfl (lv_at hl 2 rfl) ?_
      obtain ⟨⟨r11, T_12, L_13⟩, hc14, h⟩ := tx_bd h
      replace h := tx_let (y := r11) rfl h
      replace h := tx_let (y := T_12) rfl h
      replace h := tx_let (y := L_13) rfl h
      refine tw_cl tw_all hP hD hS hA (va_runV (As := [.int 0, .int y10, .int x2]) (rest := []) ⟨hx, hb, hml, hown, hT⟩ (c_X6_worked l G cA H.size ta pa T P L (0 : Int32) y10 x2  r11 T_12 L_13 hc14) (cwV 3 hT (tq_gV kw_40_22 kw_33_10 kw_33_11 kw_1_23 kw_33_12) rfl rfl rfl (by decide +kernel) ⟨Nat.le_of_ble_eq_true rfl, Nat.le_of_ble_eq_true rfl⟩) ⟨(tw_pre tw_all hP hD hK hN).1, va_recv hK hP (ci := 6) (q0 := 0) rfl rfl, (tw_pre tw_all hP hD hK hN).2⟩ rfl rfl hl.1 rfl (lv_room (Nat.le_of_ble_eq_true rfl)) dX6_secondsFor_58 ⟨Nat.le_of_ble_eq_true rfl, Nat.le_of_ble_eq_true rfl⟩) (fun _ _ H locs z15 hP hD hS => ?_)
      subst z15
      rw [List.append_nil] at hP hD
      have hP : va_P G vwCl (wTP cA ta pa T_12 P L_13) H := hP
      have hD : va_D A (wTP cA ta pa T_12 P L_13) := hD
      refine lv_lstore (lv' := [(8, .long r11), (7, .int y10), (0, .ref (ta 0)), (2, .int x2), (4, .int x4), (5, .int x5), (6, .int x6)]) hx hb dX6_secondsFor_61 hl (by decide) rfl (fun ls hl => ?_)
      refine lv_lload hx hb dX6_secondsFor_63 (lv_at hl 0 rfl) ?_
      refine lv_ldc2 (v := (-9223372036854775808)) hx hb hown (hT _ kw_33_15) dX6_secondsFor_65 ?_
      refine W.lcmp hx hb dX6_secondsFor_68 ?_
      refine lv_if_eq (tgt := 87) hx hb dX6_secondsFor_69 (by decide) (fun c16 => ?_) (fun c16 => ?_)
      · have h := tx_pos c16 h
        refine lv_iload_n hx hb dX6_secondsFor_87 rfl (lv_at hl 3 rfl) ?_
        refine lv_if_le (tgt := 110) hx hb dX6_secondsFor_88 (by decide) (fun c17 => ?_) (fun c17 => ?_)
        · have h := tx_pos c17 h
          obtain ⟨y18, ey18, h⟩ := tx_lt h
          refine lv_iinc (v := y18) (lv' := [(6, .int y18), (8, .long r11), (7, .int y10), (0, .ref (ta 0)), (2, .int x2), (4, .int x4), (5, .int x5)]) hx hb dX6_secondsFor_110 hl (k := 6) rfl ey18 (by decide) rfl (fun ls hl => ?_)
          refine lv_goto (tgt := 26) hx hb dX6_secondsFor_113 (by decide) ?_
          exact hk26 x5 y18 T_12 L_13 H locs ls h hP hD hS (lv_sub hl [3, 4, 5, 6, 0] rfl)
        · have h := tx_neg c17 h
          refine lv_iload hx hb dX6_secondsFor_91 (lv_at hl 5 rfl) ?_
          refine lv_aload_n hx hb dX6_secondsFor_93 rfl (lv_at hl 2 rfl) ?_
          refine va_get (D := G) (ci := 6) (v := .ref (pa 0)) (C := RX6) (T := TX6) (N := 20) hx hb hT ku_6 hown hK hP 0 rfl rfl 19 (by decide) (hT _ kw_8_1) (fun _ h9 => h9) rfl dX6_secondsFor_94 ?_
          refine va_get (D := G) (ci := 2) (v := .ref (pa 15)) (C := RX2) (T := TX2) (N := 19) hx hb hT ku_2 hown hK hP 12 rfl rfl 14 (by decide) (hT _ kw_33_16) (fun _ h9 => h9) rfl dX6_secondsFor_97 ?_
          refine lv_iload hx hb dX6_secondsFor_100 (lv_at hl 1 rfl) ?_
          obtain ⟨g19, h⟩ := tx_ck h
          refine va_iald (i := y10) hx hb hK hP 20 0 rfl rfl (tx_in g19) dX6_secondsFor_102 ?_
          refine lv_iload_n hx hb dX6_secondsFor_103 rfl (lv_at hl 3 rfl) ?_
          obtain ⟨g20, h⟩ := tx_ck h
          refine lv_idiv hx hb dX6_secondsFor_104 (tx_nz g20) ?_
          refine lv_iconst (v := 1) hx hb dX6_secondsFor_105 (by decide) ?_
          refine lv_iadd hx hb dX6_secondsFor_106 ?_
          refine lv_iadd hx hb dX6_secondsFor_107 ?_
          refine lv_topi (fun y21 ey21 => ?_)
          have h := tx_let ey21 h
          refine lv_istore (lv' := [(5, .int y21), (8, .long r11), (7, .int y10), (0, .ref (ta 0)), (2, .int x2), (4, .int x4), (6, .int x6)]) hx hb dX6_secondsFor_108 hl (by decide) rfl (fun ls hl => ?_)
          obtain ⟨y22, ey22, h⟩ := tx_lt h
          refine lv_iinc (v := y22) (lv' := [(6, .int y22), (5, .int y21), (8, .long r11), (7, .int y10), (0, .ref (ta 0)), (2, .int x2), (4, .int x4)]) hx hb dX6_secondsFor_110 hl (k := 6) rfl ey22 (by decide) rfl (fun ls hl => ?_)
          refine lv_goto (tgt := 26) hx hb dX6_secondsFor_113 (by decide) ?_
          exact hk26 y21 y22 T_12 L_13 H locs ls h hP hD hS (lv_sub hl [4, 5, 6, 1, 0] rfl)
      · have h := tx_neg c16 h
        refine lv_iload hx hb dX6_secondsFor_72 (lv_at hl 5 rfl) ?_
        refine lv_lload hx hb dX6_secondsFor_74 (lv_at hl 0 rfl) ?_
        refine lv_bipush (v := 99) hx hb dX6_secondsFor_76 (by decide) ?_
        obtain ⟨r23, hc24, h⟩ := tx_bd h
        refine tw_ci (tw_none (ws := wTP cA ta pa T_12 P L_13)) hP hD hS hA (va_runS (As := [.long r11, .int 99]) (rest := [.int x5]) ⟨hx, hb, hml, hown, hT⟩ (c_X6_within l G cA H.size r11 (99 : Int32)  r23 hc24) (va_cwS 2 hT (tq_gS kw_40_23 kw_41_0 kw_1_23 kw_41_1) rfl rfl rfl (by decide +kernel) ⟨Nat.le_of_ble_eq_true rfl, Nat.le_of_ble_eq_true rfl⟩) (tw_pre (tw_none (ws := wTP cA ta pa T_12 P L_13)) hP hD hK hN) rfl rfl hl.1 rfl (lv_room (Nat.le_of_ble_eq_true rfl)) dX6_secondsFor_78 ⟨Nat.le_of_ble_eq_true rfl, Nat.le_of_ble_eq_true rfl⟩) (fun _ _ H locs z25 hP hD hS => ?_)
        subst z25
        have hP : va_P G vwCl (wTP cA ta pa T_12 P L_13) H := hP
        have hD : va_D A (wTP cA ta pa T_12 P L_13) := hD
        refine lv_iadd hx hb dX6_secondsFor_81 ?_
        refine lv_topi (fun y26 ey26 => ?_)
        have h := tx_let ey26 h
        refine lv_istore (lv' := [(5, .int y26), (8, .long r11), (7, .int y10), (0, .ref (ta 0)), (2, .int x2), (4, .int x4), (6, .int x6)]) hx hb dX6_secondsFor_82 hl (by decide) rfl (fun ls hl => ?_)
        refine lv_goto (tgt := 110) hx hb dX6_secondsFor_84 (by decide) ?_
        obtain ⟨y27, ey27, h⟩ := tx_lt h
        refine lv_iinc (v := y27) (lv' := [(6, .int y27), (5, .int y26), (8, .long r11), (7, .int y10), (0, .ref (ta 0)), (2, .int x2), (4, .int x4)]) hx hb dX6_secondsFor_110 hl (k := 6) rfl ey27 (by decide) rfl (fun ls hl => ?_)
        refine lv_goto (tgt := 26) hx hb dX6_secondsFor_113 (by decide) ?_
        exact hk26 y26 y27 T_12 L_13 H locs ls h hP hD hS (lv_sub hl [4, 5, 6, 1, 0] rfl)
set_option maxHeartbeats 4000000 in
set_option maxRecDepth 100000 in
theorem c_X6_secondsFor (l : Launch) (G : va_G) (cA : Nat → ClassId) (sz : Nat) (ta : Nat → Nat) (pa : Nat → Nat) (T : Tr) (P : Tr) (L : Lo) (x1 : Int32) (x2 : Int32)  (r0 : Int32) (T' : Tr) (L' : Lo) (h : f_X6_secondsFor T P L x1 x2 = some (r0, T', L')) : Met l yX6_secondsFor (.code yX6_secondsFor cX6_secondsFor 10 (some .int) :: T0) ({ frames := 3, cells := 0, slots := 0, locals := 78 } : Room) (tqP G cA [.ref (ta 0), .int x1, .int x2] (wTP cA ta pa T P L) sz) (tqQi G cA (fun (r : Int32) (_ : Unit) => r = r0) (fun (_ : Unit) => wTP cA ta pa (T') P (L')) (va_A (wTP cA ta pa T P L) sz)) 0 0 (va_A (wTP cA ta pa T P L) sz) := by
  refine Met.ofW (cc := cX6_secondsFor) (maxL := 10) (ret := (some .int)) (by decide) rfl ?_
  intro p e s m args below meth c s₁ B hml hv
  obtain ⟨rfl, hsz, hP, hK, hD0, hN⟩ := hv
  have hx := B.exec
  have hb := B.bytes
  have hr := B.returns
  have hts := atoms_spec (ws := .code yX6_secondsFor cX6_secondsFor 10 (some .int) :: T0) B.pre
  have hT : ∀ w ∈ T0, w.before _ s = true := fun w h => hts w (List.mem_cons_of_mem _ h)
  have hown : s.vm.findClass RX6 = some m.cls := findClass_of_methodNamed B.named
  have hlocks := B.notSynchronized
  subst hsz
  have hD := hD0.self (sz := s.heap.size)
  generalize hAe : va_A (wTP cA ta pa T P L) s.heap.size = A at hD ⊢
  have hA : ∀ q : Nat, s.heap.size ≤ q → A q := fun q h => by rw [← hAe]; exact Or.inr h
  have hS : va_S A s.heap s.heap [] := va_S.rf
  have hl := lv_entry ([.ref (ta 0), .int x1, .int x2]) (n := 10) (Nat.le_of_ble_eq_true rfl)
  rw [lg_entry_eq]
  generalize (lg_sl ([.ref (ta 0), .int x1, .int x2]) ++ List.replicate (10 - (lg_sl ([.ref (ta 0), .int x1, .int x2])).length) Slot.unset).toArray = ls at hl ⊢
  have hl : lv_has ls 10 [(0, .ref (ta 0)), (1, .int x1), (2, .int x2)] := hl
  have F : tF p s m ([.ref (ta 0), .int x1, .int x2] : List Value).toArray meth c G cA A RX6 cX6_secondsFor 10 (some .int) := ⟨hx, hb, hr, hml, hT, hown, hlocks, hK, hN, hA⟩
  obtain ⟨H, hH⟩ : ∃ z, z = s.heap := ⟨_, rfl⟩
  rw [← hH] at hP
  have hS : va_S A s.heap H [] := by rw [hH]; exact hS
  suffices hgo : G_X6_secondsFor p l e s m below meth c G cA A ta pa P x1 x2 r0 T' L' H [] (F0 m 0 ls []) by rw [hH] at hgo; exact hgo
  generalize ([] : List Loc) = locs at hS ⊢
  unfold f_X6_secondsFor at h
  refine lv_aload_n hx hb dX6_secondsFor_0 rfl (lv_at hl 0 rfl) ?_
  refine lv_iload_n hx hb dX6_secondsFor_1 rfl (lv_at hl 1 rfl) ?_
  obtain ⟨r1, hc2, h⟩ := tx_bd h
  refine tw_ci tw_all hP hD hS hA (va_runV (As := [.int x1]) (rest := []) ⟨hx, hb, hml, hown, hT⟩ (c_X6_level l G cA H.size ta pa T P L x1  r1 hc2) (cwV 1 hT (tq_gV kw_30_14 kw_30_15 kw_30_16 kw_1_23 kw_30_17) rfl rfl rfl (by decide +kernel) ⟨Nat.le_of_ble_eq_true rfl, Nat.le_of_ble_eq_true rfl⟩) ⟨(tw_pre tw_all hP hD hK hN).1, va_recv hK hP (ci := 6) (q0 := 0) rfl rfl, (tw_pre tw_all hP hD hK hN).2⟩ rfl rfl hl.1 rfl (lv_room (Nat.le_of_ble_eq_true rfl)) dX6_secondsFor_2 ⟨Nat.le_of_ble_eq_true rfl, Nat.le_of_ble_eq_true rfl⟩) (fun _ _ H locs z3 hP hD hS => ?_)
  subst z3
  rw [List.append_nil] at hP hD
  have hP : va_P G vwCl (wTP cA ta pa T P L) H := hP
  have hD : va_D A (wTP cA ta pa T P L) := hD
  refine lv_istore_n (lv' := [(3, .int r1), (0, .ref (ta 0)), (1, .int x1), (2, .int x2)]) hx hb dX6_secondsFor_5 rfl hl (by decide) rfl (fun ls hl => ?_)
  refine lv_iload_n hx hb dX6_secondsFor_6 rfl (lv_at hl 0 rfl) ?_
  refine lv_if_ge (tgt := 12) hx hb dX6_secondsFor_7 (by decide) (fun c4 => ?_) (fun c4 => ?_)
  · have h := tx_pos c4 h
    refine lv_aload_n hx hb dX6_secondsFor_12 rfl (lv_at hl 1 rfl) ?_
    refine va_get (D := G) (ci := 6) (v := .ref (ta 15)) (C := RX6) (T := TX6) (N := 20) hx hb hT ku_6 hown hK hP 0 rfl rfl 14 (by decide) (hT _ kw_7_13) (fun _ h9 => h9) rfl dX6_secondsFor_13 ?_
    refine lv_iload_n hx hb dX6_secondsFor_16 rfl (lv_at hl 2 rfl) ?_
    obtain ⟨g5, h⟩ := tx_ck h
    refine va_iald (i := x1) hx hb hK hP 7 0 rfl rfl (tx_in g5) dX6_secondsFor_17 ?_
    refine lv_topi (fun y6 ey6 => ?_)
    have h := tx_let ey6 h
    refine lv_istore (lv' := [(4, .int y6), (3, .int r1), (0, .ref (ta 0)), (1, .int x1), (2, .int x2)]) hx hb dX6_secondsFor_18 hl (by decide) rfl (fun ls hl => ?_)
    refine lv_iconst (v := 0) hx hb dX6_secondsFor_20 (by decide) ?_
    refine lv_istore (lv' := [(5, .int 0), (4, .int y6), (3, .int r1), (0, .ref (ta 0)), (1, .int x1), (2, .int x2)]) hx hb dX6_secondsFor_21 hl (by decide) rfl (fun ls hl => ?_)
    refine lv_iload_n hx hb dX6_secondsFor_23 rfl (lv_at hl 2 rfl) ?_
    refine lv_istore (lv' := [(6, .int r1), (5, .int 0), (4, .int y6), (3, .int r1), (0, .ref (ta 0)), (1, .int x1), (2, .int x2)]) hx hb dX6_secondsFor_24 hl (by decide) rfl (fun ls hl => ?_)
    exact w_X6_secondsFor_L26 F 2000 0 r1 T L H locs ls h hP hD hS (lv_sub hl [4, 6, 2, 1, 0] rfl)
  · have h := tx_neg c4 h
    refine lv_iconst (v := 0) hx hb dX6_secondsFor_10 (by decide) ?_
    obtain ⟨rfl, rfl, rfl⟩ := tx_3 h
    exact W.iret hx hb hr (fun t ht hW => ⟨⟨_, (), rfl, rfl, by rw [ht]; exact hP, hD⟩, hS.F ht⟩) hS.2.2 dX6_secondsFor_11
abbrev G_X6_setFree (p : Program) (l : Launch) (e : Env) (s : State) (m : MethodId) (below : List Frame) (meth : Method) (c : Code) (G : va_G) (cA : Nat → ClassId) (A : Nat → Prop) (ta : Nat → Nat) (pa : Nat → Nat) (P : Tr) (L : Lo) (x1 : Int32) (x2 : Int32) (T' : Tr) (H : Heap) (locs : List Loc) (g : JFrame) : Prop := W p l e (headSpec (.code yX6_setFree cX6_setFree 4 none :: T0) ({ frames := 2, cells := 0, slots := 0, locals := 48 } : Room)).room s m ([.ref (ta 0), .int x1, .int x2] : List Value).toArray below meth c H locs 0 0 (MQ below (tqQv G cA (fun (_ : Unit) => True) (fun (_ : Unit) => wTP cA ta pa (T') P L) A) ([.ref (ta 0), .int x1, .int x2] : List Value).toArray s 0 0 A) g
set_option maxHeartbeats 4000000 in
set_option maxRecDepth 100000 in
theorem w_X6_setFree_L2 {p : Program} {l : Launch} {e : Env} {s : State} {m : MethodId} {below : List Frame} {meth : Method} {c : Code} {G : va_G} {cA : Nat → ClassId} {A : Nat → Prop} {ta : Nat → Nat} {pa : Nat → Nat} {P : Tr} {L : Lo} {x1₀ : Int32} {x2₀ : Int32} {T' : Tr} {x1 : Int32} {x2 : Int32} (F : tF p s m ([.ref (ta 0), .int x1₀, .int x2₀] : List Value).toArray meth c G cA A RX6 cX6_setFree 4 none)    (N : Nat) : ∀ (x3 : Int32) (T : Tr) (H : Heap) (locs : List Loc) (ls : Array Slot), lpF (fun _ _ => none) (fB_X6_setFree_L2 P x1 x2) N x3 T = some T' → va_P G vwCl (wTP cA ta pa T P L) H → va_D A (wTP cA ta pa T P L) → va_S A s.heap H locs → lv_has ls 4 [(0, .ref (ta 0)), (1, .int x1), (2, .int x2), (3, .int x3)] → G_X6_setFree p l e s m below meth c G cA A ta pa P L x1₀ x2₀ T' H locs (F0 m 2 ls []) := by
  obtain ⟨hx, hb, hr, hml, hT, hown, hlocks, hK, hN, hA⟩ := id F
  induction N with
  | zero =>
    intro x3 T H locs ls h
    have h : (none : Option (Tr)) = some T' := h
    cases h
  | succ N hk2 =>
    intro x3 T H locs ls h hP hD hS hl
    have h : fB_X6_setFree_L2 P x1 x2 (lpF (fun _ _ => none) (fB_X6_setFree_L2 P x1 x2) N) x3 T = some T' := h
    generalize hk2e : lpF (fun _ _ => none) (fB_X6_setFree_L2 P x1 x2) N = k2 at h hk2
    unfold fB_X6_setFree_L2 at h
    refine lv_iload_n hx hb dX6_setFree_2 rfl (lv_at hl 3 rfl) ?_
    refine lv_aload_n hx hb dX6_setFree_3 rfl (lv_at hl 0 rfl) ?_
    refine va_get (D := G) (ci := 6) (v := .ref (pa 0)) (C := RX6) (T := TX6) (N := 20) hx hb hT ku_6 hown hK hP 0 rfl rfl 19 (by decide) (hT _ kw_8_1) (fun _ h9 => h9) rfl dX6_setFree_4 ?_
    refine va_get (D := G) (ci := 2) (v := .int (P 0 2)) (C := RX2) (T := TX2) (N := 19) hx hb hT ku_2 hown hK hP 12 rfl rfl 2 (by decide) (hT _ kw_40_17) (fun _ h9 => h9) rfl dX6_setFree_7 ?_
    refine lv_icmp_ge (tgt := 48) hx hb dX6_setFree_10 (by decide) (fun c1 => ?_) (fun c1 => ?_)
    · have h := tx_pos c1 h
      obtain rfl := tx_1 h
      exact W.vret hx hb hr (fun t ht hW => ⟨⟨(), rfl, trivial, by rw [ht]; exact hP, hD⟩, hS.F ht⟩) hS.2.2 dX6_setFree_48
    · have h := tx_neg c1 h
      refine lv_aload_n hx hb dX6_setFree_13 rfl (lv_at hl 0 rfl) ?_
      refine va_get (D := G) (ci := 6) (v := .ref (pa 0)) (C := RX6) (T := TX6) (N := 20) hx hb hT ku_6 hown hK hP 0 rfl rfl 19 (by decide) (hT _ kw_8_1) (fun _ h9 => h9) rfl dX6_setFree_14 ?_
      refine va_get (D := G) (ci := 2) (v := .ref (pa 14)) (C := RX2) (T := TX2) (N := 19) hx hb hT ku_2 hown hK hP 12 rfl rfl 13 (by decide) (hT _ kw_39_0) (fun _ h9 => h9) rfl dX6_setFree_17 ?_
      refine lv_iload_n hx hb dX6_setFree_20 rfl (lv_at hl 3 rfl) ?_
      obtain ⟨g2, h⟩ := tx_ck h
      refine va_iald (i := x3) hx hb hK hP 19 0 rfl rfl (tx_in g2) dX6_setFree_21 ?_
      refine lv_iload_n hx hb dX6_setFree_22 rfl (lv_at hl 1 rfl) ?_
      refine lv_icmp_ne (tgt := 42) hx hb dX6_setFree_23 (by decide) (fun c3 => ?_) (fun c3 => ?_)
      · have h := tx_neg c3 h
        obtain ⟨y4, ey4, h⟩ := tx_lt h
        refine lv_iinc (v := y4) (lv' := [(3, .int y4), (0, .ref (ta 0)), (1, .int x1), (2, .int x2)]) hx hb dX6_setFree_42 hl (k := 3) rfl ey4 (by decide) rfl (fun ls hl => ?_)
        refine lv_goto (tgt := 2) hx hb dX6_setFree_45 (by decide) ?_
        exact hk2 y4 T H locs ls h hP hD hS (lv_sub hl [1, 2, 3, 0] rfl)
      · have h := tx_pos c3 h
        refine lv_aload_n hx hb dX6_setFree_26 rfl (lv_at hl 0 rfl) ?_
        refine va_get (D := G) (ci := 6) (v := .ref (ta 14)) (C := RX6) (T := TX6) (N := 20) hx hb hT ku_6 hown hK hP 0 rfl rfl 13 (by decide) (hT _ kw_7_12) (fun _ h9 => h9) rfl dX6_setFree_27 ?_
        refine lv_iload_n hx hb dX6_setFree_30 rfl (lv_at hl 3 rfl) ?_
        refine va_iald (i := x3) hx hb hK hP 6 0 rfl rfl (tx_in g2) dX6_setFree_31 ?_
        refine lv_iconst (v := 1) hx hb dX6_setFree_32 (by decide) ?_
        refine lv_icmp_ne (tgt := 42) hx hb dX6_setFree_33 (by decide) (fun c5 => ?_) (fun c5 => ?_)
        · have h := tx_neg c5 h
          obtain ⟨y6, ey6, h⟩ := tx_lt h
          refine lv_iinc (v := y6) (lv' := [(3, .int y6), (0, .ref (ta 0)), (1, .int x1), (2, .int x2)]) hx hb dX6_setFree_42 hl (k := 3) rfl ey6 (by decide) rfl (fun ls hl => ?_)
          refine lv_goto (tgt := 2) hx hb dX6_setFree_45 (by decide) ?_
          exact hk2 y6 T H locs ls h hP hD hS (lv_sub hl [1, 2, 3, 0] rfl)
        · have h := tx_pos c5 h
          refine lv_aload_n hx hb dX6_setFree_36 rfl (lv_at hl 0 rfl) ?_
          refine lv_iload_n hx hb dX6_setFree_37 rfl (lv_at hl 3 rfl) ?_
          refine lv_iload_n hx hb dX6_setFree_38 rfl (lv_at hl 2 rfl) ?_
          obtain ⟨T_7, hc8, h⟩ := tx_bd h
          refine tw_cv tw_all hP hD hS hA (va_runV (As := [.int x3, .int x2]) (rest := []) ⟨hx, hb, hml, hown, hT⟩ (c_X6_takeAway l G cA H.size ta pa T P L x3 x2  T_7 hc8) (cwV 2 hT (tq_gV kw_41_3 kw_36_19 kw_36_20 kw_1_23 kw_36_21) rfl rfl rfl (by decide +kernel) ⟨Nat.le_of_ble_eq_true rfl, Nat.le_of_ble_eq_true rfl⟩) ⟨(tw_pre tw_all hP hD hK hN).1, va_recv hK hP (ci := 6) (q0 := 0) rfl rfl, (tw_pre tw_all hP hD hK hN).2⟩ rfl rfl hl.1 rfl (lv_room (Nat.le_of_ble_eq_true rfl)) dX6_setFree_39 ⟨Nat.le_of_ble_eq_true rfl, Nat.le_of_ble_eq_true rfl⟩) (fun _ H locs z9 hP hD hS => ?_)
          rw [List.append_nil] at hP hD
          have hP : va_P G vwCl (wTP cA ta pa T_7 P L) H := hP
          have hD : va_D A (wTP cA ta pa T_7 P L) := hD
          obtain ⟨y10, ey10, h⟩ := tx_lt h
          refine lv_iinc (v := y10) (lv' := [(3, .int y10), (0, .ref (ta 0)), (1, .int x1), (2, .int x2)]) hx hb dX6_setFree_42 hl (k := 3) rfl ey10 (by decide) rfl (fun ls hl => ?_)
          refine lv_goto (tgt := 2) hx hb dX6_setFree_45 (by decide) ?_
          exact hk2 y10 T_7 H locs ls h hP hD hS (lv_sub hl [1, 2, 3, 0] rfl)
set_option maxHeartbeats 4000000 in
set_option maxRecDepth 100000 in
theorem c_X6_setFree (l : Launch) (G : va_G) (cA : Nat → ClassId) (sz : Nat) (ta : Nat → Nat) (pa : Nat → Nat) (T : Tr) (P : Tr) (L : Lo) (x1 : Int32) (x2 : Int32)  (T' : Tr) (h : f_X6_setFree T P x1 x2 = some T') : Met l yX6_setFree (.code yX6_setFree cX6_setFree 4 none :: T0) ({ frames := 2, cells := 0, slots := 0, locals := 48 } : Room) (tqP G cA [.ref (ta 0), .int x1, .int x2] (wTP cA ta pa T P L) sz) (tqQv G cA (fun (_ : Unit) => True) (fun (_ : Unit) => wTP cA ta pa (T') P L) (va_A (wTP cA ta pa T P L) sz)) 0 0 (va_A (wTP cA ta pa T P L) sz) := by
  refine Met.ofW (cc := cX6_setFree) (maxL := 4) (ret := none) (by decide) rfl ?_
  intro p e s m args below meth c s₁ B hml hv
  obtain ⟨rfl, hsz, hP, hK, hD0, hN⟩ := hv
  have hx := B.exec
  have hb := B.bytes
  have hr := B.returns
  have hts := atoms_spec (ws := .code yX6_setFree cX6_setFree 4 none :: T0) B.pre
  have hT : ∀ w ∈ T0, w.before _ s = true := fun w h => hts w (List.mem_cons_of_mem _ h)
  have hown : s.vm.findClass RX6 = some m.cls := findClass_of_methodNamed B.named
  have hlocks := B.notSynchronized
  subst hsz
  have hD := hD0.self (sz := s.heap.size)
  generalize hAe : va_A (wTP cA ta pa T P L) s.heap.size = A at hD ⊢
  have hA : ∀ q : Nat, s.heap.size ≤ q → A q := fun q h => by rw [← hAe]; exact Or.inr h
  have hS : va_S A s.heap s.heap [] := va_S.rf
  have hl := lv_entry ([.ref (ta 0), .int x1, .int x2]) (n := 4) (Nat.le_of_ble_eq_true rfl)
  rw [lg_entry_eq]
  generalize (lg_sl ([.ref (ta 0), .int x1, .int x2]) ++ List.replicate (4 - (lg_sl ([.ref (ta 0), .int x1, .int x2])).length) Slot.unset).toArray = ls at hl ⊢
  have hl : lv_has ls 4 [(0, .ref (ta 0)), (1, .int x1), (2, .int x2)] := hl
  have F : tF p s m ([.ref (ta 0), .int x1, .int x2] : List Value).toArray meth c G cA A RX6 cX6_setFree 4 none := ⟨hx, hb, hr, hml, hT, hown, hlocks, hK, hN, hA⟩
  obtain ⟨H, hH⟩ : ∃ z, z = s.heap := ⟨_, rfl⟩
  rw [← hH] at hP
  have hS : va_S A s.heap H [] := by rw [hH]; exact hS
  suffices hgo : G_X6_setFree p l e s m below meth c G cA A ta pa P L x1 x2 T' H [] (F0 m 0 ls []) by rw [hH] at hgo; exact hgo
  generalize ([] : List Loc) = locs at hS ⊢
  unfold f_X6_setFree at h
  refine lv_iconst (v := 0) hx hb dX6_setFree_0 (by decide) ?_
  refine lv_istore_n (lv' := [(3, .int 0), (0, .ref (ta 0)), (1, .int x1), (2, .int x2)]) hx hb dX6_setFree_1 rfl hl (by decide) rfl (fun ls hl => ?_)
  exact w_X6_setFree_L2 F 2000 0 T H locs ls h hP hD hS (lv_sub hl [1, 2, 3, 0] rfl)
abbrev G_X6_takeDown (p : Program) (l : Launch) (e : Env) (s : State) (m : MethodId) (below : List Frame) (meth : Method) (c : Code) (G : va_G) (cA : Nat → ClassId) (A : Nat → Prop) (ta : Nat → Nat) (pa : Nat → Nat) (P : Tr) (x1 : Int32) (r0 : Int32) (T' : Tr) (L' : Lo) (H : Heap) (locs : List Loc) (g : JFrame) : Prop := W p l e (headSpec (.code yX6_takeDown cX6_takeDown 7 (some .int) :: T0) ({ frames := 4, cells := 0, slots := 0, locals := 107 } : Room)).room s m ([.ref (ta 0), .int x1] : List Value).toArray below meth c H locs 0 0 (MQ below (tqQi G cA (fun (r : Int32) (_ : Unit) => r = r0) (fun (_ : Unit) => wTP cA ta pa (T') P (L')) A) ([.ref (ta 0), .int x1] : List Value).toArray s 0 0 A) g
set_option maxHeartbeats 4000000 in
set_option maxRecDepth 100000 in
theorem w_X6_takeDown_J192 {p : Program} {l : Launch} {e : Env} {s : State} {m : MethodId} {below : List Frame} {meth : Method} {c : Code} {G : va_G} {cA : Nat → ClassId} {A : Nat → Prop} {ta : Nat → Nat} {pa : Nat → Nat} {P : Tr} {x1₀ : Int32} {r0 : Int32} {T' : Tr} {L' : Lo} {x1 : Int32} (F : tF p s m ([.ref (ta 0), .int x1₀] : List Value).toArray meth c G cA A RX6 cX6_takeDown 7 (some .int))  (k7 : Int32 → Int32 → Int32 → Tr → Lo → Option (Int32 × Tr × Lo)) (hk7 : ∀ (x2 : Int32) (x3 : Int32) (x4 : Int32) (T : Tr) (L : Lo) (H : Heap) (locs : List Loc) (ls : Array Slot), k7 x2 x3 x4 T L = some (r0, T', L') → va_P G vwCl (wTP cA ta pa T P L) H → va_D A (wTP cA ta pa T P L) → va_S A s.heap H locs → lv_has ls 7 [(0, .ref (ta 0)), (1, .int x1), (2, .int x2), (3, .int x3), (4, .int x4)] → G_X6_takeDown p l e s m below meth c G cA A ta pa P x1₀ r0 T' L' H locs (F0 m 7 ls [])) (x2 : Int32) (x3 : Int32) (x4 : Int32) (T : Tr) (L : Lo) (H : Heap) (locs : List Loc) (ls : Array Slot) (h : fJ_X6_takeDown_J192 k7 P x1 x2 x3 x4 T L = some (r0, T', L')) (hP : va_P G vwCl (wTP cA ta pa T P L) H) (hD : va_D A (wTP cA ta pa T P L)) (hS : va_S A s.heap H locs) (hl : lv_has ls 7 [(0, .ref (ta 0)), (1, .int x1), (2, .int x2), (3, .int x3), (4, .int x4)]) : G_X6_takeDown p l e s m below meth c G cA A ta pa P x1₀ r0 T' L' H locs (F0 m 192 ls []) := by
  obtain ⟨hx, hb, hr, hml, hT, hown, hlocks, hK, hN, hA⟩ := id F
  unfold fJ_X6_takeDown_J192 at h
  refine lv_aload_n hx hb dX6_takeDown_192 rfl (lv_at hl 0 rfl) ?_
  refine lv_iload hx hb dX6_takeDown_193 (lv_at hl 4 rfl) ?_
  obtain ⟨r8, hc9, h⟩ := tx_bd h
  refine tw_ci tw_all hP hD hS hA (va_runV (As := [.int x4]) (rest := []) ⟨hx, hb, hml, hown, hT⟩ (c_X6_hasPlaced l G cA H.size ta pa T P L x4  r8 hc9) (cwV 1 hT (tq_gV kw_41_8 kw_41_9 kw_41_10 kw_1_23 kw_41_11) rfl rfl rfl (by decide +kernel) ⟨Nat.le_of_ble_eq_true rfl, Nat.le_of_ble_eq_true rfl⟩) ⟨(tw_pre tw_all hP hD hK hN).1, va_recv hK hP (ci := 6) (q0 := 0) rfl rfl, (tw_pre tw_all hP hD hK hN).2⟩ rfl rfl hl.1 rfl (lv_room (Nat.le_of_ble_eq_true rfl)) dX6_takeDown_195 ⟨Nat.le_of_ble_eq_true rfl, Nat.le_of_ble_eq_true rfl⟩) (fun _ _ H locs z10 hP hD hS => ?_)
  subst z10
  rw [List.append_nil] at hP hD
  have hP : va_P G vwCl (wTP cA ta pa T P L) H := hP
  have hD : va_D A (wTP cA ta pa T P L) := hD
  refine lv_if_ne (tgt := 209) hx hb dX6_takeDown_198 (by decide) (fun c11 => ?_) (fun c11 => ?_)
  · have h := tx_neg c11 h
    obtain ⟨y12, ey12, h⟩ := tx_lt h
    refine lv_iinc (v := y12) (lv' := [(4, .int y12), (0, .ref (ta 0)), (1, .int x1), (2, .int x2), (3, .int x3)]) hx hb dX6_takeDown_209 hl (k := 4) rfl ey12 (by decide) rfl (fun ls hl => ?_)
    refine lv_goto (tgt := 7) hx hb dX6_takeDown_212 (by decide) ?_
    exact hk7 x2 x3 y12 T L H locs ls h hP hD hS (lv_sub hl [1, 2, 3, 4, 0] rfl)
  · have h := tx_pos c11 h
    refine lv_aload_n hx hb dX6_takeDown_201 rfl (lv_at hl 0 rfl) ?_
    refine va_get (D := G) (ci := 6) (v := .ref (ta 11)) (C := RX6) (T := TX6) (N := 20) hx hb hT ku_6 hown hK hP 0 rfl rfl 10 (by decide) (hT _ kw_7_9) (fun _ h9 => h9) rfl dX6_takeDown_202 ?_
    refine lv_iload hx hb dX6_takeDown_205 (lv_at hl 4 rfl) ?_
    refine lv_iconst (v := 2) hx hb dX6_takeDown_207 (by decide) ?_
    obtain ⟨g13, h⟩ := tx_ck h
    refine va_iast (i := x4) hx hb hK hP hD hS 3 0 rfl rfl (tx_in g13) dX6_takeDown_208 (fun H locs hP hD hS => ?_)
    obtain ⟨T_14, eT_14, h⟩ := tx_lt h
    rw [sTP_ta_a10, eT_14] at hP hD
    obtain ⟨y15, ey15, h⟩ := tx_lt h
    refine lv_iinc (v := y15) (lv' := [(4, .int y15), (0, .ref (ta 0)), (1, .int x1), (2, .int x2), (3, .int x3)]) hx hb dX6_takeDown_209 hl (k := 4) rfl ey15 (by decide) rfl (fun ls hl => ?_)
    refine lv_goto (tgt := 7) hx hb dX6_takeDown_212 (by decide) ?_
    exact hk7 x2 x3 y15 T_14 L H locs ls h hP hD hS (lv_sub hl [1, 2, 3, 4, 0] rfl)
set_option maxHeartbeats 4000000 in
set_option maxRecDepth 100000 in
theorem w_X6_takeDown_J176 {p : Program} {l : Launch} {e : Env} {s : State} {m : MethodId} {below : List Frame} {meth : Method} {c : Code} {G : va_G} {cA : Nat → ClassId} {A : Nat → Prop} {ta : Nat → Nat} {pa : Nat → Nat} {P : Tr} {x1₀ : Int32} {r0 : Int32} {T' : Tr} {L' : Lo} {x1 : Int32} (F : tF p s m ([.ref (ta 0), .int x1₀] : List Value).toArray meth c G cA A RX6 cX6_takeDown 7 (some .int))  (k7 : Int32 → Int32 → Int32 → Tr → Lo → Option (Int32 × Tr × Lo)) (hk7 : ∀ (x2 : Int32) (x3 : Int32) (x4 : Int32) (T : Tr) (L : Lo) (H : Heap) (locs : List Loc) (ls : Array Slot), k7 x2 x3 x4 T L = some (r0, T', L') → va_P G vwCl (wTP cA ta pa T P L) H → va_D A (wTP cA ta pa T P L) → va_S A s.heap H locs → lv_has ls 7 [(0, .ref (ta 0)), (1, .int x1), (2, .int x2), (3, .int x3), (4, .int x4)] → G_X6_takeDown p l e s m below meth c G cA A ta pa P x1₀ r0 T' L' H locs (F0 m 7 ls [])) (x2 : Int32) (x3 : Int32) (x4 : Int32) (T : Tr) (L : Lo) (H : Heap) (locs : List Loc) (ls : Array Slot) (h : fJ_X6_takeDown_J176 k7 P x1 x2 x3 x4 T L = some (r0, T', L')) (hP : va_P G vwCl (wTP cA ta pa T P L) H) (hD : va_D A (wTP cA ta pa T P L)) (hS : va_S A s.heap H locs) (hl : lv_has ls 7 [(0, .ref (ta 0)), (1, .int x1), (2, .int x2), (3, .int x3), (4, .int x4)]) : G_X6_takeDown p l e s m below meth c G cA A ta pa P x1₀ r0 T' L' H locs (F0 m 176 ls []) := by
  obtain ⟨hx, hb, hr, hml, hT, hown, hlocks, hK, hN, hA⟩ := id F
  unfold fJ_X6_takeDown_J176 at h
  refine lv_aload_n hx hb dX6_takeDown_176 rfl (lv_at hl 0 rfl) ?_
  refine va_get (D := G) (ci := 6) (v := .int (T 0 0)) (C := RX6) (T := TX6) (N := 20) hx hb hT ku_6 hown hK hP 0 rfl rfl 0 (by decide) (hT _ kw_8_2) (fun _ h9 => h9) rfl dX6_takeDown_177 ?_
  refine lv_bipush (v := 20) hx hb dX6_takeDown_180 (by decide) ?_
  refine lv_icmp_ne (tgt := 192) hx hb dX6_takeDown_182 (by decide) (fun c7 => ?_) (fun c7 => ?_)
  · have h := tx_neg c7 h
    exact w_X6_takeDown_J192 F k7 hk7 x2 x3 x4 T L H locs ls h hP hD hS (lv_sub hl [0, 1, 2, 3, 4] rfl)
  · have h := tx_pos c7 h
    refine lv_aload_n hx hb dX6_takeDown_185 rfl (lv_at hl 0 rfl) ?_
    refine lv_iload hx hb dX6_takeDown_186 (lv_at hl 4 rfl) ?_
    refine lv_iconst (v := 5) hx hb dX6_takeDown_188 (by decide) ?_
    obtain ⟨T_16, hc17, h⟩ := tx_bd h
    refine tw_cv tw_all hP hD hS hA (va_runV (As := [.int x4, .int 5]) (rest := []) ⟨hx, hb, hml, hown, hT⟩ (c_X6_setFree l G cA H.size ta pa T P L x4 (5 : Int32)  T_16 hc17) (cwV 2 hT (tq_gV kw_41_4 kw_41_5 kw_41_6 kw_1_23 kw_41_7) rfl rfl rfl (by decide +kernel) ⟨Nat.le_of_ble_eq_true rfl, Nat.le_of_ble_eq_true rfl⟩) ⟨(tw_pre tw_all hP hD hK hN).1, va_recv hK hP (ci := 6) (q0 := 0) rfl rfl, (tw_pre tw_all hP hD hK hN).2⟩ rfl rfl hl.1 rfl (lv_room (Nat.le_of_ble_eq_true rfl)) dX6_takeDown_189 ⟨Nat.le_of_ble_eq_true rfl, Nat.le_of_ble_eq_true rfl⟩) (fun _ H locs z18 hP hD hS => ?_)
    rw [List.append_nil] at hP hD
    have hP : va_P G vwCl (wTP cA ta pa T_16 P L) H := hP
    have hD : va_D A (wTP cA ta pa T_16 P L) := hD
    exact w_X6_takeDown_J192 F k7 hk7 x2 x3 x4 T_16 L H locs ls h hP hD hS (lv_sub hl [0, 1, 2, 3, 4] rfl)
set_option maxHeartbeats 4000000 in
set_option maxRecDepth 100000 in
theorem w_X6_takeDown_J126 {p : Program} {l : Launch} {e : Env} {s : State} {m : MethodId} {below : List Frame} {meth : Method} {c : Code} {G : va_G} {cA : Nat → ClassId} {A : Nat → Prop} {ta : Nat → Nat} {pa : Nat → Nat} {P : Tr} {x1₀ : Int32} {r0 : Int32} {T' : Tr} {L' : Lo} {x1 : Int32} {x4 : Int32} (F : tF p s m ([.ref (ta 0), .int x1₀] : List Value).toArray meth c G cA A RX6 cX6_takeDown 7 (some .int))  (k7 : Int32 → Int32 → Int32 → Tr → Lo → Option (Int32 × Tr × Lo)) (k53 : Int32 → Int32 → Int32 → Tr → Lo → Option (Int32 × Tr × Lo)) (hk7 : ∀ (x2 : Int32) (x3 : Int32) (x4 : Int32) (T : Tr) (L : Lo) (H : Heap) (locs : List Loc) (ls : Array Slot), k7 x2 x3 x4 T L = some (r0, T', L') → va_P G vwCl (wTP cA ta pa T P L) H → va_D A (wTP cA ta pa T P L) → va_S A s.heap H locs → lv_has ls 7 [(0, .ref (ta 0)), (1, .int x1), (2, .int x2), (3, .int x3), (4, .int x4)] → G_X6_takeDown p l e s m below meth c G cA A ta pa P x1₀ r0 T' L' H locs (F0 m 7 ls [])) (hk53 : ∀ (x2 : Int32) (x3 : Int32) (x5 : Int32) (T : Tr) (L : Lo) (H : Heap) (locs : List Loc) (ls : Array Slot), k53 x2 x3 x5 T L = some (r0, T', L') → va_P G vwCl (wTP cA ta pa T P L) H → va_D A (wTP cA ta pa T P L) → va_S A s.heap H locs → lv_has ls 7 [(0, .ref (ta 0)), (1, .int x1), (2, .int x2), (3, .int x3), (4, .int x4), (5, .int x5)] → G_X6_takeDown p l e s m below meth c G cA A ta pa P x1₀ r0 T' L' H locs (F0 m 53 ls [])) (x2 : Int32) (x5 : Int32) (x6 : Int32) (s0 : Int32) (T : Tr) (L : Lo) (H : Heap) (locs : List Loc) (ls : Array Slot) (h : fJ_X6_takeDown_J126 k7 k53 P x1 x4 x2 x5 x6 s0 T L = some (r0, T', L')) (hP : va_P G vwCl (wTP cA ta pa T P L) H) (hD : va_D A (wTP cA ta pa T P L)) (hS : va_S A s.heap H locs) (hl : lv_has ls 7 [(3, .int s0), (0, .ref (ta 0)), (1, .int x1), (2, .int x2), (4, .int x4), (5, .int x5), (6, .int x6)]) : G_X6_takeDown p l e s m below meth c G cA A ta pa P x1₀ r0 T' L' H locs (F0 m 126 ls []) := by
  obtain ⟨hx, hb, hr, hml, hT, hown, hlocks, hK, hN, hA⟩ := id F
  unfold fJ_X6_takeDown_J126 at h
  refine lv_istore_n (lv' := [(3, .int s0), (0, .ref (ta 0)), (1, .int x1), (2, .int x2), (4, .int x4), (5, .int x5), (6, .int x6)]) hx hb dX6_takeDown_126 rfl hl (by decide) rfl (fun ls hl => ?_)
  refine lv_iload_n hx hb dX6_takeDown_127 rfl (lv_at hl 0 rfl) ?_
  refine lv_if_eq (tgt := 170) hx hb dX6_takeDown_128 (by decide) (fun c31 => ?_) (fun c31 => ?_)
  · have h := tx_pos c31 h
    obtain ⟨y32, ey32, h⟩ := tx_lt h
    refine lv_iinc (v := y32) (lv' := [(5, .int y32), (3, .int s0), (0, .ref (ta 0)), (1, .int x1), (2, .int x2), (4, .int x4), (6, .int x6)]) hx hb dX6_takeDown_170 hl (k := 5) rfl ey32 (by decide) rfl (fun ls hl => ?_)
    refine lv_goto (tgt := 53) hx hb dX6_takeDown_173 (by decide) ?_
    exact hk53 x2 s0 y32 T L H locs ls h hP hD hS (lv_sub hl [2, 3, 4, 1, 5, 0] rfl)
  · have h := tx_neg c31 h
    refine lv_iload_n hx hb dX6_takeDown_131 rfl (lv_at hl 3 rfl) ?_
    refine lv_iload hx hb dX6_takeDown_132 (lv_at hl 6 rfl) ?_
    refine lv_iadd hx hb dX6_takeDown_134 ?_
    refine lv_topi (fun y33 ey33 => ?_)
    have h := tx_let ey33 h
    refine lv_istore_n (lv' := [(2, .int y33), (3, .int s0), (0, .ref (ta 0)), (1, .int x1), (4, .int x4), (5, .int x5), (6, .int x6)]) hx hb dX6_takeDown_135 rfl hl (by decide) rfl (fun ls hl => ?_)
    refine lv_aload_n hx hb dX6_takeDown_136 rfl (lv_at hl 2 rfl) ?_
    refine va_get (D := G) (ci := 6) (v := .ref (ta 12)) (C := RX6) (T := TX6) (N := 20) hx hb hT ku_6 hown hK hP 0 rfl rfl 11 (by decide) (hT _ kw_7_10) (fun _ h9 => h9) rfl dX6_takeDown_137 ?_
    refine lv_iload hx hb dX6_takeDown_140 (lv_at hl 4 rfl) ?_
    refine lv_dup2_11 hx hb dX6_takeDown_142 rfl rfl ?_
    obtain ⟨g34, h⟩ := tx_ck h
    refine va_iald (i := x4) hx hb hK hP 4 0 rfl rfl (tx_in g34) dX6_takeDown_143 ?_
    refine lv_iload hx hb dX6_takeDown_144 (lv_at hl 6 rfl) ?_
    refine lv_iadd hx hb dX6_takeDown_146 ?_
    refine va_iast (i := x4) hx hb hK hP hD hS 4 0 rfl rfl (tx_in g34) dX6_takeDown_147 (fun H locs hP hD hS => ?_)
    obtain ⟨T_35, eT_35, h⟩ := tx_lt h
    rw [sTP_ta_a11, eT_35] at hP hD
    refine lv_aload_n hx hb dX6_takeDown_148 rfl (lv_at hl 2 rfl) ?_
    refine lv_dup hx hb dX6_takeDown_149 rfl ?_
    refine va_get (D := G) (ci := 6) (v := .int (T_35 0 1)) (C := RX6) (T := TX6) (N := 20) hx hb hT ku_6 hown hK hP 0 rfl rfl 1 (by decide) (hT _ kw_8_3) (fun _ h9 => h9) rfl dX6_takeDown_150 ?_
    refine lv_aload_n hx hb dX6_takeDown_153 rfl (lv_at hl 2 rfl) ?_
    refine lv_iload hx hb dX6_takeDown_154 (lv_at hl 5 rfl) ?_
    obtain ⟨r36, hc37, h⟩ := tx_bd h
    refine tw_ci tw_all hP hD hS hA (va_runV (As := [.int x5]) (rest := [.int (T_35 0 1), .ref (ta 0)]) ⟨hx, hb, hml, hown, hT⟩ (c_X6_above l G cA H.size ta pa T_35 P L x5  r36 hc37) (cwV 1 hT (tq_gV kw_41_2 kw_30_11 kw_30_12 kw_1_23 kw_30_13) rfl rfl rfl (by decide +kernel) ⟨Nat.le_of_ble_eq_true rfl, Nat.le_of_ble_eq_true rfl⟩) ⟨(tw_pre tw_all hP hD hK hN).1, va_recv hK hP (ci := 6) (q0 := 0) rfl rfl, (tw_pre tw_all hP hD hK hN).2⟩ rfl rfl hl.1 rfl (lv_room (Nat.le_of_ble_eq_true rfl)) dX6_takeDown_156 ⟨Nat.le_of_ble_eq_true rfl, Nat.le_of_ble_eq_true rfl⟩) (fun _ _ H locs z38 hP hD hS => ?_)
    subst z38
    rw [List.append_nil] at hP hD
    have hP : va_P G vwCl (wTP cA ta pa T_35 P L) H := hP
    have hD : va_D A (wTP cA ta pa T_35 P L) := hD
    refine lv_iadd hx hb dX6_takeDown_159 ?_
    refine va_put (D := G) (ci := 6) (v := .int ((T_35 0 1) + r36)) (ty := .int) (C := RX6) (T := TX6) (N := 20) hx hb hT ku_6 tyX6 tyX6_ok nmX6 hown hK hP hD hS 0 rfl rfl 1 (by decide) (hT _ kw_8_3) (fun _ h9 => h9) rfl (by decide +kernel) rfl rfl (Nat.le_of_ble_eq_true rfl) dX6_takeDown_160 (fun H locs hP hD hS => ?_)
    obtain ⟨T_39, eT_39, h⟩ := tx_lt h
    rw [sTP_ta_f1, eT_39] at hP hD
    refine lv_aload_n hx hb dX6_takeDown_163 rfl (lv_at hl 2 rfl) ?_
    refine lv_iload hx hb dX6_takeDown_164 (lv_at hl 5 rfl) ?_
    refine lv_iconst (v := 2) hx hb dX6_takeDown_166 (by decide) ?_
    obtain ⟨T_40, hc41, h⟩ := tx_bd h
    refine tw_cv tw_all hP hD hS hA (va_runV (As := [.int x5, .int 2]) (rest := []) ⟨hx, hb, hml, hown, hT⟩ (c_X6_takeAway l G cA H.size ta pa T_39 P L x5 (2 : Int32)  T_40 hc41) (cwV 2 hT (tq_gV kw_41_3 kw_36_19 kw_36_20 kw_1_23 kw_36_21) rfl rfl rfl (by decide +kernel) ⟨Nat.le_of_ble_eq_true rfl, Nat.le_of_ble_eq_true rfl⟩) ⟨(tw_pre tw_all hP hD hK hN).1, va_recv hK hP (ci := 6) (q0 := 0) rfl rfl, (tw_pre tw_all hP hD hK hN).2⟩ rfl rfl hl.1 rfl (lv_room (Nat.le_of_ble_eq_true rfl)) dX6_takeDown_167 ⟨Nat.le_of_ble_eq_true rfl, Nat.le_of_ble_eq_true rfl⟩) (fun _ H locs z42 hP hD hS => ?_)
    rw [List.append_nil] at hP hD
    have hP : va_P G vwCl (wTP cA ta pa T_40 P L) H := hP
    have hD : va_D A (wTP cA ta pa T_40 P L) := hD
    obtain ⟨y43, ey43, h⟩ := tx_lt h
    refine lv_iinc (v := y43) (lv' := [(5, .int y43), (2, .int y33), (3, .int s0), (0, .ref (ta 0)), (1, .int x1), (4, .int x4), (6, .int x6)]) hx hb dX6_takeDown_170 hl (k := 5) rfl ey43 (by decide) rfl (fun ls hl => ?_)
    refine lv_goto (tgt := 53) hx hb dX6_takeDown_173 (by decide) ?_
    exact hk53 y33 s0 y43 T_40 L H locs ls h hP hD hS (lv_sub hl [3, 4, 1, 2, 5, 0] rfl)
set_option maxHeartbeats 4000000 in
set_option maxRecDepth 100000 in
theorem w_X6_takeDown_L53 {p : Program} {l : Launch} {e : Env} {s : State} {m : MethodId} {below : List Frame} {meth : Method} {c : Code} {G : va_G} {cA : Nat → ClassId} {A : Nat → Prop} {ta : Nat → Nat} {pa : Nat → Nat} {P : Tr} {x1₀ : Int32} {r0 : Int32} {T' : Tr} {L' : Lo} {x1 : Int32} {x4 : Int32} (F : tF p s m ([.ref (ta 0), .int x1₀] : List Value).toArray meth c G cA A RX6 cX6_takeDown 7 (some .int))  (k7 : Int32 → Int32 → Int32 → Tr → Lo → Option (Int32 × Tr × Lo)) (hk7 : ∀ (x2 : Int32) (x3 : Int32) (x4 : Int32) (T : Tr) (L : Lo) (H : Heap) (locs : List Loc) (ls : Array Slot), k7 x2 x3 x4 T L = some (r0, T', L') → va_P G vwCl (wTP cA ta pa T P L) H → va_D A (wTP cA ta pa T P L) → va_S A s.heap H locs → lv_has ls 7 [(0, .ref (ta 0)), (1, .int x1), (2, .int x2), (3, .int x3), (4, .int x4)] → G_X6_takeDown p l e s m below meth c G cA A ta pa P x1₀ r0 T' L' H locs (F0 m 7 ls [])) (N : Nat) : ∀ (x2 : Int32) (x3 : Int32) (x5 : Int32) (T : Tr) (L : Lo) (H : Heap) (locs : List Loc) (ls : Array Slot), lpF (fun _ _ _ _ _ => none) (fB_X6_takeDown_L53 k7 P x1 x4) N x2 x3 x5 T L = some (r0, T', L') → va_P G vwCl (wTP cA ta pa T P L) H → va_D A (wTP cA ta pa T P L) → va_S A s.heap H locs → lv_has ls 7 [(0, .ref (ta 0)), (1, .int x1), (2, .int x2), (3, .int x3), (4, .int x4), (5, .int x5)] → G_X6_takeDown p l e s m below meth c G cA A ta pa P x1₀ r0 T' L' H locs (F0 m 53 ls []) := by
  obtain ⟨hx, hb, hr, hml, hT, hown, hlocks, hK, hN, hA⟩ := id F
  induction N with
  | zero =>
    intro x2 x3 x5 T L H locs ls h
    have h : (none : Option (Int32 × Tr × Lo)) = some (r0, T', L') := h
    cases h
  | succ N hk53 =>
    intro x2 x3 x5 T L H locs ls h hP hD hS hl
    have h : fB_X6_takeDown_L53 k7 P x1 x4 (lpF (fun _ _ _ _ _ => none) (fB_X6_takeDown_L53 k7 P x1 x4) N) x2 x3 x5 T L = some (r0, T', L') := h
    generalize hk53e : lpF (fun _ _ _ _ _ => none) (fB_X6_takeDown_L53 k7 P x1 x4) N = k53 at h hk53
    unfold fB_X6_takeDown_L53 at h
    refine lv_iload hx hb dX6_takeDown_53 (lv_at hl 5 rfl) ?_
    refine lv_aload_n hx hb dX6_takeDown_55 rfl (lv_at hl 0 rfl) ?_
    refine va_get (D := G) (ci := 6) (v := .ref (pa 0)) (C := RX6) (T := TX6) (N := 20) hx hb hT ku_6 hown hK hP 0 rfl rfl 19 (by decide) (hT _ kw_8_1) (fun _ h9 => h9) rfl dX6_takeDown_56 ?_
    refine va_get (D := G) (ci := 2) (v := .int (P 0 2)) (C := RX2) (T := TX2) (N := 19) hx hb hT ku_2 hown hK hP 12 rfl rfl 2 (by decide) (hT _ kw_40_17) (fun _ h9 => h9) rfl dX6_takeDown_59 ?_
    refine lv_icmp_ge (tgt := 176) hx hb dX6_takeDown_62 (by decide) (fun c6 => ?_) (fun c6 => ?_)
    · have h := tx_pos c6 h
      exact w_X6_takeDown_J176 F k7 hk7 x2 x3 x4 T L H locs ls h hP hD hS (lv_sub hl [0, 1, 2, 3, 4] rfl)
    · have h := tx_neg c6 h
      refine lv_iload_n hx hb dX6_takeDown_65 rfl (lv_at hl 3 rfl) ?_
      refine lv_if_eq (tgt := 176) hx hb dX6_takeDown_66 (by decide) (fun c19 => ?_) (fun c19 => ?_)
      · have h := tx_pos c19 h
        exact w_X6_takeDown_J176 F k7 hk7 x2 x3 x4 T L H locs ls h hP hD hS (lv_sub hl [0, 1, 2, 3, 4] rfl)
      · have h := tx_neg c19 h
        refine lv_aload_n hx hb dX6_takeDown_69 rfl (lv_at hl 0 rfl) ?_
        refine va_get (D := G) (ci := 6) (v := .ref (pa 0)) (C := RX6) (T := TX6) (N := 20) hx hb hT ku_6 hown hK hP 0 rfl rfl 19 (by decide) (hT _ kw_8_1) (fun _ h9 => h9) rfl dX6_takeDown_70 ?_
        refine va_get (D := G) (ci := 2) (v := .ref (pa 14)) (C := RX2) (T := TX2) (N := 19) hx hb hT ku_2 hown hK hP 12 rfl rfl 13 (by decide) (hT _ kw_39_0) (fun _ h9 => h9) rfl dX6_takeDown_73 ?_
        refine lv_iload hx hb dX6_takeDown_76 (lv_at hl 5 rfl) ?_
        obtain ⟨g20, h⟩ := tx_ck h
        refine va_iald (i := x5) hx hb hK hP 19 0 rfl rfl (tx_in g20) dX6_takeDown_78 ?_
        refine lv_iload hx hb dX6_takeDown_79 (lv_at hl 4 rfl) ?_
        refine lv_icmp_ne (tgt := 170) hx hb dX6_takeDown_81 (by decide) (fun c21 => ?_) (fun c21 => ?_)
        · have h := tx_neg c21 h
          obtain ⟨y22, ey22, h⟩ := tx_lt h
          refine lv_iinc (v := y22) (lv' := [(5, .int y22), (0, .ref (ta 0)), (1, .int x1), (2, .int x2), (3, .int x3), (4, .int x4)]) hx hb dX6_takeDown_170 hl (k := 5) rfl ey22 (by decide) rfl (fun ls hl => ?_)
          refine lv_goto (tgt := 53) hx hb dX6_takeDown_173 (by decide) ?_
          exact hk53 x2 x3 y22 T L H locs ls h hP hD hS (lv_sub hl [1, 2, 3, 4, 5, 0] rfl)
        · have h := tx_pos c21 h
          refine lv_aload_n hx hb dX6_takeDown_84 rfl (lv_at hl 0 rfl) ?_
          refine va_get (D := G) (ci := 6) (v := .ref (ta 14)) (C := RX6) (T := TX6) (N := 20) hx hb hT ku_6 hown hK hP 0 rfl rfl 13 (by decide) (hT _ kw_7_12) (fun _ h9 => h9) rfl dX6_takeDown_85 ?_
          refine lv_iload hx hb dX6_takeDown_88 (lv_at hl 5 rfl) ?_
          refine va_iald (i := x5) hx hb hK hP 6 0 rfl rfl (tx_in g20) dX6_takeDown_90 ?_
          refine lv_iconst (v := 1) hx hb dX6_takeDown_91 (by decide) ?_
          refine lv_icmp_eq (tgt := 98) hx hb dX6_takeDown_92 (by decide) (fun c23 => ?_) (fun c23 => ?_)
          · have h := tx_pos c23 h
            refine lv_aload_n hx hb dX6_takeDown_98 rfl (lv_at hl 0 rfl) ?_
            refine lv_iload hx hb dX6_takeDown_99 (lv_at hl 5 rfl) ?_
            refine lv_aload_n hx hb dX6_takeDown_101 rfl (lv_at hl 0 rfl) ?_
            refine va_get (D := G) (ci := 6) (v := .ref (ta 10)) (C := RX6) (T := TX6) (N := 20) hx hb hT ku_6 hown hK hP 0 rfl rfl 9 (by decide) (hT _ kw_7_8) (fun _ h9 => h9) rfl dX6_takeDown_102 ?_
            refine lv_iload hx hb dX6_takeDown_105 (lv_at hl 4 rfl) ?_
            obtain ⟨g24, h⟩ := tx_ck h
            refine va_iald (i := x4) hx hb hK hP 2 0 rfl rfl (tx_in g24) dX6_takeDown_107 ?_
            obtain ⟨⟨r25, T_26, L_27⟩, hc28, h⟩ := tx_bd h
            replace h := tx_let (y := r25) rfl h
            replace h := tx_let (y := T_26) rfl h
            replace h := tx_let (y := L_27) rfl h
            refine tw_ci tw_all hP hD hS hA (va_runV (As := [.int x5, .int (T 10 x4.toNatClampNeg)]) (rest := []) ⟨hx, hb, hml, hown, hT⟩ (c_X6_secondsFor l G cA H.size ta pa T P L x5 (T 10 x4.toNatClampNeg)  r25 T_26 L_27 hc28) (cwV 2 hT (tq_gV kw_40_18 kw_40_19 kw_40_20 kw_1_23 kw_40_21) rfl rfl rfl (by decide +kernel) ⟨Nat.le_of_ble_eq_true rfl, Nat.le_of_ble_eq_true rfl⟩) ⟨(tw_pre tw_all hP hD hK hN).1, va_recv hK hP (ci := 6) (q0 := 0) rfl rfl, (tw_pre tw_all hP hD hK hN).2⟩ rfl rfl hl.1 rfl (lv_room (Nat.le_of_ble_eq_true rfl)) dX6_takeDown_108 ⟨Nat.le_of_ble_eq_true rfl, Nat.le_of_ble_eq_true rfl⟩) (fun _ _ H locs z29 hP hD hS => ?_)
            subst z29
            rw [List.append_nil] at hP hD
            have hP : va_P G vwCl (wTP cA ta pa T_26 P L_27) H := hP
            have hD : va_D A (wTP cA ta pa T_26 P L_27) := hD
            refine lv_istore (lv' := [(6, .int r25), (0, .ref (ta 0)), (1, .int x1), (2, .int x2), (3, .int x3), (4, .int x4), (5, .int x5)]) hx hb dX6_takeDown_111 hl (by decide) rfl (fun ls hl => ?_)
            refine lv_iload_n hx hb dX6_takeDown_113 rfl (lv_at hl 3 rfl) ?_
            refine lv_iload hx hb dX6_takeDown_114 (lv_at hl 0 rfl) ?_
            refine lv_iadd hx hb dX6_takeDown_116 ?_
            refine lv_iload_n hx hb dX6_takeDown_117 rfl (lv_at hl 2 rfl) ?_
            refine lv_icmp_gt (tgt := 125) hx hb dX6_takeDown_118 (by decide) (fun c30 => ?_) (fun c30 => ?_)
            · have h := tx_pos c30 h
              refine lv_iconst (v := 0) hx hb dX6_takeDown_125 (by decide) ?_
              exact w_X6_takeDown_J126 F k7 k53 hk7 hk53 x2 x5 r25 0 T_26 L_27 H locs ls h hP hD hS (lv_sub hl [1, 2, 3, 5, 6, 0] rfl)
            · have h := tx_neg c30 h
              refine lv_iconst (v := 1) hx hb dX6_takeDown_121 (by decide) ?_
              refine lv_goto (tgt := 126) hx hb dX6_takeDown_122 (by decide) ?_
              exact w_X6_takeDown_J126 F k7 k53 hk7 hk53 x2 x5 r25 1 T_26 L_27 H locs ls h hP hD hS (lv_sub hl [1, 2, 3, 5, 6, 0] rfl)
          · have h := tx_neg c23 h
            refine lv_goto (tgt := 170) hx hb dX6_takeDown_95 (by decide) ?_
            obtain ⟨y44, ey44, h⟩ := tx_lt h
            refine lv_iinc (v := y44) (lv' := [(5, .int y44), (0, .ref (ta 0)), (1, .int x1), (2, .int x2), (3, .int x3), (4, .int x4)]) hx hb dX6_takeDown_170 hl (k := 5) rfl ey44 (by decide) rfl (fun ls hl => ?_)
            refine lv_goto (tgt := 53) hx hb dX6_takeDown_173 (by decide) ?_
            exact hk53 x2 x3 y44 T L H locs ls h hP hD hS (lv_sub hl [1, 2, 3, 4, 5, 0] rfl)
set_option maxHeartbeats 4000000 in
set_option maxRecDepth 100000 in
theorem w_X6_takeDown_L7 {p : Program} {l : Launch} {e : Env} {s : State} {m : MethodId} {below : List Frame} {meth : Method} {c : Code} {G : va_G} {cA : Nat → ClassId} {A : Nat → Prop} {ta : Nat → Nat} {pa : Nat → Nat} {P : Tr} {x1₀ : Int32} {r0 : Int32} {T' : Tr} {L' : Lo} {x1 : Int32} (F : tF p s m ([.ref (ta 0), .int x1₀] : List Value).toArray meth c G cA A RX6 cX6_takeDown 7 (some .int))    (N : Nat) : ∀ (x2 : Int32) (x3 : Int32) (x4 : Int32) (T : Tr) (L : Lo) (H : Heap) (locs : List Loc) (ls : Array Slot), lpF (fun _ _ _ _ _ => none) (fB_X6_takeDown_L7 P x1) N x2 x3 x4 T L = some (r0, T', L') → va_P G vwCl (wTP cA ta pa T P L) H → va_D A (wTP cA ta pa T P L) → va_S A s.heap H locs → lv_has ls 7 [(0, .ref (ta 0)), (1, .int x1), (2, .int x2), (3, .int x3), (4, .int x4)] → G_X6_takeDown p l e s m below meth c G cA A ta pa P x1₀ r0 T' L' H locs (F0 m 7 ls []) := by
  obtain ⟨hx, hb, hr, hml, hT, hown, hlocks, hK, hN, hA⟩ := id F
  induction N with
  | zero =>
    intro x2 x3 x4 T L H locs ls h
    have h : (none : Option (Int32 × Tr × Lo)) = some (r0, T', L') := h
    cases h
  | succ N hk7 =>
    intro x2 x3 x4 T L H locs ls h hP hD hS hl
    have h : fB_X6_takeDown_L7 P x1 (lpF (fun _ _ _ _ _ => none) (fB_X6_takeDown_L7 P x1) N) x2 x3 x4 T L = some (r0, T', L') := h
    generalize hk7e : lpF (fun _ _ _ _ _ => none) (fB_X6_takeDown_L7 P x1) N = k7 at h hk7
    unfold fB_X6_takeDown_L7 at h
    refine lv_iload hx hb dX6_takeDown_7 (lv_at hl 4 rfl) ?_
    refine lv_aload_n hx hb dX6_takeDown_9 rfl (lv_at hl 0 rfl) ?_
    refine va_get (D := G) (ci := 6) (v := .ref (pa 0)) (C := RX6) (T := TX6) (N := 20) hx hb hT ku_6 hown hK hP 0 rfl rfl 19 (by decide) (hT _ kw_8_1) (fun _ h9 => h9) rfl dX6_takeDown_10 ?_
    refine va_get (D := G) (ci := 2) (v := .int (P 0 1)) (C := RX2) (T := TX2) (N := 19) hx hb hT ku_2 hown hK hP 12 rfl rfl 1 (by decide) (hT _ kw_40_16) (fun _ h9 => h9) rfl dX6_takeDown_13 ?_
    refine lv_icmp_ge (tgt := 215) hx hb dX6_takeDown_16 (by decide) (fun c1 => ?_) (fun c1 => ?_)
    · have h := tx_pos c1 h
      refine lv_iload_n hx hb dX6_takeDown_215 rfl (lv_at hl 2 rfl) ?_
      obtain ⟨rfl, rfl, rfl⟩ := tx_3 h
      exact W.iret hx hb hr (fun t ht hW => ⟨⟨_, (), rfl, rfl, by rw [ht]; exact hP, hD⟩, hS.F ht⟩) hS.2.2 dX6_takeDown_216
    · have h := tx_neg c1 h
      refine lv_aload_n hx hb dX6_takeDown_19 rfl (lv_at hl 0 rfl) ?_
      refine va_get (D := G) (ci := 6) (v := .ref (ta 11)) (C := RX6) (T := TX6) (N := 20) hx hb hT ku_6 hown hK hP 0 rfl rfl 10 (by decide) (hT _ kw_7_9) (fun _ h9 => h9) rfl dX6_takeDown_20 ?_
      refine lv_iload hx hb dX6_takeDown_23 (lv_at hl 4 rfl) ?_
      obtain ⟨g2, h⟩ := tx_ck h
      refine va_iald (i := x4) hx hb hK hP 3 0 rfl rfl (tx_in g2) dX6_takeDown_25 ?_
      refine lv_iconst (v := 1) hx hb dX6_takeDown_26 (by decide) ?_
      refine lv_icmp_ne (tgt := 209) hx hb dX6_takeDown_27 (by decide) (fun c3 => ?_) (fun c3 => ?_)
      · have h := tx_neg c3 h
        obtain ⟨y4, ey4, h⟩ := tx_lt h
        refine lv_iinc (v := y4) (lv' := [(4, .int y4), (0, .ref (ta 0)), (1, .int x1), (2, .int x2), (3, .int x3)]) hx hb dX6_takeDown_209 hl (k := 4) rfl ey4 (by decide) rfl (fun ls hl => ?_)
        refine lv_goto (tgt := 7) hx hb dX6_takeDown_212 (by decide) ?_
        exact hk7 x2 x3 y4 T L H locs ls h hP hD hS (lv_sub hl [1, 2, 3, 4, 0] rfl)
      · have h := tx_pos c3 h
        refine lv_aload_n hx hb dX6_takeDown_30 rfl (lv_at hl 0 rfl) ?_
        refine va_get (D := G) (ci := 6) (v := .ref (pa 0)) (C := RX6) (T := TX6) (N := 20) hx hb hT ku_6 hown hK hP 0 rfl rfl 19 (by decide) (hT _ kw_8_1) (fun _ h9 => h9) rfl dX6_takeDown_31 ?_
        refine va_get (D := G) (ci := 2) (v := .ref (pa 12)) (C := RX2) (T := TX2) (N := 19) hx hb hT ku_2 hown hK hP 12 rfl rfl 11 (by decide) (hT _ kw_38_23) (fun _ h9 => h9) rfl dX6_takeDown_34 ?_
        refine lv_iload hx hb dX6_takeDown_37 (lv_at hl 4 rfl) ?_
        refine va_iald (i := x4) hx hb hK hP 17 0 rfl rfl (tx_in g2) dX6_takeDown_39 ?_
        refine lv_aload_n hx hb dX6_takeDown_40 rfl (lv_at hl 0 rfl) ?_
        refine va_get (D := G) (ci := 6) (v := .int (T 0 0)) (C := RX6) (T := TX6) (N := 20) hx hb hT ku_6 hown hK hP 0 rfl rfl 0 (by decide) (hT _ kw_8_2) (fun _ h9 => h9) rfl dX6_takeDown_41 ?_
        refine lv_icmp_le (tgt := 50) hx hb dX6_takeDown_44 (by decide) (fun c5 => ?_) (fun c5 => ?_)
        · have h := tx_pos c5 h
          refine lv_iconst (v := 0) hx hb dX6_takeDown_50 (by decide) ?_
          refine lv_istore (lv' := [(5, .int 0), (0, .ref (ta 0)), (1, .int x1), (2, .int x2), (3, .int x3), (4, .int x4)]) hx hb dX6_takeDown_51 hl (by decide) rfl (fun ls hl => ?_)
          exact w_X6_takeDown_L53 F k7 hk7 2000 x2 x3 0 T L H locs ls h hP hD hS (lv_sub hl [1, 2, 3, 4, 5, 0] rfl)
        · have h := tx_neg c5 h
          refine lv_goto (tgt := 209) hx hb dX6_takeDown_47 (by decide) ?_
          obtain ⟨y45, ey45, h⟩ := tx_lt h
          refine lv_iinc (v := y45) (lv' := [(4, .int y45), (0, .ref (ta 0)), (1, .int x1), (2, .int x2), (3, .int x3)]) hx hb dX6_takeDown_209 hl (k := 4) rfl ey45 (by decide) rfl (fun ls hl => ?_)
          refine lv_goto (tgt := 7) hx hb dX6_takeDown_212 (by decide) ?_
          exact hk7 x2 x3 y45 T L H locs ls h hP hD hS (lv_sub hl [1, 2, 3, 4, 0] rfl)
set_option maxHeartbeats 4000000 in
set_option maxRecDepth 100000 in
theorem c_X6_takeDown (l : Launch) (G : va_G) (cA : Nat → ClassId) (sz : Nat) (ta : Nat → Nat) (pa : Nat → Nat) (T : Tr) (P : Tr) (L : Lo) (x1 : Int32)  (r0 : Int32) (T' : Tr) (L' : Lo) (h : f_X6_takeDown T P L x1 = some (r0, T', L')) : Met l yX6_takeDown (.code yX6_takeDown cX6_takeDown 7 (some .int) :: T0) ({ frames := 4, cells := 0, slots := 0, locals := 107 } : Room) (tqP G cA [.ref (ta 0), .int x1] (wTP cA ta pa T P L) sz) (tqQi G cA (fun (r : Int32) (_ : Unit) => r = r0) (fun (_ : Unit) => wTP cA ta pa (T') P (L')) (va_A (wTP cA ta pa T P L) sz)) 0 0 (va_A (wTP cA ta pa T P L) sz) := by
  refine Met.ofW (cc := cX6_takeDown) (maxL := 7) (ret := (some .int)) (by decide) rfl ?_
  intro p e s m args below meth c s₁ B hml hv
  obtain ⟨rfl, hsz, hP, hK, hD0, hN⟩ := hv
  have hx := B.exec
  have hb := B.bytes
  have hr := B.returns
  have hts := atoms_spec (ws := .code yX6_takeDown cX6_takeDown 7 (some .int) :: T0) B.pre
  have hT : ∀ w ∈ T0, w.before _ s = true := fun w h => hts w (List.mem_cons_of_mem _ h)
  have hown : s.vm.findClass RX6 = some m.cls := findClass_of_methodNamed B.named
  have hlocks := B.notSynchronized
  subst hsz
  have hD := hD0.self (sz := s.heap.size)
  generalize hAe : va_A (wTP cA ta pa T P L) s.heap.size = A at hD ⊢
  have hA : ∀ q : Nat, s.heap.size ≤ q → A q := fun q h => by rw [← hAe]; exact Or.inr h
  have hS : va_S A s.heap s.heap [] := va_S.rf
  have hl := lv_entry ([.ref (ta 0), .int x1]) (n := 7) (Nat.le_of_ble_eq_true rfl)
  rw [lg_entry_eq]
  generalize (lg_sl ([.ref (ta 0), .int x1]) ++ List.replicate (7 - (lg_sl ([.ref (ta 0), .int x1])).length) Slot.unset).toArray = ls at hl ⊢
  have hl : lv_has ls 7 [(0, .ref (ta 0)), (1, .int x1)] := hl
  have F : tF p s m ([.ref (ta 0), .int x1] : List Value).toArray meth c G cA A RX6 cX6_takeDown 7 (some .int) := ⟨hx, hb, hr, hml, hT, hown, hlocks, hK, hN, hA⟩
  obtain ⟨H, hH⟩ : ∃ z, z = s.heap := ⟨_, rfl⟩
  rw [← hH] at hP
  have hS : va_S A s.heap H [] := by rw [hH]; exact hS
  suffices hgo : G_X6_takeDown p l e s m below meth c G cA A ta pa P x1 r0 T' L' H [] (F0 m 0 ls []) by rw [hH] at hgo; exact hgo
  generalize ([] : List Loc) = locs at hS ⊢
  unfold f_X6_takeDown at h
  refine lv_iconst (v := 0) hx hb dX6_takeDown_0 (by decide) ?_
  refine lv_istore_n (lv' := [(2, .int 0), (0, .ref (ta 0)), (1, .int x1)]) hx hb dX6_takeDown_1 rfl hl (by decide) rfl (fun ls hl => ?_)
  refine lv_iconst (v := 1) hx hb dX6_takeDown_2 (by decide) ?_
  refine lv_istore_n (lv' := [(3, .int 1), (2, .int 0), (0, .ref (ta 0)), (1, .int x1)]) hx hb dX6_takeDown_3 rfl hl (by decide) rfl (fun ls hl => ?_)
  refine lv_iconst (v := 0) hx hb dX6_takeDown_4 (by decide) ?_
  refine lv_istore (lv' := [(4, .int 0), (3, .int 1), (2, .int 0), (0, .ref (ta 0)), (1, .int x1)]) hx hb dX6_takeDown_5 hl (by decide) rfl (fun ls hl => ?_)
  exact w_X6_takeDown_L7 F 2000 0 1 0 T L H locs ls h hP hD hS (lv_sub hl [3, 4, 2, 1, 0] rfl)
abbrev G_X6_stealPercent (p : Program) (l : Launch) (e : Env) (s : State) (m : MethodId) (below : List Frame) (meth : Method) (c : Code) (G : va_G) (cA : Nat → ClassId) (A : Nat → Prop) (ta : Nat → Nat) (pa : Nat → Nat) (P : Tr) (x1 : Int32) (r0 : Int32) (T' : Tr) (L' : Lo) (H : Heap) (locs : List Loc) (g : JFrame) : Prop := W p l e (headSpec (.code yX6_stealPercent cX6_stealPercent 4 (some .int) :: T0) ({ frames := 3, cells := 0, slots := 0, locals := 78 } : Room)).room s m ([.ref (ta 0), .int x1] : List Value).toArray below meth c H locs 0 0 (MQ below (tqQi G cA (fun (r : Int32) (_ : Unit) => r = r0) (fun (_ : Unit) => wTP cA ta pa (T') P (L')) A) ([.ref (ta 0), .int x1] : List Value).toArray s 0 0 A) g
set_option maxHeartbeats 4000000 in
set_option maxRecDepth 100000 in
theorem c_X6_stealPercent (l : Launch) (G : va_G) (cA : Nat → ClassId) (sz : Nat) (ta : Nat → Nat) (pa : Nat → Nat) (T : Tr) (P : Tr) (L : Lo) (x1 : Int32)  (r0 : Int32) (T' : Tr) (L' : Lo) (h : f_X6_stealPercent T P L x1 = some (r0, T', L')) : Met l yX6_stealPercent (.code yX6_stealPercent cX6_stealPercent 4 (some .int) :: T0) ({ frames := 3, cells := 0, slots := 0, locals := 78 } : Room) (tqP G cA [.ref (ta 0), .int x1] (wTP cA ta pa T P L) sz) (tqQi G cA (fun (r : Int32) (_ : Unit) => r = r0) (fun (_ : Unit) => wTP cA ta pa (T') P (L')) (va_A (wTP cA ta pa T P L) sz)) 0 0 (va_A (wTP cA ta pa T P L) sz) := by
  refine Met.ofW (cc := cX6_stealPercent) (maxL := 4) (ret := (some .int)) (by decide) rfl ?_
  intro p e s m args below meth c s₁ B hml hv
  obtain ⟨rfl, hsz, hP, hK, hD0, hN⟩ := hv
  have hx := B.exec
  have hb := B.bytes
  have hr := B.returns
  have hts := atoms_spec (ws := .code yX6_stealPercent cX6_stealPercent 4 (some .int) :: T0) B.pre
  have hT : ∀ w ∈ T0, w.before _ s = true := fun w h => hts w (List.mem_cons_of_mem _ h)
  have hown : s.vm.findClass RX6 = some m.cls := findClass_of_methodNamed B.named
  have hlocks := B.notSynchronized
  subst hsz
  have hD := hD0.self (sz := s.heap.size)
  generalize hAe : va_A (wTP cA ta pa T P L) s.heap.size = A at hD ⊢
  have hA : ∀ q : Nat, s.heap.size ≤ q → A q := fun q h => by rw [← hAe]; exact Or.inr h
  have hS : va_S A s.heap s.heap [] := va_S.rf
  have hl := lv_entry ([.ref (ta 0), .int x1]) (n := 4) (Nat.le_of_ble_eq_true rfl)
  rw [lg_entry_eq]
  generalize (lg_sl ([.ref (ta 0), .int x1]) ++ List.replicate (4 - (lg_sl ([.ref (ta 0), .int x1])).length) Slot.unset).toArray = ls at hl ⊢
  have hl : lv_has ls 4 [(0, .ref (ta 0)), (1, .int x1)] := hl
  have F : tF p s m ([.ref (ta 0), .int x1] : List Value).toArray meth c G cA A RX6 cX6_stealPercent 4 (some .int) := ⟨hx, hb, hr, hml, hT, hown, hlocks, hK, hN, hA⟩
  obtain ⟨H, hH⟩ : ∃ z, z = s.heap := ⟨_, rfl⟩
  rw [← hH] at hP
  have hS : va_S A s.heap H [] := by rw [hH]; exact hS
  suffices hgo : G_X6_stealPercent p l e s m below meth c G cA A ta pa P x1 r0 T' L' H [] (F0 m 0 ls []) by rw [hH] at hgo; exact hgo
  generalize ([] : List Loc) = locs at hS ⊢
  unfold f_X6_stealPercent at h
  refine lv_aload_n hx hb dX6_stealPercent_0 rfl (lv_at hl 0 rfl) ?_
  refine lv_iconst (v := 2) hx hb dX6_stealPercent_1 (by decide) ?_
  refine lv_iload_n hx hb dX6_stealPercent_2 rfl (lv_at hl 1 rfl) ?_
  refine lv_aload_n hx hb dX6_stealPercent_3 rfl (lv_at hl 0 rfl) ?_
  refine va_get (D := G) (ci := 6) (v := .ref (ta 10)) (C := RX6) (T := TX6) (N := 20) hx hb hT ku_6 hown hK hP 0 rfl rfl 9 (by decide) (hT _ kw_7_8) (fun _ h9 => h9) rfl dX6_stealPercent_4 ?_
  refine lv_aload_n hx hb dX6_stealPercent_7 rfl (lv_at hl 0 rfl) ?_
  refine va_get (D := G) (ci := 6) (v := .ref (pa 0)) (C := RX6) (T := TX6) (N := 20) hx hb hT ku_6 hown hK hP 0 rfl rfl 19 (by decide) (hT _ kw_8_1) (fun _ h9 => h9) rfl dX6_stealPercent_8 ?_
  refine va_get (D := G) (ci := 2) (v := .ref (pa 14)) (C := RX2) (T := TX2) (N := 19) hx hb hT ku_2 hown hK hP 12 rfl rfl 13 (by decide) (hT _ kw_39_0) (fun _ h9 => h9) rfl dX6_stealPercent_11 ?_
  refine lv_iload_n hx hb dX6_stealPercent_14 rfl (lv_at hl 1 rfl) ?_
  obtain ⟨g1, h⟩ := tx_ck h
  refine va_iald (i := x1) hx hb hK hP 19 0 rfl rfl (tx_in g1) dX6_stealPercent_15 ?_
  obtain ⟨g2, h⟩ := tx_ck h
  refine va_iald (i := (P 14 x1.toNatClampNeg)) hx hb hK hP 2 0 rfl rfl (tx_in g2) dX6_stealPercent_16 ?_
  obtain ⟨⟨r3, T_4, L_5⟩, hc6, h⟩ := tx_bd h
  replace h := tx_let (y := r3) rfl h
  replace h := tx_let (y := T_4) rfl h
  replace h := tx_let (y := L_5) rfl h
  refine tw_cl tw_all hP hD hS hA (va_runV (As := [.int 2, .int x1, .int (T 10 (P 14 x1.toNatClampNeg).toNatClampNeg)]) (rest := []) ⟨hx, hb, hml, hown, hT⟩ (c_X6_worked l G cA H.size ta pa T P L (2 : Int32) x1 (T 10 (P 14 x1.toNatClampNeg).toNatClampNeg)  r3 T_4 L_5 hc6) (cwV 3 hT (tq_gV kw_40_22 kw_33_10 kw_33_11 kw_1_23 kw_33_12) rfl rfl rfl (by decide +kernel) ⟨Nat.le_of_ble_eq_true rfl, Nat.le_of_ble_eq_true rfl⟩) ⟨(tw_pre tw_all hP hD hK hN).1, va_recv hK hP (ci := 6) (q0 := 0) rfl rfl, (tw_pre tw_all hP hD hK hN).2⟩ rfl rfl hl.1 rfl (lv_room (Nat.le_of_ble_eq_true rfl)) dX6_stealPercent_17 ⟨Nat.le_of_ble_eq_true rfl, Nat.le_of_ble_eq_true rfl⟩) (fun _ _ H locs z7 hP hD hS => ?_)
  subst z7
  rw [List.append_nil] at hP hD
  have hP : va_P G vwCl (wTP cA ta pa T_4 P L_5) H := hP
  have hD : va_D A (wTP cA ta pa T_4 P L_5) := hD
  refine lv_lstore_n (lv' := [(2, .long r3), (0, .ref (ta 0)), (1, .int x1)]) hx hb dX6_stealPercent_20 rfl hl (by decide) rfl (fun ls hl => ?_)
  refine lv_lload_n hx hb dX6_stealPercent_21 rfl (lv_at hl 0 rfl) ?_
  refine lv_ldc2 (v := (-9223372036854775808)) hx hb hown (hT _ kw_33_15) dX6_stealPercent_22 ?_
  refine W.lcmp hx hb dX6_stealPercent_25 ?_
  refine lv_if_eq (tgt := 38) hx hb dX6_stealPercent_26 (by decide) (fun c8 => ?_) (fun c8 => ?_)
  · have h := tx_pos c8 h
    refine lv_bipush (v := 10) hx hb dX6_stealPercent_38 (by decide) ?_
    obtain ⟨rfl, rfl, rfl⟩ := tx_3 h
    exact W.iret hx hb hr (fun t ht hW => ⟨⟨_, (), rfl, rfl, by rw [ht]; exact hP, hD⟩, hS.F ht⟩) hS.2.2 dX6_stealPercent_40
  · have h := tx_neg c8 h
    refine lv_lload_n hx hb dX6_stealPercent_29 rfl (lv_at hl 0 rfl) ?_
    refine lv_bipush (v := 100) hx hb dX6_stealPercent_30 (by decide) ?_
    obtain ⟨r9, hc10, h⟩ := tx_bd h
    refine tw_ci (tw_none (ws := wTP cA ta pa T_4 P L_5)) hP hD hS hA (va_runS (As := [.long r3, .int 100]) (rest := []) ⟨hx, hb, hml, hown, hT⟩ (c_X6_within l G cA H.size r3 (100 : Int32)  r9 hc10) (va_cwS 2 hT (tq_gS kw_40_23 kw_41_0 kw_1_23 kw_41_1) rfl rfl rfl (by decide +kernel) ⟨Nat.le_of_ble_eq_true rfl, Nat.le_of_ble_eq_true rfl⟩) (tw_pre (tw_none (ws := wTP cA ta pa T_4 P L_5)) hP hD hK hN) rfl rfl hl.1 rfl (lv_room (Nat.le_of_ble_eq_true rfl)) dX6_stealPercent_32 ⟨Nat.le_of_ble_eq_true rfl, Nat.le_of_ble_eq_true rfl⟩) (fun _ _ H locs z11 hP hD hS => ?_)
    subst z11
    have hP : va_P G vwCl (wTP cA ta pa T_4 P L_5) H := hP
    have hD : va_D A (wTP cA ta pa T_4 P L_5) := hD
    refine lv_goto (tgt := 40) hx hb dX6_stealPercent_35 (by decide) ?_
    obtain ⟨rfl, rfl, rfl⟩ := tx_3 h
    exact W.iret hx hb hr (fun t ht hW => ⟨⟨_, (), rfl, rfl, by rw [ht]; exact hP, hD⟩, hS.F ht⟩) hS.2.2 dX6_stealPercent_40
