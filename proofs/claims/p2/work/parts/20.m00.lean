abbrev G_X8_ableOf (p : Program) (l : Launch) (e : Env) (s : State) (m : MethodId) (below : List Frame) (meth : Method) (c : Code) (G : va_G) (cA : Nat → ClassId) (A : Nat → Prop) (aa : Nat → Nat) (S : Tr) (L : Lo) (x1 : Int32) (x2 : Int32) (r0 : Int32) (H : Heap) (locs : List Loc) (g : JFrame) : Prop := W p l e (headSpec (.code yX8_ableOf cX8_ableOf 3 (some .int) :: T0) ({ frames := 0, cells := 0, slots := 0, locals := 0 } : Room)).room s m ([.ref (aa 0), .int x1, .int x2] : List Value).toArray below meth c H locs 0 0 (MQ below (tqQi G cA (fun (r : Int32) (_ : Unit) => r = r0) (fun (_ : Unit) => wM cA aa S L) A) ([.ref (aa 0), .int x1, .int x2] : List Value).toArray s 0 0 A) g
set_option maxHeartbeats 4000000 in
set_option maxRecDepth 100000 in
theorem c_X8_ableOf (l : Launch) (G : va_G) (cA : Nat → ClassId) (sz : Nat) (aa : Nat → Nat) (S : Tr) (L : Lo) (x1 : Int32) (x2 : Int32)  (r0 : Int32) (h : f_X8_ableOf S x1 x2 = some r0) : Met l yX8_ableOf (.code yX8_ableOf cX8_ableOf 3 (some .int) :: T0) ({ frames := 0, cells := 0, slots := 0, locals := 0 } : Room) (tqP G cA [.ref (aa 0), .int x1, .int x2] (wM cA aa S L) sz) (tqQi G cA (fun (r : Int32) (_ : Unit) => r = r0) (fun (_ : Unit) => wM cA aa S L) (va_A (wM cA aa S L) sz)) 0 0 (va_A (wM cA aa S L) sz) := by
  refine Met.ofW (cc := cX8_ableOf) (maxL := 3) (ret := (some .int)) (by decide) rfl ?_
  intro p e s m args below meth c s₁ B hml hv
  obtain ⟨rfl, hsz, hP, hK, hD0, hN⟩ := hv
  have hx := B.exec
  have hb := B.bytes
  have hr := B.returns
  have hts := atoms_spec (ws := .code yX8_ableOf cX8_ableOf 3 (some .int) :: T0) B.pre
  have hT : ∀ w ∈ T0, w.before _ s = true := fun w h => hts w (List.mem_cons_of_mem _ h)
  have hown : s.vm.findClass RX8 = some m.cls := findClass_of_methodNamed B.named
  have hlocks := B.notSynchronized
  subst hsz
  have hD := hD0.self (sz := s.heap.size)
  generalize hAe : va_A (wM cA aa S L) s.heap.size = A at hD ⊢
  have hA : ∀ q : Nat, s.heap.size ≤ q → A q := fun q h => by rw [← hAe]; exact Or.inr h
  have hS : va_S A s.heap s.heap [] := va_S.rf
  have hl := lv_entry ([.ref (aa 0), .int x1, .int x2]) (n := 3) (Nat.le_of_ble_eq_true rfl)
  rw [lg_entry_eq]
  generalize (lg_sl ([.ref (aa 0), .int x1, .int x2]) ++ List.replicate (3 - (lg_sl ([.ref (aa 0), .int x1, .int x2])).length) Slot.unset).toArray = ls at hl ⊢
  have hl : lv_has ls 3 [(0, .ref (aa 0)), (1, .int x1), (2, .int x2)] := hl
  have F : tF p s m ([.ref (aa 0), .int x1, .int x2] : List Value).toArray meth c G cA A RX8 cX8_ableOf 3 (some .int) := ⟨hx, hb, hr, hml, hT, hown, hlocks, hK, hN, hA⟩
  obtain ⟨H, hH⟩ : ∃ z, z = s.heap := ⟨_, rfl⟩
  rw [← hH] at hP
  have hS : va_S A s.heap H [] := by rw [hH]; exact hS
  suffices hgo : G_X8_ableOf p l e s m below meth c G cA A aa S L x1 x2 r0 H [] (F0 m 0 ls []) by rw [hH] at hgo; exact hgo
  generalize ([] : List Loc) = locs at hS ⊢
  unfold f_X8_ableOf at h
  refine lv_aload_n hx hb dX8_ableOf_0 rfl (lv_at hl 0 rfl) ?_
  refine va_get (D := G) (ci := 8) (v := .int (S 0 69)) (C := RX8) (T := TX8) (N := 91) hx hb hT ku_8 hown hK hP 0 rfl rfl 69 (by decide) (hT _ kw_13_7) (fun _ h9 => h9) rfl dX8_ableOf_1 ?_
  refine lv_if_eq (tgt := 12) hx hb dX8_ableOf_4 (by decide) (fun c1 => ?_) (fun c1 => ?_)
  · have h := tx_pos c1 h
    refine lv_aload_n hx hb dX8_ableOf_12 rfl (lv_at hl 0 rfl) ?_
    refine va_get (D := G) (ci := 8) (v := .ref (aa 58)) (C := RX8) (T := TX8) (N := 91) hx hb hT ku_8 hown hK hP 0 rfl rfl 57 (by decide) (hT _ kw_10_18) (fun _ h9 => h9) rfl dX8_ableOf_13 ?_
    refine lv_bipush (v := 6) hx hb dX8_ableOf_16 (by decide) ?_
    refine lv_iload_n hx hb dX8_ableOf_18 rfl (lv_at hl 1 rfl) ?_
    refine lv_imul hx hb dX8_ableOf_19 ?_
    refine lv_iload_n hx hb dX8_ableOf_20 rfl (lv_at hl 2 rfl) ?_
    refine lv_iadd hx hb dX8_ableOf_21 ?_
    obtain ⟨g2, h⟩ := tx_ck h
    refine va_iald (i := (((6 : Int32) * x1) + x2)) hx hb hK hP 32 0 rfl rfl (tx_in g2) dX8_ableOf_22 ?_
    obtain rfl := tx_1 h
    exact W.iret hx hb hr (fun t ht hW => ⟨⟨_, (), rfl, rfl, by rw [ht]; exact hP, hD⟩, hS.F ht⟩) hS.2.2 dX8_ableOf_23
  · have h := tx_neg c1 h
    refine lv_bipush (v := 99) hx hb dX8_ableOf_7 (by decide) ?_
    refine lv_goto (tgt := 23) hx hb dX8_ableOf_9 (by decide) ?_
    obtain rfl := tx_1 h
    exact W.iret hx hb hr (fun t ht hW => ⟨⟨_, (), rfl, rfl, by rw [ht]; exact hP, hD⟩, hS.F ht⟩) hS.2.2 dX8_ableOf_23
abbrev G_X8_stackAt (p : Program) (l : Launch) (e : Env) (s : State) (m : MethodId) (below : List Frame) (meth : Method) (c : Code) (G : va_G) (cA : Nat → ClassId) (A : Nat → Prop) (aa : Nat → Nat) (S : Tr) (L : Lo) (x1 : Int32) (x2 : Int32) (x3 : Int32) (r0 : Int32) (H : Heap) (locs : List Loc) (g : JFrame) : Prop := W p l e (headSpec (.code yX8_stackAt cX8_stackAt 4 (some .int) :: T0) ({ frames := 0, cells := 0, slots := 0, locals := 0 } : Room)).room s m ([.ref (aa 0), .int x1, .int x2, .int x3] : List Value).toArray below meth c H locs 0 0 (MQ below (tqQi G cA (fun (r : Int32) (_ : Unit) => r = r0) (fun (_ : Unit) => wM cA aa S L) A) ([.ref (aa 0), .int x1, .int x2, .int x3] : List Value).toArray s 0 0 A) g
set_option maxHeartbeats 4000000 in
set_option maxRecDepth 100000 in
theorem c_X8_stackAt (l : Launch) (G : va_G) (cA : Nat → ClassId) (sz : Nat) (aa : Nat → Nat) (S : Tr) (L : Lo) (x1 : Int32) (x2 : Int32) (x3 : Int32)  (r0 : Int32) (h : f_X8_stackAt S x1 x2 x3 = some r0) : Met l yX8_stackAt (.code yX8_stackAt cX8_stackAt 4 (some .int) :: T0) ({ frames := 0, cells := 0, slots := 0, locals := 0 } : Room) (tqP G cA [.ref (aa 0), .int x1, .int x2, .int x3] (wM cA aa S L) sz) (tqQi G cA (fun (r : Int32) (_ : Unit) => r = r0) (fun (_ : Unit) => wM cA aa S L) (va_A (wM cA aa S L) sz)) 0 0 (va_A (wM cA aa S L) sz) := by
  refine Met.ofW (cc := cX8_stackAt) (maxL := 4) (ret := (some .int)) (by decide) rfl ?_
  intro p e s m args below meth c s₁ B hml hv
  obtain ⟨rfl, hsz, hP, hK, hD0, hN⟩ := hv
  have hx := B.exec
  have hb := B.bytes
  have hr := B.returns
  have hts := atoms_spec (ws := .code yX8_stackAt cX8_stackAt 4 (some .int) :: T0) B.pre
  have hT : ∀ w ∈ T0, w.before _ s = true := fun w h => hts w (List.mem_cons_of_mem _ h)
  have hown : s.vm.findClass RX8 = some m.cls := findClass_of_methodNamed B.named
  have hlocks := B.notSynchronized
  subst hsz
  have hD := hD0.self (sz := s.heap.size)
  generalize hAe : va_A (wM cA aa S L) s.heap.size = A at hD ⊢
  have hA : ∀ q : Nat, s.heap.size ≤ q → A q := fun q h => by rw [← hAe]; exact Or.inr h
  have hS : va_S A s.heap s.heap [] := va_S.rf
  have hl := lv_entry ([.ref (aa 0), .int x1, .int x2, .int x3]) (n := 4) (Nat.le_of_ble_eq_true rfl)
  rw [lg_entry_eq]
  generalize (lg_sl ([.ref (aa 0), .int x1, .int x2, .int x3]) ++ List.replicate (4 - (lg_sl ([.ref (aa 0), .int x1, .int x2, .int x3])).length) Slot.unset).toArray = ls at hl ⊢
  have hl : lv_has ls 4 [(0, .ref (aa 0)), (1, .int x1), (2, .int x2), (3, .int x3)] := hl
  have F : tF p s m ([.ref (aa 0), .int x1, .int x2, .int x3] : List Value).toArray meth c G cA A RX8 cX8_stackAt 4 (some .int) := ⟨hx, hb, hr, hml, hT, hown, hlocks, hK, hN, hA⟩
  obtain ⟨H, hH⟩ : ∃ z, z = s.heap := ⟨_, rfl⟩
  rw [← hH] at hP
  have hS : va_S A s.heap H [] := by rw [hH]; exact hS
  suffices hgo : G_X8_stackAt p l e s m below meth c G cA A aa S L x1 x2 x3 r0 H [] (F0 m 0 ls []) by rw [hH] at hgo; exact hgo
  generalize ([] : List Loc) = locs at hS ⊢
  unfold f_X8_stackAt at h
  refine lv_aload_n hx hb dX8_stackAt_0 rfl (lv_at hl 0 rfl) ?_
  refine va_get (D := G) (ci := 8) (v := .ref (aa 55)) (C := RX8) (T := TX8) (N := 91) hx hb hT ku_8 hown hK hP 0 rfl rfl 54 (by decide) (hT _ kw_10_15) (fun _ h9 => h9) rfl dX8_stackAt_1 ?_
  refine lv_bipush (v := 50) hx hb dX8_stackAt_4 (by decide) ?_
  refine lv_iload_n hx hb dX8_stackAt_6 rfl (lv_at hl 1 rfl) ?_
  refine lv_imul hx hb dX8_stackAt_7 ?_
  refine lv_bipush (v := 10) hx hb dX8_stackAt_8 (by decide) ?_
  refine lv_iload_n hx hb dX8_stackAt_10 rfl (lv_at hl 2 rfl) ?_
  refine lv_imul hx hb dX8_stackAt_11 ?_
  refine lv_iadd hx hb dX8_stackAt_12 ?_
  refine lv_iload_n hx hb dX8_stackAt_13 rfl (lv_at hl 3 rfl) ?_
  refine lv_iadd hx hb dX8_stackAt_14 ?_
  obtain ⟨g1, h⟩ := tx_ck h
  refine va_iald (i := ((((50 : Int32) * x1) + ((10 : Int32) * x2)) + x3)) hx hb hK hP 29 0 rfl rfl (tx_in g1) dX8_stackAt_15 ?_
  obtain rfl := tx_1 h
  exact W.iret hx hb hr (fun t ht hW => ⟨⟨_, (), rfl, rfl, by rw [ht]; exact hP, hD⟩, hS.F ht⟩) hS.2.2 dX8_stackAt_16
abbrev G_X8_belowOf (p : Program) (l : Launch) (e : Env) (s : State) (m : MethodId) (below : List Frame) (meth : Method) (c : Code) (G : va_G) (cA : Nat → ClassId) (A : Nat → Prop) (aa : Nat → Nat) (S : Tr) (L : Lo) (x1 : Int32) (x2 : Int32) (r0 : Int32) (H : Heap) (locs : List Loc) (g : JFrame) : Prop := W p l e (headSpec (.code yX8_belowOf cX8_belowOf 4 (some .int) :: T0) ({ frames := 1, cells := 0, slots := 0, locals := 23 } : Room)).room s m ([.ref (aa 0), .int x1, .int x2] : List Value).toArray below meth c H locs 0 0 (MQ below (tqQi G cA (fun (r : Int32) (_ : Unit) => r = r0) (fun (_ : Unit) => wM cA aa S L) A) ([.ref (aa 0), .int x1, .int x2] : List Value).toArray s 0 0 A) g
set_option maxHeartbeats 4000000 in
set_option maxRecDepth 100000 in
theorem w_X8_belowOf_L2 {p : Program} {l : Launch} {e : Env} {s : State} {m : MethodId} {below : List Frame} {meth : Method} {c : Code} {G : va_G} {cA : Nat → ClassId} {A : Nat → Prop} {aa : Nat → Nat} {S : Tr} {L : Lo} {x1₀ : Int32} {x2₀ : Int32} {r0 : Int32} {x1 : Int32} {x2 : Int32} (F : tF p s m ([.ref (aa 0), .int x1₀, .int x2₀] : List Value).toArray meth c G cA A RX8 cX8_belowOf 4 (some .int))    (N : Nat) : ∀ (x3 : Int32) (H : Heap) (locs : List Loc) (ls : Array Slot), lpF (fun _ => none) (fB_X8_belowOf_L2 S x1 x2) N x3 = some r0 → va_P G vwCl (wM cA aa S L) H → va_D A (wM cA aa S L) → va_S A s.heap H locs → lv_has ls 4 [(0, .ref (aa 0)), (1, .int x1), (2, .int x2), (3, .int x3)] → G_X8_belowOf p l e s m below meth c G cA A aa S L x1₀ x2₀ r0 H locs (F0 m 2 ls []) := by
  obtain ⟨hx, hb, hr, hml, hT, hown, hlocks, hK, hN, hA⟩ := id F
  induction N with
  | zero =>
    intro x3 H locs ls h
    have h : (none : Option (Int32)) = some r0 := h
    cases h
  | succ N hk2 =>
    intro x3 H locs ls h hP hD hS hl
    have h : fB_X8_belowOf_L2 S x1 x2 (lpF (fun _ => none) (fB_X8_belowOf_L2 S x1 x2) N) x3 = some r0 := h
    generalize hk2e : lpF (fun _ => none) (fB_X8_belowOf_L2 S x1 x2) N = k2 at h hk2
    unfold fB_X8_belowOf_L2 at h
    refine lv_aload_n hx hb dX8_belowOf_2 rfl (lv_at hl 0 rfl) ?_
    refine lv_iload_n hx hb dX8_belowOf_3 rfl (lv_at hl 1 rfl) ?_
    refine lv_aload_n hx hb dX8_belowOf_4 rfl (lv_at hl 0 rfl) ?_
    refine va_get (D := G) (ci := 8) (v := .ref (aa 54)) (C := RX8) (T := TX8) (N := 91) hx hb hT ku_8 hown hK hP 0 rfl rfl 53 (by decide) (hT _ kw_10_14) (fun _ h9 => h9) rfl dX8_belowOf_5 ?_
    refine lv_bipush (v := 10) hx hb dX8_belowOf_8 (by decide) ?_
    refine lv_iload_n hx hb dX8_belowOf_10 rfl (lv_at hl 1 rfl) ?_
    refine lv_imul hx hb dX8_belowOf_11 ?_
    refine lv_iload_n hx hb dX8_belowOf_12 rfl (lv_at hl 2 rfl) ?_
    refine lv_iadd hx hb dX8_belowOf_13 ?_
    obtain ⟨g1, h⟩ := tx_ck h
    refine va_iald (i := (((10 : Int32) * x1) + x2)) hx hb hK hP 28 0 rfl rfl (tx_in g1) dX8_belowOf_14 ?_
    refine lv_iload_n hx hb dX8_belowOf_15 rfl (lv_at hl 3 rfl) ?_
    obtain ⟨r2, hc3, h⟩ := tx_bd h
    refine tw_ci tw_all hP hD hS hA (va_runV (As := [.int x1, .int (S 54 (((10 : Int32) * x1) + x2).toNatClampNeg), .int x3]) (rest := []) ⟨hx, hb, hml, hown, hT⟩ (c_X8_stackAt l G cA H.size aa S L x1 (S 54 (((10 : Int32) * x1) + x2).toNatClampNeg) x3  r2 hc3) (cwV 3 hT (tq_gV kw_31_10 kw_31_11 kw_31_12 kw_1_5 kw_31_13) rfl rfl rfl (by decide +kernel) ⟨Nat.le_of_ble_eq_true rfl, Nat.le_of_ble_eq_true rfl⟩) ⟨(tw_pre tw_all hP hD hK hN).1, va_recv hK hP (ci := 8) (q0 := 0) rfl rfl, (tw_pre tw_all hP hD hK hN).2⟩ rfl rfl hl.1 rfl (lv_room (Nat.le_of_ble_eq_true rfl)) dX8_belowOf_16 ⟨Nat.le_of_ble_eq_true rfl, Nat.le_of_ble_eq_true rfl⟩) (fun _ _ H locs z4 hP hD hS => ?_)
    subst z4
    rw [List.append_nil] at hP hD
    have hP : va_P G vwCl (wM cA aa S L) H := hP
    have hD : va_D A (wM cA aa S L) := hD
    refine lv_iload_n hx hb dX8_belowOf_19 rfl (lv_at hl 2 rfl) ?_
    refine lv_icmp_eq (tgt := 29) hx hb dX8_belowOf_20 (by decide) (fun c5 => ?_) (fun c5 => ?_)
    · have h := tx_pos c5 h
      refine lv_iload_n hx hb dX8_belowOf_29 rfl (lv_at hl 3 rfl) ?_
      obtain rfl := tx_1 h
      exact W.iret hx hb hr (fun t ht hW => ⟨⟨_, (), rfl, rfl, by rw [ht]; exact hP, hD⟩, hS.F ht⟩) hS.2.2 dX8_belowOf_30
    · have h := tx_neg c5 h
      obtain ⟨y6, ey6, h⟩ := tx_lt h
      refine lv_iinc (v := y6) (lv' := [(3, .int y6), (0, .ref (aa 0)), (1, .int x1), (2, .int x2)]) hx hb dX8_belowOf_23 hl (k := 3) rfl ey6 (by decide) rfl (fun ls hl => ?_)
      refine lv_goto (tgt := 2) hx hb dX8_belowOf_26 (by decide) ?_
      exact hk2 y6 H locs ls h hP hD hS (lv_sub hl [1, 2, 3, 0] rfl)
set_option maxHeartbeats 4000000 in
set_option maxRecDepth 100000 in
theorem c_X8_belowOf (l : Launch) (G : va_G) (cA : Nat → ClassId) (sz : Nat) (aa : Nat → Nat) (S : Tr) (L : Lo) (x1 : Int32) (x2 : Int32)  (r0 : Int32) (h : f_X8_belowOf S x1 x2 = some r0) : Met l yX8_belowOf (.code yX8_belowOf cX8_belowOf 4 (some .int) :: T0) ({ frames := 1, cells := 0, slots := 0, locals := 23 } : Room) (tqP G cA [.ref (aa 0), .int x1, .int x2] (wM cA aa S L) sz) (tqQi G cA (fun (r : Int32) (_ : Unit) => r = r0) (fun (_ : Unit) => wM cA aa S L) (va_A (wM cA aa S L) sz)) 0 0 (va_A (wM cA aa S L) sz) := by
  refine Met.ofW (cc := cX8_belowOf) (maxL := 4) (ret := (some .int)) (by decide) rfl ?_
  intro p e s m args below meth c s₁ B hml hv
  obtain ⟨rfl, hsz, hP, hK, hD0, hN⟩ := hv
  have hx := B.exec
  have hb := B.bytes
  have hr := B.returns
  have hts := atoms_spec (ws := .code yX8_belowOf cX8_belowOf 4 (some .int) :: T0) B.pre
  have hT : ∀ w ∈ T0, w.before _ s = true := fun w h => hts w (List.mem_cons_of_mem _ h)
  have hown : s.vm.findClass RX8 = some m.cls := findClass_of_methodNamed B.named
  have hlocks := B.notSynchronized
  subst hsz
  have hD := hD0.self (sz := s.heap.size)
  generalize hAe : va_A (wM cA aa S L) s.heap.size = A at hD ⊢
  have hA : ∀ q : Nat, s.heap.size ≤ q → A q := fun q h => by rw [← hAe]; exact Or.inr h
  have hS : va_S A s.heap s.heap [] := va_S.rf
  have hl := lv_entry ([.ref (aa 0), .int x1, .int x2]) (n := 4) (Nat.le_of_ble_eq_true rfl)
  rw [lg_entry_eq]
  generalize (lg_sl ([.ref (aa 0), .int x1, .int x2]) ++ List.replicate (4 - (lg_sl ([.ref (aa 0), .int x1, .int x2])).length) Slot.unset).toArray = ls at hl ⊢
  have hl : lv_has ls 4 [(0, .ref (aa 0)), (1, .int x1), (2, .int x2)] := hl
  have F : tF p s m ([.ref (aa 0), .int x1, .int x2] : List Value).toArray meth c G cA A RX8 cX8_belowOf 4 (some .int) := ⟨hx, hb, hr, hml, hT, hown, hlocks, hK, hN, hA⟩
  obtain ⟨H, hH⟩ : ∃ z, z = s.heap := ⟨_, rfl⟩
  rw [← hH] at hP
  have hS : va_S A s.heap H [] := by rw [hH]; exact hS
  suffices hgo : G_X8_belowOf p l e s m below meth c G cA A aa S L x1 x2 r0 H [] (F0 m 0 ls []) by rw [hH] at hgo; exact hgo
  generalize ([] : List Loc) = locs at hS ⊢
  unfold f_X8_belowOf at h
  refine lv_iconst (v := 0) hx hb dX8_belowOf_0 (by decide) ?_
  refine lv_istore_n (lv' := [(3, .int 0), (0, .ref (aa 0)), (1, .int x1), (2, .int x2)]) hx hb dX8_belowOf_1 rfl hl (by decide) rfl (fun ls hl => ?_)
  exact w_X8_belowOf_L2 F 2000 0 H locs ls h hP hD hS (lv_sub hl [1, 2, 3, 0] rfl)
abbrev G_X8_aboveOf (p : Program) (l : Launch) (e : Env) (s : State) (m : MethodId) (below : List Frame) (meth : Method) (c : Code) (G : va_G) (cA : Nat → ClassId) (A : Nat → Prop) (aa : Nat → Nat) (S : Tr) (L : Lo) (x1 : Int32) (x2 : Int32) (r0 : Int32) (H : Heap) (locs : List Loc) (g : JFrame) : Prop := W p l e (headSpec (.code yX8_aboveOf cX8_aboveOf 3 (some .int) :: T0) ({ frames := 2, cells := 0, slots := 0, locals := 46 } : Room)).room s m ([.ref (aa 0), .int x1, .int x2] : List Value).toArray below meth c H locs 0 0 (MQ below (tqQi G cA (fun (r : Int32) (_ : Unit) => r = r0) (fun (_ : Unit) => wM cA aa S L) A) ([.ref (aa 0), .int x1, .int x2] : List Value).toArray s 0 0 A) g
set_option maxHeartbeats 4000000 in
set_option maxRecDepth 100000 in
theorem c_X8_aboveOf (l : Launch) (G : va_G) (cA : Nat → ClassId) (sz : Nat) (aa : Nat → Nat) (S : Tr) (L : Lo) (x1 : Int32) (x2 : Int32)  (r0 : Int32) (h : f_X8_aboveOf S x1 x2 = some r0) : Met l yX8_aboveOf (.code yX8_aboveOf cX8_aboveOf 3 (some .int) :: T0) ({ frames := 2, cells := 0, slots := 0, locals := 46 } : Room) (tqP G cA [.ref (aa 0), .int x1, .int x2] (wM cA aa S L) sz) (tqQi G cA (fun (r : Int32) (_ : Unit) => r = r0) (fun (_ : Unit) => wM cA aa S L) (va_A (wM cA aa S L) sz)) 0 0 (va_A (wM cA aa S L) sz) := by
  refine Met.ofW (cc := cX8_aboveOf) (maxL := 3) (ret := (some .int)) (by decide) rfl ?_
  intro p e s m args below meth c s₁ B hml hv
  obtain ⟨rfl, hsz, hP, hK, hD0, hN⟩ := hv
  have hx := B.exec
  have hb := B.bytes
  have hr := B.returns
  have hts := atoms_spec (ws := .code yX8_aboveOf cX8_aboveOf 3 (some .int) :: T0) B.pre
  have hT : ∀ w ∈ T0, w.before _ s = true := fun w h => hts w (List.mem_cons_of_mem _ h)
  have hown : s.vm.findClass RX8 = some m.cls := findClass_of_methodNamed B.named
  have hlocks := B.notSynchronized
  subst hsz
  have hD := hD0.self (sz := s.heap.size)
  generalize hAe : va_A (wM cA aa S L) s.heap.size = A at hD ⊢
  have hA : ∀ q : Nat, s.heap.size ≤ q → A q := fun q h => by rw [← hAe]; exact Or.inr h
  have hS : va_S A s.heap s.heap [] := va_S.rf
  have hl := lv_entry ([.ref (aa 0), .int x1, .int x2]) (n := 3) (Nat.le_of_ble_eq_true rfl)
  rw [lg_entry_eq]
  generalize (lg_sl ([.ref (aa 0), .int x1, .int x2]) ++ List.replicate (3 - (lg_sl ([.ref (aa 0), .int x1, .int x2])).length) Slot.unset).toArray = ls at hl ⊢
  have hl : lv_has ls 3 [(0, .ref (aa 0)), (1, .int x1), (2, .int x2)] := hl
  have F : tF p s m ([.ref (aa 0), .int x1, .int x2] : List Value).toArray meth c G cA A RX8 cX8_aboveOf 3 (some .int) := ⟨hx, hb, hr, hml, hT, hown, hlocks, hK, hN, hA⟩
  obtain ⟨H, hH⟩ : ∃ z, z = s.heap := ⟨_, rfl⟩
  rw [← hH] at hP
  have hS : va_S A s.heap H [] := by rw [hH]; exact hS
  suffices hgo : G_X8_aboveOf p l e s m below meth c G cA A aa S L x1 x2 r0 H [] (F0 m 0 ls []) by rw [hH] at hgo; exact hgo
  generalize ([] : List Loc) = locs at hS ⊢
  unfold f_X8_aboveOf at h
  refine lv_aload_n hx hb dX8_aboveOf_0 rfl (lv_at hl 0 rfl) ?_
  refine va_get (D := G) (ci := 8) (v := .ref (aa 54)) (C := RX8) (T := TX8) (N := 91) hx hb hT ku_8 hown hK hP 0 rfl rfl 53 (by decide) (hT _ kw_10_14) (fun _ h9 => h9) rfl dX8_aboveOf_1 ?_
  refine lv_bipush (v := 10) hx hb dX8_aboveOf_4 (by decide) ?_
  refine lv_iload_n hx hb dX8_aboveOf_6 rfl (lv_at hl 1 rfl) ?_
  refine lv_imul hx hb dX8_aboveOf_7 ?_
  refine lv_iload_n hx hb dX8_aboveOf_8 rfl (lv_at hl 2 rfl) ?_
  refine lv_iadd hx hb dX8_aboveOf_9 ?_
  obtain ⟨g1, h⟩ := tx_ck h
  refine va_iald (i := (((10 : Int32) * x1) + x2)) hx hb hK hP 28 0 rfl rfl (tx_in g1) dX8_aboveOf_10 ?_
  refine lv_if_ge (tgt := 18) hx hb dX8_aboveOf_11 (by decide) (fun c2 => ?_) (fun c2 => ?_)
  · have h := tx_pos c2 h
    refine lv_aload_n hx hb dX8_aboveOf_18 rfl (lv_at hl 0 rfl) ?_
    refine va_get (D := G) (ci := 8) (v := .ref (aa 56)) (C := RX8) (T := TX8) (N := 91) hx hb hT ku_8 hown hK hP 0 rfl rfl 55 (by decide) (hT _ kw_10_16) (fun _ h9 => h9) rfl dX8_aboveOf_19 ?_
    refine lv_iconst (v := 5) hx hb dX8_aboveOf_22 (by decide) ?_
    refine lv_iload_n hx hb dX8_aboveOf_23 rfl (lv_at hl 1 rfl) ?_
    refine lv_imul hx hb dX8_aboveOf_24 ?_
    refine lv_aload_n hx hb dX8_aboveOf_25 rfl (lv_at hl 0 rfl) ?_
    refine va_get (D := G) (ci := 8) (v := .ref (aa 54)) (C := RX8) (T := TX8) (N := 91) hx hb hT ku_8 hown hK hP 0 rfl rfl 53 (by decide) (hT _ kw_10_14) (fun _ h9 => h9) rfl dX8_aboveOf_26 ?_
    refine lv_bipush (v := 10) hx hb dX8_aboveOf_29 (by decide) ?_
    refine lv_iload_n hx hb dX8_aboveOf_31 rfl (lv_at hl 1 rfl) ?_
    refine lv_imul hx hb dX8_aboveOf_32 ?_
    refine lv_iload_n hx hb dX8_aboveOf_33 rfl (lv_at hl 2 rfl) ?_
    refine lv_iadd hx hb dX8_aboveOf_34 ?_
    refine va_iald (i := (((10 : Int32) * x1) + x2)) hx hb hK hP 28 0 rfl rfl (tx_in g1) dX8_aboveOf_35 ?_
    refine lv_iadd hx hb dX8_aboveOf_36 ?_
    obtain ⟨g3, h⟩ := tx_ck h
    refine va_iald (i := (((5 : Int32) * x1) + (S 54 (((10 : Int32) * x1) + x2).toNatClampNeg))) hx hb hK hP 30 0 rfl rfl (tx_in g3) dX8_aboveOf_37 ?_
    refine lv_iconst (v := 1) hx hb dX8_aboveOf_38 (by decide) ?_
    refine lv_isub hx hb dX8_aboveOf_39 ?_
    refine lv_aload_n hx hb dX8_aboveOf_40 rfl (lv_at hl 0 rfl) ?_
    refine lv_iload_n hx hb dX8_aboveOf_41 rfl (lv_at hl 1 rfl) ?_
    refine lv_iload_n hx hb dX8_aboveOf_42 rfl (lv_at hl 2 rfl) ?_
    obtain ⟨r4, hc5, h⟩ := tx_bd h
    refine tw_ci tw_all hP hD hS hA (va_runV (As := [.int x1, .int x2]) (rest := [.int ((S 56 (((5 : Int32) * x1) + (S 54 (((10 : Int32) * x1) + x2).toNatClampNeg)).toNatClampNeg) - 1)]) ⟨hx, hb, hml, hown, hT⟩ (c_X8_belowOf l G cA H.size aa S L x1 x2  r4 hc5) (cwV 2 hT (tq_gV kw_31_6 kw_31_7 kw_31_8 kw_1_5 kw_31_9) rfl rfl rfl (by decide +kernel) ⟨Nat.le_of_ble_eq_true rfl, Nat.le_of_ble_eq_true rfl⟩) ⟨(tw_pre tw_all hP hD hK hN).1, va_recv hK hP (ci := 8) (q0 := 0) rfl rfl, (tw_pre tw_all hP hD hK hN).2⟩ rfl rfl hl.1 rfl (lv_room (Nat.le_of_ble_eq_true rfl)) dX8_aboveOf_43 ⟨Nat.le_of_ble_eq_true rfl, Nat.le_of_ble_eq_true rfl⟩) (fun _ _ H locs z6 hP hD hS => ?_)
    subst z6
    rw [List.append_nil] at hP hD
    have hP : va_P G vwCl (wM cA aa S L) H := hP
    have hD : va_D A (wM cA aa S L) := hD
    refine lv_isub hx hb dX8_aboveOf_46 ?_
    obtain rfl := tx_1 h
    exact W.iret hx hb hr (fun t ht hW => ⟨⟨_, (), rfl, rfl, by rw [ht]; exact hP, hD⟩, hS.F ht⟩) hS.2.2 dX8_aboveOf_47
  · have h := tx_neg c2 h
    refine lv_iconst (v := 0) hx hb dX8_aboveOf_14 (by decide) ?_
    refine lv_goto (tgt := 47) hx hb dX8_aboveOf_15 (by decide) ?_
    obtain rfl := tx_1 h
    exact W.iret hx hb hr (fun t ht hW => ⟨⟨_, (), rfl, rfl, by rw [ht]; exact hP, hD⟩, hS.F ht⟩) hS.2.2 dX8_aboveOf_47
abbrev G_X8_isPiece (p : Program) (l : Launch) (e : Env) (s : State) (m : MethodId) (below : List Frame) (meth : Method) (c : Code) (G : va_G) (cA : Nat → ClassId) (A : Nat → Prop) (aa : Nat → Nat) (S : Tr) (L : Lo) (x1 : Int32) (r0 : Int32) (H : Heap) (locs : List Loc) (g : JFrame) : Prop := W p l e (headSpec (.code yX8_isPiece cX8_isPiece 2 (some .boolean) :: T0) ({ frames := 0, cells := 0, slots := 0, locals := 0 } : Room)).room s m ([.ref (aa 0), .int x1] : List Value).toArray below meth c H locs 0 0 (MQ below (tqQi G cA (fun (r : Int32) (_ : Unit) => r = r0) (fun (_ : Unit) => wM cA aa S L) A) ([.ref (aa 0), .int x1] : List Value).toArray s 0 0 A) g
set_option maxHeartbeats 4000000 in
set_option maxRecDepth 100000 in
theorem c_X8_isPiece (l : Launch) (G : va_G) (cA : Nat → ClassId) (sz : Nat) (aa : Nat → Nat) (S : Tr) (L : Lo) (x1 : Int32)  (r0 : Int32) (h : f_X8_isPiece S x1 = some r0) : Met l yX8_isPiece (.code yX8_isPiece cX8_isPiece 2 (some .boolean) :: T0) ({ frames := 0, cells := 0, slots := 0, locals := 0 } : Room) (tqP G cA [.ref (aa 0), .int x1] (wM cA aa S L) sz) (tqQi G cA (fun (r : Int32) (_ : Unit) => r = r0) (fun (_ : Unit) => wM cA aa S L) (va_A (wM cA aa S L) sz)) 0 0 (va_A (wM cA aa S L) sz) := by
  refine Met.ofW (cc := cX8_isPiece) (maxL := 2) (ret := (some .boolean)) (by decide) rfl ?_
  intro p e s m args below meth c s₁ B hml hv
  obtain ⟨rfl, hsz, hP, hK, hD0, hN⟩ := hv
  have hx := B.exec
  have hb := B.bytes
  have hr := B.returns
  have hts := atoms_spec (ws := .code yX8_isPiece cX8_isPiece 2 (some .boolean) :: T0) B.pre
  have hT : ∀ w ∈ T0, w.before _ s = true := fun w h => hts w (List.mem_cons_of_mem _ h)
  have hown : s.vm.findClass RX8 = some m.cls := findClass_of_methodNamed B.named
  have hlocks := B.notSynchronized
  subst hsz
  have hD := hD0.self (sz := s.heap.size)
  generalize hAe : va_A (wM cA aa S L) s.heap.size = A at hD ⊢
  have hA : ∀ q : Nat, s.heap.size ≤ q → A q := fun q h => by rw [← hAe]; exact Or.inr h
  have hS : va_S A s.heap s.heap [] := va_S.rf
  have hl := lv_entry ([.ref (aa 0), .int x1]) (n := 2) (Nat.le_of_ble_eq_true rfl)
  rw [lg_entry_eq]
  generalize (lg_sl ([.ref (aa 0), .int x1]) ++ List.replicate (2 - (lg_sl ([.ref (aa 0), .int x1])).length) Slot.unset).toArray = ls at hl ⊢
  have hl : lv_has ls 2 [(0, .ref (aa 0)), (1, .int x1)] := hl
  have F : tF p s m ([.ref (aa 0), .int x1] : List Value).toArray meth c G cA A RX8 cX8_isPiece 2 (some .boolean) := ⟨hx, hb, hr, hml, hT, hown, hlocks, hK, hN, hA⟩
  obtain ⟨H, hH⟩ : ∃ z, z = s.heap := ⟨_, rfl⟩
  rw [← hH] at hP
  have hS : va_S A s.heap H [] := by rw [hH]; exact hS
  suffices hgo : G_X8_isPiece p l e s m below meth c G cA A aa S L x1 r0 H [] (F0 m 0 ls []) by rw [hH] at hgo; exact hgo
  generalize ([] : List Loc) = locs at hS ⊢
  unfold f_X8_isPiece at h
  refine lv_iload_n hx hb dX8_isPiece_0 rfl (lv_at hl 1 rfl) ?_
  refine lv_if_lt (tgt := 16) hx hb dX8_isPiece_1 (by decide) (fun c1 => ?_) (fun c1 => ?_)
  · have h := tx_pos c1 h
    refine lv_iconst (v := 0) hx hb dX8_isPiece_16 (by decide) ?_
    obtain rfl := tx_1 h
    exact W.zret (ty := .boolean) hx hb hr rfl (fun t ht hW => ⟨⟨_, (), rfl, rfl, by rw [ht]; exact hP, hD⟩, hS.F ht⟩) hS.2.2 dX8_isPiece_17
  · have h := tx_neg c1 h
    refine lv_iload_n hx hb dX8_isPiece_4 rfl (lv_at hl 1 rfl) ?_
    refine lv_aload_n hx hb dX8_isPiece_5 rfl (lv_at hl 0 rfl) ?_
    refine va_get (D := G) (ci := 8) (v := .int (S 0 14)) (C := RX8) (T := TX8) (N := 91) hx hb hT ku_8 hown hK hP 0 rfl rfl 14 (by decide) (hT _ kw_12_5) (fun _ h9 => h9) rfl dX8_isPiece_6 ?_
    refine lv_icmp_ge (tgt := 16) hx hb dX8_isPiece_9 (by decide) (fun c2 => ?_) (fun c2 => ?_)
    · have h := tx_pos c2 h
      refine lv_iconst (v := 0) hx hb dX8_isPiece_16 (by decide) ?_
      obtain rfl := tx_1 h
      exact W.zret (ty := .boolean) hx hb hr rfl (fun t ht hW => ⟨⟨_, (), rfl, rfl, by rw [ht]; exact hP, hD⟩, hS.F ht⟩) hS.2.2 dX8_isPiece_17
    · have h := tx_neg c2 h
      refine lv_iconst (v := 1) hx hb dX8_isPiece_12 (by decide) ?_
      refine lv_goto (tgt := 17) hx hb dX8_isPiece_13 (by decide) ?_
      obtain rfl := tx_1 h
      exact W.zret (ty := .boolean) hx hb hr rfl (fun t ht hW => ⟨⟨_, (), rfl, rfl, by rw [ht]; exact hP, hD⟩, hS.F ht⟩) hS.2.2 dX8_isPiece_17
abbrev G_X8_isComing (p : Program) (l : Launch) (e : Env) (s : State) (m : MethodId) (below : List Frame) (meth : Method) (c : Code) (G : va_G) (cA : Nat → ClassId) (A : Nat → Prop) (aa : Nat → Nat) (S : Tr) (L : Lo) (x1 : Int32) (r0 : Int32) (H : Heap) (locs : List Loc) (g : JFrame) : Prop := W p l e (headSpec (.code yX8_isComing cX8_isComing 2 (some .boolean) :: T0) ({ frames := 0, cells := 0, slots := 0, locals := 0 } : Room)).room s m ([.ref (aa 0), .int x1] : List Value).toArray below meth c H locs 0 0 (MQ below (tqQi G cA (fun (r : Int32) (_ : Unit) => r = r0) (fun (_ : Unit) => wM cA aa S L) A) ([.ref (aa 0), .int x1] : List Value).toArray s 0 0 A) g
set_option maxHeartbeats 4000000 in
set_option maxRecDepth 100000 in
theorem c_X8_isComing (l : Launch) (G : va_G) (cA : Nat → ClassId) (sz : Nat) (aa : Nat → Nat) (S : Tr) (L : Lo) (x1 : Int32)  (r0 : Int32) (h : f_X8_isComing S x1 = some r0) : Met l yX8_isComing (.code yX8_isComing cX8_isComing 2 (some .boolean) :: T0) ({ frames := 0, cells := 0, slots := 0, locals := 0 } : Room) (tqP G cA [.ref (aa 0), .int x1] (wM cA aa S L) sz) (tqQi G cA (fun (r : Int32) (_ : Unit) => r = r0) (fun (_ : Unit) => wM cA aa S L) (va_A (wM cA aa S L) sz)) 0 0 (va_A (wM cA aa S L) sz) := by
  refine Met.ofW (cc := cX8_isComing) (maxL := 2) (ret := (some .boolean)) (by decide) rfl ?_
  intro p e s m args below meth c s₁ B hml hv
  obtain ⟨rfl, hsz, hP, hK, hD0, hN⟩ := hv
  have hx := B.exec
  have hb := B.bytes
  have hr := B.returns
  have hts := atoms_spec (ws := .code yX8_isComing cX8_isComing 2 (some .boolean) :: T0) B.pre
  have hT : ∀ w ∈ T0, w.before _ s = true := fun w h => hts w (List.mem_cons_of_mem _ h)
  have hown : s.vm.findClass RX8 = some m.cls := findClass_of_methodNamed B.named
  have hlocks := B.notSynchronized
  subst hsz
  have hD := hD0.self (sz := s.heap.size)
  generalize hAe : va_A (wM cA aa S L) s.heap.size = A at hD ⊢
  have hA : ∀ q : Nat, s.heap.size ≤ q → A q := fun q h => by rw [← hAe]; exact Or.inr h
  have hS : va_S A s.heap s.heap [] := va_S.rf
  have hl := lv_entry ([.ref (aa 0), .int x1]) (n := 2) (Nat.le_of_ble_eq_true rfl)
  rw [lg_entry_eq]
  generalize (lg_sl ([.ref (aa 0), .int x1]) ++ List.replicate (2 - (lg_sl ([.ref (aa 0), .int x1])).length) Slot.unset).toArray = ls at hl ⊢
  have hl : lv_has ls 2 [(0, .ref (aa 0)), (1, .int x1)] := hl
  have F : tF p s m ([.ref (aa 0), .int x1] : List Value).toArray meth c G cA A RX8 cX8_isComing 2 (some .boolean) := ⟨hx, hb, hr, hml, hT, hown, hlocks, hK, hN, hA⟩
  obtain ⟨H, hH⟩ : ∃ z, z = s.heap := ⟨_, rfl⟩
  rw [← hH] at hP
  have hS : va_S A s.heap H [] := by rw [hH]; exact hS
  suffices hgo : G_X8_isComing p l e s m below meth c G cA A aa S L x1 r0 H [] (F0 m 0 ls []) by rw [hH] at hgo; exact hgo
  generalize ([] : List Loc) = locs at hS ⊢
  unfold f_X8_isComing at h
  refine lv_aload_n hx hb dX8_isComing_0 rfl (lv_at hl 0 rfl) ?_
  refine va_get (D := G) (ci := 8) (v := .ref (aa 53)) (C := RX8) (T := TX8) (N := 91) hx hb hT ku_8 hown hK hP 0 rfl rfl 52 (by decide) (hT _ kw_10_13) (fun _ h9 => h9) rfl dX8_isComing_1 ?_
  refine lv_iload_n hx hb dX8_isComing_4 rfl (lv_at hl 1 rfl) ?_
  obtain ⟨g1, h⟩ := tx_ck h
  refine va_iald (i := x1) hx hb hK hP 27 0 rfl rfl (tx_in g1) dX8_isComing_5 ?_
  refine lv_if_ne (tgt := 47) hx hb dX8_isComing_6 (by decide) (fun c2 => ?_) (fun c2 => ?_)
  · have h := tx_neg c2 h
    refine lv_iconst (v := 0) hx hb dX8_isComing_47 (by decide) ?_
    obtain rfl := tx_1 h
    exact W.zret (ty := .boolean) hx hb hr rfl (fun t ht hW => ⟨⟨_, (), rfl, rfl, by rw [ht]; exact hP, hD⟩, hS.F ht⟩) hS.2.2 dX8_isComing_48
  · have h := tx_pos c2 h
    refine lv_aload_n hx hb dX8_isComing_9 rfl (lv_at hl 0 rfl) ?_
    refine va_get (D := G) (ci := 8) (v := .ref (aa 57)) (C := RX8) (T := TX8) (N := 91) hx hb hT ku_8 hown hK hP 0 rfl rfl 56 (by decide) (hT _ kw_10_17) (fun _ h9 => h9) rfl dX8_isComing_10 ?_
    refine lv_aload_n hx hb dX8_isComing_13 rfl (lv_at hl 0 rfl) ?_
    refine va_get (D := G) (ci := 8) (v := .ref (aa 30)) (C := RX8) (T := TX8) (N := 91) hx hb hT ku_8 hown hK hP 0 rfl rfl 29 (by decide) (hT _ kw_9_21) (fun _ h9 => h9) rfl dX8_isComing_14 ?_
    refine lv_iload_n hx hb dX8_isComing_17 rfl (lv_at hl 1 rfl) ?_
    refine va_iald (i := x1) hx hb hK hP 11 0 rfl rfl (tx_in g1) dX8_isComing_18 ?_
    obtain ⟨g3, h⟩ := tx_ck h
    refine va_iald (i := (S 30 x1.toNatClampNeg)) hx hb hK hP 31 0 rfl rfl (tx_in g3) dX8_isComing_19 ?_
    refine lv_aload_n hx hb dX8_isComing_20 rfl (lv_at hl 0 rfl) ?_
    refine va_get (D := G) (ci := 8) (v := .ref (aa 62)) (C := RX8) (T := TX8) (N := 91) hx hb hT ku_8 hown hK hP 0 rfl rfl 61 (by decide) (hT _ kw_10_22) (fun _ h9 => h9) rfl dX8_isComing_21 ?_
    refine lv_iconst (v := 0) hx hb dX8_isComing_24 (by decide) ?_
    refine va_iald (i := 0) hx hb hK hP 36 0 rfl rfl (tq_in (by decide)) dX8_isComing_25 ?_
    refine tq_i (w := (S 62 0)) rfl ?_
    refine lv_icmp_ne (tgt := 47) hx hb dX8_isComing_26 (by decide) (fun c4 => ?_) (fun c4 => ?_)
    · have h := tx_neg c4 h
      refine lv_iconst (v := 0) hx hb dX8_isComing_47 (by decide) ?_
      obtain rfl := tx_1 h
      exact W.zret (ty := .boolean) hx hb hr rfl (fun t ht hW => ⟨⟨_, (), rfl, rfl, by rw [ht]; exact hP, hD⟩, hS.F ht⟩) hS.2.2 dX8_isComing_48
    · have h := tx_pos c4 h
      refine lv_aload_n hx hb dX8_isComing_29 rfl (lv_at hl 0 rfl) ?_
      refine va_get (D := G) (ci := 8) (v := .ref (aa 59)) (C := RX8) (T := TX8) (N := 91) hx hb hT ku_8 hown hK hP 0 rfl rfl 58 (by decide) (hT _ kw_10_19) (fun _ h9 => h9) rfl dX8_isComing_30 ?_
      refine lv_aload_n hx hb dX8_isComing_33 rfl (lv_at hl 0 rfl) ?_
      refine va_get (D := G) (ci := 8) (v := .ref (aa 30)) (C := RX8) (T := TX8) (N := 91) hx hb hT ku_8 hown hK hP 0 rfl rfl 29 (by decide) (hT _ kw_9_21) (fun _ h9 => h9) rfl dX8_isComing_34 ?_
      refine lv_iload_n hx hb dX8_isComing_37 rfl (lv_at hl 1 rfl) ?_
      refine va_iald (i := x1) hx hb hK hP 11 0 rfl rfl (tx_in g1) dX8_isComing_38 ?_
      refine va_iald (i := (S 30 x1.toNatClampNeg)) hx hb hK hP 33 0 rfl rfl (tx_in g3) dX8_isComing_39 ?_
      refine lv_if_ne (tgt := 47) hx hb dX8_isComing_40 (by decide) (fun c5 => ?_) (fun c5 => ?_)
      · have h := tx_neg c5 h
        refine lv_iconst (v := 0) hx hb dX8_isComing_47 (by decide) ?_
        obtain rfl := tx_1 h
        exact W.zret (ty := .boolean) hx hb hr rfl (fun t ht hW => ⟨⟨_, (), rfl, rfl, by rw [ht]; exact hP, hD⟩, hS.F ht⟩) hS.2.2 dX8_isComing_48
      · have h := tx_pos c5 h
        refine lv_iconst (v := 1) hx hb dX8_isComing_43 (by decide) ?_
        refine lv_goto (tgt := 48) hx hb dX8_isComing_44 (by decide) ?_
        obtain rfl := tx_1 h
        exact W.zret (ty := .boolean) hx hb hr rfl (fun t ht hW => ⟨⟨_, (), rfl, rfl, by rw [ht]; exact hP, hD⟩, hS.F ht⟩) hS.2.2 dX8_isComing_48
abbrev G_X8_areTwo (p : Program) (l : Launch) (e : Env) (s : State) (m : MethodId) (below : List Frame) (meth : Method) (c : Code) (G : va_G) (cA : Nat → ClassId) (A : Nat → Prop) (aa : Nat → Nat) (S : Tr) (L : Lo) (x1 : Int32) (x2 : Int32) (r0 : Int32) (H : Heap) (locs : List Loc) (g : JFrame) : Prop := W p l e (headSpec (.code yX8_areTwo cX8_areTwo 3 (some .boolean) :: T0) ({ frames := 1, cells := 0, slots := 0, locals := 21 } : Room)).room s m ([.ref (aa 0), .int x1, .int x2] : List Value).toArray below meth c H locs 0 0 (MQ below (tqQi G cA (fun (r : Int32) (_ : Unit) => r = r0) (fun (_ : Unit) => wM cA aa S L) A) ([.ref (aa 0), .int x1, .int x2] : List Value).toArray s 0 0 A) g
set_option maxHeartbeats 4000000 in
set_option maxRecDepth 100000 in
theorem c_X8_areTwo (l : Launch) (G : va_G) (cA : Nat → ClassId) (sz : Nat) (aa : Nat → Nat) (S : Tr) (L : Lo) (x1 : Int32) (x2 : Int32)  (r0 : Int32) (h : f_X8_areTwo S x1 x2 = some r0) : Met l yX8_areTwo (.code yX8_areTwo cX8_areTwo 3 (some .boolean) :: T0) ({ frames := 1, cells := 0, slots := 0, locals := 21 } : Room) (tqP G cA [.ref (aa 0), .int x1, .int x2] (wM cA aa S L) sz) (tqQi G cA (fun (r : Int32) (_ : Unit) => r = r0) (fun (_ : Unit) => wM cA aa S L) (va_A (wM cA aa S L) sz)) 0 0 (va_A (wM cA aa S L) sz) := by
  refine Met.ofW (cc := cX8_areTwo) (maxL := 3) (ret := (some .boolean)) (by decide) rfl ?_
  intro p e s m args below meth c s₁ B hml hv
  obtain ⟨rfl, hsz, hP, hK, hD0, hN⟩ := hv
  have hx := B.exec
  have hb := B.bytes
  have hr := B.returns
  have hts := atoms_spec (ws := .code yX8_areTwo cX8_areTwo 3 (some .boolean) :: T0) B.pre
  have hT : ∀ w ∈ T0, w.before _ s = true := fun w h => hts w (List.mem_cons_of_mem _ h)
  have hown : s.vm.findClass RX8 = some m.cls := findClass_of_methodNamed B.named
  have hlocks := B.notSynchronized
  subst hsz
  have hD := hD0.self (sz := s.heap.size)
  generalize hAe : va_A (wM cA aa S L) s.heap.size = A at hD ⊢
  have hA : ∀ q : Nat, s.heap.size ≤ q → A q := fun q h => by rw [← hAe]; exact Or.inr h
  have hS : va_S A s.heap s.heap [] := va_S.rf
  have hl := lv_entry ([.ref (aa 0), .int x1, .int x2]) (n := 3) (Nat.le_of_ble_eq_true rfl)
  rw [lg_entry_eq]
  generalize (lg_sl ([.ref (aa 0), .int x1, .int x2]) ++ List.replicate (3 - (lg_sl ([.ref (aa 0), .int x1, .int x2])).length) Slot.unset).toArray = ls at hl ⊢
  have hl : lv_has ls 3 [(0, .ref (aa 0)), (1, .int x1), (2, .int x2)] := hl
  have F : tF p s m ([.ref (aa 0), .int x1, .int x2] : List Value).toArray meth c G cA A RX8 cX8_areTwo 3 (some .boolean) := ⟨hx, hb, hr, hml, hT, hown, hlocks, hK, hN, hA⟩
  obtain ⟨H, hH⟩ : ∃ z, z = s.heap := ⟨_, rfl⟩
  rw [← hH] at hP
  have hS : va_S A s.heap H [] := by rw [hH]; exact hS
  suffices hgo : G_X8_areTwo p l e s m below meth c G cA A aa S L x1 x2 r0 H [] (F0 m 0 ls []) by rw [hH] at hgo; exact hgo
  generalize ([] : List Loc) = locs at hS ⊢
  unfold f_X8_areTwo at h
  refine lv_aload_n hx hb dX8_areTwo_0 rfl (lv_at hl 0 rfl) ?_
  refine lv_iload_n hx hb dX8_areTwo_1 rfl (lv_at hl 1 rfl) ?_
  obtain ⟨r1, hc2, h⟩ := tx_bd h
  refine tw_ci tw_all hP hD hS hA (va_runV (As := [.int x1]) (rest := []) ⟨hx, hb, hml, hown, hT⟩ (c_X8_isPiece l G cA H.size aa S L x1  r1 hc2) (cwV 1 hT (tq_gV kw_30_22 kw_30_23 kw_31_0 kw_1_5 kw_31_1) rfl rfl rfl (by decide +kernel) ⟨Nat.le_of_ble_eq_true rfl, Nat.le_of_ble_eq_true rfl⟩) ⟨(tw_pre tw_all hP hD hK hN).1, va_recv hK hP (ci := 8) (q0 := 0) rfl rfl, (tw_pre tw_all hP hD hK hN).2⟩ rfl rfl hl.1 rfl (lv_room (Nat.le_of_ble_eq_true rfl)) dX8_areTwo_2 ⟨Nat.le_of_ble_eq_true rfl, Nat.le_of_ble_eq_true rfl⟩) (fun _ _ H locs z3 hP hD hS => ?_)
  subst z3
  rw [List.append_nil] at hP hD
  have hP : va_P G vwCl (wM cA aa S L) H := hP
  have hD : va_D A (wM cA aa S L) := hD
  refine lv_if_eq (tgt := 74) hx hb dX8_areTwo_5 (by decide) (fun c4 => ?_) (fun c4 => ?_)
  · have h := tx_pos c4 h
    refine lv_iconst (v := 0) hx hb dX8_areTwo_74 (by decide) ?_
    obtain rfl := tx_1 h
    exact W.zret (ty := .boolean) hx hb hr rfl (fun t ht hW => ⟨⟨_, (), rfl, rfl, by rw [ht]; exact hP, hD⟩, hS.F ht⟩) hS.2.2 dX8_areTwo_75
  · have h := tx_neg c4 h
    refine lv_aload_n hx hb dX8_areTwo_8 rfl (lv_at hl 0 rfl) ?_
    refine lv_iload_n hx hb dX8_areTwo_9 rfl (lv_at hl 2 rfl) ?_
    obtain ⟨r5, hc6, h⟩ := tx_bd h
    refine tw_ci tw_all hP hD hS hA (va_runV (As := [.int x2]) (rest := []) ⟨hx, hb, hml, hown, hT⟩ (c_X8_isPiece l G cA H.size aa S L x2  r5 hc6) (cwV 1 hT (tq_gV kw_30_22 kw_30_23 kw_31_0 kw_1_5 kw_31_1) rfl rfl rfl (by decide +kernel) ⟨Nat.le_of_ble_eq_true rfl, Nat.le_of_ble_eq_true rfl⟩) ⟨(tw_pre tw_all hP hD hK hN).1, va_recv hK hP (ci := 8) (q0 := 0) rfl rfl, (tw_pre tw_all hP hD hK hN).2⟩ rfl rfl hl.1 rfl (lv_room (Nat.le_of_ble_eq_true rfl)) dX8_areTwo_10 ⟨Nat.le_of_ble_eq_true rfl, Nat.le_of_ble_eq_true rfl⟩) (fun _ _ H locs z7 hP hD hS => ?_)
    subst z7
    rw [List.append_nil] at hP hD
    have hP : va_P G vwCl (wM cA aa S L) H := hP
    have hD : va_D A (wM cA aa S L) := hD
    refine lv_if_eq (tgt := 74) hx hb dX8_areTwo_13 (by decide) (fun c8 => ?_) (fun c8 => ?_)
    · have h := tx_pos c8 h
      refine lv_iconst (v := 0) hx hb dX8_areTwo_74 (by decide) ?_
      obtain rfl := tx_1 h
      exact W.zret (ty := .boolean) hx hb hr rfl (fun t ht hW => ⟨⟨_, (), rfl, rfl, by rw [ht]; exact hP, hD⟩, hS.F ht⟩) hS.2.2 dX8_areTwo_75
    · have h := tx_neg c8 h
      refine lv_iload_n hx hb dX8_areTwo_16 rfl (lv_at hl 1 rfl) ?_
      refine lv_iload_n hx hb dX8_areTwo_17 rfl (lv_at hl 2 rfl) ?_
      refine lv_icmp_eq (tgt := 74) hx hb dX8_areTwo_18 (by decide) (fun c9 => ?_) (fun c9 => ?_)
      · have h := tx_pos c9 h
        refine lv_iconst (v := 0) hx hb dX8_areTwo_74 (by decide) ?_
        obtain rfl := tx_1 h
        exact W.zret (ty := .boolean) hx hb hr rfl (fun t ht hW => ⟨⟨_, (), rfl, rfl, by rw [ht]; exact hP, hD⟩, hS.F ht⟩) hS.2.2 dX8_areTwo_75
      · have h := tx_neg c9 h
        refine lv_aload_n hx hb dX8_areTwo_21 rfl (lv_at hl 0 rfl) ?_
        refine va_get (D := G) (ci := 8) (v := .ref (aa 30)) (C := RX8) (T := TX8) (N := 91) hx hb hT ku_8 hown hK hP 0 rfl rfl 29 (by decide) (hT _ kw_9_21) (fun _ h9 => h9) rfl dX8_areTwo_22 ?_
        refine lv_iload_n hx hb dX8_areTwo_25 rfl (lv_at hl 1 rfl) ?_
        obtain ⟨g10, h⟩ := tx_ck h
        refine va_iald (i := x1) hx hb hK hP 11 0 rfl rfl (tx_in g10) dX8_areTwo_26 ?_
        refine lv_aload_n hx hb dX8_areTwo_27 rfl (lv_at hl 0 rfl) ?_
        refine va_get (D := G) (ci := 8) (v := .ref (aa 30)) (C := RX8) (T := TX8) (N := 91) hx hb hT ku_8 hown hK hP 0 rfl rfl 29 (by decide) (hT _ kw_9_21) (fun _ h9 => h9) rfl dX8_areTwo_28 ?_
        refine lv_iload_n hx hb dX8_areTwo_31 rfl (lv_at hl 2 rfl) ?_
        obtain ⟨g11, h⟩ := tx_ck h
        refine va_iald (i := x2) hx hb hK hP 11 0 rfl rfl (tx_in g11) dX8_areTwo_32 ?_
        refine lv_icmp_eq (tgt := 74) hx hb dX8_areTwo_33 (by decide) (fun c12 => ?_) (fun c12 => ?_)
        · have h := tx_pos c12 h
          refine lv_iconst (v := 0) hx hb dX8_areTwo_74 (by decide) ?_
          obtain rfl := tx_1 h
          exact W.zret (ty := .boolean) hx hb hr rfl (fun t ht hW => ⟨⟨_, (), rfl, rfl, by rw [ht]; exact hP, hD⟩, hS.F ht⟩) hS.2.2 dX8_areTwo_75
        · have h := tx_neg c12 h
          refine lv_aload_n hx hb dX8_areTwo_36 rfl (lv_at hl 0 rfl) ?_
          refine va_get (D := G) (ci := 8) (v := .ref (aa 62)) (C := RX8) (T := TX8) (N := 91) hx hb hT ku_8 hown hK hP 0 rfl rfl 61 (by decide) (hT _ kw_10_22) (fun _ h9 => h9) rfl dX8_areTwo_37 ?_
          refine lv_iconst (v := 0) hx hb dX8_areTwo_40 (by decide) ?_
          refine va_iald (i := 0) hx hb hK hP 36 0 rfl rfl (tq_in (by decide)) dX8_areTwo_41 ?_
          refine tq_i (w := (S 62 0)) rfl ?_
          refine lv_bipush (v := 21) hx hb dX8_areTwo_42 (by decide) ?_
          refine lv_icmp_ge (tgt := 74) hx hb dX8_areTwo_44 (by decide) (fun c13 => ?_) (fun c13 => ?_)
          · have h := tx_pos c13 h
            refine lv_iconst (v := 0) hx hb dX8_areTwo_74 (by decide) ?_
            obtain rfl := tx_1 h
            exact W.zret (ty := .boolean) hx hb hr rfl (fun t ht hW => ⟨⟨_, (), rfl, rfl, by rw [ht]; exact hP, hD⟩, hS.F ht⟩) hS.2.2 dX8_areTwo_75
          · have h := tx_neg c13 h
            refine lv_aload_n hx hb dX8_areTwo_47 rfl (lv_at hl 0 rfl) ?_
            refine lv_iload_n hx hb dX8_areTwo_48 rfl (lv_at hl 1 rfl) ?_
            obtain ⟨r14, hc15, h⟩ := tx_bd h
            refine tw_ci tw_all hP hD hS hA (va_runV (As := [.int x1]) (rest := []) ⟨hx, hb, hml, hown, hT⟩ (c_X8_isComing l G cA H.size aa S L x1  r14 hc15) (cwV 1 hT (tq_gV kw_47_22 kw_47_23 kw_48_0 kw_1_5 kw_48_1) rfl rfl rfl (by decide +kernel) ⟨Nat.le_of_ble_eq_true rfl, Nat.le_of_ble_eq_true rfl⟩) ⟨(tw_pre tw_all hP hD hK hN).1, va_recv hK hP (ci := 8) (q0 := 0) rfl rfl, (tw_pre tw_all hP hD hK hN).2⟩ rfl rfl hl.1 rfl (lv_room (Nat.le_of_ble_eq_true rfl)) dX8_areTwo_49 ⟨Nat.le_of_ble_eq_true rfl, Nat.le_of_ble_eq_true rfl⟩) (fun _ _ H locs z16 hP hD hS => ?_)
            subst z16
            rw [List.append_nil] at hP hD
            have hP : va_P G vwCl (wM cA aa S L) H := hP
            have hD : va_D A (wM cA aa S L) := hD
            refine lv_if_eq (tgt := 74) hx hb dX8_areTwo_52 (by decide) (fun c17 => ?_) (fun c17 => ?_)
            · have h := tx_pos c17 h
              refine lv_iconst (v := 0) hx hb dX8_areTwo_74 (by decide) ?_
              obtain rfl := tx_1 h
              exact W.zret (ty := .boolean) hx hb hr rfl (fun t ht hW => ⟨⟨_, (), rfl, rfl, by rw [ht]; exact hP, hD⟩, hS.F ht⟩) hS.2.2 dX8_areTwo_75
            · have h := tx_neg c17 h
              refine lv_aload_n hx hb dX8_areTwo_55 rfl (lv_at hl 0 rfl) ?_
              refine lv_iload_n hx hb dX8_areTwo_56 rfl (lv_at hl 2 rfl) ?_
              obtain ⟨r18, hc19, h⟩ := tx_bd h
              refine tw_ci tw_all hP hD hS hA (va_runV (As := [.int x2]) (rest := []) ⟨hx, hb, hml, hown, hT⟩ (c_X8_isComing l G cA H.size aa S L x2  r18 hc19) (cwV 1 hT (tq_gV kw_47_22 kw_47_23 kw_48_0 kw_1_5 kw_48_1) rfl rfl rfl (by decide +kernel) ⟨Nat.le_of_ble_eq_true rfl, Nat.le_of_ble_eq_true rfl⟩) ⟨(tw_pre tw_all hP hD hK hN).1, va_recv hK hP (ci := 8) (q0 := 0) rfl rfl, (tw_pre tw_all hP hD hK hN).2⟩ rfl rfl hl.1 rfl (lv_room (Nat.le_of_ble_eq_true rfl)) dX8_areTwo_57 ⟨Nat.le_of_ble_eq_true rfl, Nat.le_of_ble_eq_true rfl⟩) (fun _ _ H locs z20 hP hD hS => ?_)
              subst z20
              rw [List.append_nil] at hP hD
              have hP : va_P G vwCl (wM cA aa S L) H := hP
              have hD : va_D A (wM cA aa S L) := hD
              refine lv_if_eq (tgt := 74) hx hb dX8_areTwo_60 (by decide) (fun c21 => ?_) (fun c21 => ?_)
              · have h := tx_pos c21 h
                refine lv_iconst (v := 0) hx hb dX8_areTwo_74 (by decide) ?_
                obtain rfl := tx_1 h
                exact W.zret (ty := .boolean) hx hb hr rfl (fun t ht hW => ⟨⟨_, (), rfl, rfl, by rw [ht]; exact hP, hD⟩, hS.F ht⟩) hS.2.2 dX8_areTwo_75
              · have h := tx_neg c21 h
                refine lv_aload_n hx hb dX8_areTwo_63 rfl (lv_at hl 0 rfl) ?_
                refine va_get (D := G) (ci := 8) (v := .int (S 0 12)) (C := RX8) (T := TX8) (N := 91) hx hb hT ku_8 hown hK hP 0 rfl rfl 12 (by decide) (hT _ kw_12_3) (fun _ h9 => h9) rfl dX8_areTwo_64 ?_
                refine lv_if_le (tgt := 74) hx hb dX8_areTwo_67 (by decide) (fun c22 => ?_) (fun c22 => ?_)
                · have h := tx_pos c22 h
                  refine lv_iconst (v := 0) hx hb dX8_areTwo_74 (by decide) ?_
                  obtain rfl := tx_1 h
                  exact W.zret (ty := .boolean) hx hb hr rfl (fun t ht hW => ⟨⟨_, (), rfl, rfl, by rw [ht]; exact hP, hD⟩, hS.F ht⟩) hS.2.2 dX8_areTwo_75
                · have h := tx_neg c22 h
                  refine lv_iconst (v := 1) hx hb dX8_areTwo_70 (by decide) ?_
                  refine lv_goto (tgt := 75) hx hb dX8_areTwo_71 (by decide) ?_
                  obtain rfl := tx_1 h
                  exact W.zret (ty := .boolean) hx hb hr rfl (fun t ht hW => ⟨⟨_, (), rfl, rfl, by rw [ht]; exact hP, hD⟩, hS.F ht⟩) hS.2.2 dX8_areTwo_75
abbrev G_X8_plainTried (p : Program) (l : Launch) (e : Env) (s : State) (m : MethodId) (below : List Frame) (meth : Method) (c : Code) (G : va_G) (cA : Nat → ClassId) (A : Nat → Prop) (aa : Nat → Nat) (L : Lo) (S' : Tr) (H : Heap) (locs : List Loc) (g : JFrame) : Prop := W p l e (headSpec (.code yX8_plainTried cX8_plainTried 2 none :: T0) ({ frames := 0, cells := 0, slots := 0, locals := 0 } : Room)).room s m ([.ref (aa 0)] : List Value).toArray below meth c H locs 0 0 (MQ below (tqQv G cA (fun (_ : Unit) => True) (fun (_ : Unit) => wM cA aa S' L) A) ([.ref (aa 0)] : List Value).toArray s 0 0 A) g
set_option maxHeartbeats 4000000 in
set_option maxRecDepth 100000 in
theorem w_X8_plainTried_L42 {p : Program} {l : Launch} {e : Env} {s : State} {m : MethodId} {below : List Frame} {meth : Method} {c : Code} {G : va_G} {cA : Nat → ClassId} {A : Nat → Prop} {aa : Nat → Nat} {L : Lo} {S' : Tr} (F : tF p s m ([.ref (aa 0)] : List Value).toArray meth c G cA A RX8 cX8_plainTried 2 none)    (N : Nat) : ∀ (x1 : Int32) (S : Tr) (H : Heap) (locs : List Loc) (ls : Array Slot), lpF (fun _ _ => none) (fB_X8_plainTried_L42 ) N x1 S = some S' → va_P G vwCl (wM cA aa S L) H → va_D A (wM cA aa S L) → va_S A s.heap H locs → lv_has ls 2 [(0, .ref (aa 0)), (1, .int x1)] → G_X8_plainTried p l e s m below meth c G cA A aa L S' H locs (F0 m 42 ls []) := by
  obtain ⟨hx, hb, hr, hml, hT, hown, hlocks, hK, hN, hA⟩ := id F
  induction N with
  | zero =>
    intro x1 S H locs ls h
    have h : (none : Option (Tr)) = some S' := h
    cases h
  | succ N hk42 =>
    intro x1 S H locs ls h hP hD hS hl
    have h : fB_X8_plainTried_L42  (lpF (fun _ _ => none) (fB_X8_plainTried_L42 ) N) x1 S = some S' := h
    generalize hk42e : lpF (fun _ _ => none) (fB_X8_plainTried_L42 ) N = k42 at h hk42
    unfold fB_X8_plainTried_L42 at h
    refine lv_iload_n hx hb dX8_plainTried_42 rfl (lv_at hl 1 rfl) ?_
    refine lv_bipush (v := 10) hx hb dX8_plainTried_43 (by decide) ?_
    refine lv_icmp_ge (tgt := 61) hx hb dX8_plainTried_45 (by decide) (fun c8 => ?_) (fun c8 => ?_)
    · have h := tx_pos c8 h
      obtain rfl := tx_1 h
      exact W.vret hx hb hr (fun t ht hW => ⟨⟨(), rfl, trivial, by rw [ht]; exact hP, hD⟩, hS.F ht⟩) hS.2.2 dX8_plainTried_61
    · have h := tx_neg c8 h
      refine lv_aload_n hx hb dX8_plainTried_48 rfl (lv_at hl 0 rfl) ?_
      refine va_get (D := G) (ci := 8) (v := .ref (aa 72)) (C := RX8) (T := TX8) (N := 91) hx hb hT ku_8 hown hK hP 0 rfl rfl 71 (by decide) (hT _ kw_11_0) (fun _ h9 => h9) rfl dX8_plainTried_49 ?_
      refine lv_iload_n hx hb dX8_plainTried_52 rfl (lv_at hl 1 rfl) ?_
      refine lv_iconst (v := (-1)) hx hb dX8_plainTried_53 (by decide) ?_
      obtain ⟨g9, h⟩ := tx_ck h
      refine va_iast (i := x1) hx hb hK hP hD hS 38 0 rfl rfl (tx_in g9) dX8_plainTried_54 (fun H locs hP hD hS => ?_)
      obtain ⟨S_10, eS_10, h⟩ := tx_lt h
      rw [sM_a71, eS_10] at hP hD
      obtain ⟨y11, ey11, h⟩ := tx_lt h
      refine lv_iinc (v := y11) (lv' := [(1, .int y11), (0, .ref (aa 0))]) hx hb dX8_plainTried_55 hl (k := 1) rfl ey11 (by decide) rfl (fun ls hl => ?_)
      refine lv_goto (tgt := 42) hx hb dX8_plainTried_58 (by decide) ?_
      exact hk42 y11 S_10 H locs ls h hP hD hS (lv_sub hl [1, 0] rfl)
set_option maxHeartbeats 4000000 in
set_option maxRecDepth 100000 in
theorem c_X8_plainTried (l : Launch) (G : va_G) (cA : Nat → ClassId) (sz : Nat) (aa : Nat → Nat) (S : Tr) (L : Lo)  (S' : Tr) (h : f_X8_plainTried S = some S') : Met l yX8_plainTried (.code yX8_plainTried cX8_plainTried 2 none :: T0) ({ frames := 0, cells := 0, slots := 0, locals := 0 } : Room) (tqP G cA [.ref (aa 0)] (wM cA aa S L) sz) (tqQv G cA (fun (_ : Unit) => True) (fun (_ : Unit) => wM cA aa S' L) (va_A (wM cA aa S L) sz)) 0 0 (va_A (wM cA aa S L) sz) := by
  refine Met.ofW (cc := cX8_plainTried) (maxL := 2) (ret := none) (by decide) rfl ?_
  intro p e s m args below meth c s₁ B hml hv
  obtain ⟨rfl, hsz, hP, hK, hD0, hN⟩ := hv
  have hx := B.exec
  have hb := B.bytes
  have hr := B.returns
  have hts := atoms_spec (ws := .code yX8_plainTried cX8_plainTried 2 none :: T0) B.pre
  have hT : ∀ w ∈ T0, w.before _ s = true := fun w h => hts w (List.mem_cons_of_mem _ h)
  have hown : s.vm.findClass RX8 = some m.cls := findClass_of_methodNamed B.named
  have hlocks := B.notSynchronized
  subst hsz
  have hD := hD0.self (sz := s.heap.size)
  generalize hAe : va_A (wM cA aa S L) s.heap.size = A at hD ⊢
  have hA : ∀ q : Nat, s.heap.size ≤ q → A q := fun q h => by rw [← hAe]; exact Or.inr h
  have hS : va_S A s.heap s.heap [] := va_S.rf
  have hl := lv_entry ([.ref (aa 0)]) (n := 2) (Nat.le_of_ble_eq_true rfl)
  rw [lg_entry_eq]
  generalize (lg_sl ([.ref (aa 0)]) ++ List.replicate (2 - (lg_sl ([.ref (aa 0)])).length) Slot.unset).toArray = ls at hl ⊢
  have hl : lv_has ls 2 [(0, .ref (aa 0))] := hl
  have F : tF p s m ([.ref (aa 0)] : List Value).toArray meth c G cA A RX8 cX8_plainTried 2 none := ⟨hx, hb, hr, hml, hT, hown, hlocks, hK, hN, hA⟩
  obtain ⟨H, hH⟩ : ∃ z, z = s.heap := ⟨_, rfl⟩
  rw [← hH] at hP
  have hS : va_S A s.heap H [] := by rw [hH]; exact hS
  suffices hgo : G_X8_plainTried p l e s m below meth c G cA A aa L S' H [] (F0 m 0 ls []) by rw [hH] at hgo; exact hgo
  generalize ([] : List Loc) = locs at hS ⊢
  unfold f_X8_plainTried at h
  refine lv_aload_n hx hb dX8_plainTried_0 rfl (lv_at hl 0 rfl) ?_
  refine lv_aload_n hx hb dX8_plainTried_1 rfl (lv_at hl 0 rfl) ?_
  refine va_get (D := G) (ci := 8) (v := .ref (aa 23)) (C := RX8) (T := TX8) (N := 91) hx hb hT ku_8 hown hK hP 0 rfl rfl 22 (by decide) (hT _ kw_9_14) (fun _ h9 => h9) rfl dX8_plainTried_2 ?_
  refine lv_iconst (v := 0) hx hb dX8_plainTried_5 (by decide) ?_
  refine va_iald (i := 0) hx hb hK hP 4 0 rfl rfl (tq_in (by decide)) dX8_plainTried_6 ?_
  refine tq_i (w := (S 23 0)) rfl ?_
  refine va_put (D := G) (ci := 8) (v := .int (S 23 0)) (ty := .int) (C := RX8) (T := TX8) (N := 91) hx hb hT ku_8 tyX8 tyX8_ok nmX8 hown hK hP hD hS 0 rfl rfl 64 (by decide) (hT _ kw_13_2) (fun _ h9 => h9) rfl (by decide +kernel) rfl rfl (Nat.le_of_ble_eq_true rfl) dX8_plainTried_7 (fun H locs hP hD hS => ?_)
  obtain ⟨S_1, eS_1, h⟩ := tx_lt h
  rw [sM_f64, eS_1] at hP hD
  refine lv_aload_n hx hb dX8_plainTried_10 rfl (lv_at hl 0 rfl) ?_
  refine lv_iconst (v := 0) hx hb dX8_plainTried_11 (by decide) ?_
  refine va_put (D := G) (ci := 8) (v := .int 0) (ty := .boolean) (C := RX8) (T := TX8) (N := 91) hx hb hT ku_8 tyX8 tyX8_ok nmX8 hown hK hP hD hS 0 rfl rfl 65 (by decide) (hT _ kw_13_3) (fun _ h9 => h9) rfl (by decide +kernel) rfl rfl (Nat.le_of_ble_eq_true rfl) dX8_plainTried_12 (fun H locs hP hD hS => ?_)
  obtain ⟨S_2, eS_2, h⟩ := tx_lt h
  rw [sM_f65, eS_2] at hP hD
  refine lv_aload_n hx hb dX8_plainTried_15 rfl (lv_at hl 0 rfl) ?_
  refine lv_iconst (v := 0) hx hb dX8_plainTried_16 (by decide) ?_
  refine va_put (D := G) (ci := 8) (v := .int 0) (ty := .boolean) (C := RX8) (T := TX8) (N := 91) hx hb hT ku_8 tyX8 tyX8_ok nmX8 hown hK hP hD hS 0 rfl rfl 66 (by decide) (hT _ kw_13_4) (fun _ h9 => h9) rfl (by decide +kernel) rfl rfl (Nat.le_of_ble_eq_true rfl) dX8_plainTried_17 (fun H locs hP hD hS => ?_)
  obtain ⟨S_3, eS_3, h⟩ := tx_lt h
  rw [sM_f66, eS_3] at hP hD
  refine lv_aload_n hx hb dX8_plainTried_20 rfl (lv_at hl 0 rfl) ?_
  refine lv_iconst (v := 0) hx hb dX8_plainTried_21 (by decide) ?_
  refine va_put (D := G) (ci := 8) (v := .int 0) (ty := .boolean) (C := RX8) (T := TX8) (N := 91) hx hb hT ku_8 tyX8 tyX8_ok nmX8 hown hK hP hD hS 0 rfl rfl 67 (by decide) (hT _ kw_13_5) (fun _ h9 => h9) rfl (by decide +kernel) rfl rfl (Nat.le_of_ble_eq_true rfl) dX8_plainTried_22 (fun H locs hP hD hS => ?_)
  obtain ⟨S_4, eS_4, h⟩ := tx_lt h
  rw [sM_f67, eS_4] at hP hD
  refine lv_aload_n hx hb dX8_plainTried_25 rfl (lv_at hl 0 rfl) ?_
  refine lv_iconst (v := 0) hx hb dX8_plainTried_26 (by decide) ?_
  refine va_put (D := G) (ci := 8) (v := .int 0) (ty := .boolean) (C := RX8) (T := TX8) (N := 91) hx hb hT ku_8 tyX8 tyX8_ok nmX8 hown hK hP hD hS 0 rfl rfl 68 (by decide) (hT _ kw_13_6) (fun _ h9 => h9) rfl (by decide +kernel) rfl rfl (Nat.le_of_ble_eq_true rfl) dX8_plainTried_27 (fun H locs hP hD hS => ?_)
  obtain ⟨S_5, eS_5, h⟩ := tx_lt h
  rw [sM_f68, eS_5] at hP hD
  refine lv_aload_n hx hb dX8_plainTried_30 rfl (lv_at hl 0 rfl) ?_
  refine lv_iconst (v := 0) hx hb dX8_plainTried_31 (by decide) ?_
  refine va_put (D := G) (ci := 8) (v := .int 0) (ty := .boolean) (C := RX8) (T := TX8) (N := 91) hx hb hT ku_8 tyX8 tyX8_ok nmX8 hown hK hP hD hS 0 rfl rfl 69 (by decide) (hT _ kw_13_7) (fun _ h9 => h9) rfl (by decide +kernel) rfl rfl (Nat.le_of_ble_eq_true rfl) dX8_plainTried_32 (fun H locs hP hD hS => ?_)
  obtain ⟨S_6, eS_6, h⟩ := tx_lt h
  rw [sM_f69, eS_6] at hP hD
  refine lv_aload_n hx hb dX8_plainTried_35 rfl (lv_at hl 0 rfl) ?_
  refine lv_iconst (v := 0) hx hb dX8_plainTried_36 (by decide) ?_
  refine va_put (D := G) (ci := 8) (v := .int 0) (ty := .boolean) (C := RX8) (T := TX8) (N := 91) hx hb hT ku_8 tyX8 tyX8_ok nmX8 hown hK hP hD hS 0 rfl rfl 70 (by decide) (hT _ kw_13_8) (fun _ h9 => h9) rfl (by decide +kernel) rfl rfl (Nat.le_of_ble_eq_true rfl) dX8_plainTried_37 (fun H locs hP hD hS => ?_)
  obtain ⟨S_7, eS_7, h⟩ := tx_lt h
  rw [sM_f70, eS_7] at hP hD
  refine lv_iconst (v := 0) hx hb dX8_plainTried_40 (by decide) ?_
  refine lv_istore_n (lv' := [(1, .int 0), (0, .ref (aa 0))]) hx hb dX8_plainTried_41 rfl hl (by decide) rfl (fun ls hl => ?_)
  exact w_X8_plainTried_L42 F 2000 0 S_7 H locs ls h hP hD hS (lv_sub hl [1, 0] rfl)
abbrev G_X8_layTried (p : Program) (l : Launch) (e : Env) (s : State) (m : MethodId) (below : List Frame) (meth : Method) (c : Code) (G : va_G) (cA : Nat → ClassId) (A : Nat → Prop) (aa : Nat → Nat) (L : Lo) (S' : Tr) (H : Heap) (locs : List Loc) (g : JFrame) : Prop := W p l e (headSpec (.code yX8_layTried cX8_layTried 2 none :: T0) ({ frames := 1, cells := 0, slots := 0, locals := 21 } : Room)).room s m ([.ref (aa 0)] : List Value).toArray below meth c H locs 0 0 (MQ below (tqQv G cA (fun (_ : Unit) => True) (fun (_ : Unit) => wM cA aa S' L) A) ([.ref (aa 0)] : List Value).toArray s 0 0 A) g
set_option maxHeartbeats 4000000 in
set_option maxRecDepth 100000 in
theorem w_X8_layTried_J174 {p : Program} {l : Launch} {e : Env} {s : State} {m : MethodId} {below : List Frame} {meth : Method} {c : Code} {G : va_G} {cA : Nat → ClassId} {A : Nat → Prop} {aa : Nat → Nat} {L : Lo} {S' : Tr} (F : tF p s m ([.ref (aa 0)] : List Value).toArray meth c G cA A RX8 cX8_layTried 2 none)    (S : Tr) (H : Heap) (locs : List Loc) (ls : Array Slot) (h : fJ_X8_layTried_J174 S = some S') (hP : va_P G vwCl (wM cA aa S_8 L) H) (hD : va_D A (wM cA aa S_8 L)) (hS : va_S A s.heap H locs) (hl : lv_has ls 2 [(0, .ref (aa 0))]) : G_X8_layTried p l e s m below meth c G cA A aa L S' H locs (F0 m 174 ls []) := by
  obtain ⟨hx, hb, hr, hml, hT, hown, hlocks, hK, hN, hA⟩ := id F
  unfold fJ_X8_layTried_J174 at h
  refine lv_aload_n hx hb dX8_layTried_174 rfl (lv_at hl 0 rfl) ?_
  refine va_get (D := G) (ci := 8) (v := .ref (aa 61)) (C := RX8) (T := TX8) (N := 91) hx hb hT ku_8 hown hK hP 0 rfl rfl 60 (by decide) (hT _ kw_10_21) (fun _ h9 => h9) rfl dX8_layTried_175 ?_
  refine lv_iconst (v := 1) hx hb dX8_layTried_178 (by decide) ?_
  refine lv_aload_n hx hb dX8_layTried_179 rfl (lv_at hl 0 rfl) ?_
  refine va_get (D := G) (ci := 8) (v := .ref (aa 61)) (C := RX8) (T := TX8) (N := 91) hx hb hT ku_8 hown hK hP 0 rfl rfl 60 (by decide) (hT _ kw_10_21) (fun _ h9 => h9) rfl dX8_layTried_180 ?_
  refine lv_iconst (v := 0) hx hb dX8_layTried_183 (by decide) ?_
  refine va_iald (i := 0) hx hb hK hP 35 0 rfl rfl (tq_in (by decide)) dX8_layTried_184 ?_
  refine tq_i (w := (S 61 0)) rfl ?_
  refine va_iast (i := 1) hx hb hK hP hD hS 35 0 rfl rfl (tq_in (by decide)) dX8_layTried_185 (fun H locs hP hD hS => ?_)
  rw [show (1 : Int32).toNatClampNeg = 1 from rfl] at hP hD
  obtain ⟨S_5, eS_5, h⟩ := tx_lt h
  rw [sM_a60, eS_5] at hP hD
  refine lv_aload_n hx hb dX8_layTried_186 rfl (lv_at hl 0 rfl) ?_
  refine va_get (D := G) (ci := 8) (v := .ref (aa 62)) (C := RX8) (T := TX8) (N := 91) hx hb hT ku_8 hown hK hP 0 rfl rfl 61 (by decide) (hT _ kw_10_22) (fun _ h9 => h9) rfl dX8_layTried_187 ?_
  refine lv_iconst (v := 1) hx hb dX8_layTried_190 (by decide) ?_
  refine lv_aload_n hx hb dX8_layTried_191 rfl (lv_at hl 0 rfl) ?_
  refine va_get (D := G) (ci := 8) (v := .ref (aa 62)) (C := RX8) (T := TX8) (N := 91) hx hb hT ku_8 hown hK hP 0 rfl rfl 61 (by decide) (hT _ kw_10_22) (fun _ h9 => h9) rfl dX8_layTried_192 ?_
  refine lv_iconst (v := 0) hx hb dX8_layTried_195 (by decide) ?_
  refine va_iald (i := 0) hx hb hK hP 36 0 rfl rfl (tq_in (by decide)) dX8_layTried_196 ?_
  refine tq_i (w := (S_5 62 0)) rfl ?_
  refine va_iast (i := 1) hx hb hK hP hD hS 36 0 rfl rfl (tq_in (by decide)) dX8_layTried_197 (fun H locs hP hD hS => ?_)
  rw [show (1 : Int32).toNatClampNeg = 1 from rfl] at hP hD
  obtain ⟨S_6, eS_6, h⟩ := tx_lt h
  rw [sM_a61, eS_6] at hP hD
  refine lv_aload_n hx hb dX8_layTried_198 rfl (lv_at hl 0 rfl) ?_
  refine va_get (D := G) (ci := 8) (v := .ref (aa 63)) (C := RX8) (T := TX8) (N := 91) hx hb hT ku_8 hown hK hP 0 rfl rfl 62 (by decide) (hT _ kw_10_23) (fun _ h9 => h9) rfl dX8_layTried_199 ?_
  refine lv_iconst (v := 1) hx hb dX8_layTried_202 (by decide) ?_
  refine lv_iconst (v := 0) hx hb dX8_layTried_203 (by decide) ?_
  refine va_iast (i := 1) hx hb hK hP hD hS 37 0 rfl rfl (tq_in (by decide)) dX8_layTried_204 (fun H locs hP hD hS => ?_)
  rw [show (1 : Int32).toNatClampNeg = 1 from rfl] at hP hD
  obtain ⟨S_7, eS_7, h⟩ := tx_lt h
  rw [sM_a62, eS_7] at hP hD
  refine lv_aload_n hx hb dX8_layTried_205 rfl (lv_at hl 0 rfl) ?_
  obtain ⟨S_8, hc9, h⟩ := tx_bd h
  refine tw_cv tw_all hP hD hS hA (va_runV (As := []) (rest := []) ⟨hx, hb, hml, hown, hT⟩ (c_X8_plainTried l G cA H.size aa S_7 L  S_8 hc9) (cwV 0 hT (tq_gV kw_12_22 kw_12_23 kw_13_0 kw_1_5 kw_13_1) rfl rfl rfl (by decide +kernel) ⟨Nat.le_of_ble_eq_true rfl, Nat.le_of_ble_eq_true rfl⟩) ⟨(tw_pre tw_all hP hD hK hN).1, va_recv hK hP (ci := 8) (q0 := 0) rfl rfl, (tw_pre tw_all hP hD hK hN).2⟩ rfl rfl hl.1 rfl (lv_room (Nat.le_of_ble_eq_true rfl)) dX8_layTried_206 ⟨Nat.le_of_ble_eq_true rfl, Nat.le_of_ble_eq_true rfl⟩) (fun _ H locs z10 hP hD hS => ?_)
  rw [List.append_nil] at hP hD
  have hP : va_P G vwCl (wM cA aa S_8 L) H := hP
  have hD : va_D A (wM cA aa S_8 L) := hD
  obtain rfl := tx_1 h
  exact W.vret hx hb hr (fun t ht hW => ⟨⟨(), rfl, trivial, by rw [ht]; exact hP, hD⟩, hS.F ht⟩) hS.2.2 dX8_layTried_209
set_option maxHeartbeats 4000000 in
set_option maxRecDepth 100000 in
theorem w_X8_layTried_L102 {p : Program} {l : Launch} {e : Env} {s : State} {m : MethodId} {below : List Frame} {meth : Method} {c : Code} {G : va_G} {cA : Nat → ClassId} {A : Nat → Prop} {aa : Nat → Nat} {L : Lo} {S' : Tr} (F : tF p s m ([.ref (aa 0)] : List Value).toArray meth c G cA A RX8 cX8_layTried 2 none)    (N : Nat) : ∀ (x1 : Int32) (S : Tr) (H : Heap) (locs : List Loc) (ls : Array Slot), lpF (fun _ _ => none) (fB_X8_layTried_L102 ) N x1 S = some S' → va_P G vwCl (wM cA aa S L) H → va_D A (wM cA aa S L) → va_S A s.heap H locs → lv_has ls 2 [(0, .ref (aa 0)), (1, .int x1)] → G_X8_layTried p l e s m below meth c G cA A aa L S' H locs (F0 m 102 ls []) := by
  obtain ⟨hx, hb, hr, hml, hT, hown, hlocks, hK, hN, hA⟩ := id F
  induction N with
  | zero =>
    intro x1 S H locs ls h
    have h : (none : Option (Tr)) = some S' := h
    cases h
  | succ N hk102 =>
    intro x1 S H locs ls h hP hD hS hl
    have h : fB_X8_layTried_L102  (lpF (fun _ _ => none) (fB_X8_layTried_L102 ) N) x1 S = some S' := h
    generalize hk102e : lpF (fun _ _ => none) (fB_X8_layTried_L102 ) N = k102 at h hk102
    unfold fB_X8_layTried_L102 at h
    refine lv_iload_n hx hb dX8_layTried_102 rfl (lv_at hl 1 rfl) ?_
    refine lv_bipush (v := 6) hx hb dX8_layTried_103 (by decide) ?_
    refine lv_icmp_ge (tgt := 174) hx hb dX8_layTried_105 (by decide) (fun c4 => ?_) (fun c4 => ?_)
    · have h := tx_pos c4 h
      exact w_X8_layTried_J174 F S H locs ls h hP hD hS (lv_sub hl [0] rfl)
    · have h := tx_neg c4 h
      refine lv_aload_n hx hb dX8_layTried_108 rfl (lv_at hl 0 rfl) ?_
      refine va_get (D := G) (ci := 8) (v := .ref (aa 57)) (C := RX8) (T := TX8) (N := 91) hx hb hT ku_8 hown hK hP 0 rfl rfl 56 (by decide) (hT _ kw_10_17) (fun _ h9 => h9) rfl dX8_layTried_109 ?_
      refine lv_bipush (v := 6) hx hb dX8_layTried_112 (by decide) ?_
      refine lv_iload_n hx hb dX8_layTried_114 rfl (lv_at hl 1 rfl) ?_
      refine lv_iadd hx hb dX8_layTried_115 ?_
      refine lv_aload_n hx hb dX8_layTried_116 rfl (lv_at hl 0 rfl) ?_
      refine va_get (D := G) (ci := 8) (v := .ref (aa 57)) (C := RX8) (T := TX8) (N := 91) hx hb hT ku_8 hown hK hP 0 rfl rfl 56 (by decide) (hT _ kw_10_17) (fun _ h9 => h9) rfl dX8_layTried_117 ?_
      refine lv_iload_n hx hb dX8_layTried_120 rfl (lv_at hl 1 rfl) ?_
      obtain ⟨g11, h⟩ := tx_ck h
      refine va_iald (i := x1) hx hb hK hP 31 0 rfl rfl (tx_in g11) dX8_layTried_121 ?_
      obtain ⟨g12, h⟩ := tx_ck h
      refine va_iast (i := ((6 : Int32) + x1)) hx hb hK hP hD hS 31 0 rfl rfl (tx_in g12) dX8_layTried_122 (fun H locs hP hD hS => ?_)
      obtain ⟨S_13, eS_13, h⟩ := tx_lt h
      rw [sM_a56, eS_13] at hP hD
      refine lv_aload_n hx hb dX8_layTried_123 rfl (lv_at hl 0 rfl) ?_
      refine va_get (D := G) (ci := 8) (v := .ref (aa 58)) (C := RX8) (T := TX8) (N := 91) hx hb hT ku_8 hown hK hP 0 rfl rfl 57 (by decide) (hT _ kw_10_18) (fun _ h9 => h9) rfl dX8_layTried_124 ?_
      refine lv_bipush (v := 6) hx hb dX8_layTried_127 (by decide) ?_
      refine lv_iload_n hx hb dX8_layTried_129 rfl (lv_at hl 1 rfl) ?_
      refine lv_iadd hx hb dX8_layTried_130 ?_
      refine lv_aload_n hx hb dX8_layTried_131 rfl (lv_at hl 0 rfl) ?_
      refine va_get (D := G) (ci := 8) (v := .ref (aa 58)) (C := RX8) (T := TX8) (N := 91) hx hb hT ku_8 hown hK hP 0 rfl rfl 57 (by decide) (hT _ kw_10_18) (fun _ h9 => h9) rfl dX8_layTried_132 ?_
      refine lv_iload_n hx hb dX8_layTried_135 rfl (lv_at hl 1 rfl) ?_
      refine va_iald (i := x1) hx hb hK hP 32 0 rfl rfl (tx_in g11) dX8_layTried_136 ?_
      refine va_iast (i := ((6 : Int32) + x1)) hx hb hK hP hD hS 32 0 rfl rfl (tx_in g12) dX8_layTried_137 (fun H locs hP hD hS => ?_)
      obtain ⟨S_14, eS_14, h⟩ := tx_lt h
      rw [sM_a57, eS_14] at hP hD
      refine lv_aload_n hx hb dX8_layTried_138 rfl (lv_at hl 0 rfl) ?_
      refine va_get (D := G) (ci := 8) (v := .ref (aa 59)) (C := RX8) (T := TX8) (N := 91) hx hb hT ku_8 hown hK hP 0 rfl rfl 58 (by decide) (hT _ kw_10_19) (fun _ h9 => h9) rfl dX8_layTried_139 ?_
      refine lv_bipush (v := 6) hx hb dX8_layTried_142 (by decide) ?_
      refine lv_iload_n hx hb dX8_layTried_144 rfl (lv_at hl 1 rfl) ?_
      refine lv_iadd hx hb dX8_layTried_145 ?_
      refine lv_aload_n hx hb dX8_layTried_146 rfl (lv_at hl 0 rfl) ?_
      refine va_get (D := G) (ci := 8) (v := .ref (aa 59)) (C := RX8) (T := TX8) (N := 91) hx hb hT ku_8 hown hK hP 0 rfl rfl 58 (by decide) (hT _ kw_10_19) (fun _ h9 => h9) rfl dX8_layTried_147 ?_
      refine lv_iload_n hx hb dX8_layTried_150 rfl (lv_at hl 1 rfl) ?_
      refine va_iald (i := x1) hx hb hK hP 33 0 rfl rfl (tx_in g11) dX8_layTried_151 ?_
      refine va_iast (i := ((6 : Int32) + x1)) hx hb hK hP hD hS 33 0 rfl rfl (tx_in g12) dX8_layTried_152 (fun H locs hP hD hS => ?_)
      obtain ⟨S_15, eS_15, h⟩ := tx_lt h
      rw [sM_a58, eS_15] at hP hD
      refine lv_aload_n hx hb dX8_layTried_153 rfl (lv_at hl 0 rfl) ?_
      refine va_get (D := G) (ci := 8) (v := .ref (aa 60)) (C := RX8) (T := TX8) (N := 91) hx hb hT ku_8 hown hK hP 0 rfl rfl 59 (by decide) (hT _ kw_10_20) (fun _ h9 => h9) rfl dX8_layTried_154 ?_
      refine lv_bipush (v := 6) hx hb dX8_layTried_157 (by decide) ?_
      refine lv_iload_n hx hb dX8_layTried_159 rfl (lv_at hl 1 rfl) ?_
      refine lv_iadd hx hb dX8_layTried_160 ?_
      refine lv_aload_n hx hb dX8_layTried_161 rfl (lv_at hl 0 rfl) ?_
      refine va_get (D := G) (ci := 8) (v := .ref (aa 60)) (C := RX8) (T := TX8) (N := 91) hx hb hT ku_8 hown hK hP 0 rfl rfl 59 (by decide) (hT _ kw_10_20) (fun _ h9 => h9) rfl dX8_layTried_162 ?_
      refine lv_iload_n hx hb dX8_layTried_165 rfl (lv_at hl 1 rfl) ?_
      refine va_iald (i := x1) hx hb hK hP 34 0 rfl rfl (tx_in g11) dX8_layTried_166 ?_
      refine va_iast (i := ((6 : Int32) + x1)) hx hb hK hP hD hS 34 0 rfl rfl (tx_in g12) dX8_layTried_167 (fun H locs hP hD hS => ?_)
      obtain ⟨S_16, eS_16, h⟩ := tx_lt h
      rw [sM_a59, eS_16] at hP hD
      obtain ⟨y17, ey17, h⟩ := tx_lt h
      refine lv_iinc (v := y17) (lv' := [(1, .int y17), (0, .ref (aa 0))]) hx hb dX8_layTried_168 hl (k := 1) rfl ey17 (by decide) rfl (fun ls hl => ?_)
      refine lv_goto (tgt := 102) hx hb dX8_layTried_171 (by decide) ?_
      exact hk102 y17 S_16 H locs ls h hP hD hS (lv_sub hl [1, 0] rfl)
set_option maxHeartbeats 4000000 in
set_option maxRecDepth 100000 in
theorem w_X8_layTried_L75 {p : Program} {l : Launch} {e : Env} {s : State} {m : MethodId} {below : List Frame} {meth : Method} {c : Code} {G : va_G} {cA : Nat → ClassId} {A : Nat → Prop} {aa : Nat → Nat} {L : Lo} {S' : Tr} (F : tF p s m ([.ref (aa 0)] : List Value).toArray meth c G cA A RX8 cX8_layTried 2 none)    (N : Nat) : ∀ (x1 : Int32) (S : Tr) (H : Heap) (locs : List Loc) (ls : Array Slot), lpF (fun _ _ => none) (fB_X8_layTried_L75 ) N x1 S = some S' → va_P G vwCl (wM cA aa S L) H → va_D A (wM cA aa S L) → va_S A s.heap H locs → lv_has ls 2 [(0, .ref (aa 0)), (1, .int x1)] → G_X8_layTried p l e s m below meth c G cA A aa L S' H locs (F0 m 75 ls []) := by
  obtain ⟨hx, hb, hr, hml, hT, hown, hlocks, hK, hN, hA⟩ := id F
  induction N with
  | zero =>
    intro x1 S H locs ls h
    have h : (none : Option (Tr)) = some S' := h
    cases h
  | succ N hk75 =>
    intro x1 S H locs ls h hP hD hS hl
    have h : fB_X8_layTried_L75  (lpF (fun _ _ => none) (fB_X8_layTried_L75 ) N) x1 S = some S' := h
    generalize hk75e : lpF (fun _ _ => none) (fB_X8_layTried_L75 ) N = k75 at h hk75
    unfold fB_X8_layTried_L75 at h
    refine lv_iload_n hx hb dX8_layTried_75 rfl (lv_at hl 1 rfl) ?_
    refine lv_iconst (v := 5) hx hb dX8_layTried_76 (by decide) ?_
    refine lv_icmp_ge (tgt := 100) hx hb dX8_layTried_77 (by decide) (fun c3 => ?_) (fun c3 => ?_)
    · have h := tx_pos c3 h
      refine lv_iconst (v := 0) hx hb dX8_layTried_100 (by decide) ?_
      refine lv_istore_n (lv' := [(1, .int 0), (0, .ref (aa 0))]) hx hb dX8_layTried_101 rfl hl (by decide) rfl (fun ls hl => ?_)
      exact w_X8_layTried_L102 F 2000 0 S H locs ls h hP hD hS (lv_sub hl [1, 0] rfl)
    · have h := tx_neg c3 h
      refine lv_aload_n hx hb dX8_layTried_80 rfl (lv_at hl 0 rfl) ?_
      refine va_get (D := G) (ci := 8) (v := .ref (aa 56)) (C := RX8) (T := TX8) (N := 91) hx hb hT ku_8 hown hK hP 0 rfl rfl 55 (by decide) (hT _ kw_10_16) (fun _ h9 => h9) rfl dX8_layTried_81 ?_
      refine lv_iconst (v := 5) hx hb dX8_layTried_84 (by decide) ?_
      refine lv_iload_n hx hb dX8_layTried_85 rfl (lv_at hl 1 rfl) ?_
      refine lv_iadd hx hb dX8_layTried_86 ?_
      refine lv_aload_n hx hb dX8_layTried_87 rfl (lv_at hl 0 rfl) ?_
      refine va_get (D := G) (ci := 8) (v := .ref (aa 56)) (C := RX8) (T := TX8) (N := 91) hx hb hT ku_8 hown hK hP 0 rfl rfl 55 (by decide) (hT _ kw_10_16) (fun _ h9 => h9) rfl dX8_layTried_88 ?_
      refine lv_iload_n hx hb dX8_layTried_91 rfl (lv_at hl 1 rfl) ?_
      obtain ⟨g18, h⟩ := tx_ck h
      refine va_iald (i := x1) hx hb hK hP 30 0 rfl rfl (tx_in g18) dX8_layTried_92 ?_
      obtain ⟨g19, h⟩ := tx_ck h
      refine va_iast (i := ((5 : Int32) + x1)) hx hb hK hP hD hS 30 0 rfl rfl (tx_in g19) dX8_layTried_93 (fun H locs hP hD hS => ?_)
      obtain ⟨S_20, eS_20, h⟩ := tx_lt h
      rw [sM_a55, eS_20] at hP hD
      obtain ⟨y21, ey21, h⟩ := tx_lt h
      refine lv_iinc (v := y21) (lv' := [(1, .int y21), (0, .ref (aa 0))]) hx hb dX8_layTried_94 hl (k := 1) rfl ey21 (by decide) rfl (fun ls hl => ?_)
      refine lv_goto (tgt := 75) hx hb dX8_layTried_97 (by decide) ?_
      exact hk75 y21 S_20 H locs ls h hP hD hS (lv_sub hl [1, 0] rfl)
set_option maxHeartbeats 4000000 in
set_option maxRecDepth 100000 in
theorem w_X8_layTried_L46 {p : Program} {l : Launch} {e : Env} {s : State} {m : MethodId} {below : List Frame} {meth : Method} {c : Code} {G : va_G} {cA : Nat → ClassId} {A : Nat → Prop} {aa : Nat → Nat} {L : Lo} {S' : Tr} (F : tF p s m ([.ref (aa 0)] : List Value).toArray meth c G cA A RX8 cX8_layTried 2 none)    (N : Nat) : ∀ (x1 : Int32) (S : Tr) (H : Heap) (locs : List Loc) (ls : Array Slot), lpF (fun _ _ => none) (fB_X8_layTried_L46 ) N x1 S = some S' → va_P G vwCl (wM cA aa S L) H → va_D A (wM cA aa S L) → va_S A s.heap H locs → lv_has ls 2 [(0, .ref (aa 0)), (1, .int x1)] → G_X8_layTried p l e s m below meth c G cA A aa L S' H locs (F0 m 46 ls []) := by
  obtain ⟨hx, hb, hr, hml, hT, hown, hlocks, hK, hN, hA⟩ := id F
  induction N with
  | zero =>
    intro x1 S H locs ls h
    have h : (none : Option (Tr)) = some S' := h
    cases h
  | succ N hk46 =>
    intro x1 S H locs ls h hP hD hS hl
    have h : fB_X8_layTried_L46  (lpF (fun _ _ => none) (fB_X8_layTried_L46 ) N) x1 S = some S' := h
    generalize hk46e : lpF (fun _ _ => none) (fB_X8_layTried_L46 ) N = k46 at h hk46
    unfold fB_X8_layTried_L46 at h
    refine lv_iload_n hx hb dX8_layTried_46 rfl (lv_at hl 1 rfl) ?_
    refine lv_bipush (v := 50) hx hb dX8_layTried_47 (by decide) ?_
    refine lv_icmp_ge (tgt := 73) hx hb dX8_layTried_49 (by decide) (fun c2 => ?_) (fun c2 => ?_)
    · have h := tx_pos c2 h
      refine lv_iconst (v := 0) hx hb dX8_layTried_73 (by decide) ?_
      refine lv_istore_n (lv' := [(1, .int 0), (0, .ref (aa 0))]) hx hb dX8_layTried_74 rfl hl (by decide) rfl (fun ls hl => ?_)
      exact w_X8_layTried_L75 F 2000 0 S H locs ls h hP hD hS (lv_sub hl [1, 0] rfl)
    · have h := tx_neg c2 h
      refine lv_aload_n hx hb dX8_layTried_52 rfl (lv_at hl 0 rfl) ?_
      refine va_get (D := G) (ci := 8) (v := .ref (aa 55)) (C := RX8) (T := TX8) (N := 91) hx hb hT ku_8 hown hK hP 0 rfl rfl 54 (by decide) (hT _ kw_10_15) (fun _ h9 => h9) rfl dX8_layTried_53 ?_
      refine lv_bipush (v := 50) hx hb dX8_layTried_56 (by decide) ?_
      refine lv_iload_n hx hb dX8_layTried_58 rfl (lv_at hl 1 rfl) ?_
      refine lv_iadd hx hb dX8_layTried_59 ?_
      refine lv_aload_n hx hb dX8_layTried_60 rfl (lv_at hl 0 rfl) ?_
      refine va_get (D := G) (ci := 8) (v := .ref (aa 55)) (C := RX8) (T := TX8) (N := 91) hx hb hT ku_8 hown hK hP 0 rfl rfl 54 (by decide) (hT _ kw_10_15) (fun _ h9 => h9) rfl dX8_layTried_61 ?_
      refine lv_iload_n hx hb dX8_layTried_64 rfl (lv_at hl 1 rfl) ?_
      obtain ⟨g22, h⟩ := tx_ck h
      refine va_iald (i := x1) hx hb hK hP 29 0 rfl rfl (tx_in g22) dX8_layTried_65 ?_
      obtain ⟨g23, h⟩ := tx_ck h
      refine va_iast (i := ((50 : Int32) + x1)) hx hb hK hP hD hS 29 0 rfl rfl (tx_in g23) dX8_layTried_66 (fun H locs hP hD hS => ?_)
      obtain ⟨S_24, eS_24, h⟩ := tx_lt h
      rw [sM_a54, eS_24] at hP hD
      obtain ⟨y25, ey25, h⟩ := tx_lt h
      refine lv_iinc (v := y25) (lv' := [(1, .int y25), (0, .ref (aa 0))]) hx hb dX8_layTried_67 hl (k := 1) rfl ey25 (by decide) rfl (fun ls hl => ?_)
      refine lv_goto (tgt := 46) hx hb dX8_layTried_70 (by decide) ?_
      exact hk46 y25 S_24 H locs ls h hP hD hS (lv_sub hl [1, 0] rfl)
set_option maxHeartbeats 4000000 in
set_option maxRecDepth 100000 in
theorem w_X8_layTried_L2 {p : Program} {l : Launch} {e : Env} {s : State} {m : MethodId} {below : List Frame} {meth : Method} {c : Code} {G : va_G} {cA : Nat → ClassId} {A : Nat → Prop} {aa : Nat → Nat} {L : Lo} {S' : Tr} (F : tF p s m ([.ref (aa 0)] : List Value).toArray meth c G cA A RX8 cX8_layTried 2 none)    (N : Nat) : ∀ (x1 : Int32) (S : Tr) (H : Heap) (locs : List Loc) (ls : Array Slot), lpF (fun _ _ => none) (fB_X8_layTried_L2 ) N x1 S = some S' → va_P G vwCl (wM cA aa S L) H → va_D A (wM cA aa S L) → va_S A s.heap H locs → lv_has ls 2 [(0, .ref (aa 0)), (1, .int x1)] → G_X8_layTried p l e s m below meth c G cA A aa L S' H locs (F0 m 2 ls []) := by
  obtain ⟨hx, hb, hr, hml, hT, hown, hlocks, hK, hN, hA⟩ := id F
  induction N with
  | zero =>
    intro x1 S H locs ls h
    have h : (none : Option (Tr)) = some S' := h
    cases h
  | succ N hk2 =>
    intro x1 S H locs ls h hP hD hS hl
    have h : fB_X8_layTried_L2  (lpF (fun _ _ => none) (fB_X8_layTried_L2 ) N) x1 S = some S' := h
    generalize hk2e : lpF (fun _ _ => none) (fB_X8_layTried_L2 ) N = k2 at h hk2
    unfold fB_X8_layTried_L2 at h
    refine lv_iload_n hx hb dX8_layTried_2 rfl (lv_at hl 1 rfl) ?_
    refine lv_bipush (v := 10) hx hb dX8_layTried_3 (by decide) ?_
    refine lv_icmp_ge (tgt := 44) hx hb dX8_layTried_5 (by decide) (fun c1 => ?_) (fun c1 => ?_)
    · have h := tx_pos c1 h
      refine lv_iconst (v := 0) hx hb dX8_layTried_44 (by decide) ?_
      refine lv_istore_n (lv' := [(1, .int 0), (0, .ref (aa 0))]) hx hb dX8_layTried_45 rfl hl (by decide) rfl (fun ls hl => ?_)
      exact w_X8_layTried_L46 F 2000 0 S H locs ls h hP hD hS (lv_sub hl [1, 0] rfl)
    · have h := tx_neg c1 h
      refine lv_aload_n hx hb dX8_layTried_8 rfl (lv_at hl 0 rfl) ?_
      refine va_get (D := G) (ci := 8) (v := .ref (aa 53)) (C := RX8) (T := TX8) (N := 91) hx hb hT ku_8 hown hK hP 0 rfl rfl 52 (by decide) (hT _ kw_10_13) (fun _ h9 => h9) rfl dX8_layTried_9 ?_
      refine lv_bipush (v := 10) hx hb dX8_layTried_12 (by decide) ?_
      refine lv_iload_n hx hb dX8_layTried_14 rfl (lv_at hl 1 rfl) ?_
      refine lv_iadd hx hb dX8_layTried_15 ?_
      refine lv_aload_n hx hb dX8_layTried_16 rfl (lv_at hl 0 rfl) ?_
      refine va_get (D := G) (ci := 8) (v := .ref (aa 53)) (C := RX8) (T := TX8) (N := 91) hx hb hT ku_8 hown hK hP 0 rfl rfl 52 (by decide) (hT _ kw_10_13) (fun _ h9 => h9) rfl dX8_layTried_17 ?_
      refine lv_iload_n hx hb dX8_layTried_20 rfl (lv_at hl 1 rfl) ?_
      obtain ⟨g26, h⟩ := tx_ck h
      refine va_iald (i := x1) hx hb hK hP 27 0 rfl rfl (tx_in g26) dX8_layTried_21 ?_
      obtain ⟨g27, h⟩ := tx_ck h
      refine va_iast (i := ((10 : Int32) + x1)) hx hb hK hP hD hS 27 0 rfl rfl (tx_in g27) dX8_layTried_22 (fun H locs hP hD hS => ?_)
      obtain ⟨S_28, eS_28, h⟩ := tx_lt h
      rw [sM_a52, eS_28] at hP hD
      refine lv_aload_n hx hb dX8_layTried_23 rfl (lv_at hl 0 rfl) ?_
      refine va_get (D := G) (ci := 8) (v := .ref (aa 54)) (C := RX8) (T := TX8) (N := 91) hx hb hT ku_8 hown hK hP 0 rfl rfl 53 (by decide) (hT _ kw_10_14) (fun _ h9 => h9) rfl dX8_layTried_24 ?_
      refine lv_bipush (v := 10) hx hb dX8_layTried_27 (by decide) ?_
      refine lv_iload_n hx hb dX8_layTried_29 rfl (lv_at hl 1 rfl) ?_
      refine lv_iadd hx hb dX8_layTried_30 ?_
      refine lv_aload_n hx hb dX8_layTried_31 rfl (lv_at hl 0 rfl) ?_
      refine va_get (D := G) (ci := 8) (v := .ref (aa 54)) (C := RX8) (T := TX8) (N := 91) hx hb hT ku_8 hown hK hP 0 rfl rfl 53 (by decide) (hT _ kw_10_14) (fun _ h9 => h9) rfl dX8_layTried_32 ?_
      refine lv_iload_n hx hb dX8_layTried_35 rfl (lv_at hl 1 rfl) ?_
      refine va_iald (i := x1) hx hb hK hP 28 0 rfl rfl (tx_in g26) dX8_layTried_36 ?_
      refine va_iast (i := ((10 : Int32) + x1)) hx hb hK hP hD hS 28 0 rfl rfl (tx_in g27) dX8_layTried_37 (fun H locs hP hD hS => ?_)
      obtain ⟨S_29, eS_29, h⟩ := tx_lt h
      rw [sM_a53, eS_29] at hP hD
      obtain ⟨y30, ey30, h⟩ := tx_lt h
      refine lv_iinc (v := y30) (lv' := [(1, .int y30), (0, .ref (aa 0))]) hx hb dX8_layTried_38 hl (k := 1) rfl ey30 (by decide) rfl (fun ls hl => ?_)
      refine lv_goto (tgt := 2) hx hb dX8_layTried_41 (by decide) ?_
      exact hk2 y30 S_29 H locs ls h hP hD hS (lv_sub hl [1, 0] rfl)
set_option maxHeartbeats 4000000 in
set_option maxRecDepth 100000 in
theorem c_X8_layTried (l : Launch) (G : va_G) (cA : Nat → ClassId) (sz : Nat) (aa : Nat → Nat) (S : Tr) (L : Lo)  (S' : Tr) (h : f_X8_layTried S = some S') : Met l yX8_layTried (.code yX8_layTried cX8_layTried 2 none :: T0) ({ frames := 1, cells := 0, slots := 0, locals := 21 } : Room) (tqP G cA [.ref (aa 0)] (wM cA aa S L) sz) (tqQv G cA (fun (_ : Unit) => True) (fun (_ : Unit) => wM cA aa S' L) (va_A (wM cA aa S L) sz)) 0 0 (va_A (wM cA aa S L) sz) := by
  refine Met.ofW (cc := cX8_layTried) (maxL := 2) (ret := none) (by decide) rfl ?_
  intro p e s m args below meth c s₁ B hml hv
  obtain ⟨rfl, hsz, hP, hK, hD0, hN⟩ := hv
  have hx := B.exec
  have hb := B.bytes
  have hr := B.returns
  have hts := atoms_spec (ws := .code yX8_layTried cX8_layTried 2 none :: T0) B.pre
  have hT : ∀ w ∈ T0, w.before _ s = true := fun w h => hts w (List.mem_cons_of_mem _ h)
  have hown : s.vm.findClass RX8 = some m.cls := findClass_of_methodNamed B.named
  have hlocks := B.notSynchronized
  subst hsz
  have hD := hD0.self (sz := s.heap.size)
  generalize hAe : va_A (wM cA aa S L) s.heap.size = A at hD ⊢
  have hA : ∀ q : Nat, s.heap.size ≤ q → A q := fun q h => by rw [← hAe]; exact Or.inr h
  have hS : va_S A s.heap s.heap [] := va_S.rf
  have hl := lv_entry ([.ref (aa 0)]) (n := 2) (Nat.le_of_ble_eq_true rfl)
  rw [lg_entry_eq]
  generalize (lg_sl ([.ref (aa 0)]) ++ List.replicate (2 - (lg_sl ([.ref (aa 0)])).length) Slot.unset).toArray = ls at hl ⊢
  have hl : lv_has ls 2 [(0, .ref (aa 0))] := hl
  have F : tF p s m ([.ref (aa 0)] : List Value).toArray meth c G cA A RX8 cX8_layTried 2 none := ⟨hx, hb, hr, hml, hT, hown, hlocks, hK, hN, hA⟩
  obtain ⟨H, hH⟩ : ∃ z, z = s.heap := ⟨_, rfl⟩
  rw [← hH] at hP
  have hS : va_S A s.heap H [] := by rw [hH]; exact hS
  suffices hgo : G_X8_layTried p l e s m below meth c G cA A aa L S' H [] (F0 m 0 ls []) by rw [hH] at hgo; exact hgo
  generalize ([] : List Loc) = locs at hS ⊢
  unfold f_X8_layTried at h
  refine lv_iconst (v := 0) hx hb dX8_layTried_0 (by decide) ?_
  refine lv_istore_n (lv' := [(1, .int 0), (0, .ref (aa 0))]) hx hb dX8_layTried_1 rfl hl (by decide) rfl (fun ls hl => ?_)
  exact w_X8_layTried_L2 F 2000 0 S H locs ls h hP hD hS (lv_sub hl [1, 0] rfl)
abbrev G_X8_getsOut (p : Program) (l : Launch) (e : Env) (s : State) (m : MethodId) (below : List Frame) (meth : Method) (c : Code) (G : va_G) (cA : Nat → ClassId) (A : Nat → Prop) (aa : Nat → Nat) (S : Tr) (L : Lo) (x1 : Int32) (x2 : Int32) (r0 : Int32) (H : Heap) (locs : List Loc) (g : JFrame) : Prop := W p l e (headSpec (.code yX8_getsOut cX8_getsOut 3 (some .boolean) :: T0) ({ frames := 0, cells := 0, slots := 0, locals := 0 } : Room)).room s m ([.ref (aa 0), .int x1, .int x2] : List Value).toArray below meth c H locs 0 0 (MQ below (tqQi G cA (fun (r : Int32) (_ : Unit) => r = r0) (fun (_ : Unit) => wM cA aa S L) A) ([.ref (aa 0), .int x1, .int x2] : List Value).toArray s 0 0 A) g
set_option maxHeartbeats 4000000 in
set_option maxRecDepth 100000 in
theorem c_X8_getsOut (l : Launch) (G : va_G) (cA : Nat → ClassId) (sz : Nat) (aa : Nat → Nat) (S : Tr) (L : Lo) (x1 : Int32) (x2 : Int32)  (r0 : Int32) (h : f_X8_getsOut S x1 x2 = some r0) : Met l yX8_getsOut (.code yX8_getsOut cX8_getsOut 3 (some .boolean) :: T0) ({ frames := 0, cells := 0, slots := 0, locals := 0 } : Room) (tqP G cA [.ref (aa 0), .int x1, .int x2] (wM cA aa S L) sz) (tqQi G cA (fun (r : Int32) (_ : Unit) => r = r0) (fun (_ : Unit) => wM cA aa S L) (va_A (wM cA aa S L) sz)) 0 0 (va_A (wM cA aa S L) sz) := by
  refine Met.ofW (cc := cX8_getsOut) (maxL := 3) (ret := (some .boolean)) (by decide) rfl ?_
  intro p e s m args below meth c s₁ B hml hv
  obtain ⟨rfl, hsz, hP, hK, hD0, hN⟩ := hv
  have hx := B.exec
  have hb := B.bytes
  have hr := B.returns
  have hts := atoms_spec (ws := .code yX8_getsOut cX8_getsOut 3 (some .boolean) :: T0) B.pre
  have hT : ∀ w ∈ T0, w.before _ s = true := fun w h => hts w (List.mem_cons_of_mem _ h)
  have hown : s.vm.findClass RX8 = some m.cls := findClass_of_methodNamed B.named
  have hlocks := B.notSynchronized
  subst hsz
  have hD := hD0.self (sz := s.heap.size)
  generalize hAe : va_A (wM cA aa S L) s.heap.size = A at hD ⊢
  have hA : ∀ q : Nat, s.heap.size ≤ q → A q := fun q h => by rw [← hAe]; exact Or.inr h
  have hS : va_S A s.heap s.heap [] := va_S.rf
  have hl := lv_entry ([.ref (aa 0), .int x1, .int x2]) (n := 3) (Nat.le_of_ble_eq_true rfl)
  rw [lg_entry_eq]
  generalize (lg_sl ([.ref (aa 0), .int x1, .int x2]) ++ List.replicate (3 - (lg_sl ([.ref (aa 0), .int x1, .int x2])).length) Slot.unset).toArray = ls at hl ⊢
  have hl : lv_has ls 3 [(0, .ref (aa 0)), (1, .int x1), (2, .int x2)] := hl
  have F : tF p s m ([.ref (aa 0), .int x1, .int x2] : List Value).toArray meth c G cA A RX8 cX8_getsOut 3 (some .boolean) := ⟨hx, hb, hr, hml, hT, hown, hlocks, hK, hN, hA⟩
  obtain ⟨H, hH⟩ : ∃ z, z = s.heap := ⟨_, rfl⟩
  rw [← hH] at hP
  have hS : va_S A s.heap H [] := by rw [hH]; exact hS
  suffices hgo : G_X8_getsOut p l e s m below meth c G cA A aa S L x1 x2 r0 H [] (F0 m 0 ls []) by rw [hH] at hgo; exact hgo
  generalize ([] : List Loc) = locs at hS ⊢
  unfold f_X8_getsOut at h
  refine lv_aload_n hx hb dX8_getsOut_0 rfl (lv_at hl 0 rfl) ?_
  refine va_get (D := G) (ci := 8) (v := .ref (aa 59)) (C := RX8) (T := TX8) (N := 91) hx hb hT ku_8 hown hK hP 0 rfl rfl 58 (by decide) (hT _ kw_10_19) (fun _ h9 => h9) rfl dX8_getsOut_1 ?_
  refine lv_bipush (v := 6) hx hb dX8_getsOut_4 (by decide) ?_
  refine lv_iload_n hx hb dX8_getsOut_6 rfl (lv_at hl 1 rfl) ?_
  refine lv_imul hx hb dX8_getsOut_7 ?_
  refine lv_iload_n hx hb dX8_getsOut_8 rfl (lv_at hl 2 rfl) ?_
  refine lv_iadd hx hb dX8_getsOut_9 ?_
  obtain ⟨g1, h⟩ := tx_ck h
  refine va_iald (i := (((6 : Int32) * x1) + x2)) hx hb hK hP 33 0 rfl rfl (tx_in g1) dX8_getsOut_10 ?_
  refine lv_iconst (v := 1) hx hb dX8_getsOut_11 (by decide) ?_
  refine lv_icmp_ne (tgt := 45) hx hb dX8_getsOut_12 (by decide) (fun c2 => ?_) (fun c2 => ?_)
  · have h := tx_neg c2 h
    refine lv_iconst (v := 0) hx hb dX8_getsOut_45 (by decide) ?_
    obtain rfl := tx_1 h
    exact W.zret (ty := .boolean) hx hb hr rfl (fun t ht hW => ⟨⟨_, (), rfl, rfl, by rw [ht]; exact hP, hD⟩, hS.F ht⟩) hS.2.2 dX8_getsOut_46
  · have h := tx_pos c2 h
    refine lv_aload_n hx hb dX8_getsOut_15 rfl (lv_at hl 0 rfl) ?_
    refine va_get (D := G) (ci := 8) (v := .ref (aa 28)) (C := RX8) (T := TX8) (N := 91) hx hb hT ku_8 hown hK hP 0 rfl rfl 27 (by decide) (hT _ kw_9_19) (fun _ h9 => h9) rfl dX8_getsOut_16 ?_
    refine lv_iload_n hx hb dX8_getsOut_19 rfl (lv_at hl 2 rfl) ?_
    obtain ⟨g3, h⟩ := tx_ck h
    refine va_iald (i := x2) hx hb hK hP 9 0 rfl rfl (tx_in g3) dX8_getsOut_20 ?_
    refine lv_aload_n hx hb dX8_getsOut_21 rfl (lv_at hl 0 rfl) ?_
    refine va_get (D := G) (ci := 8) (v := .ref (aa 62)) (C := RX8) (T := TX8) (N := 91) hx hb hT ku_8 hown hK hP 0 rfl rfl 61 (by decide) (hT _ kw_10_22) (fun _ h9 => h9) rfl dX8_getsOut_22 ?_
    refine lv_iload_n hx hb dX8_getsOut_25 rfl (lv_at hl 1 rfl) ?_
    obtain ⟨g4, h⟩ := tx_ck h
    refine va_iald (i := x1) hx hb hK hP 36 0 rfl rfl (tx_in g4) dX8_getsOut_26 ?_
    refine lv_icmp_le (tgt := 41) hx hb dX8_getsOut_27 (by decide) (fun c5 => ?_) (fun c5 => ?_)
    · have h := tx_pos c5 h
      refine lv_iconst (v := 1) hx hb dX8_getsOut_41 (by decide) ?_
      refine lv_goto (tgt := 46) hx hb dX8_getsOut_42 (by decide) ?_
      obtain rfl := tx_1 h
      exact W.zret (ty := .boolean) hx hb hr rfl (fun t ht hW => ⟨⟨_, (), rfl, rfl, by rw [ht]; exact hP, hD⟩, hS.F ht⟩) hS.2.2 dX8_getsOut_46
    · have h := tx_neg c5 h
      refine lv_aload_n hx hb dX8_getsOut_30 rfl (lv_at hl 0 rfl) ?_
      refine va_get (D := G) (ci := 8) (v := .ref (aa 62)) (C := RX8) (T := TX8) (N := 91) hx hb hT ku_8 hown hK hP 0 rfl rfl 61 (by decide) (hT _ kw_10_22) (fun _ h9 => h9) rfl dX8_getsOut_31 ?_
      refine lv_iload_n hx hb dX8_getsOut_34 rfl (lv_at hl 1 rfl) ?_
      refine va_iald (i := x1) hx hb hK hP 36 0 rfl rfl (tx_in g4) dX8_getsOut_35 ?_
      refine lv_bipush (v := 20) hx hb dX8_getsOut_36 (by decide) ?_
      refine lv_icmp_ne (tgt := 45) hx hb dX8_getsOut_38 (by decide) (fun c6 => ?_) (fun c6 => ?_)
      · have h := tx_neg c6 h
        refine lv_iconst (v := 0) hx hb dX8_getsOut_45 (by decide) ?_
        obtain rfl := tx_1 h
        exact W.zret (ty := .boolean) hx hb hr rfl (fun t ht hW => ⟨⟨_, (), rfl, rfl, by rw [ht]; exact hP, hD⟩, hS.F ht⟩) hS.2.2 dX8_getsOut_46
      · have h := tx_pos c6 h
        refine lv_iconst (v := 1) hx hb dX8_getsOut_41 (by decide) ?_
        refine lv_goto (tgt := 46) hx hb dX8_getsOut_42 (by decide) ?_
        obtain rfl := tx_1 h
        exact W.zret (ty := .boolean) hx hb hr rfl (fun t ht hW => ⟨⟨_, (), rfl, rfl, by rw [ht]; exact hP, hD⟩, hS.F ht⟩) hS.2.2 dX8_getsOut_46
abbrev G_X8_weightIn (p : Program) (l : Launch) (e : Env) (s : State) (m : MethodId) (below : List Frame) (meth : Method) (c : Code) (G : va_G) (cA : Nat → ClassId) (A : Nat → Prop) (aa : Nat → Nat) (S : Tr) (L : Lo) (x1 : Int32) (x2 : Int32) (r0 : Int32) (H : Heap) (locs : List Loc) (g : JFrame) : Prop := W p l e (headSpec (.code yX8_weightIn cX8_weightIn 5 (some .int) :: T0) ({ frames := 1, cells := 0, slots := 0, locals := 23 } : Room)).room s m ([.ref (aa 0), .int x1, .int x2] : List Value).toArray below meth c H locs 0 0 (MQ below (tqQi G cA (fun (r : Int32) (_ : Unit) => r = r0) (fun (_ : Unit) => wM cA aa S L) A) ([.ref (aa 0), .int x1, .int x2] : List Value).toArray s 0 0 A) g
set_option maxHeartbeats 4000000 in
set_option maxRecDepth 100000 in
theorem w_X8_weightIn_L5 {p : Program} {l : Launch} {e : Env} {s : State} {m : MethodId} {below : List Frame} {meth : Method} {c : Code} {G : va_G} {cA : Nat → ClassId} {A : Nat → Prop} {aa : Nat → Nat} {S : Tr} {L : Lo} {x1₀ : Int32} {x2₀ : Int32} {r0 : Int32} {x1 : Int32} {x2 : Int32} (F : tF p s m ([.ref (aa 0), .int x1₀, .int x2₀] : List Value).toArray meth c G cA A RX8 cX8_weightIn 5 (some .int))    (N : Nat) : ∀ (x3 : Int32) (x4 : Int32) (H : Heap) (locs : List Loc) (ls : Array Slot), lpF (fun _ _ => none) (fB_X8_weightIn_L5 S x1 x2) N x3 x4 = some r0 → va_P G vwCl (wM cA aa S L) H → va_D A (wM cA aa S L) → va_S A s.heap H locs → lv_has ls 5 [(0, .ref (aa 0)), (1, .int x1), (2, .int x2), (3, .int x3), (4, .int x4)] → G_X8_weightIn p l e s m below meth c G cA A aa S L x1₀ x2₀ r0 H locs (F0 m 5 ls []) := by
  obtain ⟨hx, hb, hr, hml, hT, hown, hlocks, hK, hN, hA⟩ := id F
  induction N with
  | zero =>
    intro x3 x4 H locs ls h
    have h : (none : Option (Int32)) = some r0 := h
    cases h
  | succ N hk5 =>
    intro x3 x4 H locs ls h hP hD hS hl
    have h : fB_X8_weightIn_L5 S x1 x2 (lpF (fun _ _ => none) (fB_X8_weightIn_L5 S x1 x2) N) x3 x4 = some r0 := h
    generalize hk5e : lpF (fun _ _ => none) (fB_X8_weightIn_L5 S x1 x2) N = k5 at h hk5
    unfold fB_X8_weightIn_L5 at h
    refine lv_iload hx hb dX8_weightIn_5 (lv_at hl 4 rfl) ?_
    refine lv_aload_n hx hb dX8_weightIn_7 rfl (lv_at hl 0 rfl) ?_
    refine va_get (D := G) (ci := 8) (v := .ref (aa 56)) (C := RX8) (T := TX8) (N := 91) hx hb hT ku_8 hown hK hP 0 rfl rfl 55 (by decide) (hT _ kw_10_16) (fun _ h9 => h9) rfl dX8_weightIn_8 ?_
    refine lv_iconst (v := 5) hx hb dX8_weightIn_11 (by decide) ?_
    refine lv_iload_n hx hb dX8_weightIn_12 rfl (lv_at hl 1 rfl) ?_
    refine lv_imul hx hb dX8_weightIn_13 ?_
    refine lv_iload_n hx hb dX8_weightIn_14 rfl (lv_at hl 2 rfl) ?_
    refine lv_iadd hx hb dX8_weightIn_15 ?_
    obtain ⟨g1, h⟩ := tx_ck h
    refine va_iald (i := (((5 : Int32) * x1) + x2)) hx hb hK hP 30 0 rfl rfl (tx_in g1) dX8_weightIn_16 ?_
    refine lv_icmp_ge (tgt := 42) hx hb dX8_weightIn_17 (by decide) (fun c2 => ?_) (fun c2 => ?_)
    · have h := tx_pos c2 h
      refine lv_iload_n hx hb dX8_weightIn_42 rfl (lv_at hl 3 rfl) ?_
      obtain rfl := tx_1 h
      exact W.iret hx hb hr (fun t ht hW => ⟨⟨_, (), rfl, rfl, by rw [ht]; exact hP, hD⟩, hS.F ht⟩) hS.2.2 dX8_weightIn_43
    · have h := tx_neg c2 h
      refine lv_iload_n hx hb dX8_weightIn_20 rfl (lv_at hl 3 rfl) ?_
      refine lv_aload_n hx hb dX8_weightIn_21 rfl (lv_at hl 0 rfl) ?_
      refine va_get (D := G) (ci := 8) (v := .ref (aa 31)) (C := RX8) (T := TX8) (N := 91) hx hb hT ku_8 hown hK hP 0 rfl rfl 30 (by decide) (hT _ kw_9_22) (fun _ h9 => h9) rfl dX8_weightIn_22 ?_
      refine lv_aload_n hx hb dX8_weightIn_25 rfl (lv_at hl 0 rfl) ?_
      refine lv_iload_n hx hb dX8_weightIn_26 rfl (lv_at hl 1 rfl) ?_
      refine lv_iload_n hx hb dX8_weightIn_27 rfl (lv_at hl 2 rfl) ?_
      refine lv_iload hx hb dX8_weightIn_28 (lv_at hl 4 rfl) ?_
      obtain ⟨r3, hc4, h⟩ := tx_bd h
      refine tw_ci tw_all hP hD hS hA (va_runV (As := [.int x1, .int x2, .int x4]) (rest := [.ref (aa 31), .int x3]) ⟨hx, hb, hml, hown, hT⟩ (c_X8_stackAt l G cA H.size aa S L x1 x2 x4  r3 hc4) (cwV 3 hT (tq_gV kw_31_10 kw_31_11 kw_31_12 kw_1_5 kw_31_13) rfl rfl rfl (by decide +kernel) ⟨Nat.le_of_ble_eq_true rfl, Nat.le_of_ble_eq_true rfl⟩) ⟨(tw_pre tw_all hP hD hK hN).1, va_recv hK hP (ci := 8) (q0 := 0) rfl rfl, (tw_pre tw_all hP hD hK hN).2⟩ rfl rfl hl.1 rfl (lv_room (Nat.le_of_ble_eq_true rfl)) dX8_weightIn_30 ⟨Nat.le_of_ble_eq_true rfl, Nat.le_of_ble_eq_true rfl⟩) (fun _ _ H locs z5 hP hD hS => ?_)
      subst z5
      rw [List.append_nil] at hP hD
      have hP : va_P G vwCl (wM cA aa S L) H := hP
      have hD : va_D A (wM cA aa S L) := hD
      obtain ⟨g6, h⟩ := tx_ck h
      refine va_iald (i := r3) hx hb hK hP 12 0 rfl rfl (tx_in g6) dX8_weightIn_33 ?_
      refine lv_iadd hx hb dX8_weightIn_34 ?_
      refine lv_topi (fun y7 ey7 => ?_)
      have h := tx_let ey7 h
      refine lv_istore_n (lv' := [(3, .int y7), (0, .ref (aa 0)), (1, .int x1), (2, .int x2), (4, .int x4)]) hx hb dX8_weightIn_35 rfl hl (by decide) rfl (fun ls hl => ?_)
      obtain ⟨y8, ey8, h⟩ := tx_lt h
      refine lv_iinc (v := y8) (lv' := [(4, .int y8), (3, .int y7), (0, .ref (aa 0)), (1, .int x1), (2, .int x2)]) hx hb dX8_weightIn_36 hl (k := 4) rfl ey8 (by decide) rfl (fun ls hl => ?_)
      refine lv_goto (tgt := 5) hx hb dX8_weightIn_39 (by decide) ?_
      exact hk5 y7 y8 H locs ls h hP hD hS (lv_sub hl [2, 3, 4, 1, 0] rfl)
set_option maxHeartbeats 4000000 in
set_option maxRecDepth 100000 in
theorem c_X8_weightIn (l : Launch) (G : va_G) (cA : Nat → ClassId) (sz : Nat) (aa : Nat → Nat) (S : Tr) (L : Lo) (x1 : Int32) (x2 : Int32)  (r0 : Int32) (h : f_X8_weightIn S x1 x2 = some r0) : Met l yX8_weightIn (.code yX8_weightIn cX8_weightIn 5 (some .int) :: T0) ({ frames := 1, cells := 0, slots := 0, locals := 23 } : Room) (tqP G cA [.ref (aa 0), .int x1, .int x2] (wM cA aa S L) sz) (tqQi G cA (fun (r : Int32) (_ : Unit) => r = r0) (fun (_ : Unit) => wM cA aa S L) (va_A (wM cA aa S L) sz)) 0 0 (va_A (wM cA aa S L) sz) := by
  refine Met.ofW (cc := cX8_weightIn) (maxL := 5) (ret := (some .int)) (by decide) rfl ?_
  intro p e s m args below meth c s₁ B hml hv
  obtain ⟨rfl, hsz, hP, hK, hD0, hN⟩ := hv
  have hx := B.exec
  have hb := B.bytes
  have hr := B.returns
  have hts := atoms_spec (ws := .code yX8_weightIn cX8_weightIn 5 (some .int) :: T0) B.pre
  have hT : ∀ w ∈ T0, w.before _ s = true := fun w h => hts w (List.mem_cons_of_mem _ h)
  have hown : s.vm.findClass RX8 = some m.cls := findClass_of_methodNamed B.named
  have hlocks := B.notSynchronized
  subst hsz
  have hD := hD0.self (sz := s.heap.size)
  generalize hAe : va_A (wM cA aa S L) s.heap.size = A at hD ⊢
  have hA : ∀ q : Nat, s.heap.size ≤ q → A q := fun q h => by rw [← hAe]; exact Or.inr h
  have hS : va_S A s.heap s.heap [] := va_S.rf
  have hl := lv_entry ([.ref (aa 0), .int x1, .int x2]) (n := 5) (Nat.le_of_ble_eq_true rfl)
  rw [lg_entry_eq]
  generalize (lg_sl ([.ref (aa 0), .int x1, .int x2]) ++ List.replicate (5 - (lg_sl ([.ref (aa 0), .int x1, .int x2])).length) Slot.unset).toArray = ls at hl ⊢
  have hl : lv_has ls 5 [(0, .ref (aa 0)), (1, .int x1), (2, .int x2)] := hl
  have F : tF p s m ([.ref (aa 0), .int x1, .int x2] : List Value).toArray meth c G cA A RX8 cX8_weightIn 5 (some .int) := ⟨hx, hb, hr, hml, hT, hown, hlocks, hK, hN, hA⟩
  obtain ⟨H, hH⟩ : ∃ z, z = s.heap := ⟨_, rfl⟩
  rw [← hH] at hP
  have hS : va_S A s.heap H [] := by rw [hH]; exact hS
  suffices hgo : G_X8_weightIn p l e s m below meth c G cA A aa S L x1 x2 r0 H [] (F0 m 0 ls []) by rw [hH] at hgo; exact hgo
  generalize ([] : List Loc) = locs at hS ⊢
  unfold f_X8_weightIn at h
  refine lv_iconst (v := 0) hx hb dX8_weightIn_0 (by decide) ?_
  refine lv_istore_n (lv' := [(3, .int 0), (0, .ref (aa 0)), (1, .int x1), (2, .int x2)]) hx hb dX8_weightIn_1 rfl hl (by decide) rfl (fun ls hl => ?_)
  refine lv_iconst (v := 0) hx hb dX8_weightIn_2 (by decide) ?_
  refine lv_istore (lv' := [(4, .int 0), (3, .int 0), (0, .ref (aa 0)), (1, .int x1), (2, .int x2)]) hx hb dX8_weightIn_3 hl (by decide) rfl (fun ls hl => ?_)
  exact w_X8_weightIn_L5 F 2000 0 0 H locs ls h hP hD hS (lv_sub hl [2, 3, 4, 1, 0] rfl)
abbrev G_X8_layNames (p : Program) (l : Launch) (e : Env) (s : State) (m : MethodId) (below : List Frame) (meth : Method) (c : Code) (G : va_G) (cA : Nat → ClassId) (A : Nat → Prop) (aa : Nat → Nat) (S : Tr) (x1 : Int32) (x2 : Int32) (x3 : Int32) (L' : Lo) (H : Heap) (locs : List Loc) (g : JFrame) : Prop := W p l e (headSpec (.code yX8_layNames cX8_layNames 5 none :: T0) ({ frames := 3, cells := 0, slots := 0, locals := 68 } : Room)).room s m ([.ref (aa 0), .int x1, .int x2, .int x3] : List Value).toArray below meth c H locs 0 0 (MQ below (tqQv G cA (fun (_ : Unit) => True) (fun (_ : Unit) => wM cA aa S L') A) ([.ref (aa 0), .int x1, .int x2, .int x3] : List Value).toArray s 0 0 A) g
set_option maxHeartbeats 4000000 in
set_option maxRecDepth 100000 in
theorem c_X8_layNames (l : Launch) (G : va_G) (cA : Nat → ClassId) (sz : Nat) (aa : Nat → Nat) (S : Tr) (L : Lo) (x1 : Int32) (x2 : Int32) (x3 : Int32)  (L' : Lo) (h : f_X8_layNames S L x1 x2 x3 = some L') : Met l yX8_layNames (.code yX8_layNames cX8_layNames 5 none :: T0) ({ frames := 3, cells := 0, slots := 0, locals := 68 } : Room) (tqP G cA [.ref (aa 0), .int x1, .int x2, .int x3] (wM cA aa S L) sz) (tqQv G cA (fun (_ : Unit) => True) (fun (_ : Unit) => wM cA aa S L') (va_A (wM cA aa S L) sz)) 0 0 (va_A (wM cA aa S L) sz) := by
  refine Met.ofW (cc := cX8_layNames) (maxL := 5) (ret := none) (by decide) rfl ?_
  intro p e s m args below meth c s₁ B hml hv
  obtain ⟨rfl, hsz, hP, hK, hD0, hN⟩ := hv
  have hx := B.exec
  have hb := B.bytes
  have hr := B.returns
  have hts := atoms_spec (ws := .code yX8_layNames cX8_layNames 5 none :: T0) B.pre
  have hT : ∀ w ∈ T0, w.before _ s = true := fun w h => hts w (List.mem_cons_of_mem _ h)
  have hown : s.vm.findClass RX8 = some m.cls := findClass_of_methodNamed B.named
  have hlocks := B.notSynchronized
  subst hsz
  have hD := hD0.self (sz := s.heap.size)
  generalize hAe : va_A (wM cA aa S L) s.heap.size = A at hD ⊢
  have hA : ∀ q : Nat, s.heap.size ≤ q → A q := fun q h => by rw [← hAe]; exact Or.inr h
  have hS : va_S A s.heap s.heap [] := va_S.rf
  have hl := lv_entry ([.ref (aa 0), .int x1, .int x2, .int x3]) (n := 5) (Nat.le_of_ble_eq_true rfl)
  rw [lg_entry_eq]
  generalize (lg_sl ([.ref (aa 0), .int x1, .int x2, .int x3]) ++ List.replicate (5 - (lg_sl ([.ref (aa 0), .int x1, .int x2, .int x3])).length) Slot.unset).toArray = ls at hl ⊢
  have hl : lv_has ls 5 [(0, .ref (aa 0)), (1, .int x1), (2, .int x2), (3, .int x3)] := hl
  have F : tF p s m ([.ref (aa 0), .int x1, .int x2, .int x3] : List Value).toArray meth c G cA A RX8 cX8_layNames 5 none := ⟨hx, hb, hr, hml, hT, hown, hlocks, hK, hN, hA⟩
  obtain ⟨H, hH⟩ : ∃ z, z = s.heap := ⟨_, rfl⟩
  rw [← hH] at hP
  have hS : va_S A s.heap H [] := by rw [hH]; exact hS
  suffices hgo : G_X8_layNames p l e s m below meth c G cA A aa S x1 x2 x3 L' H [] (F0 m 0 ls []) by rw [hH] at hgo; exact hgo
  generalize ([] : List Loc) = locs at hS ⊢
  unfold f_X8_layNames at h
  refine lv_aload_n hx hb dX8_layNames_0 rfl (lv_at hl 0 rfl) ?_
  refine va_get (D := G) (ci := 8) (v := .ref (aa 54)) (C := RX8) (T := TX8) (N := 91) hx hb hT ku_8 hown hK hP 0 rfl rfl 53 (by decide) (hT _ kw_10_14) (fun _ h9 => h9) rfl dX8_layNames_1 ?_
  refine lv_bipush (v := 10) hx hb dX8_layNames_4 (by decide) ?_
  refine lv_iload_n hx hb dX8_layNames_6 rfl (lv_at hl 1 rfl) ?_
  refine lv_imul hx hb dX8_layNames_7 ?_
  refine lv_iload_n hx hb dX8_layNames_8 rfl (lv_at hl 2 rfl) ?_
  refine lv_iadd hx hb dX8_layNames_9 ?_
  obtain ⟨g1, h⟩ := tx_ck h
  refine va_iald (i := (((10 : Int32) * x1) + x2)) hx hb hK hP 28 0 rfl rfl (tx_in g1) dX8_layNames_10 ?_
  refine lv_topi (fun y2 ey2 => ?_)
  have h := tx_let ey2 h
  refine lv_istore (lv' := [(4, .int y2), (0, .ref (aa 0)), (1, .int x1), (2, .int x2), (3, .int x3)]) hx hb dX8_layNames_11 hl (by decide) rfl (fun ls hl => ?_)
  refine lv_aload_n hx hb dX8_layNames_13 rfl (lv_at hl 1 rfl) ?_
  refine va_get (D := G) (ci := 8) (v := .ref (aa 50)) (C := RX8) (T := TX8) (N := 91) hx hb hT ku_8 hown hK hP 0 rfl rfl 49 (by decide) (hT _ kw_10_11) (fun _ h9 => h9) rfl dX8_layNames_14 ?_
  refine lv_iconst (v := 0) hx hb dX8_layNames_17 (by decide) ?_
  refine lv_aload_n hx hb dX8_layNames_18 rfl (lv_at hl 1 rfl) ?_
  refine va_get (D := G) (ci := 8) (v := .ref (aa 31)) (C := RX8) (T := TX8) (N := 91) hx hb hT ku_8 hown hK hP 0 rfl rfl 30 (by decide) (hT _ kw_9_22) (fun _ h9 => h9) rfl dX8_layNames_19 ?_
  refine lv_iload_n hx hb dX8_layNames_22 rfl (lv_at hl 3 rfl) ?_
  obtain ⟨g3, h⟩ := tx_ck h
  refine va_iald (i := x2) hx hb hK hP 12 0 rfl rfl (tx_in g3) dX8_layNames_23 ?_
  refine lv_i2l hx hb dX8_layNames_24 rfl ?_
  refine va_last (i := 0) hx hb hK hP hD hS 25 2 rfl rfl (tq_in (by decide)) dX8_layNames_25 (fun H locs hP hD hS => ?_)
  rw [show (0 : Int32).toNatClampNeg = 0 from rfl] at hP hD
  obtain ⟨L_4, eL_4, h⟩ := tx_lt h
  rw [sM_a49, eL_4] at hP hD
  refine lv_aload_n hx hb dX8_layNames_26 rfl (lv_at hl 1 rfl) ?_
  refine va_get (D := G) (ci := 8) (v := .ref (aa 50)) (C := RX8) (T := TX8) (N := 91) hx hb hT ku_8 hown hK hP 0 rfl rfl 49 (by decide) (hT _ kw_10_11) (fun _ h9 => h9) rfl dX8_layNames_27 ?_
  refine lv_iconst (v := 1) hx hb dX8_layNames_30 (by decide) ?_
  refine lv_aload_n hx hb dX8_layNames_31 rfl (lv_at hl 1 rfl) ?_
  refine va_get (D := G) (ci := 8) (v := .ref (aa 32)) (C := RX8) (T := TX8) (N := 91) hx hb hT ku_8 hown hK hP 0 rfl rfl 31 (by decide) (hT _ kw_9_23) (fun _ h9 => h9) rfl dX8_layNames_32 ?_
  refine lv_iload_n hx hb dX8_layNames_35 rfl (lv_at hl 3 rfl) ?_
  refine va_iald (i := x2) hx hb hK hP 13 0 rfl rfl (tx_in g3) dX8_layNames_36 ?_
  refine lv_i2l hx hb dX8_layNames_37 rfl ?_
  refine va_last (i := 1) hx hb hK hP hD hS 25 2 rfl rfl (tq_in (by decide)) dX8_layNames_38 (fun H locs hP hD hS => ?_)
  rw [show (1 : Int32).toNatClampNeg = 1 from rfl] at hP hD
  obtain ⟨L_5, eL_5, h⟩ := tx_lt h
  rw [sM_a49, eL_5] at hP hD
  refine lv_aload_n hx hb dX8_layNames_39 rfl (lv_at hl 1 rfl) ?_
  refine va_get (D := G) (ci := 8) (v := .ref (aa 50)) (C := RX8) (T := TX8) (N := 91) hx hb hT ku_8 hown hK hP 0 rfl rfl 49 (by decide) (hT _ kw_10_11) (fun _ h9 => h9) rfl dX8_layNames_40 ?_
  refine lv_iconst (v := 2) hx hb dX8_layNames_43 (by decide) ?_
  refine lv_aload_n hx hb dX8_layNames_44 rfl (lv_at hl 1 rfl) ?_
  refine lv_iload_n hx hb dX8_layNames_45 rfl (lv_at hl 2 rfl) ?_
  refine lv_iload_n hx hb dX8_layNames_46 rfl (lv_at hl 3 rfl) ?_
  obtain ⟨r6, hc7, h⟩ := tx_bd h
  refine tw_ci tw_all hP hD hS hA (va_runV (As := [.int x1, .int x2]) (rest := [.int 2, .ref (aa 50)]) ⟨hx, hb, hml, hown, hT⟩ (c_X8_aboveOf l G cA H.size aa S L_5 x1 x2  r6 hc7) (cwV 2 hT (tq_gV kw_31_2 kw_31_3 kw_31_4 kw_1_5 kw_31_5) rfl rfl rfl (by decide +kernel) ⟨Nat.le_of_ble_eq_true rfl, Nat.le_of_ble_eq_true rfl⟩) ⟨(tw_pre tw_all hP hD hK hN).1, va_recv hK hP (ci := 8) (q0 := 0) rfl rfl, (tw_pre tw_all hP hD hK hN).2⟩ rfl rfl hl.1 rfl (lv_room (Nat.le_of_ble_eq_true rfl)) dX8_layNames_47 ⟨Nat.le_of_ble_eq_true rfl, Nat.le_of_ble_eq_true rfl⟩) (fun _ _ H locs z8 hP hD hS => ?_)
  subst z8
  rw [List.append_nil] at hP hD
  have hP : va_P G vwCl (wM cA aa S L_5) H := hP
  have hD : va_D A (wM cA aa S L_5) := hD
  refine lv_i2l hx hb dX8_layNames_50 rfl ?_
  refine va_last (i := 2) hx hb hK hP hD hS 25 2 rfl rfl (tq_in (by decide)) dX8_layNames_51 (fun H locs hP hD hS => ?_)
  rw [show (2 : Int32).toNatClampNeg = 2 from rfl] at hP hD
  obtain ⟨L_9, eL_9, h⟩ := tx_lt h
  rw [sM_a49, eL_9] at hP hD
  refine lv_aload_n hx hb dX8_layNames_52 rfl (lv_at hl 1 rfl) ?_
  refine va_get (D := G) (ci := 8) (v := .ref (aa 50)) (C := RX8) (T := TX8) (N := 91) hx hb hT ku_8 hown hK hP 0 rfl rfl 49 (by decide) (hT _ kw_10_11) (fun _ h9 => h9) rfl dX8_layNames_53 ?_
  refine lv_iconst (v := 3) hx hb dX8_layNames_56 (by decide) ?_
  refine lv_aload_n hx hb dX8_layNames_57 rfl (lv_at hl 1 rfl) ?_
  refine va_get (D := G) (ci := 8) (v := .ref (aa 24)) (C := RX8) (T := TX8) (N := 91) hx hb hT ku_8 hown hK hP 0 rfl rfl 23 (by decide) (hT _ kw_9_15) (fun _ h9 => h9) rfl dX8_layNames_58 ?_
  refine lv_iload hx hb dX8_layNames_61 (lv_at hl 0 rfl) ?_
  obtain ⟨g10, h⟩ := tx_ck h
  refine va_iald (i := y2) hx hb hK hP 5 0 rfl rfl (tx_in g10) dX8_layNames_63 ?_
  refine lv_i2l hx hb dX8_layNames_64 rfl ?_
  refine va_last (i := 3) hx hb hK hP hD hS 25 2 rfl rfl (tq_in (by decide)) dX8_layNames_65 (fun H locs hP hD hS => ?_)
  rw [show (3 : Int32).toNatClampNeg = 3 from rfl] at hP hD
  obtain ⟨L_11, eL_11, h⟩ := tx_lt h
  rw [sM_a49, eL_11] at hP hD
  refine lv_aload_n hx hb dX8_layNames_66 rfl (lv_at hl 1 rfl) ?_
  refine va_get (D := G) (ci := 8) (v := .ref (aa 50)) (C := RX8) (T := TX8) (N := 91) hx hb hT ku_8 hown hK hP 0 rfl rfl 49 (by decide) (hT _ kw_10_11) (fun _ h9 => h9) rfl dX8_layNames_67 ?_
  refine lv_iconst (v := 4) hx hb dX8_layNames_70 (by decide) ?_
  refine lv_aload_n hx hb dX8_layNames_71 rfl (lv_at hl 1 rfl) ?_
  refine lv_iload_n hx hb dX8_layNames_72 rfl (lv_at hl 2 rfl) ?_
  refine lv_iload_n hx hb dX8_layNames_73 rfl (lv_at hl 4 rfl) ?_
  obtain ⟨r12, hc13, h⟩ := tx_bd h
  refine tw_ci tw_all hP hD hS hA (va_runV (As := [.int x1, .int x3]) (rest := [.int 4, .ref (aa 50)]) ⟨hx, hb, hml, hown, hT⟩ (c_X8_ableOf l G cA H.size aa S L_11 x1 x3  r12 hc13) (cwV 2 hT (tq_gV kw_34_15 kw_34_16 kw_34_17 kw_1_5 kw_34_18) rfl rfl rfl (by decide +kernel) ⟨Nat.le_of_ble_eq_true rfl, Nat.le_of_ble_eq_true rfl⟩) ⟨(tw_pre tw_all hP hD hK hN).1, va_recv hK hP (ci := 8) (q0 := 0) rfl rfl, (tw_pre tw_all hP hD hK hN).2⟩ rfl rfl hl.1 rfl (lv_room (Nat.le_of_ble_eq_true rfl)) dX8_layNames_74 ⟨Nat.le_of_ble_eq_true rfl, Nat.le_of_ble_eq_true rfl⟩) (fun _ _ H locs z14 hP hD hS => ?_)
  subst z14
  rw [List.append_nil] at hP hD
  have hP : va_P G vwCl (wM cA aa S L_11) H := hP
  have hD : va_D A (wM cA aa S L_11) := hD
  refine lv_i2l hx hb dX8_layNames_77 rfl ?_
  refine va_last (i := 4) hx hb hK hP hD hS 25 2 rfl rfl (tq_in (by decide)) dX8_layNames_78 (fun H locs hP hD hS => ?_)
  rw [show (4 : Int32).toNatClampNeg = 4 from rfl] at hP hD
  obtain ⟨L_15, eL_15, h⟩ := tx_lt h
  rw [sM_a49, eL_15] at hP hD
  refine lv_aload_n hx hb dX8_layNames_79 rfl (lv_at hl 1 rfl) ?_
  refine va_get (D := G) (ci := 8) (v := .ref (aa 50)) (C := RX8) (T := TX8) (N := 91) hx hb hT ku_8 hown hK hP 0 rfl rfl 49 (by decide) (hT _ kw_10_11) (fun _ h9 => h9) rfl dX8_layNames_80 ?_
  refine lv_iconst (v := 5) hx hb dX8_layNames_83 (by decide) ?_
  refine lv_aload_n hx hb dX8_layNames_84 rfl (lv_at hl 1 rfl) ?_
  refine va_get (D := G) (ci := 8) (v := .ref (aa 62)) (C := RX8) (T := TX8) (N := 91) hx hb hT ku_8 hown hK hP 0 rfl rfl 61 (by decide) (hT _ kw_10_22) (fun _ h9 => h9) rfl dX8_layNames_85 ?_
  refine lv_iload_n hx hb dX8_layNames_88 rfl (lv_at hl 2 rfl) ?_
  obtain ⟨g16, h⟩ := tx_ck h
  refine va_iald (i := x1) hx hb hK hP 36 0 rfl rfl (tx_in g16) dX8_layNames_89 ?_
  refine lv_i2l hx hb dX8_layNames_90 rfl ?_
  refine va_last (i := 5) hx hb hK hP hD hS 25 2 rfl rfl (tq_in (by decide)) dX8_layNames_91 (fun H locs hP hD hS => ?_)
  rw [show (5 : Int32).toNatClampNeg = 5 from rfl] at hP hD
  obtain ⟨L_17, eL_17, h⟩ := tx_lt h
  rw [sM_a49, eL_17] at hP hD
  refine lv_aload_n hx hb dX8_layNames_92 rfl (lv_at hl 1 rfl) ?_
  refine va_get (D := G) (ci := 8) (v := .ref (aa 50)) (C := RX8) (T := TX8) (N := 91) hx hb hT ku_8 hown hK hP 0 rfl rfl 49 (by decide) (hT _ kw_10_11) (fun _ h9 => h9) rfl dX8_layNames_93 ?_
  refine lv_bipush (v := 6) hx hb dX8_layNames_96 (by decide) ?_
  refine lv_aload_n hx hb dX8_layNames_98 rfl (lv_at hl 1 rfl) ?_
  refine lv_iload_n hx hb dX8_layNames_99 rfl (lv_at hl 2 rfl) ?_
  refine lv_iload hx hb dX8_layNames_100 (lv_at hl 0 rfl) ?_
  obtain ⟨r18, hc19, h⟩ := tx_bd h
  refine tw_ci tw_all hP hD hS hA (va_runV (As := [.int x1, .int y2]) (rest := [.int 6, .ref (aa 50)]) ⟨hx, hb, hml, hown, hT⟩ (c_X8_weightIn l G cA H.size aa S L_17 x1 y2  r18 hc19) (cwV 2 hT (tq_gV kw_32_15 kw_32_16 kw_32_17 kw_1_5 kw_32_18) rfl rfl rfl (by decide +kernel) ⟨Nat.le_of_ble_eq_true rfl, Nat.le_of_ble_eq_true rfl⟩) ⟨(tw_pre tw_all hP hD hK hN).1, va_recv hK hP (ci := 8) (q0 := 0) rfl rfl, (tw_pre tw_all hP hD hK hN).2⟩ rfl rfl hl.1 rfl (lv_room (Nat.le_of_ble_eq_true rfl)) dX8_layNames_102 ⟨Nat.le_of_ble_eq_true rfl, Nat.le_of_ble_eq_true rfl⟩) (fun _ _ H locs z20 hP hD hS => ?_)
  subst z20
  rw [List.append_nil] at hP hD
  have hP : va_P G vwCl (wM cA aa S L_17) H := hP
  have hD : va_D A (wM cA aa S L_17) := hD
  refine lv_i2l hx hb dX8_layNames_105 rfl ?_
  refine va_last (i := 6) hx hb hK hP hD hS 25 2 rfl rfl (tq_in (by decide)) dX8_layNames_106 (fun H locs hP hD hS => ?_)
  rw [show (6 : Int32).toNatClampNeg = 6 from rfl] at hP hD
  obtain ⟨L_21, eL_21, h⟩ := tx_lt h
  rw [sM_a49, eL_21] at hP hD
  obtain rfl := tx_1 h
  exact W.vret hx hb hr (fun t ht hW => ⟨⟨(), rfl, trivial, by rw [ht]; exact hP, hD⟩, hS.F ht⟩) hS.2.2 dX8_layNames_107
abbrev G_X8_compares (p : Program) (l : Launch) (e : Env) (s : State) (m : MethodId) (below : List Frame) (meth : Method) (c : Code) (G : va_G) (cA : Nat → ClassId) (A : Nat → Prop) (x0 : Int32) (x1 : Int64) (x3 : Int64) (r0 : Int32) (H : Heap) (locs : List Loc) (g : JFrame) : Prop := W p l e (headSpec (.code yX8_compares cX8_compares 5 (some .boolean) :: T0) ({ frames := 0, cells := 0, slots := 0, locals := 0 } : Room)).room s m ([.int x0, .long x1, .long x3] : List Value).toArray below meth c H locs 0 0 (MQ below (tqQi G cA (fun (r : Int32) (_ : Unit) => r = r0) (fun (_ : Unit) => ([] : va_W)) A) ([.int x0, .long x1, .long x3] : List Value).toArray s 0 0 A) g
set_option maxHeartbeats 4000000 in
set_option maxRecDepth 100000 in
theorem c_X8_compares (l : Launch) (G : va_G) (cA : Nat → ClassId) (sz : Nat) (x0 : Int32) (x1 : Int64) (x3 : Int64)  (r0 : Int32) (h : f_X8_compares x0 x1 x3 = some r0) : Met l yX8_compares (.code yX8_compares cX8_compares 5 (some .boolean) :: T0) ({ frames := 0, cells := 0, slots := 0, locals := 0 } : Room) (tqP G cA [.int x0, .long x1, .long x3] (([] : va_W)) sz) (tqQi G cA (fun (r : Int32) (_ : Unit) => r = r0) (fun (_ : Unit) => ([] : va_W)) (va_A (([] : va_W)) sz)) 0 0 (va_A (([] : va_W)) sz) := by
  refine Met.ofW (cc := cX8_compares) (maxL := 5) (ret := (some .boolean)) (by decide) rfl ?_
  intro p e s m args below meth c s₁ B hml hv
  obtain ⟨rfl, hsz, hP, hK, hD0, hN⟩ := hv
  have hx := B.exec
  have hb := B.bytes
  have hr := B.returns
  have hts := atoms_spec (ws := .code yX8_compares cX8_compares 5 (some .boolean) :: T0) B.pre
  have hT : ∀ w ∈ T0, w.before _ s = true := fun w h => hts w (List.mem_cons_of_mem _ h)
  have hown : s.vm.findClass RX8 = some m.cls := findClass_of_methodNamed B.named
  have hlocks := B.notSynchronized
  subst hsz
  have hD := hD0.self (sz := s.heap.size)
  generalize hAe : va_A (([] : va_W)) s.heap.size = A at hD ⊢
  have hA : ∀ q : Nat, s.heap.size ≤ q → A q := fun q h => by rw [← hAe]; exact Or.inr h
  have hS : va_S A s.heap s.heap [] := va_S.rf
  have hl := lv_entry ([.int x0, .long x1, .long x3]) (n := 5) (Nat.le_of_ble_eq_true rfl)
  rw [lg_entry_eq]
  generalize (lg_sl ([.int x0, .long x1, .long x3]) ++ List.replicate (5 - (lg_sl ([.int x0, .long x1, .long x3])).length) Slot.unset).toArray = ls at hl ⊢
  have hl : lv_has ls 5 [(0, .int x0), (1, .long x1), (3, .long x3)] := hl
  have F : tF p s m ([.int x0, .long x1, .long x3] : List Value).toArray meth c G cA A RX8 cX8_compares 5 (some .boolean) := ⟨hx, hb, hr, hml, hT, hown, hlocks, hK, hN, hA⟩
  obtain ⟨H, hH⟩ : ∃ z, z = s.heap := ⟨_, rfl⟩
  rw [← hH] at hP
  have hS : va_S A s.heap H [] := by rw [hH]; exact hS
  suffices hgo : G_X8_compares p l e s m below meth c G cA A x0 x1 x3 r0 H [] (F0 m 0 ls []) by rw [hH] at hgo; exact hgo
  generalize ([] : List Loc) = locs at hS ⊢
  unfold f_X8_compares at h
  refine lv_iload_n hx hb dX8_compares_0 rfl (lv_at hl 0 rfl) ?_
  by_cases c1 : x0 = 5
  · have h := tx_pos c1 h
    refine lv_tableIn (off := 35) (tgt := 42) hx hb dX8_compares_1 (by rw [c1]; decide) (by rw [c1]; decide) (by rw [c1]; decide) (by decide) ?_
    refine lv_lload_n hx hb dX8_compares_36 rfl (lv_at hl 1 rfl) ?_
    refine lv_lload_n hx hb dX8_compares_37 rfl (lv_at hl 2 rfl) ?_
    refine W.lcmp hx hb dX8_compares_38 ?_
    refine lv_if_ge (tgt := 46) hx hb dX8_compares_39 (by decide) (fun c2 => ?_) (fun c2 => ?_)
    · have h := tx_pos c2 h
      refine lv_iconst (v := 0) hx hb dX8_compares_46 (by decide) ?_
      obtain rfl := tx_1 h
      exact W.zret (ty := .boolean) hx hb hr rfl (fun t ht hW => ⟨⟨_, (), rfl, rfl, by rw [ht]; exact hP, hD⟩, hS.F ht⟩) hS.2.2 dX8_compares_47
    · have h := tx_neg c2 h
      refine lv_iconst (v := 1) hx hb dX8_compares_42 (by decide) ?_
      refine lv_goto (tgt := 47) hx hb dX8_compares_43 (by decide) ?_
      obtain rfl := tx_1 h
      exact W.zret (ty := .boolean) hx hb hr rfl (fun t ht hW => ⟨⟨_, (), rfl, rfl, by rw [ht]; exact hP, hD⟩, hS.F ht⟩) hS.2.2 dX8_compares_47
  · have h := tx_neg c1 h
    by_cases c3 : x0 = 6
    · have h := tx_pos c3 h
      refine lv_tableIn (off := 47) (tgt := 54) hx hb dX8_compares_1 (by rw [c3]; decide) (by rw [c3]; decide) (by rw [c3]; decide) (by decide) ?_
      refine lv_lload_n hx hb dX8_compares_48 rfl (lv_at hl 1 rfl) ?_
      refine lv_lload_n hx hb dX8_compares_49 rfl (lv_at hl 2 rfl) ?_
      refine W.lcmp hx hb dX8_compares_50 ?_
      refine lv_if_gt (tgt := 58) hx hb dX8_compares_51 (by decide) (fun c4 => ?_) (fun c4 => ?_)
      · have h := tx_pos c4 h
        refine lv_iconst (v := 0) hx hb dX8_compares_58 (by decide) ?_
        obtain rfl := tx_1 h
        exact W.zret (ty := .boolean) hx hb hr rfl (fun t ht hW => ⟨⟨_, (), rfl, rfl, by rw [ht]; exact hP, hD⟩, hS.F ht⟩) hS.2.2 dX8_compares_59
      · have h := tx_neg c4 h
        refine lv_iconst (v := 1) hx hb dX8_compares_54 (by decide) ?_
        refine lv_goto (tgt := 59) hx hb dX8_compares_55 (by decide) ?_
        obtain rfl := tx_1 h
        exact W.zret (ty := .boolean) hx hb hr rfl (fun t ht hW => ⟨⟨_, (), rfl, rfl, by rw [ht]; exact hP, hD⟩, hS.F ht⟩) hS.2.2 dX8_compares_59
    · have h := tx_neg c3 h
      by_cases c5 : x0 = 7
      · have h := tx_pos c5 h
        refine lv_tableIn (off := 59) (tgt := 66) hx hb dX8_compares_1 (by rw [c5]; decide) (by rw [c5]; decide) (by rw [c5]; decide) (by decide) ?_
        refine lv_lload_n hx hb dX8_compares_60 rfl (lv_at hl 1 rfl) ?_
        refine lv_lload_n hx hb dX8_compares_61 rfl (lv_at hl 2 rfl) ?_
        refine W.lcmp hx hb dX8_compares_62 ?_
        refine lv_if_ne (tgt := 70) hx hb dX8_compares_63 (by decide) (fun c6 => ?_) (fun c6 => ?_)
        · have h := tx_neg c6 h
          refine lv_iconst (v := 0) hx hb dX8_compares_70 (by decide) ?_
          obtain rfl := tx_1 h
          exact W.zret (ty := .boolean) hx hb hr rfl (fun t ht hW => ⟨⟨_, (), rfl, rfl, by rw [ht]; exact hP, hD⟩, hS.F ht⟩) hS.2.2 dX8_compares_71
        · have h := tx_pos c6 h
          refine lv_iconst (v := 1) hx hb dX8_compares_66 (by decide) ?_
          refine lv_goto (tgt := 71) hx hb dX8_compares_67 (by decide) ?_
          obtain rfl := tx_1 h
          exact W.zret (ty := .boolean) hx hb hr rfl (fun t ht hW => ⟨⟨_, (), rfl, rfl, by rw [ht]; exact hP, hD⟩, hS.F ht⟩) hS.2.2 dX8_compares_71
      · have h := tx_neg c5 h
        by_cases c7 : x0 = 8
        · have h := tx_pos c7 h
          refine lv_tableIn (off := 71) (tgt := 78) hx hb dX8_compares_1 (by rw [c7]; decide) (by rw [c7]; decide) (by rw [c7]; decide) (by decide) ?_
          refine lv_lload_n hx hb dX8_compares_72 rfl (lv_at hl 1 rfl) ?_
          refine lv_lload_n hx hb dX8_compares_73 rfl (lv_at hl 2 rfl) ?_
          refine W.lcmp hx hb dX8_compares_74 ?_
          refine lv_if_eq (tgt := 82) hx hb dX8_compares_75 (by decide) (fun c8 => ?_) (fun c8 => ?_)
          · have h := tx_pos c8 h
            refine lv_iconst (v := 0) hx hb dX8_compares_82 (by decide) ?_
            obtain rfl := tx_1 h
            exact W.zret (ty := .boolean) hx hb hr rfl (fun t ht hW => ⟨⟨_, (), rfl, rfl, by rw [ht]; exact hP, hD⟩, hS.F ht⟩) hS.2.2 dX8_compares_83
          · have h := tx_neg c8 h
            refine lv_iconst (v := 1) hx hb dX8_compares_78 (by decide) ?_
            refine lv_goto (tgt := 83) hx hb dX8_compares_79 (by decide) ?_
            obtain rfl := tx_1 h
            exact W.zret (ty := .boolean) hx hb hr rfl (fun t ht hW => ⟨⟨_, (), rfl, rfl, by rw [ht]; exact hP, hD⟩, hS.F ht⟩) hS.2.2 dX8_compares_83
        · have h := tx_neg c7 h
          by_cases c9 : x0 = 9
          · have h := tx_pos c9 h
            refine lv_tableIn (off := 83) (tgt := 90) hx hb dX8_compares_1 (by rw [c9]; decide) (by rw [c9]; decide) (by rw [c9]; decide) (by decide) ?_
            refine lv_lload_n hx hb dX8_compares_84 rfl (lv_at hl 1 rfl) ?_
            refine lv_lload_n hx hb dX8_compares_85 rfl (lv_at hl 2 rfl) ?_
            refine W.lcmp hx hb dX8_compares_86 ?_
            refine lv_if_lt (tgt := 94) hx hb dX8_compares_87 (by decide) (fun c10 => ?_) (fun c10 => ?_)
            · have h := tx_pos c10 h
              refine lv_iconst (v := 0) hx hb dX8_compares_94 (by decide) ?_
              obtain rfl := tx_1 h
              exact W.zret (ty := .boolean) hx hb hr rfl (fun t ht hW => ⟨⟨_, (), rfl, rfl, by rw [ht]; exact hP, hD⟩, hS.F ht⟩) hS.2.2 dX8_compares_95
            · have h := tx_neg c10 h
              refine lv_iconst (v := 1) hx hb dX8_compares_90 (by decide) ?_
              refine lv_goto (tgt := 95) hx hb dX8_compares_91 (by decide) ?_
              obtain rfl := tx_1 h
              exact W.zret (ty := .boolean) hx hb hr rfl (fun t ht hW => ⟨⟨_, (), rfl, rfl, by rw [ht]; exact hP, hD⟩, hS.F ht⟩) hS.2.2 dX8_compares_95
          · have h := tx_neg c9 h
            have kc1 := tq_eqn (a := x0.toInt) (b := 5) rfl (by decide) c1
            have kc3 := tq_eqn (a := x0.toInt) (b := 6) rfl (by decide) c3
            have kc5 := tq_eqn (a := x0.toInt) (b := 7) rfl (by decide) c5
            have kc7 := tq_eqn (a := x0.toInt) (b := 8) rfl (by decide) c7
            have kc9 := tq_eqn (a := x0.toInt) (b := 9) rfl (by decide) c9
            refine lv_tableOut (tgt := 96) hx hb dX8_compares_1 (by omega) (by decide) ?_
            refine lv_lload_n hx hb dX8_compares_96 rfl (lv_at hl 1 rfl) ?_
            refine lv_lload_n hx hb dX8_compares_97 rfl (lv_at hl 2 rfl) ?_
            refine W.lcmp hx hb dX8_compares_98 ?_
            refine lv_if_le (tgt := 106) hx hb dX8_compares_99 (by decide) (fun c11 => ?_) (fun c11 => ?_)
            · have h := tx_pos c11 h
              refine lv_iconst (v := 0) hx hb dX8_compares_106 (by decide) ?_
              obtain rfl := tx_1 h
              exact W.zret (ty := .boolean) hx hb hr rfl (fun t ht hW => ⟨⟨_, (), rfl, rfl, by rw [ht]; exact hP, hD⟩, hS.F ht⟩) hS.2.2 dX8_compares_107
            · have h := tx_neg c11 h
              refine lv_iconst (v := 1) hx hb dX8_compares_102 (by decide) ?_
              refine lv_goto (tgt := 107) hx hb dX8_compares_103 (by decide) ?_
              obtain rfl := tx_1 h
              exact W.zret (ty := .boolean) hx hb hr rfl (fun t ht hW => ⟨⟨_, (), rfl, rfl, by rw [ht]; exact hP, hD⟩, hS.F ht⟩) hS.2.2 dX8_compares_107
abbrev G_X8_times (p : Program) (l : Launch) (e : Env) (s : State) (m : MethodId) (below : List Frame) (meth : Method) (c : Code) (G : va_G) (cA : Nat → ClassId) (A : Nat → Prop) (aa : Nat → Nat) (L : Lo) (x1 : Int64) (x3 : Int64) (r0 : Int64) (S' : Tr) (H : Heap) (locs : List Loc) (g : JFrame) : Prop := W p l e (headSpec (.code yX8_times cX8_times 6 (some .long) :: T0) ({ frames := 0, cells := 0, slots := 0, locals := 0 } : Room)).room s m ([.ref (aa 0), .long x1, .long x3] : List Value).toArray below meth c H locs 0 0 (MQ below (tqQl G cA (fun (r : Int64) (_ : Unit) => r = r0) (fun (_ : Unit) => wM cA aa S' L) A) ([.ref (aa 0), .long x1, .long x3] : List Value).toArray s 0 0 A) g
set_option maxHeartbeats 4000000 in
set_option maxRecDepth 100000 in
theorem w_X8_times_J69 {p : Program} {l : Launch} {e : Env} {s : State} {m : MethodId} {below : List Frame} {meth : Method} {c : Code} {G : va_G} {cA : Nat → ClassId} {A : Nat → Prop} {aa : Nat → Nat} {L : Lo} {x1₀ : Int64} {x3₀ : Int64} {r0 : Int64} {S' : Tr} (F : tF p s m ([.ref (aa 0), .long x1₀, .long x3₀] : List Value).toArray meth c G cA A RX8 cX8_times 6 (some .long))    (x1 : Int64) (x3 : Int64) (s0 : Int32) (S : Tr) (H : Heap) (locs : List Loc) (ls : Array Slot) (h : fJ_X8_times_J69 x1 x3 s0 S = some (r0, S')) (hP : va_P G vwCl (wM cA aa S_4 L) H) (hD : va_D A (wM cA aa S_4 L)) (hS : va_S A s.heap H locs) (hl : lv_has ls 6 [(0, .ref (aa 0)), (1, .long x1), (3, .long x3)]) : G_X8_times p l e s m below meth c G cA A aa L x1₀ x3₀ r0 S' H locs (F0 m 69 ls []) := by
  obtain ⟨hx, hb, hr, hml, hT, hown, hlocks, hK, hN, hA⟩ := id F
  unfold fJ_X8_times_J69 at h
  obtain ⟨g3, h⟩ := tx_ck h
  refine va_put (D := G) (ci := 8) (v := .int s0) (ty := .boolean) (C := RX8) (T := TX8) (N := 91) hx hb hT ku_8 tyX8 tyX8_ok nmX8 hown hK hP hD hS 0 rfl rfl 51 (by decide) (hT _ kw_34_10) (fun _ h9 => h9) rfl (by decide +kernel) (tx_z g3) rfl (Nat.le_of_ble_eq_true rfl) dX8_times_69 (fun H locs hP hD hS => ?_)
  obtain ⟨S_4, eS_4, h⟩ := tx_lt h
  rw [sM_f51, eS_4] at hP hD
  refine lv_aload_n hx hb dX8_times_72 rfl (lv_at hl 0 rfl) ?_
  refine va_get (D := G) (ci := 8) (v := .int (S_4 0 51)) (C := RX8) (T := TX8) (N := 91) hx hb hT ku_8 hown hK hP 0 rfl rfl 51 (by decide) (hT _ kw_34_10) (fun _ h9 => h9) rfl dX8_times_73 ?_
  refine lv_if_eq (tgt := 83) hx hb dX8_times_76 (by decide) (fun c5 => ?_) (fun c5 => ?_)
  · have h := tx_pos c5 h
    refine lv_lload_n hx hb dX8_times_83 rfl (lv_at hl 1 rfl) ?_
    refine lv_lload_n hx hb dX8_times_84 rfl (lv_at hl 2 rfl) ?_
    refine lv_lmul hx hb dX8_times_85 ?_
    obtain ⟨rfl, rfl⟩ := tx_2 h
    exact W.lret hx hb hr (fun t ht hW => ⟨⟨_, (), rfl, rfl, by rw [ht]; exact hP, hD⟩, hS.F ht⟩) hS.2.2 dX8_times_86
  · have h := tx_neg c5 h
    refine lv_lconst (v := 0) hx hb dX8_times_79 (by decide) ?_
    refine lv_goto (tgt := 86) hx hb dX8_times_80 (by decide) ?_
    obtain ⟨rfl, rfl⟩ := tx_2 h
    exact W.lret hx hb hr (fun t ht hW => ⟨⟨_, (), rfl, rfl, by rw [ht]; exact hP, hD⟩, hS.F ht⟩) hS.2.2 dX8_times_86
set_option maxHeartbeats 4000000 in
set_option maxRecDepth 100000 in
theorem w_X8_times_J64 {p : Program} {l : Launch} {e : Env} {s : State} {m : MethodId} {below : List Frame} {meth : Method} {c : Code} {G : va_G} {cA : Nat → ClassId} {A : Nat → Prop} {aa : Nat → Nat} {L : Lo} {x1₀ : Int64} {x3₀ : Int64} {r0 : Int64} {S' : Tr} (F : tF p s m ([.ref (aa 0), .long x1₀, .long x3₀] : List Value).toArray meth c G cA A RX8 cX8_times 6 (some .long))    (x1 : Int64) (x3 : Int64) (S : Tr) (H : Heap) (locs : List Loc) (ls : Array Slot) (h : fJ_X8_times_J64 x1 x3 S = some (r0, S')) (hP : va_P G vwCl (wM cA aa S L) H) (hD : va_D A (wM cA aa S L)) (hS : va_S A s.heap H locs) (hl : lv_has ls 6 [(0, .ref (aa 0)), (1, .long x1), (3, .long x3)]) : G_X8_times p l e s m below meth c G cA A aa L x1₀ x3₀ r0 S' H locs (F0 m 64 ls [.int 1, .ref (aa 0)]) := by
  obtain ⟨hx, hb, hr, hml, hT, hown, hlocks, hK, hN, hA⟩ := id F
  unfold fJ_X8_times_J64 at h
  refine lv_iconst (v := 1) hx hb dX8_times_64 (by decide) ?_
  refine lv_goto (tgt := 69) hx hb dX8_times_65 (by decide) ?_
  exact w_X8_times_J69 F x1 x3 1 S H locs ls h hP hD hS (lv_sub hl [0, 1, 2] rfl)
set_option maxHeartbeats 4000000 in
set_option maxRecDepth 100000 in
theorem w_X8_times_J49 {p : Program} {l : Launch} {e : Env} {s : State} {m : MethodId} {below : List Frame} {meth : Method} {c : Code} {G : va_G} {cA : Nat → ClassId} {A : Nat → Prop} {aa : Nat → Nat} {L : Lo} {x1₀ : Int64} {x3₀ : Int64} {r0 : Int64} {S' : Tr} (F : tF p s m ([.ref (aa 0), .long x1₀, .long x3₀] : List Value).toArray meth c G cA A RX8 cX8_times 6 (some .long))    (x1 : Int64) (x3 : Int64) (s0 : Int32) (S : Tr) (H : Heap) (locs : List Loc) (ls : Array Slot) (h : fJ_X8_times_J49 x1 x3 s0 S = some (r0, S')) (hP : va_P G vwCl (wM cA aa S L) H) (hD : va_D A (wM cA aa S L)) (hS : va_S A s.heap H locs) (hl : lv_has ls 6 [(5, .int s0), (0, .ref (aa 0)), (1, .long x1), (3, .long x3)]) : G_X8_times p l e s m below meth c G cA A aa L x1₀ x3₀ r0 S' H locs (F0 m 49 ls [.ref (aa 0)]) := by
  obtain ⟨hx, hb, hr, hml, hT, hown, hlocks, hK, hN, hA⟩ := id F
  unfold fJ_X8_times_J49 at h
  refine lv_istore (lv' := [(5, .int s0), (0, .ref (aa 0)), (1, .long x1), (3, .long x3)]) hx hb dX8_times_49 hl (by decide) rfl (fun ls hl => ?_)
  refine lv_aload_n hx hb dX8_times_51 rfl (lv_at hl 1 rfl) ?_
  refine lv_aload_n hx hb dX8_times_52 rfl (lv_at hl 1 rfl) ?_
  refine va_get (D := G) (ci := 8) (v := .int (S 0 51)) (C := RX8) (T := TX8) (N := 91) hx hb hT ku_8 hown hK hP 0 rfl rfl 51 (by decide) (hT _ kw_34_10) (fun _ h9 => h9) rfl dX8_times_53 ?_
  refine lv_if_ne (tgt := 64) hx hb dX8_times_56 (by decide) (fun c2 => ?_) (fun c2 => ?_)
  · have h := tx_neg c2 h
    exact w_X8_times_J64 F x1 x3 S H locs ls h hP hD hS (lv_sub hl [1, 2, 3] rfl)
  · have h := tx_pos c2 h
    refine lv_iload hx hb dX8_times_59 (lv_at hl 0 rfl) ?_
    refine lv_if_eq (tgt := 68) hx hb dX8_times_61 (by decide) (fun c6 => ?_) (fun c6 => ?_)
    · have h := tx_pos c6 h
      refine lv_iconst (v := 0) hx hb dX8_times_68 (by decide) ?_
      exact w_X8_times_J69 F x1 x3 0 S H locs ls h hP hD hS (lv_sub hl [1, 2, 3] rfl)
    · have h := tx_neg c6 h
      exact w_X8_times_J64 F x1 x3 S H locs ls h hP hD hS (lv_sub hl [1, 2, 3] rfl)
set_option maxHeartbeats 4000000 in
set_option maxRecDepth 100000 in
theorem w_X8_times_J48 {p : Program} {l : Launch} {e : Env} {s : State} {m : MethodId} {below : List Frame} {meth : Method} {c : Code} {G : va_G} {cA : Nat → ClassId} {A : Nat → Prop} {aa : Nat → Nat} {L : Lo} {x1₀ : Int64} {x3₀ : Int64} {r0 : Int64} {S' : Tr} (F : tF p s m ([.ref (aa 0), .long x1₀, .long x3₀] : List Value).toArray meth c G cA A RX8 cX8_times 6 (some .long))    (x1 : Int64) (x3 : Int64) (S : Tr) (H : Heap) (locs : List Loc) (ls : Array Slot) (h : fJ_X8_times_J48 x1 x3 S = some (r0, S')) (hP : va_P G vwCl (wM cA aa S L) H) (hD : va_D A (wM cA aa S L)) (hS : va_S A s.heap H locs) (hl : lv_has ls 6 [(0, .ref (aa 0)), (1, .long x1), (3, .long x3)]) : G_X8_times p l e s m below meth c G cA A aa L x1₀ x3₀ r0 S' H locs (F0 m 48 ls [.int 0]) := by
  obtain ⟨hx, hb, hr, hml, hT, hown, hlocks, hK, hN, hA⟩ := id F
  unfold fJ_X8_times_J48 at h
  refine lv_iconst (v := 0) hx hb dX8_times_48 (by decide) ?_
  exact w_X8_times_J49 F x1 x3 0 S H locs ls h hP hD hS (lv_sub hl [0, 1, 2] rfl)
set_option maxHeartbeats 4000000 in
set_option maxRecDepth 100000 in
theorem w_X8_times_J39 {p : Program} {l : Launch} {e : Env} {s : State} {m : MethodId} {below : List Frame} {meth : Method} {c : Code} {G : va_G} {cA : Nat → ClassId} {A : Nat → Prop} {aa : Nat → Nat} {L : Lo} {x1₀ : Int64} {x3₀ : Int64} {r0 : Int64} {S' : Tr} (F : tF p s m ([.ref (aa 0), .long x1₀, .long x3₀] : List Value).toArray meth c G cA A RX8 cX8_times 6 (some .long))    (x1 : Int64) (x3 : Int64) (s0 : Int64) (s1 : Int64) (s2 : Int64) (S : Tr) (H : Heap) (locs : List Loc) (ls : Array Slot) (h : fJ_X8_times_J39 x1 x3 s0 s1 s2 S = some (r0, S')) (hP : va_P G vwCl (wM cA aa S L) H) (hD : va_D A (wM cA aa S L)) (hS : va_S A s.heap H locs) (hl : lv_has ls 6 [(0, .ref (aa 0)), (1, .long x1), (3, .long x3)]) : G_X8_times p l e s m below meth c G cA A aa L x1₀ x3₀ r0 S' H locs (F0 m 39 ls []) := by
  obtain ⟨hx, hb, hr, hml, hT, hown, hlocks, hK, hN, hA⟩ := id F
  unfold fJ_X8_times_J39 at h
  obtain ⟨g10, h⟩ := tx_ck h
  refine lv_ldiv hx hb dX8_times_39 (tx_nzl g10) ?_
  refine W.lcmp hx hb dX8_times_40 ?_
  refine lv_if_le (tgt := 48) hx hb dX8_times_41 (by decide) (fun c11 => ?_) (fun c11 => ?_)
  · have h := tx_pos c11 h
    exact w_X8_times_J48 F x1 x3 S H locs ls h hP hD hS (lv_sub hl [0, 1, 2] rfl)
  · have h := tx_neg c11 h
    refine lv_iconst (v := 1) hx hb dX8_times_44 (by decide) ?_
    refine lv_goto (tgt := 49) hx hb dX8_times_45 (by decide) ?_
    exact w_X8_times_J49 F x1 x3 1 S H locs ls h hP hD hS (lv_sub hl [0, 1, 2] rfl)
set_option maxHeartbeats 4000000 in
set_option maxRecDepth 100000 in
theorem w_X8_times_J24 {p : Program} {l : Launch} {e : Env} {s : State} {m : MethodId} {below : List Frame} {meth : Method} {c : Code} {G : va_G} {cA : Nat → ClassId} {A : Nat → Prop} {aa : Nat → Nat} {L : Lo} {x1₀ : Int64} {x3₀ : Int64} {r0 : Int64} {S' : Tr} (F : tF p s m ([.ref (aa 0), .long x1₀, .long x3₀] : List Value).toArray meth c G cA A RX8 cX8_times 6 (some .long))    (x1 : Int64) (x3 : Int64) (s0 : Int64) (S : Tr) (H : Heap) (locs : List Loc) (ls : Array Slot) (h : fJ_X8_times_J24 x1 x3 s0 S = some (r0, S')) (hP : va_P G vwCl (wM cA aa S L) H) (hD : va_D A (wM cA aa S L)) (hS : va_S A s.heap H locs) (hl : lv_has ls 6 [(0, .ref (aa 0)), (1, .long x1), (3, .long x3)]) : G_X8_times p l e s m below meth c G cA A aa L x1₀ x3₀ r0 S' H locs (F0 m 24 ls [.long 1000000000000, .long s0]) := by
  obtain ⟨hx, hb, hr, hml, hT, hown, hlocks, hK, hN, hA⟩ := id F
  unfold fJ_X8_times_J24 at h
  refine lv_ldc2 (v := 1000000000000) hx hb hown (hT _ kw_35_7) dX8_times_24 ?_
  refine lv_lload_n hx hb dX8_times_27 rfl (lv_at hl 1 rfl) ?_
  refine lv_lconst (v := 0) hx hb dX8_times_28 (by decide) ?_
  refine W.lcmp hx hb dX8_times_29 ?_
  refine lv_if_ge (tgt := 38) hx hb dX8_times_30 (by decide) (fun c9 => ?_) (fun c9 => ?_)
  · have h := tx_pos c9 h
    refine lv_lload_n hx hb dX8_times_38 rfl (lv_at hl 1 rfl) ?_
    exact w_X8_times_J39 F x1 x3 x1 1000000000000 s0 S H locs ls h hP hD hS (lv_sub hl [0, 1, 2] rfl)
  · have h := tx_neg c9 h
    refine lv_lload_n hx hb dX8_times_33 rfl (lv_at hl 1 rfl) ?_
    refine lv_lneg hx hb dX8_times_34 ?_
    refine lv_goto (tgt := 39) hx hb dX8_times_35 (by decide) ?_
    exact w_X8_times_J39 F x1 x3 (-x1) 1000000000000 s0 S H locs ls h hP hD hS (lv_sub hl [0, 1, 2] rfl)
set_option maxHeartbeats 4000000 in
set_option maxRecDepth 100000 in
theorem c_X8_times (l : Launch) (G : va_G) (cA : Nat → ClassId) (sz : Nat) (aa : Nat → Nat) (S : Tr) (L : Lo) (x1 : Int64) (x3 : Int64)  (r0 : Int64) (S' : Tr) (h : f_X8_times S x1 x3 = some (r0, S')) : Met l yX8_times (.code yX8_times cX8_times 6 (some .long) :: T0) ({ frames := 0, cells := 0, slots := 0, locals := 0 } : Room) (tqP G cA [.ref (aa 0), .long x1, .long x3] (wM cA aa S L) sz) (tqQl G cA (fun (r : Int64) (_ : Unit) => r = r0) (fun (_ : Unit) => wM cA aa S' L) (va_A (wM cA aa S L) sz)) 0 0 (va_A (wM cA aa S L) sz) := by
  refine Met.ofW (cc := cX8_times) (maxL := 6) (ret := (some .long)) (by decide) rfl ?_
  intro p e s m args below meth c s₁ B hml hv
  obtain ⟨rfl, hsz, hP, hK, hD0, hN⟩ := hv
  have hx := B.exec
  have hb := B.bytes
  have hr := B.returns
  have hts := atoms_spec (ws := .code yX8_times cX8_times 6 (some .long) :: T0) B.pre
  have hT : ∀ w ∈ T0, w.before _ s = true := fun w h => hts w (List.mem_cons_of_mem _ h)
  have hown : s.vm.findClass RX8 = some m.cls := findClass_of_methodNamed B.named
  have hlocks := B.notSynchronized
  subst hsz
  have hD := hD0.self (sz := s.heap.size)
  generalize hAe : va_A (wM cA aa S L) s.heap.size = A at hD ⊢
  have hA : ∀ q : Nat, s.heap.size ≤ q → A q := fun q h => by rw [← hAe]; exact Or.inr h
  have hS : va_S A s.heap s.heap [] := va_S.rf
  have hl := lv_entry ([.ref (aa 0), .long x1, .long x3]) (n := 6) (Nat.le_of_ble_eq_true rfl)
  rw [lg_entry_eq]
  generalize (lg_sl ([.ref (aa 0), .long x1, .long x3]) ++ List.replicate (6 - (lg_sl ([.ref (aa 0), .long x1, .long x3])).length) Slot.unset).toArray = ls at hl ⊢
  have hl : lv_has ls 6 [(0, .ref (aa 0)), (1, .long x1), (3, .long x3)] := hl
  have F : tF p s m ([.ref (aa 0), .long x1, .long x3] : List Value).toArray meth c G cA A RX8 cX8_times 6 (some .long) := ⟨hx, hb, hr, hml, hT, hown, hlocks, hK, hN, hA⟩
  obtain ⟨H, hH⟩ : ∃ z, z = s.heap := ⟨_, rfl⟩
  rw [← hH] at hP
  have hS : va_S A s.heap H [] := by rw [hH]; exact hS
  suffices hgo : G_X8_times p l e s m below meth c G cA A aa L x1 x3 r0 S' H [] (F0 m 0 ls []) by rw [hH] at hgo; exact hgo
  generalize ([] : List Loc) = locs at hS ⊢
  unfold f_X8_times at h
  refine lv_lload_n hx hb dX8_times_0 rfl (lv_at hl 1 rfl) ?_
  refine lv_lconst (v := 0) hx hb dX8_times_1 (by decide) ?_
  refine W.lcmp hx hb dX8_times_2 ?_
  refine lv_if_eq (tgt := 48) hx hb dX8_times_3 (by decide) (fun c1 => ?_) (fun c1 => ?_)
  · have h := tx_pos c1 h
    exact w_X8_times_J48 F x1 x3 S H locs ls h hP hD hS (lv_sub hl [0, 1, 2] rfl)
  · have h := tx_neg c1 h
    refine lv_lload_n hx hb dX8_times_6 rfl (lv_at hl 2 rfl) ?_
    refine lv_lconst (v := 0) hx hb dX8_times_7 (by decide) ?_
    refine W.lcmp hx hb dX8_times_8 ?_
    refine lv_if_eq (tgt := 48) hx hb dX8_times_9 (by decide) (fun c7 => ?_) (fun c7 => ?_)
    · have h := tx_pos c7 h
      exact w_X8_times_J48 F x1 x3 S H locs ls h hP hD hS (lv_sub hl [0, 1, 2] rfl)
    · have h := tx_neg c7 h
      refine lv_lload_n hx hb dX8_times_12 rfl (lv_at hl 2 rfl) ?_
      refine lv_lconst (v := 0) hx hb dX8_times_13 (by decide) ?_
      refine W.lcmp hx hb dX8_times_14 ?_
      refine lv_if_ge (tgt := 23) hx hb dX8_times_15 (by decide) (fun c8 => ?_) (fun c8 => ?_)
      · have h := tx_pos c8 h
        refine lv_lload_n hx hb dX8_times_23 rfl (lv_at hl 2 rfl) ?_
        exact w_X8_times_J24 F x1 x3 x3 S H locs ls h hP hD hS (lv_sub hl [0, 1, 2] rfl)
      · have h := tx_neg c8 h
        refine lv_lload_n hx hb dX8_times_18 rfl (lv_at hl 2 rfl) ?_
        refine lv_lneg hx hb dX8_times_19 ?_
        refine lv_goto (tgt := 24) hx hb dX8_times_20 (by decide) ?_
        exact w_X8_times_J24 F x1 x3 (-x3) S H locs ls h hP hD hS (lv_sub hl [0, 1, 2] rfl)
abbrev G_X8_bounded (p : Program) (l : Launch) (e : Env) (s : State) (m : MethodId) (below : List Frame) (meth : Method) (c : Code) (G : va_G) (cA : Nat → ClassId) (A : Nat → Prop) (aa : Nat → Nat) (L : Lo) (x1 : Int64) (r0 : Int64) (S' : Tr) (H : Heap) (locs : List Loc) (g : JFrame) : Prop := W p l e (headSpec (.code yX8_bounded cX8_bounded 3 (some .long) :: T0) ({ frames := 0, cells := 0, slots := 0, locals := 0 } : Room)).room s m ([.ref (aa 0), .long x1] : List Value).toArray below meth c H locs 0 0 (MQ below (tqQl G cA (fun (r : Int64) (_ : Unit) => r = r0) (fun (_ : Unit) => wM cA aa S' L) A) ([.ref (aa 0), .long x1] : List Value).toArray s 0 0 A) g
set_option maxHeartbeats 4000000 in
set_option maxRecDepth 100000 in
theorem w_X8_bounded_J29 {p : Program} {l : Launch} {e : Env} {s : State} {m : MethodId} {below : List Frame} {meth : Method} {c : Code} {G : va_G} {cA : Nat → ClassId} {A : Nat → Prop} {aa : Nat → Nat} {L : Lo} {x1₀ : Int64} {r0 : Int64} {S' : Tr} (F : tF p s m ([.ref (aa 0), .long x1₀] : List Value).toArray meth c G cA A RX8 cX8_bounded 3 (some .long))    (x1 : Int64) (s0 : Int32) (S : Tr) (H : Heap) (locs : List Loc) (ls : Array Slot) (h : fJ_X8_bounded_J29 x1 s0 S = some (r0, S')) (hP : va_P G vwCl (wM cA aa S_3 L) H) (hD : va_D A (wM cA aa S_3 L)) (hS : va_S A s.heap H locs) (hl : lv_has ls 3 [(0, .ref (aa 0)), (1, .long x1)]) : G_X8_bounded p l e s m below meth c G cA A aa L x1₀ r0 S' H locs (F0 m 29 ls []) := by
  obtain ⟨hx, hb, hr, hml, hT, hown, hlocks, hK, hN, hA⟩ := id F
  unfold fJ_X8_bounded_J29 at h
  obtain ⟨g2, h⟩ := tx_ck h
  refine va_put (D := G) (ci := 8) (v := .int s0) (ty := .boolean) (C := RX8) (T := TX8) (N := 91) hx hb hT ku_8 tyX8 tyX8_ok nmX8 hown hK hP hD hS 0 rfl rfl 51 (by decide) (hT _ kw_34_10) (fun _ h9 => h9) rfl (by decide +kernel) (tx_z g2) rfl (Nat.le_of_ble_eq_true rfl) dX8_bounded_29 (fun H locs hP hD hS => ?_)
  obtain ⟨S_3, eS_3, h⟩ := tx_lt h
  rw [sM_f51, eS_3] at hP hD
  refine lv_aload_n hx hb dX8_bounded_32 rfl (lv_at hl 0 rfl) ?_
  refine va_get (D := G) (ci := 8) (v := .int (S_3 0 51)) (C := RX8) (T := TX8) (N := 91) hx hb hT ku_8 hown hK hP 0 rfl rfl 51 (by decide) (hT _ kw_34_10) (fun _ h9 => h9) rfl dX8_bounded_33 ?_
  refine lv_if_eq (tgt := 43) hx hb dX8_bounded_36 (by decide) (fun c4 => ?_) (fun c4 => ?_)
  · have h := tx_pos c4 h
    refine lv_lload_n hx hb dX8_bounded_43 rfl (lv_at hl 1 rfl) ?_
    obtain ⟨rfl, rfl⟩ := tx_2 h
    exact W.lret hx hb hr (fun t ht hW => ⟨⟨_, (), rfl, rfl, by rw [ht]; exact hP, hD⟩, hS.F ht⟩) hS.2.2 dX8_bounded_44
  · have h := tx_neg c4 h
    refine lv_lconst (v := 0) hx hb dX8_bounded_39 (by decide) ?_
    refine lv_goto (tgt := 44) hx hb dX8_bounded_40 (by decide) ?_
    obtain ⟨rfl, rfl⟩ := tx_2 h
    exact W.lret hx hb hr (fun t ht hW => ⟨⟨_, (), rfl, rfl, by rw [ht]; exact hP, hD⟩, hS.F ht⟩) hS.2.2 dX8_bounded_44
set_option maxHeartbeats 4000000 in
set_option maxRecDepth 100000 in
theorem w_X8_bounded_J24 {p : Program} {l : Launch} {e : Env} {s : State} {m : MethodId} {below : List Frame} {meth : Method} {c : Code} {G : va_G} {cA : Nat → ClassId} {A : Nat → Prop} {aa : Nat → Nat} {L : Lo} {x1₀ : Int64} {r0 : Int64} {S' : Tr} (F : tF p s m ([.ref (aa 0), .long x1₀] : List Value).toArray meth c G cA A RX8 cX8_bounded 3 (some .long))    (x1 : Int64) (S : Tr) (H : Heap) (locs : List Loc) (ls : Array Slot) (h : fJ_X8_bounded_J24 x1 S = some (r0, S')) (hP : va_P G vwCl (wM cA aa S L) H) (hD : va_D A (wM cA aa S L)) (hS : va_S A s.heap H locs) (hl : lv_has ls 3 [(0, .ref (aa 0)), (1, .long x1)]) : G_X8_bounded p l e s m below meth c G cA A aa L x1₀ r0 S' H locs (F0 m 24 ls [.int 1, .ref (aa 0)]) := by
  obtain ⟨hx, hb, hr, hml, hT, hown, hlocks, hK, hN, hA⟩ := id F
  unfold fJ_X8_bounded_J24 at h
  refine lv_iconst (v := 1) hx hb dX8_bounded_24 (by decide) ?_
  refine lv_goto (tgt := 29) hx hb dX8_bounded_25 (by decide) ?_
  exact w_X8_bounded_J29 F x1 1 S H locs ls h hP hD hS (lv_sub hl [0, 1] rfl)
set_option maxHeartbeats 4000000 in
set_option maxRecDepth 100000 in
theorem c_X8_bounded (l : Launch) (G : va_G) (cA : Nat → ClassId) (sz : Nat) (aa : Nat → Nat) (S : Tr) (L : Lo) (x1 : Int64)  (r0 : Int64) (S' : Tr) (h : f_X8_bounded S x1 = some (r0, S')) : Met l yX8_bounded (.code yX8_bounded cX8_bounded 3 (some .long) :: T0) ({ frames := 0, cells := 0, slots := 0, locals := 0 } : Room) (tqP G cA [.ref (aa 0), .long x1] (wM cA aa S L) sz) (tqQl G cA (fun (r : Int64) (_ : Unit) => r = r0) (fun (_ : Unit) => wM cA aa S' L) (va_A (wM cA aa S L) sz)) 0 0 (va_A (wM cA aa S L) sz) := by
  refine Met.ofW (cc := cX8_bounded) (maxL := 3) (ret := (some .long)) (by decide) rfl ?_
  intro p e s m args below meth c s₁ B hml hv
  obtain ⟨rfl, hsz, hP, hK, hD0, hN⟩ := hv
  have hx := B.exec
  have hb := B.bytes
  have hr := B.returns
  have hts := atoms_spec (ws := .code yX8_bounded cX8_bounded 3 (some .long) :: T0) B.pre
  have hT : ∀ w ∈ T0, w.before _ s = true := fun w h => hts w (List.mem_cons_of_mem _ h)
  have hown : s.vm.findClass RX8 = some m.cls := findClass_of_methodNamed B.named
  have hlocks := B.notSynchronized
  subst hsz
  have hD := hD0.self (sz := s.heap.size)
  generalize hAe : va_A (wM cA aa S L) s.heap.size = A at hD ⊢
  have hA : ∀ q : Nat, s.heap.size ≤ q → A q := fun q h => by rw [← hAe]; exact Or.inr h
  have hS : va_S A s.heap s.heap [] := va_S.rf
  have hl := lv_entry ([.ref (aa 0), .long x1]) (n := 3) (Nat.le_of_ble_eq_true rfl)
  rw [lg_entry_eq]
  generalize (lg_sl ([.ref (aa 0), .long x1]) ++ List.replicate (3 - (lg_sl ([.ref (aa 0), .long x1])).length) Slot.unset).toArray = ls at hl ⊢
  have hl : lv_has ls 3 [(0, .ref (aa 0)), (1, .long x1)] := hl
  have F : tF p s m ([.ref (aa 0), .long x1] : List Value).toArray meth c G cA A RX8 cX8_bounded 3 (some .long) := ⟨hx, hb, hr, hml, hT, hown, hlocks, hK, hN, hA⟩
  obtain ⟨H, hH⟩ : ∃ z, z = s.heap := ⟨_, rfl⟩
  rw [← hH] at hP
  have hS : va_S A s.heap H [] := by rw [hH]; exact hS
  suffices hgo : G_X8_bounded p l e s m below meth c G cA A aa L x1 r0 S' H [] (F0 m 0 ls []) by rw [hH] at hgo; exact hgo
  generalize ([] : List Loc) = locs at hS ⊢
  unfold f_X8_bounded at h
  refine lv_aload_n hx hb dX8_bounded_0 rfl (lv_at hl 0 rfl) ?_
  refine lv_aload_n hx hb dX8_bounded_1 rfl (lv_at hl 0 rfl) ?_
  refine va_get (D := G) (ci := 8) (v := .int (S 0 51)) (C := RX8) (T := TX8) (N := 91) hx hb hT ku_8 hown hK hP 0 rfl rfl 51 (by decide) (hT _ kw_34_10) (fun _ h9 => h9) rfl dX8_bounded_2 ?_
  refine lv_if_ne (tgt := 24) hx hb dX8_bounded_5 (by decide) (fun c1 => ?_) (fun c1 => ?_)
  · have h := tx_neg c1 h
    exact w_X8_bounded_J24 F x1 S H locs ls h hP hD hS (lv_sub hl [0, 1] rfl)
  · have h := tx_pos c1 h
    refine lv_lload_n hx hb dX8_bounded_8 rfl (lv_at hl 1 rfl) ?_
    refine lv_ldc2 (v := 1000000000000) hx hb hown (hT _ kw_35_7) dX8_bounded_9 ?_
    refine W.lcmp hx hb dX8_bounded_12 ?_
    refine lv_if_gt (tgt := 24) hx hb dX8_bounded_13 (by decide) (fun c5 => ?_) (fun c5 => ?_)
    · have h := tx_pos c5 h
      exact w_X8_bounded_J24 F x1 S H locs ls h hP hD hS (lv_sub hl [0, 1] rfl)
    · have h := tx_neg c5 h
      refine lv_lload_n hx hb dX8_bounded_16 rfl (lv_at hl 1 rfl) ?_
      refine lv_ldc2 (v := (-1000000000000)) hx hb hown (hT _ kw_35_8) dX8_bounded_17 ?_
      refine W.lcmp hx hb dX8_bounded_20 ?_
      refine lv_if_ge (tgt := 28) hx hb dX8_bounded_21 (by decide) (fun c6 => ?_) (fun c6 => ?_)
      · have h := tx_pos c6 h
        refine lv_iconst (v := 0) hx hb dX8_bounded_28 (by decide) ?_
        exact w_X8_bounded_J29 F x1 0 S H locs ls h hP hD hS (lv_sub hl [0, 1] rfl)
      · have h := tx_neg c6 h
        exact w_X8_bounded_J24 F x1 S H locs ls h hP hD hS (lv_sub hl [0, 1] rfl)
