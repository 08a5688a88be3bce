abbrev G_X8_copies_37 (p : Program) (l : Launch) (e : Env) (s : State) (m : MethodId) (below : List Frame) (meth : Method) (c : Code) (G : va_G) (cA : Nat → ClassId) (A : Nat → Prop) (aa : Nat → Nat) (L : Lo) (x1 : Int32) (S' : Tr) (H : Heap) (locs : List Loc) (g : JFrame) : Prop := W p l e (headSpec (.code yX8_copies cX8_copies 3 none :: T0) ({ frames := 0, cells := 0, slots := 0, locals := 0 } : Room)).room s m ([.ref (aa 37), .int x1] : List Value).toArray below meth c H locs 0 0 (MQ below (tqQv G cA (fun (_ : Unit) => True) (fun (_ : Unit) => wM cA aa S' L) A) ([.ref (aa 37), .int x1] : List Value).toArray s 0 0 A) g
set_option maxHeartbeats 4000000 in
set_option maxRecDepth 100000 in
theorem w_X8_copies_37_L2 {p : Program} {l : Launch} {e : Env} {s : State} {m : MethodId} {below : List Frame} {meth : Method} {c : Code} {G : va_G} {cA : Nat → ClassId} {A : Nat → Prop} {aa : Nat → Nat} {L : Lo} {x1₀ : Int32} {S' : Tr} {x1 : Int32} (F : tF p s m ([.ref (aa 37), .int x1₀] : List Value).toArray meth c G cA A RX8 cX8_copies 3 none)    (N : Nat) : ∀ (x2 : Int32) (S : Tr) (H : Heap) (locs : List Loc) (ls : Array Slot), lpF (fun _ _ => none) (fB_X8_copies_37_L2 x1) N x2 S = some S' → va_P G vwCl (wM cA aa S L) H → va_D A (wM cA aa S L) → va_S A s.heap H locs → lv_has ls 3 [(0, .ref (aa 37)), (1, .int x1), (2, .int x2)] → G_X8_copies_37 p l e s m below meth c G cA A aa L x1₀ S' H locs (F0 m 2 ls []) := by
  obtain ⟨hx, hb, hr, hml, hT, hown, hlocks, hK, hN, hA⟩ := id F
  induction N with
  | zero =>
    intro x2 S H locs ls h
    have h : (none : Option (Tr)) = some S' := h
    cases h
  | succ N hk2 =>
    intro x2 S H locs ls h hP hD hS hl
    have h : fB_X8_copies_37_L2 x1 (lpF (fun _ _ => none) (fB_X8_copies_37_L2 x1) N) x2 S = some S' := h
    generalize hk2e : lpF (fun _ _ => none) (fB_X8_copies_37_L2 x1) N = k2 at h hk2
    unfold fB_X8_copies_37_L2 at h
    refine lv_iload_n hx hb dX8_copies_2 rfl (lv_at hl 2 rfl) ?_
    refine lv_iload_n hx hb dX8_copies_3 rfl (lv_at hl 1 rfl) ?_
    refine lv_icmp_ge (tgt := 21) hx hb dX8_copies_4 (by decide) (fun c1 => ?_) (fun c1 => ?_)
    · have h := tx_pos c1 h
      obtain rfl := tx_1 h
      exact W.vret hx hb hr (fun t ht hW => ⟨⟨(), rfl, trivial, by rw [ht]; exact hP, hD⟩, hS.F ht⟩) hS.2.2 dX8_copies_21
    · have h := tx_neg c1 h
      refine lv_aload_n hx hb dX8_copies_7 rfl (lv_at hl 0 rfl) ?_
      refine lv_iload_n hx hb dX8_copies_8 rfl (lv_at hl 2 rfl) ?_
      refine lv_aload_n hx hb dX8_copies_9 rfl (lv_at hl 0 rfl) ?_
      refine lv_iload_n hx hb dX8_copies_10 rfl (lv_at hl 1 rfl) ?_
      refine lv_iload_n hx hb dX8_copies_11 rfl (lv_at hl 2 rfl) ?_
      refine lv_iadd hx hb dX8_copies_12 ?_
      obtain ⟨g2, h⟩ := tx_ck h
      refine va_iald (i := (x1 + x2)) hx hb hK hP 18 0 rfl rfl (tx_in g2) dX8_copies_13 ?_
      obtain ⟨g3, h⟩ := tx_ck h
      refine va_iast (i := x2) hx hb hK hP hD hS 18 0 rfl rfl (tx_in g3) dX8_copies_14 (fun H locs hP hD hS => ?_)
      obtain ⟨S_4, eS_4, h⟩ := tx_lt h
      rw [sM_a36, eS_4] at hP hD
      obtain ⟨y5, ey5, h⟩ := tx_lt h
      refine lv_iinc (v := y5) (lv' := [(2, .int y5), (0, .ref (aa 37)), (1, .int x1)]) hx hb dX8_copies_15 hl (k := 2) rfl ey5 (by decide) rfl (fun ls hl => ?_)
      refine lv_goto (tgt := 2) hx hb dX8_copies_18 (by decide) ?_
      exact hk2 y5 S_4 H locs ls h hP hD hS (lv_sub hl [1, 2, 0] rfl)
set_option maxHeartbeats 4000000 in
set_option maxRecDepth 100000 in
theorem c_X8_copies_37 (l : Launch) (G : va_G) (cA : Nat → ClassId) (sz : Nat) (aa : Nat → Nat) (S : Tr) (L : Lo) (x1 : Int32)  (S' : Tr) (h : f_X8_copies_37 S x1 = some S') : Met l yX8_copies (.code yX8_copies cX8_copies 3 none :: T0) ({ frames := 0, cells := 0, slots := 0, locals := 0 } : Room) (tqP G cA [.ref (aa 37), .int x1] (wM cA aa S L) sz) (tqQv G cA (fun (_ : Unit) => True) (fun (_ : Unit) => wM cA aa S' L) (va_A (wM cA aa S L) sz)) 0 0 (va_A (wM cA aa S L) sz) := by
  refine Met.ofW (cc := cX8_copies) (maxL := 3) (ret := none) (by decide) rfl ?_
  intro p e s m args below meth c s₁ B hml hv
  obtain ⟨rfl, hsz, hP, hK, hD0, hN⟩ := hv
  have hx := B.exec
  have hb := B.bytes
  have hr := B.returns
  have hts := atoms_spec (ws := .code yX8_copies cX8_copies 3 none :: T0) B.pre
  have hT : ∀ w ∈ T0, w.before _ s = true := fun w h => hts w (List.mem_cons_of_mem _ h)
  have hown : s.vm.findClass RX8 = some m.cls := findClass_of_methodNamed B.named
  have hlocks := B.notSynchronized
  subst hsz
  have hD := hD0.self (sz := s.heap.size)
  generalize hAe : va_A (wM cA aa S L) s.heap.size = A at hD ⊢
  have hA : ∀ q : Nat, s.heap.size ≤ q → A q := fun q h => by rw [← hAe]; exact Or.inr h
  have hS : va_S A s.heap s.heap [] := va_S.rf
  have hl := lv_entry ([.ref (aa 37), .int x1]) (n := 3) (Nat.le_of_ble_eq_true rfl)
  rw [lg_entry_eq]
  generalize (lg_sl ([.ref (aa 37), .int x1]) ++ List.replicate (3 - (lg_sl ([.ref (aa 37), .int x1])).length) Slot.unset).toArray = ls at hl ⊢
  have hl : lv_has ls 3 [(0, .ref (aa 37)), (1, .int x1)] := hl
  have F : tF p s m ([.ref (aa 37), .int x1] : List Value).toArray meth c G cA A RX8 cX8_copies 3 none := ⟨hx, hb, hr, hml, hT, hown, hlocks, hK, hN, hA⟩
  obtain ⟨H, hH⟩ : ∃ z, z = s.heap := ⟨_, rfl⟩
  rw [← hH] at hP
  have hS : va_S A s.heap H [] := by rw [hH]; exact hS
  suffices hgo : G_X8_copies_37 p l e s m below meth c G cA A aa L x1 S' H [] (F0 m 0 ls []) by rw [hH] at hgo; exact hgo
  generalize ([] : List Loc) = locs at hS ⊢
  unfold f_X8_copies_37 at h
  refine lv_iconst (v := 0) hx hb dX8_copies_0 (by decide) ?_
  refine lv_istore_n (lv' := [(2, .int 0), (0, .ref (aa 37)), (1, .int x1)]) hx hb dX8_copies_1 rfl hl (by decide) rfl (fun ls hl => ?_)
  exact w_X8_copies_37_L2 F 2000 0 S H locs ls h hP hD hS (lv_sub hl [1, 2, 0] rfl)
abbrev G_X8_copies_38 (p : Program) (l : Launch) (e : Env) (s : State) (m : MethodId) (below : List Frame) (meth : Method) (c : Code) (G : va_G) (cA : Nat → ClassId) (A : Nat → Prop) (aa : Nat → Nat) (L : Lo) (x1 : Int32) (S' : Tr) (H : Heap) (locs : List Loc) (g : JFrame) : Prop := W p l e (headSpec (.code yX8_copies cX8_copies 3 none :: T0) ({ frames := 0, cells := 0, slots := 0, locals := 0 } : Room)).room s m ([.ref (aa 38), .int x1] : List Value).toArray below meth c H locs 0 0 (MQ below (tqQv G cA (fun (_ : Unit) => True) (fun (_ : Unit) => wM cA aa S' L) A) ([.ref (aa 38), .int x1] : List Value).toArray s 0 0 A) g
set_option maxHeartbeats 4000000 in
set_option maxRecDepth 100000 in
theorem w_X8_copies_38_L2 {p : Program} {l : Launch} {e : Env} {s : State} {m : MethodId} {below : List Frame} {meth : Method} {c : Code} {G : va_G} {cA : Nat → ClassId} {A : Nat → Prop} {aa : Nat → Nat} {L : Lo} {x1₀ : Int32} {S' : Tr} {x1 : Int32} (F : tF p s m ([.ref (aa 38), .int x1₀] : List Value).toArray meth c G cA A RX8 cX8_copies 3 none)    (N : Nat) : ∀ (x2 : Int32) (S : Tr) (H : Heap) (locs : List Loc) (ls : Array Slot), lpF (fun _ _ => none) (fB_X8_copies_38_L2 x1) N x2 S = some S' → va_P G vwCl (wM cA aa S L) H → va_D A (wM cA aa S L) → va_S A s.heap H locs → lv_has ls 3 [(0, .ref (aa 38)), (1, .int x1), (2, .int x2)] → G_X8_copies_38 p l e s m below meth c G cA A aa L x1₀ S' H locs (F0 m 2 ls []) := by
  obtain ⟨hx, hb, hr, hml, hT, hown, hlocks, hK, hN, hA⟩ := id F
  induction N with
  | zero =>
    intro x2 S H locs ls h
    have h : (none : Option (Tr)) = some S' := h
    cases h
  | succ N hk2 =>
    intro x2 S H locs ls h hP hD hS hl
    have h : fB_X8_copies_38_L2 x1 (lpF (fun _ _ => none) (fB_X8_copies_38_L2 x1) N) x2 S = some S' := h
    generalize hk2e : lpF (fun _ _ => none) (fB_X8_copies_38_L2 x1) N = k2 at h hk2
    unfold fB_X8_copies_38_L2 at h
    refine lv_iload_n hx hb dX8_copies_2 rfl (lv_at hl 2 rfl) ?_
    refine lv_iload_n hx hb dX8_copies_3 rfl (lv_at hl 1 rfl) ?_
    refine lv_icmp_ge (tgt := 21) hx hb dX8_copies_4 (by decide) (fun c1 => ?_) (fun c1 => ?_)
    · have h := tx_pos c1 h
      obtain rfl := tx_1 h
      exact W.vret hx hb hr (fun t ht hW => ⟨⟨(), rfl, trivial, by rw [ht]; exact hP, hD⟩, hS.F ht⟩) hS.2.2 dX8_copies_21
    · have h := tx_neg c1 h
      refine lv_aload_n hx hb dX8_copies_7 rfl (lv_at hl 0 rfl) ?_
      refine lv_iload_n hx hb dX8_copies_8 rfl (lv_at hl 2 rfl) ?_
      refine lv_aload_n hx hb dX8_copies_9 rfl (lv_at hl 0 rfl) ?_
      refine lv_iload_n hx hb dX8_copies_10 rfl (lv_at hl 1 rfl) ?_
      refine lv_iload_n hx hb dX8_copies_11 rfl (lv_at hl 2 rfl) ?_
      refine lv_iadd hx hb dX8_copies_12 ?_
      obtain ⟨g2, h⟩ := tx_ck h
      refine va_iald (i := (x1 + x2)) hx hb hK hP 19 0 rfl rfl (tx_in g2) dX8_copies_13 ?_
      obtain ⟨g3, h⟩ := tx_ck h
      refine va_iast (i := x2) hx hb hK hP hD hS 19 0 rfl rfl (tx_in g3) dX8_copies_14 (fun H locs hP hD hS => ?_)
      obtain ⟨S_4, eS_4, h⟩ := tx_lt h
      rw [sM_a37, eS_4] at hP hD
      obtain ⟨y5, ey5, h⟩ := tx_lt h
      refine lv_iinc (v := y5) (lv' := [(2, .int y5), (0, .ref (aa 38)), (1, .int x1)]) hx hb dX8_copies_15 hl (k := 2) rfl ey5 (by decide) rfl (fun ls hl => ?_)
      refine lv_goto (tgt := 2) hx hb dX8_copies_18 (by decide) ?_
      exact hk2 y5 S_4 H locs ls h hP hD hS (lv_sub hl [1, 2, 0] rfl)
set_option maxHeartbeats 4000000 in
set_option maxRecDepth 100000 in
theorem c_X8_copies_38 (l : Launch) (G : va_G) (cA : Nat → ClassId) (sz : Nat) (aa : Nat → Nat) (S : Tr) (L : Lo) (x1 : Int32)  (S' : Tr) (h : f_X8_copies_38 S x1 = some S') : Met l yX8_copies (.code yX8_copies cX8_copies 3 none :: T0) ({ frames := 0, cells := 0, slots := 0, locals := 0 } : Room) (tqP G cA [.ref (aa 38), .int x1] (wM cA aa S L) sz) (tqQv G cA (fun (_ : Unit) => True) (fun (_ : Unit) => wM cA aa S' L) (va_A (wM cA aa S L) sz)) 0 0 (va_A (wM cA aa S L) sz) := by
  refine Met.ofW (cc := cX8_copies) (maxL := 3) (ret := none) (by decide) rfl ?_
  intro p e s m args below meth c s₁ B hml hv
  obtain ⟨rfl, hsz, hP, hK, hD0, hN⟩ := hv
  have hx := B.exec
  have hb := B.bytes
  have hr := B.returns
  have hts := atoms_spec (ws := .code yX8_copies cX8_copies 3 none :: T0) B.pre
  have hT : ∀ w ∈ T0, w.before _ s = true := fun w h => hts w (List.mem_cons_of_mem _ h)
  have hown : s.vm.findClass RX8 = some m.cls := findClass_of_methodNamed B.named
  have hlocks := B.notSynchronized
  subst hsz
  have hD := hD0.self (sz := s.heap.size)
  generalize hAe : va_A (wM cA aa S L) s.heap.size = A at hD ⊢
  have hA : ∀ q : Nat, s.heap.size ≤ q → A q := fun q h => by rw [← hAe]; exact Or.inr h
  have hS : va_S A s.heap s.heap [] := va_S.rf
  have hl := lv_entry ([.ref (aa 38), .int x1]) (n := 3) (Nat.le_of_ble_eq_true rfl)
  rw [lg_entry_eq]
  generalize (lg_sl ([.ref (aa 38), .int x1]) ++ List.replicate (3 - (lg_sl ([.ref (aa 38), .int x1])).length) Slot.unset).toArray = ls at hl ⊢
  have hl : lv_has ls 3 [(0, .ref (aa 38)), (1, .int x1)] := hl
  have F : tF p s m ([.ref (aa 38), .int x1] : List Value).toArray meth c G cA A RX8 cX8_copies 3 none := ⟨hx, hb, hr, hml, hT, hown, hlocks, hK, hN, hA⟩
  obtain ⟨H, hH⟩ : ∃ z, z = s.heap := ⟨_, rfl⟩
  rw [← hH] at hP
  have hS : va_S A s.heap H [] := by rw [hH]; exact hS
  suffices hgo : G_X8_copies_38 p l e s m below meth c G cA A aa L x1 S' H [] (F0 m 0 ls []) by rw [hH] at hgo; exact hgo
  generalize ([] : List Loc) = locs at hS ⊢
  unfold f_X8_copies_38 at h
  refine lv_iconst (v := 0) hx hb dX8_copies_0 (by decide) ?_
  refine lv_istore_n (lv' := [(2, .int 0), (0, .ref (aa 38)), (1, .int x1)]) hx hb dX8_copies_1 rfl hl (by decide) rfl (fun ls hl => ?_)
  exact w_X8_copies_38_L2 F 2000 0 S H locs ls h hP hD hS (lv_sub hl [1, 2, 0] rfl)
abbrev G_X8_copies_39 (p : Program) (l : Launch) (e : Env) (s : State) (m : MethodId) (below : List Frame) (meth : Method) (c : Code) (G : va_G) (cA : Nat → ClassId) (A : Nat → Prop) (aa : Nat → Nat) (L : Lo) (x1 : Int32) (S' : Tr) (H : Heap) (locs : List Loc) (g : JFrame) : Prop := W p l e (headSpec (.code yX8_copies cX8_copies 3 none :: T0) ({ frames := 0, cells := 0, slots := 0, locals := 0 } : Room)).room s m ([.ref (aa 39), .int x1] : List Value).toArray below meth c H locs 0 0 (MQ below (tqQv G cA (fun (_ : Unit) => True) (fun (_ : Unit) => wM cA aa S' L) A) ([.ref (aa 39), .int x1] : List Value).toArray s 0 0 A) g
set_option maxHeartbeats 4000000 in
set_option maxRecDepth 100000 in
theorem w_X8_copies_39_L2 {p : Program} {l : Launch} {e : Env} {s : State} {m : MethodId} {below : List Frame} {meth : Method} {c : Code} {G : va_G} {cA : Nat → ClassId} {A : Nat → Prop} {aa : Nat → Nat} {L : Lo} {x1₀ : Int32} {S' : Tr} {x1 : Int32} (F : tF p s m ([.ref (aa 39), .int x1₀] : List Value).toArray meth c G cA A RX8 cX8_copies 3 none)    (N : Nat) : ∀ (x2 : Int32) (S : Tr) (H : Heap) (locs : List Loc) (ls : Array Slot), lpF (fun _ _ => none) (fB_X8_copies_39_L2 x1) N x2 S = some S' → va_P G vwCl (wM cA aa S L) H → va_D A (wM cA aa S L) → va_S A s.heap H locs → lv_has ls 3 [(0, .ref (aa 39)), (1, .int x1), (2, .int x2)] → G_X8_copies_39 p l e s m below meth c G cA A aa L x1₀ S' H locs (F0 m 2 ls []) := by
  obtain ⟨hx, hb, hr, hml, hT, hown, hlocks, hK, hN, hA⟩ := id F
  induction N with
  | zero =>
    intro x2 S H locs ls h
    have h : (none : Option (Tr)) = some S' := h
    cases h
  | succ N hk2 =>
    intro x2 S H locs ls h hP hD hS hl
    have h : fB_X8_copies_39_L2 x1 (lpF (fun _ _ => none) (fB_X8_copies_39_L2 x1) N) x2 S = some S' := h
    generalize hk2e : lpF (fun _ _ => none) (fB_X8_copies_39_L2 x1) N = k2 at h hk2
    unfold fB_X8_copies_39_L2 at h
    refine lv_iload_n hx hb dX8_copies_2 rfl (lv_at hl 2 rfl) ?_
    refine lv_iload_n hx hb dX8_copies_3 rfl (lv_at hl 1 rfl) ?_
    refine lv_icmp_ge (tgt := 21) hx hb dX8_copies_4 (by decide) (fun c1 => ?_) (fun c1 => ?_)
    · have h := tx_pos c1 h
      obtain rfl := tx_1 h
      exact W.vret hx hb hr (fun t ht hW => ⟨⟨(), rfl, trivial, by rw [ht]; exact hP, hD⟩, hS.F ht⟩) hS.2.2 dX8_copies_21
    · have h := tx_neg c1 h
      refine lv_aload_n hx hb dX8_copies_7 rfl (lv_at hl 0 rfl) ?_
      refine lv_iload_n hx hb dX8_copies_8 rfl (lv_at hl 2 rfl) ?_
      refine lv_aload_n hx hb dX8_copies_9 rfl (lv_at hl 0 rfl) ?_
      refine lv_iload_n hx hb dX8_copies_10 rfl (lv_at hl 1 rfl) ?_
      refine lv_iload_n hx hb dX8_copies_11 rfl (lv_at hl 2 rfl) ?_
      refine lv_iadd hx hb dX8_copies_12 ?_
      obtain ⟨g2, h⟩ := tx_ck h
      refine va_iald (i := (x1 + x2)) hx hb hK hP 20 0 rfl rfl (tx_in g2) dX8_copies_13 ?_
      obtain ⟨g3, h⟩ := tx_ck h
      refine va_iast (i := x2) hx hb hK hP hD hS 20 0 rfl rfl (tx_in g3) dX8_copies_14 (fun H locs hP hD hS => ?_)
      obtain ⟨S_4, eS_4, h⟩ := tx_lt h
      rw [sM_a38, eS_4] at hP hD
      obtain ⟨y5, ey5, h⟩ := tx_lt h
      refine lv_iinc (v := y5) (lv' := [(2, .int y5), (0, .ref (aa 39)), (1, .int x1)]) hx hb dX8_copies_15 hl (k := 2) rfl ey5 (by decide) rfl (fun ls hl => ?_)
      refine lv_goto (tgt := 2) hx hb dX8_copies_18 (by decide) ?_
      exact hk2 y5 S_4 H locs ls h hP hD hS (lv_sub hl [1, 2, 0] rfl)
set_option maxHeartbeats 4000000 in
set_option maxRecDepth 100000 in
theorem c_X8_copies_39 (l : Launch) (G : va_G) (cA : Nat → ClassId) (sz : Nat) (aa : Nat → Nat) (S : Tr) (L : Lo) (x1 : Int32)  (S' : Tr) (h : f_X8_copies_39 S x1 = some S') : Met l yX8_copies (.code yX8_copies cX8_copies 3 none :: T0) ({ frames := 0, cells := 0, slots := 0, locals := 0 } : Room) (tqP G cA [.ref (aa 39), .int x1] (wM cA aa S L) sz) (tqQv G cA (fun (_ : Unit) => True) (fun (_ : Unit) => wM cA aa S' L) (va_A (wM cA aa S L) sz)) 0 0 (va_A (wM cA aa S L) sz) := by
  refine Met.ofW (cc := cX8_copies) (maxL := 3) (ret := none) (by decide) rfl ?_
  intro p e s m args below meth c s₁ B hml hv
  obtain ⟨rfl, hsz, hP, hK, hD0, hN⟩ := hv
  have hx := B.exec
  have hb := B.bytes
  have hr := B.returns
  have hts := atoms_spec (ws := .code yX8_copies cX8_copies 3 none :: T0) B.pre
  have hT : ∀ w ∈ T0, w.before _ s = true := fun w h => hts w (List.mem_cons_of_mem _ h)
  have hown : s.vm.findClass RX8 = some m.cls := findClass_of_methodNamed B.named
  have hlocks := B.notSynchronized
  subst hsz
  have hD := hD0.self (sz := s.heap.size)
  generalize hAe : va_A (wM cA aa S L) s.heap.size = A at hD ⊢
  have hA : ∀ q : Nat, s.heap.size ≤ q → A q := fun q h => by rw [← hAe]; exact Or.inr h
  have hS : va_S A s.heap s.heap [] := va_S.rf
  have hl := lv_entry ([.ref (aa 39), .int x1]) (n := 3) (Nat.le_of_ble_eq_true rfl)
  rw [lg_entry_eq]
  generalize (lg_sl ([.ref (aa 39), .int x1]) ++ List.replicate (3 - (lg_sl ([.ref (aa 39), .int x1])).length) Slot.unset).toArray = ls at hl ⊢
  have hl : lv_has ls 3 [(0, .ref (aa 39)), (1, .int x1)] := hl
  have F : tF p s m ([.ref (aa 39), .int x1] : List Value).toArray meth c G cA A RX8 cX8_copies 3 none := ⟨hx, hb, hr, hml, hT, hown, hlocks, hK, hN, hA⟩
  obtain ⟨H, hH⟩ : ∃ z, z = s.heap := ⟨_, rfl⟩
  rw [← hH] at hP
  have hS : va_S A s.heap H [] := by rw [hH]; exact hS
  suffices hgo : G_X8_copies_39 p l e s m below meth c G cA A aa L x1 S' H [] (F0 m 0 ls []) by rw [hH] at hgo; exact hgo
  generalize ([] : List Loc) = locs at hS ⊢
  unfold f_X8_copies_39 at h
  refine lv_iconst (v := 0) hx hb dX8_copies_0 (by decide) ?_
  refine lv_istore_n (lv' := [(2, .int 0), (0, .ref (aa 39)), (1, .int x1)]) hx hb dX8_copies_1 rfl hl (by decide) rfl (fun ls hl => ?_)
  exact w_X8_copies_39_L2 F 2000 0 S H locs ls h hP hD hS (lv_sub hl [1, 2, 0] rfl)
abbrev G_X8_copies_40 (p : Program) (l : Launch) (e : Env) (s : State) (m : MethodId) (below : List Frame) (meth : Method) (c : Code) (G : va_G) (cA : Nat → ClassId) (A : Nat → Prop) (aa : Nat → Nat) (L : Lo) (x1 : Int32) (S' : Tr) (H : Heap) (locs : List Loc) (g : JFrame) : Prop := W p l e (headSpec (.code yX8_copies cX8_copies 3 none :: T0) ({ frames := 0, cells := 0, slots := 0, locals := 0 } : Room)).room s m ([.ref (aa 40), .int x1] : List Value).toArray below meth c H locs 0 0 (MQ below (tqQv G cA (fun (_ : Unit) => True) (fun (_ : Unit) => wM cA aa S' L) A) ([.ref (aa 40), .int x1] : List Value).toArray s 0 0 A) g
set_option maxHeartbeats 4000000 in
set_option maxRecDepth 100000 in
theorem w_X8_copies_40_L2 {p : Program} {l : Launch} {e : Env} {s : State} {m : MethodId} {below : List Frame} {meth : Method} {c : Code} {G : va_G} {cA : Nat → ClassId} {A : Nat → Prop} {aa : Nat → Nat} {L : Lo} {x1₀ : Int32} {S' : Tr} {x1 : Int32} (F : tF p s m ([.ref (aa 40), .int x1₀] : List Value).toArray meth c G cA A RX8 cX8_copies 3 none)    (N : Nat) : ∀ (x2 : Int32) (S : Tr) (H : Heap) (locs : List Loc) (ls : Array Slot), lpF (fun _ _ => none) (fB_X8_copies_40_L2 x1) N x2 S = some S' → va_P G vwCl (wM cA aa S L) H → va_D A (wM cA aa S L) → va_S A s.heap H locs → lv_has ls 3 [(0, .ref (aa 40)), (1, .int x1), (2, .int x2)] → G_X8_copies_40 p l e s m below meth c G cA A aa L x1₀ S' H locs (F0 m 2 ls []) := by
  obtain ⟨hx, hb, hr, hml, hT, hown, hlocks, hK, hN, hA⟩ := id F
  induction N with
  | zero =>
    intro x2 S H locs ls h
    have h : (none : Option (Tr)) = some S' := h
    cases h
  | succ N hk2 =>
    intro x2 S H locs ls h hP hD hS hl
    have h : fB_X8_copies_40_L2 x1 (lpF (fun _ _ => none) (fB_X8_copies_40_L2 x1) N) x2 S = some S' := h
    generalize hk2e : lpF (fun _ _ => none) (fB_X8_copies_40_L2 x1) N = k2 at h hk2
    unfold fB_X8_copies_40_L2 at h
    refine lv_iload_n hx hb dX8_copies_2 rfl (lv_at hl 2 rfl) ?_
    refine lv_iload_n hx hb dX8_copies_3 rfl (lv_at hl 1 rfl) ?_
    refine lv_icmp_ge (tgt := 21) hx hb dX8_copies_4 (by decide) (fun c1 => ?_) (fun c1 => ?_)
    · have h := tx_pos c1 h
      obtain rfl := tx_1 h
      exact W.vret hx hb hr (fun t ht hW => ⟨⟨(), rfl, trivial, by rw [ht]; exact hP, hD⟩, hS.F ht⟩) hS.2.2 dX8_copies_21
    · have h := tx_neg c1 h
      refine lv_aload_n hx hb dX8_copies_7 rfl (lv_at hl 0 rfl) ?_
      refine lv_iload_n hx hb dX8_copies_8 rfl (lv_at hl 2 rfl) ?_
      refine lv_aload_n hx hb dX8_copies_9 rfl (lv_at hl 0 rfl) ?_
      refine lv_iload_n hx hb dX8_copies_10 rfl (lv_at hl 1 rfl) ?_
      refine lv_iload_n hx hb dX8_copies_11 rfl (lv_at hl 2 rfl) ?_
      refine lv_iadd hx hb dX8_copies_12 ?_
      obtain ⟨g2, h⟩ := tx_ck h
      refine va_iald (i := (x1 + x2)) hx hb hK hP 21 0 rfl rfl (tx_in g2) dX8_copies_13 ?_
      obtain ⟨g3, h⟩ := tx_ck h
      refine va_iast (i := x2) hx hb hK hP hD hS 21 0 rfl rfl (tx_in g3) dX8_copies_14 (fun H locs hP hD hS => ?_)
      obtain ⟨S_4, eS_4, h⟩ := tx_lt h
      rw [sM_a39, eS_4] at hP hD
      obtain ⟨y5, ey5, h⟩ := tx_lt h
      refine lv_iinc (v := y5) (lv' := [(2, .int y5), (0, .ref (aa 40)), (1, .int x1)]) hx hb dX8_copies_15 hl (k := 2) rfl ey5 (by decide) rfl (fun ls hl => ?_)
      refine lv_goto (tgt := 2) hx hb dX8_copies_18 (by decide) ?_
      exact hk2 y5 S_4 H locs ls h hP hD hS (lv_sub hl [1, 2, 0] rfl)
set_option maxHeartbeats 4000000 in
set_option maxRecDepth 100000 in
theorem c_X8_copies_40 (l : Launch) (G : va_G) (cA : Nat → ClassId) (sz : Nat) (aa : Nat → Nat) (S : Tr) (L : Lo) (x1 : Int32)  (S' : Tr) (h : f_X8_copies_40 S x1 = some S') : Met l yX8_copies (.code yX8_copies cX8_copies 3 none :: T0) ({ frames := 0, cells := 0, slots := 0, locals := 0 } : Room) (tqP G cA [.ref (aa 40), .int x1] (wM cA aa S L) sz) (tqQv G cA (fun (_ : Unit) => True) (fun (_ : Unit) => wM cA aa S' L) (va_A (wM cA aa S L) sz)) 0 0 (va_A (wM cA aa S L) sz) := by
  refine Met.ofW (cc := cX8_copies) (maxL := 3) (ret := none) (by decide) rfl ?_
  intro p e s m args below meth c s₁ B hml hv
  obtain ⟨rfl, hsz, hP, hK, hD0, hN⟩ := hv
  have hx := B.exec
  have hb := B.bytes
  have hr := B.returns
  have hts := atoms_spec (ws := .code yX8_copies cX8_copies 3 none :: T0) B.pre
  have hT : ∀ w ∈ T0, w.before _ s = true := fun w h => hts w (List.mem_cons_of_mem _ h)
  have hown : s.vm.findClass RX8 = some m.cls := findClass_of_methodNamed B.named
  have hlocks := B.notSynchronized
  subst hsz
  have hD := hD0.self (sz := s.heap.size)
  generalize hAe : va_A (wM cA aa S L) s.heap.size = A at hD ⊢
  have hA : ∀ q : Nat, s.heap.size ≤ q → A q := fun q h => by rw [← hAe]; exact Or.inr h
  have hS : va_S A s.heap s.heap [] := va_S.rf
  have hl := lv_entry ([.ref (aa 40), .int x1]) (n := 3) (Nat.le_of_ble_eq_true rfl)
  rw [lg_entry_eq]
  generalize (lg_sl ([.ref (aa 40), .int x1]) ++ List.replicate (3 - (lg_sl ([.ref (aa 40), .int x1])).length) Slot.unset).toArray = ls at hl ⊢
  have hl : lv_has ls 3 [(0, .ref (aa 40)), (1, .int x1)] := hl
  have F : tF p s m ([.ref (aa 40), .int x1] : List Value).toArray meth c G cA A RX8 cX8_copies 3 none := ⟨hx, hb, hr, hml, hT, hown, hlocks, hK, hN, hA⟩
  obtain ⟨H, hH⟩ : ∃ z, z = s.heap := ⟨_, rfl⟩
  rw [← hH] at hP
  have hS : va_S A s.heap H [] := by rw [hH]; exact hS
  suffices hgo : G_X8_copies_40 p l e s m below meth c G cA A aa L x1 S' H [] (F0 m 0 ls []) by rw [hH] at hgo; exact hgo
  generalize ([] : List Loc) = locs at hS ⊢
  unfold f_X8_copies_40 at h
  refine lv_iconst (v := 0) hx hb dX8_copies_0 (by decide) ?_
  refine lv_istore_n (lv' := [(2, .int 0), (0, .ref (aa 40)), (1, .int x1)]) hx hb dX8_copies_1 rfl hl (by decide) rfl (fun ls hl => ?_)
  exact w_X8_copies_40_L2 F 2000 0 S H locs ls h hP hD hS (lv_sub hl [1, 2, 0] rfl)
abbrev G_X8_copies_41 (p : Program) (l : Launch) (e : Env) (s : State) (m : MethodId) (below : List Frame) (meth : Method) (c : Code) (G : va_G) (cA : Nat → ClassId) (A : Nat → Prop) (aa : Nat → Nat) (L : Lo) (x1 : Int32) (S' : Tr) (H : Heap) (locs : List Loc) (g : JFrame) : Prop := W p l e (headSpec (.code yX8_copies cX8_copies 3 none :: T0) ({ frames := 0, cells := 0, slots := 0, locals := 0 } : Room)).room s m ([.ref (aa 41), .int x1] : List Value).toArray below meth c H locs 0 0 (MQ below (tqQv G cA (fun (_ : Unit) => True) (fun (_ : Unit) => wM cA aa S' L) A) ([.ref (aa 41), .int x1] : List Value).toArray s 0 0 A) g
set_option maxHeartbeats 4000000 in
set_option maxRecDepth 100000 in
theorem w_X8_copies_41_L2 {p : Program} {l : Launch} {e : Env} {s : State} {m : MethodId} {below : List Frame} {meth : Method} {c : Code} {G : va_G} {cA : Nat → ClassId} {A : Nat → Prop} {aa : Nat → Nat} {L : Lo} {x1₀ : Int32} {S' : Tr} {x1 : Int32} (F : tF p s m ([.ref (aa 41), .int x1₀] : List Value).toArray meth c G cA A RX8 cX8_copies 3 none)    (N : Nat) : ∀ (x2 : Int32) (S : Tr) (H : Heap) (locs : List Loc) (ls : Array Slot), lpF (fun _ _ => none) (fB_X8_copies_41_L2 x1) N x2 S = some S' → va_P G vwCl (wM cA aa S L) H → va_D A (wM cA aa S L) → va_S A s.heap H locs → lv_has ls 3 [(0, .ref (aa 41)), (1, .int x1), (2, .int x2)] → G_X8_copies_41 p l e s m below meth c G cA A aa L x1₀ S' H locs (F0 m 2 ls []) := by
  obtain ⟨hx, hb, hr, hml, hT, hown, hlocks, hK, hN, hA⟩ := id F
  induction N with
  | zero =>
    intro x2 S H locs ls h
    have h : (none : Option (Tr)) = some S' := h
    cases h
  | succ N hk2 =>
    intro x2 S H locs ls h hP hD hS hl
    have h : fB_X8_copies_41_L2 x1 (lpF (fun _ _ => none) (fB_X8_copies_41_L2 x1) N) x2 S = some S' := h
    generalize hk2e : lpF (fun _ _ => none) (fB_X8_copies_41_L2 x1) N = k2 at h hk2
    unfold fB_X8_copies_41_L2 at h
    refine lv_iload_n hx hb dX8_copies_2 rfl (lv_at hl 2 rfl) ?_
    refine lv_iload_n hx hb dX8_copies_3 rfl (lv_at hl 1 rfl) ?_
    refine lv_icmp_ge (tgt := 21) hx hb dX8_copies_4 (by decide) (fun c1 => ?_) (fun c1 => ?_)
    · have h := tx_pos c1 h
      obtain rfl := tx_1 h
      exact W.vret hx hb hr (fun t ht hW => ⟨⟨(), rfl, trivial, by rw [ht]; exact hP, hD⟩, hS.F ht⟩) hS.2.2 dX8_copies_21
    · have h := tx_neg c1 h
      refine lv_aload_n hx hb dX8_copies_7 rfl (lv_at hl 0 rfl) ?_
      refine lv_iload_n hx hb dX8_copies_8 rfl (lv_at hl 2 rfl) ?_
      refine lv_aload_n hx hb dX8_copies_9 rfl (lv_at hl 0 rfl) ?_
      refine lv_iload_n hx hb dX8_copies_10 rfl (lv_at hl 1 rfl) ?_
      refine lv_iload_n hx hb dX8_copies_11 rfl (lv_at hl 2 rfl) ?_
      refine lv_iadd hx hb dX8_copies_12 ?_
      obtain ⟨g2, h⟩ := tx_ck h
      refine va_iald (i := (x1 + x2)) hx hb hK hP 22 0 rfl rfl (tx_in g2) dX8_copies_13 ?_
      obtain ⟨g3, h⟩ := tx_ck h
      refine va_iast (i := x2) hx hb hK hP hD hS 22 0 rfl rfl (tx_in g3) dX8_copies_14 (fun H locs hP hD hS => ?_)
      obtain ⟨S_4, eS_4, h⟩ := tx_lt h
      rw [sM_a40, eS_4] at hP hD
      obtain ⟨y5, ey5, h⟩ := tx_lt h
      refine lv_iinc (v := y5) (lv' := [(2, .int y5), (0, .ref (aa 41)), (1, .int x1)]) hx hb dX8_copies_15 hl (k := 2) rfl ey5 (by decide) rfl (fun ls hl => ?_)
      refine lv_goto (tgt := 2) hx hb dX8_copies_18 (by decide) ?_
      exact hk2 y5 S_4 H locs ls h hP hD hS (lv_sub hl [1, 2, 0] rfl)
set_option maxHeartbeats 4000000 in
set_option maxRecDepth 100000 in
theorem c_X8_copies_41 (l : Launch) (G : va_G) (cA : Nat → ClassId) (sz : Nat) (aa : Nat → Nat) (S : Tr) (L : Lo) (x1 : Int32)  (S' : Tr) (h : f_X8_copies_41 S x1 = some S') : Met l yX8_copies (.code yX8_copies cX8_copies 3 none :: T0) ({ frames := 0, cells := 0, slots := 0, locals := 0 } : Room) (tqP G cA [.ref (aa 41), .int x1] (wM cA aa S L) sz) (tqQv G cA (fun (_ : Unit) => True) (fun (_ : Unit) => wM cA aa S' L) (va_A (wM cA aa S L) sz)) 0 0 (va_A (wM cA aa S L) sz) := by
  refine Met.ofW (cc := cX8_copies) (maxL := 3) (ret := none) (by decide) rfl ?_
  intro p e s m args below meth c s₁ B hml hv
  obtain ⟨rfl, hsz, hP, hK, hD0, hN⟩ := hv
  have hx := B.exec
  have hb := B.bytes
  have hr := B.returns
  have hts := atoms_spec (ws := .code yX8_copies cX8_copies 3 none :: T0) B.pre
  have hT : ∀ w ∈ T0, w.before _ s = true := fun w h => hts w (List.mem_cons_of_mem _ h)
  have hown : s.vm.findClass RX8 = some m.cls := findClass_of_methodNamed B.named
  have hlocks := B.notSynchronized
  subst hsz
  have hD := hD0.self (sz := s.heap.size)
  generalize hAe : va_A (wM cA aa S L) s.heap.size = A at hD ⊢
  have hA : ∀ q : Nat, s.heap.size ≤ q → A q := fun q h => by rw [← hAe]; exact Or.inr h
  have hS : va_S A s.heap s.heap [] := va_S.rf
  have hl := lv_entry ([.ref (aa 41), .int x1]) (n := 3) (Nat.le_of_ble_eq_true rfl)
  rw [lg_entry_eq]
  generalize (lg_sl ([.ref (aa 41), .int x1]) ++ List.replicate (3 - (lg_sl ([.ref (aa 41), .int x1])).length) Slot.unset).toArray = ls at hl ⊢
  have hl : lv_has ls 3 [(0, .ref (aa 41)), (1, .int x1)] := hl
  have F : tF p s m ([.ref (aa 41), .int x1] : List Value).toArray meth c G cA A RX8 cX8_copies 3 none := ⟨hx, hb, hr, hml, hT, hown, hlocks, hK, hN, hA⟩
  obtain ⟨H, hH⟩ : ∃ z, z = s.heap := ⟨_, rfl⟩
  rw [← hH] at hP
  have hS : va_S A s.heap H [] := by rw [hH]; exact hS
  suffices hgo : G_X8_copies_41 p l e s m below meth c G cA A aa L x1 S' H [] (F0 m 0 ls []) by rw [hH] at hgo; exact hgo
  generalize ([] : List Loc) = locs at hS ⊢
  unfold f_X8_copies_41 at h
  refine lv_iconst (v := 0) hx hb dX8_copies_0 (by decide) ?_
  refine lv_istore_n (lv' := [(2, .int 0), (0, .ref (aa 41)), (1, .int x1)]) hx hb dX8_copies_1 rfl hl (by decide) rfl (fun ls hl => ?_)
  exact w_X8_copies_41_L2 F 2000 0 S H locs ls h hP hD hS (lv_sub hl [1, 2, 0] rfl)
abbrev G_X8_keepText (p : Program) (l : Launch) (e : Env) (s : State) (m : MethodId) (below : List Frame) (meth : Method) (c : Code) (G : va_G) (cA : Nat → ClassId) (A : Nat → Prop) (aa : Nat → Nat) (S' : Tr) (L' : Lo) (H : Heap) (locs : List Loc) (g : JFrame) : Prop := W p l e (headSpec (.code yX8_keepText cX8_keepText 2 none :: T0) ({ frames := 2, cells := 0, slots := 0, locals := 42 } : Room)).room s m ([.ref (aa 0)] : List Value).toArray below meth c H locs 0 0 (MQ below (tqQv G cA (fun (_ : Unit) => True) (fun (_ : Unit) => wM cA aa S' L') A) ([.ref (aa 0)] : List Value).toArray s 0 0 A) g
set_option maxHeartbeats 4000000 in
set_option maxRecDepth 100000 in
theorem w_X8_keepText_J164 {p : Program} {l : Launch} {e : Env} {s : State} {m : MethodId} {below : List Frame} {meth : Method} {c : Code} {G : va_G} {cA : Nat → ClassId} {A : Nat → Prop} {aa : Nat → Nat} {S' : Tr} {L' : Lo} (F : tF p s m ([.ref (aa 0)] : List Value).toArray meth c G cA A RX8 cX8_keepText 2 none)    (S : Tr) (L : Lo) (H : Heap) (locs : List Loc) (ls : Array Slot) (h : fJ_X8_keepText_J164 S L = some (S', L')) (hP : va_P G vwCl (wM cA aa S_57 L_58) H) (hD : va_D A (wM cA aa S_57 L_58)) (hS : va_S A s.heap H locs) (hl : lv_has ls 2 [(0, .ref (aa 0))]) : G_X8_keepText p l e s m below meth c G cA A aa S' L' H locs (F0 m 164 ls []) := by
  obtain ⟨hx, hb, hr, hml, hT, hown, hlocks, hK, hN, hA⟩ := id F
  unfold fJ_X8_keepText_J164 at h
  refine lv_aload_n hx hb dX8_keepText_164 rfl (lv_at hl 0 rfl) ?_
  refine va_get (D := G) (ci := 8) (v := .ref (aa 37)) (C := RX8) (T := TX8) (N := 91) hx hb hT ku_8 hown hK hP 0 rfl rfl 36 (by decide) (hT _ kw_10_4) (fun _ h9 => h9) rfl dX8_keepText_165 ?_
  refine lv_iconst (v := 3) hx hb dX8_keepText_168 (by decide) ?_
  obtain ⟨S_42, hc43, h⟩ := tx_bd h
  refine tw_cv tw_all hP hD hS hA (va_runS (As := [.ref (aa 37), .int 3]) (rest := []) ⟨hx, hb, hml, hown, hT⟩ (c_X8_copies_37 l G cA H.size aa S L (3 : Int32)  S_42 hc43) (va_cwS 2 hT (tq_gS kw_12_7 kw_12_8 kw_1_5 kw_12_9) rfl rfl rfl (by decide +kernel) ⟨Nat.le_of_ble_eq_true rfl, Nat.le_of_ble_eq_true rfl⟩) (tw_pre tw_all hP hD hK hN) rfl rfl hl.1 rfl (lv_room (Nat.le_of_ble_eq_true rfl)) dX8_keepText_169 ⟨Nat.le_of_ble_eq_true rfl, Nat.le_of_ble_eq_true rfl⟩) (fun _ H locs z44 hP hD hS => ?_)
  rw [List.append_nil] at hP hD
  have hP : va_P G vwCl (wM cA aa S_42 L) H := hP
  have hD : va_D A (wM cA aa S_42 L) := hD
  refine lv_aload_n hx hb dX8_keepText_172 rfl (lv_at hl 0 rfl) ?_
  refine va_get (D := G) (ci := 8) (v := .ref (aa 38)) (C := RX8) (T := TX8) (N := 91) hx hb hT ku_8 hown hK hP 0 rfl rfl 37 (by decide) (hT _ kw_10_5) (fun _ h9 => h9) rfl dX8_keepText_173 ?_
  refine lv_iconst (v := 3) hx hb dX8_keepText_176 (by decide) ?_
  obtain ⟨S_45, hc46, h⟩ := tx_bd h
  refine tw_cv tw_all hP hD hS hA (va_runS (As := [.ref (aa 38), .int 3]) (rest := []) ⟨hx, hb, hml, hown, hT⟩ (c_X8_copies_38 l G cA H.size aa S_42 L (3 : Int32)  S_45 hc46) (va_cwS 2 hT (tq_gS kw_12_7 kw_12_8 kw_1_5 kw_12_9) rfl rfl rfl (by decide +kernel) ⟨Nat.le_of_ble_eq_true rfl, Nat.le_of_ble_eq_true rfl⟩) (tw_pre tw_all hP hD hK hN) rfl rfl hl.1 rfl (lv_room (Nat.le_of_ble_eq_true rfl)) dX8_keepText_177 ⟨Nat.le_of_ble_eq_true rfl, Nat.le_of_ble_eq_true rfl⟩) (fun _ H locs z47 hP hD hS => ?_)
  rw [List.append_nil] at hP hD
  have hP : va_P G vwCl (wM cA aa S_45 L) H := hP
  have hD : va_D A (wM cA aa S_45 L) := hD
  refine lv_aload_n hx hb dX8_keepText_180 rfl (lv_at hl 0 rfl) ?_
  refine va_get (D := G) (ci := 8) (v := .ref (aa 39)) (C := RX8) (T := TX8) (N := 91) hx hb hT ku_8 hown hK hP 0 rfl rfl 38 (by decide) (hT _ kw_10_6) (fun _ h9 => h9) rfl dX8_keepText_181 ?_
  refine lv_bipush (v := 64) hx hb dX8_keepText_184 (by decide) ?_
  obtain ⟨S_48, hc49, h⟩ := tx_bd h
  refine tw_cv tw_all hP hD hS hA (va_runS (As := [.ref (aa 39), .int 64]) (rest := []) ⟨hx, hb, hml, hown, hT⟩ (c_X8_copies_39 l G cA H.size aa S_45 L (64 : Int32)  S_48 hc49) (va_cwS 2 hT (tq_gS kw_12_7 kw_12_8 kw_1_5 kw_12_9) rfl rfl rfl (by decide +kernel) ⟨Nat.le_of_ble_eq_true rfl, Nat.le_of_ble_eq_true rfl⟩) (tw_pre tw_all hP hD hK hN) rfl rfl hl.1 rfl (lv_room (Nat.le_of_ble_eq_true rfl)) dX8_keepText_186 ⟨Nat.le_of_ble_eq_true rfl, Nat.le_of_ble_eq_true rfl⟩) (fun _ H locs z50 hP hD hS => ?_)
  rw [List.append_nil] at hP hD
  have hP : va_P G vwCl (wM cA aa S_48 L) H := hP
  have hD : va_D A (wM cA aa S_48 L) := hD
  refine lv_aload_n hx hb dX8_keepText_189 rfl (lv_at hl 0 rfl) ?_
  refine va_get (D := G) (ci := 8) (v := .ref (aa 40)) (C := RX8) (T := TX8) (N := 91) hx hb hT ku_8 hown hK hP 0 rfl rfl 39 (by decide) (hT _ kw_10_7) (fun _ h9 => h9) rfl dX8_keepText_190 ?_
  refine lv_bipush (v := 64) hx hb dX8_keepText_193 (by decide) ?_
  obtain ⟨S_51, hc52, h⟩ := tx_bd h
  refine tw_cv tw_all hP hD hS hA (va_runS (As := [.ref (aa 40), .int 64]) (rest := []) ⟨hx, hb, hml, hown, hT⟩ (c_X8_copies_40 l G cA H.size aa S_48 L (64 : Int32)  S_51 hc52) (va_cwS 2 hT (tq_gS kw_12_7 kw_12_8 kw_1_5 kw_12_9) rfl rfl rfl (by decide +kernel) ⟨Nat.le_of_ble_eq_true rfl, Nat.le_of_ble_eq_true rfl⟩) (tw_pre tw_all hP hD hK hN) rfl rfl hl.1 rfl (lv_room (Nat.le_of_ble_eq_true rfl)) dX8_keepText_195 ⟨Nat.le_of_ble_eq_true rfl, Nat.le_of_ble_eq_true rfl⟩) (fun _ H locs z53 hP hD hS => ?_)
  rw [List.append_nil] at hP hD
  have hP : va_P G vwCl (wM cA aa S_51 L) H := hP
  have hD : va_D A (wM cA aa S_51 L) := hD
  refine lv_aload_n hx hb dX8_keepText_198 rfl (lv_at hl 0 rfl) ?_
  refine va_get (D := G) (ci := 8) (v := .ref (aa 41)) (C := RX8) (T := TX8) (N := 91) hx hb hT ku_8 hown hK hP 0 rfl rfl 40 (by decide) (hT _ kw_10_8) (fun _ h9 => h9) rfl dX8_keepText_199 ?_
  refine lv_bipush (v := 64) hx hb dX8_keepText_202 (by decide) ?_
  obtain ⟨S_54, hc55, h⟩ := tx_bd h
  refine tw_cv tw_all hP hD hS hA (va_runS (As := [.ref (aa 41), .int 64]) (rest := []) ⟨hx, hb, hml, hown, hT⟩ (c_X8_copies_41 l G cA H.size aa S_51 L (64 : Int32)  S_54 hc55) (va_cwS 2 hT (tq_gS kw_12_7 kw_12_8 kw_1_5 kw_12_9) rfl rfl rfl (by decide +kernel) ⟨Nat.le_of_ble_eq_true rfl, Nat.le_of_ble_eq_true rfl⟩) (tw_pre tw_all hP hD hK hN) rfl rfl hl.1 rfl (lv_room (Nat.le_of_ble_eq_true rfl)) dX8_keepText_204 ⟨Nat.le_of_ble_eq_true rfl, Nat.le_of_ble_eq_true rfl⟩) (fun _ H locs z56 hP hD hS => ?_)
  rw [List.append_nil] at hP hD
  have hP : va_P G vwCl (wM cA aa S_54 L) H := hP
  have hD : va_D A (wM cA aa S_54 L) := hD
  refine lv_aload_n hx hb dX8_keepText_207 rfl (lv_at hl 0 rfl) ?_
  obtain ⟨⟨S_57, L_58⟩, hc59, h⟩ := tx_bd h
  replace h := tx_let (y := S_57) rfl h
  replace h := tx_let (y := L_58) rfl h
  refine tw_cv tw_all hP hD hS hA (va_runV (As := []) (rest := []) ⟨hx, hb, hml, hown, hT⟩ (c_X8_begin l G cA H.size aa S_54 L  S_57 L_58 hc59) (cwV 0 hT (tq_gV kw_12_10 kw_12_11 kw_12_12 kw_1_5 kw_12_13) rfl rfl rfl (by decide +kernel) ⟨Nat.le_of_ble_eq_true rfl, Nat.le_of_ble_eq_true rfl⟩) ⟨(tw_pre tw_all hP hD hK hN).1, va_recv hK hP (ci := 8) (q0 := 0) rfl rfl, (tw_pre tw_all hP hD hK hN).2⟩ rfl rfl hl.1 rfl (lv_room (Nat.le_of_ble_eq_true rfl)) dX8_keepText_208 ⟨Nat.le_of_ble_eq_true rfl, Nat.le_of_ble_eq_true rfl⟩) (fun _ H locs z60 hP hD hS => ?_)
  rw [List.append_nil] at hP hD
  have hP : va_P G vwCl (wM cA aa S_57 L_58) H := hP
  have hD : va_D A (wM cA aa S_57 L_58) := hD
  obtain ⟨rfl, rfl⟩ := tx_2 h
  exact W.vret hx hb hr (fun t ht hW => ⟨⟨(), rfl, trivial, by rw [ht]; exact hP, hD⟩, hS.F ht⟩) hS.2.2 dX8_keepText_211
set_option maxHeartbeats 4000000 in
set_option maxRecDepth 100000 in
theorem w_X8_keepText_L139 {p : Program} {l : Launch} {e : Env} {s : State} {m : MethodId} {below : List Frame} {meth : Method} {c : Code} {G : va_G} {cA : Nat → ClassId} {A : Nat → Prop} {aa : Nat → Nat} {S' : Tr} {L' : Lo} {L : Lo} (F : tF p s m ([.ref (aa 0)] : List Value).toArray meth c G cA A RX8 cX8_keepText 2 none)    (N : Nat) : ∀ (x1 : Int32) (S : Tr) (H : Heap) (locs : List Loc) (ls : Array Slot), lpF (fun _ _ => none) (fB_X8_keepText_L139 L) N x1 S = some (S', L') → va_P G vwCl (wM cA aa S L) H → va_D A (wM cA aa S L) → va_S A s.heap H locs → lv_has ls 2 [(0, .ref (aa 0)), (1, .int x1)] → G_X8_keepText p l e s m below meth c G cA A aa S' L' H locs (F0 m 139 ls []) := by
  obtain ⟨hx, hb, hr, hml, hT, hown, hlocks, hK, hN, hA⟩ := id F
  induction N with
  | zero =>
    intro x1 S H locs ls h
    have h : (none : Option (Tr × Lo)) = some (S', L') := h
    cases h
  | succ N hk139 =>
    intro x1 S H locs ls h hP hD hS hl
    have h : fB_X8_keepText_L139 L (lpF (fun _ _ => none) (fB_X8_keepText_L139 L) N) x1 S = some (S', L') := h
    generalize hk139e : lpF (fun _ _ => none) (fB_X8_keepText_L139 L) N = k139 at h hk139
    unfold fB_X8_keepText_L139 at h
    refine lv_iload_n hx hb dX8_keepText_139 rfl (lv_at hl 1 rfl) ?_
    refine lv_iconst (v := 3) hx hb dX8_keepText_140 (by decide) ?_
    refine lv_icmp_ge (tgt := 164) hx hb dX8_keepText_141 (by decide) (fun c41 => ?_) (fun c41 => ?_)
    · have h := tx_pos c41 h
      exact w_X8_keepText_J164 F S L H locs ls h hP hD hS (lv_sub hl [0] rfl)
    · have h := tx_neg c41 h
      refine lv_aload_n hx hb dX8_keepText_144 rfl (lv_at hl 0 rfl) ?_
      refine va_get (D := G) (ci := 8) (v := .ref (aa 36)) (C := RX8) (T := TX8) (N := 91) hx hb hT ku_8 hown hK hP 0 rfl rfl 35 (by decide) (hT _ kw_10_3) (fun _ h9 => h9) rfl dX8_keepText_145 ?_
      refine lv_iload_n hx hb dX8_keepText_148 rfl (lv_at hl 1 rfl) ?_
      refine lv_aload_n hx hb dX8_keepText_149 rfl (lv_at hl 0 rfl) ?_
      refine va_get (D := G) (ci := 8) (v := .ref (aa 36)) (C := RX8) (T := TX8) (N := 91) hx hb hT ku_8 hown hK hP 0 rfl rfl 35 (by decide) (hT _ kw_10_3) (fun _ h9 => h9) rfl dX8_keepText_150 ?_
      refine lv_iconst (v := 3) hx hb dX8_keepText_153 (by decide) ?_
      refine lv_iload_n hx hb dX8_keepText_154 rfl (lv_at hl 1 rfl) ?_
      refine lv_iadd hx hb dX8_keepText_155 ?_
      obtain ⟨g61, h⟩ := tx_ck h
      refine va_zald (i := ((3 : Int32) + x1)) hx hb hK hP 17 1 rfl rfl (tx_in g61) dX8_keepText_156 ?_
      obtain ⟨g62, h⟩ := tx_ck h
      refine va_zast (i := x1) hx hb hK hP hD hS 17 1 rfl rfl (tx_in g62) dX8_keepText_157 (fun H locs hP hD hS => ?_)
      obtain ⟨S_63, eS_63, h⟩ := tx_lt h
      rw [sM_a35, eS_63] at hP hD
      obtain ⟨y64, ey64, h⟩ := tx_lt h
      refine lv_iinc (v := y64) (lv' := [(1, .int y64), (0, .ref (aa 0))]) hx hb dX8_keepText_158 hl (k := 1) rfl ey64 (by decide) rfl (fun ls hl => ?_)
      refine lv_goto (tgt := 139) hx hb dX8_keepText_161 (by decide) ?_
      exact hk139 y64 S_63 H locs ls h hP hD hS (lv_sub hl [1, 0] rfl)
set_option maxHeartbeats 4000000 in
set_option maxRecDepth 100000 in
theorem c_X8_keepText (l : Launch) (G : va_G) (cA : Nat → ClassId) (sz : Nat) (aa : Nat → Nat) (S : Tr) (L : Lo)  (S' : Tr) (L' : Lo) (h : f_X8_keepText S L = some (S', L')) : Met l yX8_keepText (.code yX8_keepText cX8_keepText 2 none :: T0) ({ frames := 2, cells := 0, slots := 0, locals := 42 } : Room) (tqP G cA [.ref (aa 0)] (wM cA aa S L) sz) (tqQv G cA (fun (_ : Unit) => True) (fun (_ : Unit) => wM cA aa S' L') (va_A (wM cA aa S L) sz)) 0 0 (va_A (wM cA aa S L) sz) := by
  refine Met.ofW (cc := cX8_keepText) (maxL := 2) (ret := none) (by decide) rfl ?_
  intro p e s m args below meth c s₁ B hml hv
  obtain ⟨rfl, hsz, hP, hK, hD0, hN⟩ := hv
  have hx := B.exec
  have hb := B.bytes
  have hr := B.returns
  have hts := atoms_spec (ws := .code yX8_keepText cX8_keepText 2 none :: T0) B.pre
  have hT : ∀ w ∈ T0, w.before _ s = true := fun w h => hts w (List.mem_cons_of_mem _ h)
  have hown : s.vm.findClass RX8 = some m.cls := findClass_of_methodNamed B.named
  have hlocks := B.notSynchronized
  subst hsz
  have hD := hD0.self (sz := s.heap.size)
  generalize hAe : va_A (wM cA aa S L) s.heap.size = A at hD ⊢
  have hA : ∀ q : Nat, s.heap.size ≤ q → A q := fun q h => by rw [← hAe]; exact Or.inr h
  have hS : va_S A s.heap s.heap [] := va_S.rf
  have hl := lv_entry ([.ref (aa 0)]) (n := 2) (Nat.le_of_ble_eq_true rfl)
  rw [lg_entry_eq]
  generalize (lg_sl ([.ref (aa 0)]) ++ List.replicate (2 - (lg_sl ([.ref (aa 0)])).length) Slot.unset).toArray = ls at hl ⊢
  have hl : lv_has ls 2 [(0, .ref (aa 0))] := hl
  have F : tF p s m ([.ref (aa 0)] : List Value).toArray meth c G cA A RX8 cX8_keepText 2 none := ⟨hx, hb, hr, hml, hT, hown, hlocks, hK, hN, hA⟩
  obtain ⟨H, hH⟩ : ∃ z, z = s.heap := ⟨_, rfl⟩
  rw [← hH] at hP
  have hS : va_S A s.heap H [] := by rw [hH]; exact hS
  suffices hgo : G_X8_keepText p l e s m below meth c G cA A aa S' L' H [] (F0 m 0 ls []) by rw [hH] at hgo; exact hgo
  generalize ([] : List Loc) = locs at hS ⊢
  unfold f_X8_keepText at h
  refine lv_aload_n hx hb dX8_keepText_0 rfl (lv_at hl 0 rfl) ?_
  refine lv_aload_n hx hb dX8_keepText_1 rfl (lv_at hl 0 rfl) ?_
  refine va_get (D := G) (ci := 8) (v := .int (S 0 16)) (C := RX8) (T := TX8) (N := 91) hx hb hT ku_8 hown hK hP 0 rfl rfl 16 (by decide) (hT _ kw_11_17) (fun _ h9 => h9) rfl dX8_keepText_2 ?_
  refine va_put (D := G) (ci := 8) (v := .int (S 0 16)) (ty := .int) (C := RX8) (T := TX8) (N := 91) hx hb hT ku_8 tyX8 tyX8_ok nmX8 hown hK hP hD hS 0 rfl rfl 12 (by decide) (hT _ kw_12_3) (fun _ h9 => h9) rfl (by decide +kernel) rfl rfl (Nat.le_of_ble_eq_true rfl) dX8_keepText_5 (fun H locs hP hD hS => ?_)
  obtain ⟨S_1, eS_1, h⟩ := tx_lt h
  rw [sM_f12, eS_1] at hP hD
  refine lv_aload_n hx hb dX8_keepText_8 rfl (lv_at hl 0 rfl) ?_
  refine lv_aload_n hx hb dX8_keepText_9 rfl (lv_at hl 0 rfl) ?_
  refine va_get (D := G) (ci := 8) (v := .int (S_1 0 17)) (C := RX8) (T := TX8) (N := 91) hx hb hT ku_8 hown hK hP 0 rfl rfl 17 (by decide) (hT _ kw_11_18) (fun _ h9 => h9) rfl dX8_keepText_10 ?_
  refine va_put (D := G) (ci := 8) (v := .int (S_1 0 17)) (ty := .int) (C := RX8) (T := TX8) (N := 91) hx hb hT ku_8 tyX8 tyX8_ok nmX8 hown hK hP hD hS 0 rfl rfl 13 (by decide) (hT _ kw_12_4) (fun _ h9 => h9) rfl (by decide +kernel) rfl rfl (Nat.le_of_ble_eq_true rfl) dX8_keepText_13 (fun H locs hP hD hS => ?_)
  obtain ⟨S_2, eS_2, h⟩ := tx_lt h
  rw [sM_f13, eS_2] at hP hD
  refine lv_aload_n hx hb dX8_keepText_16 rfl (lv_at hl 0 rfl) ?_
  refine lv_aload_n hx hb dX8_keepText_17 rfl (lv_at hl 0 rfl) ?_
  refine va_get (D := G) (ci := 8) (v := .int (S_2 0 18)) (C := RX8) (T := TX8) (N := 91) hx hb hT ku_8 hown hK hP 0 rfl rfl 18 (by decide) (hT _ kw_11_19) (fun _ h9 => h9) rfl dX8_keepText_18 ?_
  refine va_put (D := G) (ci := 8) (v := .int (S_2 0 18)) (ty := .int) (C := RX8) (T := TX8) (N := 91) hx hb hT ku_8 tyX8 tyX8_ok nmX8 hown hK hP hD hS 0 rfl rfl 14 (by decide) (hT _ kw_12_5) (fun _ h9 => h9) rfl (by decide +kernel) rfl rfl (Nat.le_of_ble_eq_true rfl) dX8_keepText_21 (fun H locs hP hD hS => ?_)
  obtain ⟨S_3, eS_3, h⟩ := tx_lt h
  rw [sM_f14, eS_3] at hP hD
  refine lv_aload_n hx hb dX8_keepText_24 rfl (lv_at hl 0 rfl) ?_
  refine lv_aload_n hx hb dX8_keepText_25 rfl (lv_at hl 0 rfl) ?_
  refine va_get (D := G) (ci := 8) (v := .int (S_3 0 19)) (C := RX8) (T := TX8) (N := 91) hx hb hT ku_8 hown hK hP 0 rfl rfl 19 (by decide) (hT _ kw_11_20) (fun _ h9 => h9) rfl dX8_keepText_26 ?_
  refine va_put (D := G) (ci := 8) (v := .int (S_3 0 19)) (ty := .int) (C := RX8) (T := TX8) (N := 91) hx hb hT ku_8 tyX8 tyX8_ok nmX8 hown hK hP hD hS 0 rfl rfl 15 (by decide) (hT _ kw_12_6) (fun _ h9 => h9) rfl (by decide +kernel) rfl rfl (Nat.le_of_ble_eq_true rfl) dX8_keepText_29 (fun H locs hP hD hS => ?_)
  obtain ⟨S_4, eS_4, h⟩ := tx_lt h
  rw [sM_f15, eS_4] at hP hD
  refine lv_aload_n hx hb dX8_keepText_32 rfl (lv_at hl 0 rfl) ?_
  refine va_get (D := G) (ci := 8) (v := .ref (aa 23)) (C := RX8) (T := TX8) (N := 91) hx hb hT ku_8 hown hK hP 0 rfl rfl 22 (by decide) (hT _ kw_9_14) (fun _ h9 => h9) rfl dX8_keepText_33 ?_
  refine lv_iconst (v := 3) hx hb dX8_keepText_36 (by decide) ?_
  obtain ⟨S_5, hc6, h⟩ := tx_bd h
  refine tw_cv tw_all hP hD hS hA (va_runS (As := [.ref (aa 23), .int 3]) (rest := []) ⟨hx, hb, hml, hown, hT⟩ (c_X8_copies_23 l G cA H.size aa S_4 L (3 : Int32)  S_5 hc6) (va_cwS 2 hT (tq_gS kw_12_7 kw_12_8 kw_1_5 kw_12_9) rfl rfl rfl (by decide +kernel) ⟨Nat.le_of_ble_eq_true rfl, Nat.le_of_ble_eq_true rfl⟩) (tw_pre tw_all hP hD hK hN) rfl rfl hl.1 rfl (lv_room (Nat.le_of_ble_eq_true rfl)) dX8_keepText_37 ⟨Nat.le_of_ble_eq_true rfl, Nat.le_of_ble_eq_true rfl⟩) (fun _ H locs z7 hP hD hS => ?_)
  rw [List.append_nil] at hP hD
  have hP : va_P G vwCl (wM cA aa S_5 L) H := hP
  have hD : va_D A (wM cA aa S_5 L) := hD
  refine lv_aload_n hx hb dX8_keepText_40 rfl (lv_at hl 0 rfl) ?_
  refine va_get (D := G) (ci := 8) (v := .ref (aa 24)) (C := RX8) (T := TX8) (N := 91) hx hb hT ku_8 hown hK hP 0 rfl rfl 23 (by decide) (hT _ kw_9_15) (fun _ h9 => h9) rfl dX8_keepText_41 ?_
  refine lv_iconst (v := 5) hx hb dX8_keepText_44 (by decide) ?_
  obtain ⟨S_8, hc9, h⟩ := tx_bd h
  refine tw_cv tw_all hP hD hS hA (va_runS (As := [.ref (aa 24), .int 5]) (rest := []) ⟨hx, hb, hml, hown, hT⟩ (c_X8_copies_24 l G cA H.size aa S_5 L (5 : Int32)  S_8 hc9) (va_cwS 2 hT (tq_gS kw_12_7 kw_12_8 kw_1_5 kw_12_9) rfl rfl rfl (by decide +kernel) ⟨Nat.le_of_ble_eq_true rfl, Nat.le_of_ble_eq_true rfl⟩) (tw_pre tw_all hP hD hK hN) rfl rfl hl.1 rfl (lv_room (Nat.le_of_ble_eq_true rfl)) dX8_keepText_45 ⟨Nat.le_of_ble_eq_true rfl, Nat.le_of_ble_eq_true rfl⟩) (fun _ H locs z10 hP hD hS => ?_)
  rw [List.append_nil] at hP hD
  have hP : va_P G vwCl (wM cA aa S_8 L) H := hP
  have hD : va_D A (wM cA aa S_8 L) := hD
  refine lv_aload_n hx hb dX8_keepText_48 rfl (lv_at hl 0 rfl) ?_
  refine va_get (D := G) (ci := 8) (v := .ref (aa 25)) (C := RX8) (T := TX8) (N := 91) hx hb hT ku_8 hown hK hP 0 rfl rfl 24 (by decide) (hT _ kw_9_16) (fun _ h9 => h9) rfl dX8_keepText_49 ?_
  refine lv_iconst (v := 5) hx hb dX8_keepText_52 (by decide) ?_
  obtain ⟨S_11, hc12, h⟩ := tx_bd h
  refine tw_cv tw_all hP hD hS hA (va_runS (As := [.ref (aa 25), .int 5]) (rest := []) ⟨hx, hb, hml, hown, hT⟩ (c_X8_copies_25 l G cA H.size aa S_8 L (5 : Int32)  S_11 hc12) (va_cwS 2 hT (tq_gS kw_12_7 kw_12_8 kw_1_5 kw_12_9) rfl rfl rfl (by decide +kernel) ⟨Nat.le_of_ble_eq_true rfl, Nat.le_of_ble_eq_true rfl⟩) (tw_pre tw_all hP hD hK hN) rfl rfl hl.1 rfl (lv_room (Nat.le_of_ble_eq_true rfl)) dX8_keepText_53 ⟨Nat.le_of_ble_eq_true rfl, Nat.le_of_ble_eq_true rfl⟩) (fun _ H locs z13 hP hD hS => ?_)
  rw [List.append_nil] at hP hD
  have hP : va_P G vwCl (wM cA aa S_11 L) H := hP
  have hD : va_D A (wM cA aa S_11 L) := hD
  refine lv_aload_n hx hb dX8_keepText_56 rfl (lv_at hl 0 rfl) ?_
  refine va_get (D := G) (ci := 8) (v := .ref (aa 26)) (C := RX8) (T := TX8) (N := 91) hx hb hT ku_8 hown hK hP 0 rfl rfl 25 (by decide) (hT _ kw_9_17) (fun _ h9 => h9) rfl dX8_keepText_57 ?_
  refine lv_bipush (v := 6) hx hb dX8_keepText_60 (by decide) ?_
  obtain ⟨S_14, hc15, h⟩ := tx_bd h
  refine tw_cv tw_all hP hD hS hA (va_runS (As := [.ref (aa 26), .int 6]) (rest := []) ⟨hx, hb, hml, hown, hT⟩ (c_X8_copies_26 l G cA H.size aa S_11 L (6 : Int32)  S_14 hc15) (va_cwS 2 hT (tq_gS kw_12_7 kw_12_8 kw_1_5 kw_12_9) rfl rfl rfl (by decide +kernel) ⟨Nat.le_of_ble_eq_true rfl, Nat.le_of_ble_eq_true rfl⟩) (tw_pre tw_all hP hD hK hN) rfl rfl hl.1 rfl (lv_room (Nat.le_of_ble_eq_true rfl)) dX8_keepText_62 ⟨Nat.le_of_ble_eq_true rfl, Nat.le_of_ble_eq_true rfl⟩) (fun _ H locs z16 hP hD hS => ?_)
  rw [List.append_nil] at hP hD
  have hP : va_P G vwCl (wM cA aa S_14 L) H := hP
  have hD : va_D A (wM cA aa S_14 L) := hD
  refine lv_aload_n hx hb dX8_keepText_65 rfl (lv_at hl 0 rfl) ?_
  refine va_get (D := G) (ci := 8) (v := .ref (aa 27)) (C := RX8) (T := TX8) (N := 91) hx hb hT ku_8 hown hK hP 0 rfl rfl 26 (by decide) (hT _ kw_9_18) (fun _ h9 => h9) rfl dX8_keepText_66 ?_
  refine lv_bipush (v := 6) hx hb dX8_keepText_69 (by decide) ?_
  obtain ⟨S_17, hc18, h⟩ := tx_bd h
  refine tw_cv tw_all hP hD hS hA (va_runS (As := [.ref (aa 27), .int 6]) (rest := []) ⟨hx, hb, hml, hown, hT⟩ (c_X8_copies_27 l G cA H.size aa S_14 L (6 : Int32)  S_17 hc18) (va_cwS 2 hT (tq_gS kw_12_7 kw_12_8 kw_1_5 kw_12_9) rfl rfl rfl (by decide +kernel) ⟨Nat.le_of_ble_eq_true rfl, Nat.le_of_ble_eq_true rfl⟩) (tw_pre tw_all hP hD hK hN) rfl rfl hl.1 rfl (lv_room (Nat.le_of_ble_eq_true rfl)) dX8_keepText_71 ⟨Nat.le_of_ble_eq_true rfl, Nat.le_of_ble_eq_true rfl⟩) (fun _ H locs z19 hP hD hS => ?_)
  rw [List.append_nil] at hP hD
  have hP : va_P G vwCl (wM cA aa S_17 L) H := hP
  have hD : va_D A (wM cA aa S_17 L) := hD
  refine lv_aload_n hx hb dX8_keepText_74 rfl (lv_at hl 0 rfl) ?_
  refine va_get (D := G) (ci := 8) (v := .ref (aa 28)) (C := RX8) (T := TX8) (N := 91) hx hb hT ku_8 hown hK hP 0 rfl rfl 27 (by decide) (hT _ kw_9_19) (fun _ h9 => h9) rfl dX8_keepText_75 ?_
  refine lv_bipush (v := 6) hx hb dX8_keepText_78 (by decide) ?_
  obtain ⟨S_20, hc21, h⟩ := tx_bd h
  refine tw_cv tw_all hP hD hS hA (va_runS (As := [.ref (aa 28), .int 6]) (rest := []) ⟨hx, hb, hml, hown, hT⟩ (c_X8_copies_28 l G cA H.size aa S_17 L (6 : Int32)  S_20 hc21) (va_cwS 2 hT (tq_gS kw_12_7 kw_12_8 kw_1_5 kw_12_9) rfl rfl rfl (by decide +kernel) ⟨Nat.le_of_ble_eq_true rfl, Nat.le_of_ble_eq_true rfl⟩) (tw_pre tw_all hP hD hK hN) rfl rfl hl.1 rfl (lv_room (Nat.le_of_ble_eq_true rfl)) dX8_keepText_80 ⟨Nat.le_of_ble_eq_true rfl, Nat.le_of_ble_eq_true rfl⟩) (fun _ H locs z22 hP hD hS => ?_)
  rw [List.append_nil] at hP hD
  have hP : va_P G vwCl (wM cA aa S_20 L) H := hP
  have hD : va_D A (wM cA aa S_20 L) := hD
  refine lv_aload_n hx hb dX8_keepText_83 rfl (lv_at hl 0 rfl) ?_
  refine va_get (D := G) (ci := 8) (v := .ref (aa 29)) (C := RX8) (T := TX8) (N := 91) hx hb hT ku_8 hown hK hP 0 rfl rfl 28 (by decide) (hT _ kw_9_20) (fun _ h9 => h9) rfl dX8_keepText_84 ?_
  refine lv_bipush (v := 6) hx hb dX8_keepText_87 (by decide) ?_
  obtain ⟨S_23, hc24, h⟩ := tx_bd h
  refine tw_cv tw_all hP hD hS hA (va_runS (As := [.ref (aa 29), .int 6]) (rest := []) ⟨hx, hb, hml, hown, hT⟩ (c_X8_copies_29 l G cA H.size aa S_20 L (6 : Int32)  S_23 hc24) (va_cwS 2 hT (tq_gS kw_12_7 kw_12_8 kw_1_5 kw_12_9) rfl rfl rfl (by decide +kernel) ⟨Nat.le_of_ble_eq_true rfl, Nat.le_of_ble_eq_true rfl⟩) (tw_pre tw_all hP hD hK hN) rfl rfl hl.1 rfl (lv_room (Nat.le_of_ble_eq_true rfl)) dX8_keepText_89 ⟨Nat.le_of_ble_eq_true rfl, Nat.le_of_ble_eq_true rfl⟩) (fun _ H locs z25 hP hD hS => ?_)
  rw [List.append_nil] at hP hD
  have hP : va_P G vwCl (wM cA aa S_23 L) H := hP
  have hD : va_D A (wM cA aa S_23 L) := hD
  refine lv_aload_n hx hb dX8_keepText_92 rfl (lv_at hl 0 rfl) ?_
  refine va_get (D := G) (ci := 8) (v := .ref (aa 30)) (C := RX8) (T := TX8) (N := 91) hx hb hT ku_8 hown hK hP 0 rfl rfl 29 (by decide) (hT _ kw_9_21) (fun _ h9 => h9) rfl dX8_keepText_93 ?_
  refine lv_bipush (v := 10) hx hb dX8_keepText_96 (by decide) ?_
  obtain ⟨S_26, hc27, h⟩ := tx_bd h
  refine tw_cv tw_all hP hD hS hA (va_runS (As := [.ref (aa 30), .int 10]) (rest := []) ⟨hx, hb, hml, hown, hT⟩ (c_X8_copies_30 l G cA H.size aa S_23 L (10 : Int32)  S_26 hc27) (va_cwS 2 hT (tq_gS kw_12_7 kw_12_8 kw_1_5 kw_12_9) rfl rfl rfl (by decide +kernel) ⟨Nat.le_of_ble_eq_true rfl, Nat.le_of_ble_eq_true rfl⟩) (tw_pre tw_all hP hD hK hN) rfl rfl hl.1 rfl (lv_room (Nat.le_of_ble_eq_true rfl)) dX8_keepText_98 ⟨Nat.le_of_ble_eq_true rfl, Nat.le_of_ble_eq_true rfl⟩) (fun _ H locs z28 hP hD hS => ?_)
  rw [List.append_nil] at hP hD
  have hP : va_P G vwCl (wM cA aa S_26 L) H := hP
  have hD : va_D A (wM cA aa S_26 L) := hD
  refine lv_aload_n hx hb dX8_keepText_101 rfl (lv_at hl 0 rfl) ?_
  refine va_get (D := G) (ci := 8) (v := .ref (aa 31)) (C := RX8) (T := TX8) (N := 91) hx hb hT ku_8 hown hK hP 0 rfl rfl 30 (by decide) (hT _ kw_9_22) (fun _ h9 => h9) rfl dX8_keepText_102 ?_
  refine lv_bipush (v := 10) hx hb dX8_keepText_105 (by decide) ?_
  obtain ⟨S_29, hc30, h⟩ := tx_bd h
  refine tw_cv tw_all hP hD hS hA (va_runS (As := [.ref (aa 31), .int 10]) (rest := []) ⟨hx, hb, hml, hown, hT⟩ (c_X8_copies_31 l G cA H.size aa S_26 L (10 : Int32)  S_29 hc30) (va_cwS 2 hT (tq_gS kw_12_7 kw_12_8 kw_1_5 kw_12_9) rfl rfl rfl (by decide +kernel) ⟨Nat.le_of_ble_eq_true rfl, Nat.le_of_ble_eq_true rfl⟩) (tw_pre tw_all hP hD hK hN) rfl rfl hl.1 rfl (lv_room (Nat.le_of_ble_eq_true rfl)) dX8_keepText_107 ⟨Nat.le_of_ble_eq_true rfl, Nat.le_of_ble_eq_true rfl⟩) (fun _ H locs z31 hP hD hS => ?_)
  rw [List.append_nil] at hP hD
  have hP : va_P G vwCl (wM cA aa S_29 L) H := hP
  have hD : va_D A (wM cA aa S_29 L) := hD
  refine lv_aload_n hx hb dX8_keepText_110 rfl (lv_at hl 0 rfl) ?_
  refine va_get (D := G) (ci := 8) (v := .ref (aa 32)) (C := RX8) (T := TX8) (N := 91) hx hb hT ku_8 hown hK hP 0 rfl rfl 31 (by decide) (hT _ kw_9_23) (fun _ h9 => h9) rfl dX8_keepText_111 ?_
  refine lv_bipush (v := 10) hx hb dX8_keepText_114 (by decide) ?_
  obtain ⟨S_32, hc33, h⟩ := tx_bd h
  refine tw_cv tw_all hP hD hS hA (va_runS (As := [.ref (aa 32), .int 10]) (rest := []) ⟨hx, hb, hml, hown, hT⟩ (c_X8_copies_32 l G cA H.size aa S_29 L (10 : Int32)  S_32 hc33) (va_cwS 2 hT (tq_gS kw_12_7 kw_12_8 kw_1_5 kw_12_9) rfl rfl rfl (by decide +kernel) ⟨Nat.le_of_ble_eq_true rfl, Nat.le_of_ble_eq_true rfl⟩) (tw_pre tw_all hP hD hK hN) rfl rfl hl.1 rfl (lv_room (Nat.le_of_ble_eq_true rfl)) dX8_keepText_116 ⟨Nat.le_of_ble_eq_true rfl, Nat.le_of_ble_eq_true rfl⟩) (fun _ H locs z34 hP hD hS => ?_)
  rw [List.append_nil] at hP hD
  have hP : va_P G vwCl (wM cA aa S_32 L) H := hP
  have hD : va_D A (wM cA aa S_32 L) := hD
  refine lv_aload_n hx hb dX8_keepText_119 rfl (lv_at hl 0 rfl) ?_
  refine va_get (D := G) (ci := 8) (v := .ref (aa 33)) (C := RX8) (T := TX8) (N := 91) hx hb hT ku_8 hown hK hP 0 rfl rfl 32 (by decide) (hT _ kw_10_0) (fun _ h9 => h9) rfl dX8_keepText_120 ?_
  refine lv_bipush (v := 10) hx hb dX8_keepText_123 (by decide) ?_
  obtain ⟨S_35, hc36, h⟩ := tx_bd h
  refine tw_cv tw_all hP hD hS hA (va_runS (As := [.ref (aa 33), .int 10]) (rest := []) ⟨hx, hb, hml, hown, hT⟩ (c_X8_copies_33 l G cA H.size aa S_32 L (10 : Int32)  S_35 hc36) (va_cwS 2 hT (tq_gS kw_12_7 kw_12_8 kw_1_5 kw_12_9) rfl rfl rfl (by decide +kernel) ⟨Nat.le_of_ble_eq_true rfl, Nat.le_of_ble_eq_true rfl⟩) (tw_pre tw_all hP hD hK hN) rfl rfl hl.1 rfl (lv_room (Nat.le_of_ble_eq_true rfl)) dX8_keepText_125 ⟨Nat.le_of_ble_eq_true rfl, Nat.le_of_ble_eq_true rfl⟩) (fun _ H locs z37 hP hD hS => ?_)
  rw [List.append_nil] at hP hD
  have hP : va_P G vwCl (wM cA aa S_35 L) H := hP
  have hD : va_D A (wM cA aa S_35 L) := hD
  refine lv_aload_n hx hb dX8_keepText_128 rfl (lv_at hl 0 rfl) ?_
  refine va_get (D := G) (ci := 8) (v := .ref (aa 34)) (C := RX8) (T := TX8) (N := 91) hx hb hT ku_8 hown hK hP 0 rfl rfl 33 (by decide) (hT _ kw_10_1) (fun _ h9 => h9) rfl dX8_keepText_129 ?_
  refine lv_bipush (v := 21) hx hb dX8_keepText_132 (by decide) ?_
  obtain ⟨S_38, hc39, h⟩ := tx_bd h
  refine tw_cv tw_all hP hD hS hA (va_runS (As := [.ref (aa 34), .int 21]) (rest := []) ⟨hx, hb, hml, hown, hT⟩ (c_X8_copies_34 l G cA H.size aa S_35 L (21 : Int32)  S_38 hc39) (va_cwS 2 hT (tq_gS kw_12_7 kw_12_8 kw_1_5 kw_12_9) rfl rfl rfl (by decide +kernel) ⟨Nat.le_of_ble_eq_true rfl, Nat.le_of_ble_eq_true rfl⟩) (tw_pre tw_all hP hD hK hN) rfl rfl hl.1 rfl (lv_room (Nat.le_of_ble_eq_true rfl)) dX8_keepText_134 ⟨Nat.le_of_ble_eq_true rfl, Nat.le_of_ble_eq_true rfl⟩) (fun _ H locs z40 hP hD hS => ?_)
  rw [List.append_nil] at hP hD
  have hP : va_P G vwCl (wM cA aa S_38 L) H := hP
  have hD : va_D A (wM cA aa S_38 L) := hD
  refine lv_iconst (v := 0) hx hb dX8_keepText_137 (by decide) ?_
  refine lv_istore_n (lv' := [(1, .int 0), (0, .ref (aa 0))]) hx hb dX8_keepText_138 rfl hl (by decide) rfl (fun ls hl => ?_)
  exact w_X8_keepText_L139 F 2000 0 S_38 H locs ls h hP hD hS (lv_sub hl [1, 0] rfl)
abbrev G_X8_known (p : Program) (l : Launch) (e : Env) (s : State) (m : MethodId) (below : List Frame) (meth : Method) (c : Code) (G : va_G) (cA : Nat → ClassId) (A : Nat → Prop) (aa : Nat → Nat) (L : Lo) (x1 : Int32) (r0 : Int32) (S' : Tr) (H : Heap) (locs : List Loc) (g : JFrame) : Prop := W p l e (headSpec (.code yX8_known cX8_known 2 (some .boolean) :: T0) ({ frames := 1, cells := 0, slots := 0, locals := 22 } : Room)).room s m ([.ref (aa 0), .int x1] : List Value).toArray below meth c H locs 0 0 (MQ below (tqQi G cA (fun (r : Int32) (_ : Unit) => r = r0) (fun (_ : Unit) => wM cA aa S' L) A) ([.ref (aa 0), .int x1] : List Value).toArray s 0 0 A) g
set_option maxHeartbeats 4000000 in
set_option maxRecDepth 100000 in
theorem c_X8_known (l : Launch) (G : va_G) (cA : Nat → ClassId) (sz : Nat) (aa : Nat → Nat) (S : Tr) (L : Lo) (x1 : Int32)  (r0 : Int32) (S' : Tr) (h : f_X8_known S x1 = some (r0, S')) : Met l yX8_known (.code yX8_known cX8_known 2 (some .boolean) :: T0) ({ frames := 1, cells := 0, slots := 0, locals := 22 } : Room) (tqP G cA [.ref (aa 0), .int x1] (wM cA aa S L) sz) (tqQi G cA (fun (r : Int32) (_ : Unit) => r = r0) (fun (_ : Unit) => wM cA aa S' L) (va_A (wM cA aa S L) sz)) 0 0 (va_A (wM cA aa S L) sz) := by
  refine Met.ofW (cc := cX8_known) (maxL := 2) (ret := (some .boolean)) (by decide) rfl ?_
  intro p e s m args below meth c s₁ B hml hv
  obtain ⟨rfl, hsz, hP, hK, hD0, hN⟩ := hv
  have hx := B.exec
  have hb := B.bytes
  have hr := B.returns
  have hts := atoms_spec (ws := .code yX8_known cX8_known 2 (some .boolean) :: T0) B.pre
  have hT : ∀ w ∈ T0, w.before _ s = true := fun w h => hts w (List.mem_cons_of_mem _ h)
  have hown : s.vm.findClass RX8 = some m.cls := findClass_of_methodNamed B.named
  have hlocks := B.notSynchronized
  subst hsz
  have hD := hD0.self (sz := s.heap.size)
  generalize hAe : va_A (wM cA aa S L) s.heap.size = A at hD ⊢
  have hA : ∀ q : Nat, s.heap.size ≤ q → A q := fun q h => by rw [← hAe]; exact Or.inr h
  have hS : va_S A s.heap s.heap [] := va_S.rf
  have hl := lv_entry ([.ref (aa 0), .int x1]) (n := 2) (Nat.le_of_ble_eq_true rfl)
  rw [lg_entry_eq]
  generalize (lg_sl ([.ref (aa 0), .int x1]) ++ List.replicate (2 - (lg_sl ([.ref (aa 0), .int x1])).length) Slot.unset).toArray = ls at hl ⊢
  have hl : lv_has ls 2 [(0, .ref (aa 0)), (1, .int x1)] := hl
  have F : tF p s m ([.ref (aa 0), .int x1] : List Value).toArray meth c G cA A RX8 cX8_known 2 (some .boolean) := ⟨hx, hb, hr, hml, hT, hown, hlocks, hK, hN, hA⟩
  obtain ⟨H, hH⟩ : ∃ z, z = s.heap := ⟨_, rfl⟩
  rw [← hH] at hP
  have hS : va_S A s.heap H [] := by rw [hH]; exact hS
  suffices hgo : G_X8_known p l e s m below meth c G cA A aa L x1 r0 S' H [] (F0 m 0 ls []) by rw [hH] at hgo; exact hgo
  generalize ([] : List Loc) = locs at hS ⊢
  unfold f_X8_known at h
  refine lv_aload_n hx hb dX8_known_0 rfl (lv_at hl 0 rfl) ?_
  refine lv_iconst (v := 0) hx hb dX8_known_1 (by decide) ?_
  refine va_put (D := G) (ci := 8) (v := .int 0) (ty := .int) (C := RX8) (T := TX8) (N := 91) hx hb hT ku_8 tyX8 tyX8_ok nmX8 hown hK hP hD hS 0 rfl rfl 2 (by decide) (hT _ kw_14_0) (fun _ h9 => h9) rfl (by decide +kernel) rfl rfl (Nat.le_of_ble_eq_true rfl) dX8_known_2 (fun H locs hP hD hS => ?_)
  obtain ⟨S_1, eS_1, h⟩ := tx_lt h
  rw [sM_f2, eS_1] at hP hD
  refine lv_iload_n hx hb dX8_known_5 rfl (lv_at hl 1 rfl) ?_
  refine lv_iconst (v := (-1)) hx hb dX8_known_6 (by decide) ?_
  refine lv_aload_n hx hb dX8_known_7 rfl (lv_at hl 0 rfl) ?_
  refine va_get (D := G) (ci := 8) (v := .int (S_1 0 78)) (C := RX8) (T := TX8) (N := 91) hx hb hT ku_8 hown hK hP 0 rfl rfl 78 (by decide) (hT _ kw_12_15) (fun _ h9 => h9) rfl dX8_known_8 ?_
  obtain ⟨r2, hc3, h⟩ := tx_bd h
  refine tw_ci (tw_none (ws := wM cA aa S_1 L)) hP hD hS hA (va_runS (As := [.int x1, .int (-1), .int (S_1 0 78)]) (rest := []) ⟨hx, hb, hml, hown, hT⟩ (c_X8_isIn l G cA H.size x1 (-1 : Int32) (S_1 0 78)  r2 hc3) (va_cwS 3 hT (tq_gS kw_24_11 kw_24_12 kw_1_5 kw_24_13) rfl rfl rfl (by decide +kernel) ⟨Nat.le_of_ble_eq_true rfl, Nat.le_of_ble_eq_true rfl⟩) (tw_pre (tw_none (ws := wM cA aa S_1 L)) hP hD hK hN) rfl rfl hl.1 rfl (lv_room (Nat.le_of_ble_eq_true rfl)) dX8_known_11 ⟨Nat.le_of_ble_eq_true rfl, Nat.le_of_ble_eq_true rfl⟩) (fun _ _ H locs z4 hP hD hS => ?_)
  subst z4
  have hP : va_P G vwCl (wM cA aa S_1 L) H := hP
  have hD : va_D A (wM cA aa S_1 L) := hD
  refine lv_if_ne (tgt := 19) hx hb dX8_known_14 (by decide) (fun c5 => ?_) (fun c5 => ?_)
  · have h := tx_neg c5 h
    refine lv_aload_n hx hb dX8_known_19 rfl (lv_at hl 0 rfl) ?_
    refine lv_iload_n hx hb dX8_known_20 rfl (lv_at hl 1 rfl) ?_
    refine va_put (D := G) (ci := 8) (v := .int x1) (ty := .int) (C := RX8) (T := TX8) (N := 91) hx hb hT ku_8 tyX8 tyX8_ok nmX8 hown hK hP hD hS 0 rfl rfl 79 (by decide) (hT _ kw_11_6) (fun _ h9 => h9) rfl (by decide +kernel) rfl rfl (Nat.le_of_ble_eq_true rfl) dX8_known_21 (fun H locs hP hD hS => ?_)
    obtain ⟨S_6, eS_6, h⟩ := tx_lt h
    rw [sM_f79, eS_6] at hP hD
    refine lv_iconst (v := 1) hx hb dX8_known_24 (by decide) ?_
    obtain ⟨rfl, rfl⟩ := tx_2 h
    exact W.zret (ty := .boolean) hx hb hr rfl (fun t ht hW => ⟨⟨_, (), rfl, rfl, by rw [ht]; exact hP, hD⟩, hS.F ht⟩) hS.2.2 dX8_known_25
  · have h := tx_pos c5 h
    refine lv_iconst (v := 0) hx hb dX8_known_17 (by decide) ?_
    obtain ⟨rfl, rfl⟩ := tx_2 h
    exact W.zret (ty := .boolean) hx hb hr rfl (fun t ht hW => ⟨⟨_, (), rfl, rfl, by rw [ht]; exact hP, hD⟩, hS.F ht⟩) hS.2.2 dX8_known_18
abbrev G_X8_law (p : Program) (l : Launch) (e : Env) (s : State) (m : MethodId) (below : List Frame) (meth : Method) (c : Code) (G : va_G) (cA : Nat → ClassId) (A : Nat → Prop) (aa : Nat → Nat) (x1 : Int32) (x2 : Int32) (r0 : Int64) (S' : Tr) (L' : Lo) (H : Heap) (locs : List Loc) (g : JFrame) : Prop := W p l e (headSpec (.code yX8_law cX8_law 5 (some .long) :: T0) ({ frames := 4, cells := 0, slots := 0, locals := 92 } : Room)).room s m ([.ref (aa 0), .int x1, .int x2] : List Value).toArray below meth c H locs 0 0 (MQ below (tqQl G cA (fun (r : Int64) (_ : Unit) => r = r0) (fun (_ : Unit) => wM cA aa S' L') A) ([.ref (aa 0), .int x1, .int x2] : List Value).toArray s 0 0 A) g
set_option maxHeartbeats 4000000 in
set_option maxRecDepth 100000 in
theorem c_X8_law (l : Launch) (G : va_G) (cA : Nat → ClassId) (sz : Nat) (aa : Nat → Nat) (S : Tr) (L : Lo) (x1 : Int32) (x2 : Int32)  (r0 : Int64) (S' : Tr) (L' : Lo) (h : f_X8_law S L x1 x2 = some (r0, S', L')) : Met l yX8_law (.code yX8_law cX8_law 5 (some .long) :: T0) ({ frames := 4, cells := 0, slots := 0, locals := 92 } : Room) (tqP G cA [.ref (aa 0), .int x1, .int x2] (wM cA aa S L) sz) (tqQl G cA (fun (r : Int64) (_ : Unit) => r = r0) (fun (_ : Unit) => wM cA aa S' L') (va_A (wM cA aa S L) sz)) 0 0 (va_A (wM cA aa S L) sz) := by
  refine Met.ofW (cc := cX8_law) (maxL := 5) (ret := (some .long)) (by decide) rfl ?_
  intro p e s m args below meth c s₁ B hml hv
  obtain ⟨rfl, hsz, hP, hK, hD0, hN⟩ := hv
  have hx := B.exec
  have hb := B.bytes
  have hr := B.returns
  have hts := atoms_spec (ws := .code yX8_law cX8_law 5 (some .long) :: T0) B.pre
  have hT : ∀ w ∈ T0, w.before _ s = true := fun w h => hts w (List.mem_cons_of_mem _ h)
  have hown : s.vm.findClass RX8 = some m.cls := findClass_of_methodNamed B.named
  have hlocks := B.notSynchronized
  subst hsz
  have hD := hD0.self (sz := s.heap.size)
  generalize hAe : va_A (wM cA aa S L) s.heap.size = A at hD ⊢
  have hA : ∀ q : Nat, s.heap.size ≤ q → A q := fun q h => by rw [← hAe]; exact Or.inr h
  have hS : va_S A s.heap s.heap [] := va_S.rf
  have hl := lv_entry ([.ref (aa 0), .int x1, .int x2]) (n := 5) (Nat.le_of_ble_eq_true rfl)
  rw [lg_entry_eq]
  generalize (lg_sl ([.ref (aa 0), .int x1, .int x2]) ++ List.replicate (5 - (lg_sl ([.ref (aa 0), .int x1, .int x2])).length) Slot.unset).toArray = ls at hl ⊢
  have hl : lv_has ls 5 [(0, .ref (aa 0)), (1, .int x1), (2, .int x2)] := hl
  have F : tF p s m ([.ref (aa 0), .int x1, .int x2] : List Value).toArray meth c G cA A RX8 cX8_law 5 (some .long) := ⟨hx, hb, hr, hml, hT, hown, hlocks, hK, hN, hA⟩
  obtain ⟨H, hH⟩ : ∃ z, z = s.heap := ⟨_, rfl⟩
  rw [← hH] at hP
  have hS : va_S A s.heap H [] := by rw [hH]; exact hS
  suffices hgo : G_X8_law p l e s m below meth c G cA A aa x1 x2 r0 S' L' H [] (F0 m 0 ls []) by rw [hH] at hgo; exact hgo
  generalize ([] : List Loc) = locs at hS ⊢
  unfold f_X8_law at h
  refine lv_aload_n hx hb dX8_law_0 rfl (lv_at hl 0 rfl) ?_
  refine lv_iconst (v := 0) hx hb dX8_law_1 (by decide) ?_
  refine va_put (D := G) (ci := 8) (v := .int 0) (ty := .int) (C := RX8) (T := TX8) (N := 91) hx hb hT ku_8 tyX8 tyX8_ok nmX8 hown hK hP hD hS 0 rfl rfl 2 (by decide) (hT _ kw_14_0) (fun _ h9 => h9) rfl (by decide +kernel) rfl rfl (Nat.le_of_ble_eq_true rfl) dX8_law_2 (fun H locs hP hD hS => ?_)
  obtain ⟨S_1, eS_1, h⟩ := tx_lt h
  rw [sM_f2, eS_1] at hP hD
  refine lv_iload_n hx hb dX8_law_5 rfl (lv_at hl 1 rfl) ?_
  refine lv_iconst (v := 0) hx hb dX8_law_6 (by decide) ?_
  refine lv_iconst (v := 2) hx hb dX8_law_7 (by decide) ?_
  obtain ⟨r2, hc3, h⟩ := tx_bd h
  refine tw_ci (tw_none (ws := wM cA aa S_1 L)) hP hD hS hA (va_runS (As := [.int x1, .int 0, .int 2]) (rest := []) ⟨hx, hb, hml, hown, hT⟩ (c_X8_isIn l G cA H.size x1 (0 : Int32) (2 : Int32)  r2 hc3) (va_cwS 3 hT (tq_gS kw_24_11 kw_24_12 kw_1_5 kw_24_13) rfl rfl rfl (by decide +kernel) ⟨Nat.le_of_ble_eq_true rfl, Nat.le_of_ble_eq_true rfl⟩) (tw_pre (tw_none (ws := wM cA aa S_1 L)) hP hD hK hN) rfl rfl hl.1 rfl (lv_room (Nat.le_of_ble_eq_true rfl)) dX8_law_8 ⟨Nat.le_of_ble_eq_true rfl, Nat.le_of_ble_eq_true rfl⟩) (fun _ _ H locs z4 hP hD hS => ?_)
  subst z4
  have hP : va_P G vwCl (wM cA aa S_1 L) H := hP
  have hD : va_D A (wM cA aa S_1 L) := hD
  refine lv_if_eq (tgt := 41) hx hb dX8_law_11 (by decide) (fun c5 => ?_) (fun c5 => ?_)
  · have h := tx_pos c5 h
    refine lv_ldc2 (v := (-9223372036854775808)) hx hb hown (hT _ kw_34_9) dX8_law_41 ?_
    obtain ⟨rfl, rfl, rfl⟩ := tx_3 h
    exact W.lret hx hb hr (fun t ht hW => ⟨⟨_, (), rfl, rfl, by rw [ht]; exact hP, hD⟩, hS.F ht⟩) hS.2.2 dX8_law_44
  · have h := tx_neg c5 h
    refine lv_aload_n hx hb dX8_law_14 rfl (lv_at hl 0 rfl) ?_
    refine va_get (D := G) (ci := 8) (v := .ref (aa 36)) (C := RX8) (T := TX8) (N := 91) hx hb hT ku_8 hown hK hP 0 rfl rfl 35 (by decide) (hT _ kw_10_3) (fun _ h9 => h9) rfl dX8_law_15 ?_
    refine lv_iload_n hx hb dX8_law_18 rfl (lv_at hl 1 rfl) ?_
    obtain ⟨g6, h⟩ := tx_ck h
    refine va_zald (i := x1) hx hb hK hP 17 1 rfl rfl (tx_in g6) dX8_law_19 ?_
    refine lv_if_eq (tgt := 41) hx hb dX8_law_20 (by decide) (fun c7 => ?_) (fun c7 => ?_)
    · have h := tx_pos c7 h
      refine lv_ldc2 (v := (-9223372036854775808)) hx hb hown (hT _ kw_34_9) dX8_law_41 ?_
      obtain ⟨rfl, rfl, rfl⟩ := tx_3 h
      exact W.lret hx hb hr (fun t ht hW => ⟨⟨_, (), rfl, rfl, by rw [ht]; exact hP, hD⟩, hS.F ht⟩) hS.2.2 dX8_law_44
    · have h := tx_neg c7 h
      refine lv_aload_n hx hb dX8_law_23 rfl (lv_at hl 0 rfl) ?_
      refine lv_iload_n hx hb dX8_law_24 rfl (lv_at hl 2 rfl) ?_
      obtain ⟨r8, hc9, h⟩ := tx_bd h
      refine tw_ci tw_all hP hD hS hA (va_runV (As := [.int x2]) (rest := []) ⟨hx, hb, hml, hown, hT⟩ (c_X8_isPiece l G cA H.size aa S_1 L x2  r8 hc9) (cwV 1 hT (tq_gV kw_30_22 kw_30_23 kw_31_0 kw_1_5 kw_31_1) rfl rfl rfl (by decide +kernel) ⟨Nat.le_of_ble_eq_true rfl, Nat.le_of_ble_eq_true rfl⟩) ⟨(tw_pre tw_all hP hD hK hN).1, va_recv hK hP (ci := 8) (q0 := 0) rfl rfl, (tw_pre tw_all hP hD hK hN).2⟩ rfl rfl hl.1 rfl (lv_room (Nat.le_of_ble_eq_true rfl)) dX8_law_25 ⟨Nat.le_of_ble_eq_true rfl, Nat.le_of_ble_eq_true rfl⟩) (fun _ _ H locs z10 hP hD hS => ?_)
      subst z10
      rw [List.append_nil] at hP hD
      have hP : va_P G vwCl (wM cA aa S_1 L) H := hP
      have hD : va_D A (wM cA aa S_1 L) := hD
      refine lv_if_eq (tgt := 41) hx hb dX8_law_28 (by decide) (fun c11 => ?_) (fun c11 => ?_)
      · have h := tx_pos c11 h
        refine lv_ldc2 (v := (-9223372036854775808)) hx hb hown (hT _ kw_34_9) dX8_law_41 ?_
        obtain ⟨rfl, rfl, rfl⟩ := tx_3 h
        exact W.lret hx hb hr (fun t ht hW => ⟨⟨_, (), rfl, rfl, by rw [ht]; exact hP, hD⟩, hS.F ht⟩) hS.2.2 dX8_law_44
      · have h := tx_neg c11 h
        refine lv_aload_n hx hb dX8_law_31 rfl (lv_at hl 0 rfl) ?_
        refine va_get (D := G) (ci := 8) (v := .ref (aa 53)) (C := RX8) (T := TX8) (N := 91) hx hb hT ku_8 hown hK hP 0 rfl rfl 52 (by decide) (hT _ kw_10_13) (fun _ h9 => h9) rfl dX8_law_32 ?_
        refine lv_iload_n hx hb dX8_law_35 rfl (lv_at hl 2 rfl) ?_
        obtain ⟨g12, h⟩ := tx_ck h
        refine va_iald (i := x2) hx hb hK hP 27 0 rfl rfl (tx_in g12) dX8_law_36 ?_
        refine lv_iconst (v := 1) hx hb dX8_law_37 (by decide) ?_
        refine lv_icmp_eq (tgt := 45) hx hb dX8_law_38 (by decide) (fun c13 => ?_) (fun c13 => ?_)
        · have h := tx_pos c13 h
          refine lv_aload_n hx hb dX8_law_45 rfl (lv_at hl 0 rfl) ?_
          obtain ⟨S_14, hc15, h⟩ := tx_bd h
          refine tw_cv tw_all hP hD hS hA (va_runV (As := []) (rest := []) ⟨hx, hb, hml, hown, hT⟩ (c_X8_plainTried l G cA H.size aa S_1 L  S_14 hc15) (cwV 0 hT (tq_gV kw_12_22 kw_12_23 kw_13_0 kw_1_5 kw_13_1) rfl rfl rfl (by decide +kernel) ⟨Nat.le_of_ble_eq_true rfl, Nat.le_of_ble_eq_true rfl⟩) ⟨(tw_pre tw_all hP hD hK hN).1, va_recv hK hP (ci := 8) (q0 := 0) rfl rfl, (tw_pre tw_all hP hD hK hN).2⟩ rfl rfl hl.1 rfl (lv_room (Nat.le_of_ble_eq_true rfl)) dX8_law_46 ⟨Nat.le_of_ble_eq_true rfl, Nat.le_of_ble_eq_true rfl⟩) (fun _ H locs z16 hP hD hS => ?_)
          rw [List.append_nil] at hP hD
          have hP : va_P G vwCl (wM cA aa S_14 L) H := hP
          have hD : va_D A (wM cA aa S_14 L) := hD
          refine lv_aload_n hx hb dX8_law_49 rfl (lv_at hl 0 rfl) ?_
          refine lv_iconst (v := 0) hx hb dX8_law_50 (by decide) ?_
          refine lv_iload_n hx hb dX8_law_51 rfl (lv_at hl 2 rfl) ?_
          refine lv_aload_n hx hb dX8_law_52 rfl (lv_at hl 0 rfl) ?_
          refine va_get (D := G) (ci := 8) (v := .ref (aa 30)) (C := RX8) (T := TX8) (N := 91) hx hb hT ku_8 hown hK hP 0 rfl rfl 29 (by decide) (hT _ kw_9_21) (fun _ h9 => h9) rfl dX8_law_53 ?_
          refine lv_iload_n hx hb dX8_law_56 rfl (lv_at hl 2 rfl) ?_
          refine va_iald (i := x2) hx hb hK hP 11 0 rfl rfl (tx_in g12) dX8_law_57 ?_
          obtain ⟨L_17, hc18, h⟩ := tx_bd h
          refine tw_cv tw_all hP hD hS hA (va_runV (As := [.int 0, .int x2, .int (S_14 30 x2.toNatClampNeg)]) (rest := []) ⟨hx, hb, hml, hown, hT⟩ (c_X8_layNames l G cA H.size aa S_14 L (0 : Int32) x2 (S_14 30 x2.toNatClampNeg)  L_17 hc18) (cwV 3 hT (tq_gV kw_34_11 kw_34_12 kw_34_13 kw_1_5 kw_34_14) rfl rfl rfl (by decide +kernel) ⟨Nat.le_of_ble_eq_true rfl, Nat.le_of_ble_eq_true rfl⟩) ⟨(tw_pre tw_all hP hD hK hN).1, va_recv hK hP (ci := 8) (q0 := 0) rfl rfl, (tw_pre tw_all hP hD hK hN).2⟩ rfl rfl hl.1 rfl (lv_room (Nat.le_of_ble_eq_true rfl)) dX8_law_58 ⟨Nat.le_of_ble_eq_true rfl, Nat.le_of_ble_eq_true rfl⟩) (fun _ H locs z19 hP hD hS => ?_)
          rw [List.append_nil] at hP hD
          have hP : va_P G vwCl (wM cA aa S_14 L_17) H := hP
          have hD : va_D A (wM cA aa S_14 L_17) := hD
          refine lv_aload_n hx hb dX8_law_61 rfl (lv_at hl 0 rfl) ?_
          refine lv_iload_n hx hb dX8_law_62 rfl (lv_at hl 1 rfl) ?_
          obtain ⟨⟨r20, S_21, L_22⟩, hc23, h⟩ := tx_bd h
          replace h := tx_let (y := r20) rfl h
          replace h := tx_let (y := S_21) rfl h
          replace h := tx_let (y := L_22) rfl h
          refine tw_cl tw_all hP hD hS hA (va_runV (As := [.int x1]) (rest := []) ⟨hx, hb, hml, hown, hT⟩ (c_X8_lawOf l G cA H.size aa S_14 L_17 x1  r20 S_21 L_22 hc23) (cwV 1 hT (tq_gV kw_34_19 kw_34_20 kw_34_21 kw_1_5 kw_34_22) rfl rfl rfl (by decide +kernel) ⟨Nat.le_of_ble_eq_true rfl, Nat.le_of_ble_eq_true rfl⟩) ⟨(tw_pre tw_all hP hD hK hN).1, va_recv hK hP (ci := 8) (q0 := 0) rfl rfl, (tw_pre tw_all hP hD hK hN).2⟩ rfl rfl hl.1 rfl (lv_room (Nat.le_of_ble_eq_true rfl)) dX8_law_63 ⟨Nat.le_of_ble_eq_true rfl, Nat.le_of_ble_eq_true rfl⟩) (fun _ _ H locs z24 hP hD hS => ?_)
          subst z24
          rw [List.append_nil] at hP hD
          have hP : va_P G vwCl (wM cA aa S_21 L_22) H := hP
          have hD : va_D A (wM cA aa S_21 L_22) := hD
          refine lv_lstore_n (lv' := [(3, .long r20), (0, .ref (aa 0)), (1, .int x1), (2, .int x2)]) hx hb dX8_law_66 rfl hl (by decide) rfl (fun ls hl => ?_)
          refine lv_aload_n hx hb dX8_law_67 rfl (lv_at hl 1 rfl) ?_
          refine va_get (D := G) (ci := 8) (v := .int (S_21 0 51)) (C := RX8) (T := TX8) (N := 91) hx hb hT ku_8 hown hK hP 0 rfl rfl 51 (by decide) (hT _ kw_34_10) (fun _ h9 => h9) rfl dX8_law_68 ?_
          refine lv_if_eq (tgt := 80) hx hb dX8_law_71 (by decide) (fun c25 => ?_) (fun c25 => ?_)
          · have h := tx_pos c25 h
            refine lv_lload_n hx hb dX8_law_80 rfl (lv_at hl 0 rfl) ?_
            obtain ⟨rfl, rfl, rfl⟩ := tx_3 h
            exact W.lret hx hb hr (fun t ht hW => ⟨⟨_, (), rfl, rfl, by rw [ht]; exact hP, hD⟩, hS.F ht⟩) hS.2.2 dX8_law_81
          · have h := tx_neg c25 h
            refine lv_ldc2 (v := (-9223372036854775808)) hx hb hown (hT _ kw_34_9) dX8_law_74 ?_
            refine lv_goto (tgt := 81) hx hb dX8_law_77 (by decide) ?_
            obtain ⟨rfl, rfl, rfl⟩ := tx_3 h
            exact W.lret hx hb hr (fun t ht hW => ⟨⟨_, (), rfl, rfl, by rw [ht]; exact hP, hD⟩, hS.F ht⟩) hS.2.2 dX8_law_81
        · have h := tx_neg c13 h
          refine lv_ldc2 (v := (-9223372036854775808)) hx hb hown (hT _ kw_34_9) dX8_law_41 ?_
          obtain ⟨rfl, rfl, rfl⟩ := tx_3 h
          exact W.lret hx hb hr (fun t ht hW => ⟨⟨_, (), rfl, rfl, by rw [ht]; exact hP, hD⟩, hS.F ht⟩) hS.2.2 dX8_law_44
abbrev G_X8_waitsFor (p : Program) (l : Launch) (e : Env) (s : State) (m : MethodId) (below : List Frame) (meth : Method) (c : Code) (G : va_G) (cA : Nat → ClassId) (A : Nat → Prop) (aa : Nat → Nat) (L : Lo) (x1 : Int32) (S' : Tr) (H : Heap) (locs : List Loc) (g : JFrame) : Prop := W p l e (headSpec (.code yX8_waitsFor cX8_waitsFor 2 none :: T0) ({ frames := 0, cells := 0, slots := 0, locals := 0 } : Room)).room s m ([.ref (aa 0), .int x1] : List Value).toArray below meth c H locs 0 0 (MQ below (tqQv G cA (fun (_ : Unit) => True) (fun (_ : Unit) => wM cA aa S' L) A) ([.ref (aa 0), .int x1] : List Value).toArray s 0 0 A) g
set_option maxHeartbeats 4000000 in
set_option maxRecDepth 100000 in
theorem c_X8_waitsFor (l : Launch) (G : va_G) (cA : Nat → ClassId) (sz : Nat) (aa : Nat → Nat) (S : Tr) (L : Lo) (x1 : Int32)  (S' : Tr) (h : f_X8_waitsFor S x1 = some S') : Met l yX8_waitsFor (.code yX8_waitsFor cX8_waitsFor 2 none :: T0) ({ frames := 0, cells := 0, slots := 0, locals := 0 } : Room) (tqP G cA [.ref (aa 0), .int x1] (wM cA aa S L) sz) (tqQv G cA (fun (_ : Unit) => True) (fun (_ : Unit) => wM cA aa S' L) (va_A (wM cA aa S L) sz)) 0 0 (va_A (wM cA aa S L) sz) := by
  refine Met.ofW (cc := cX8_waitsFor) (maxL := 2) (ret := none) (by decide) rfl ?_
  intro p e s m args below meth c s₁ B hml hv
  obtain ⟨rfl, hsz, hP, hK, hD0, hN⟩ := hv
  have hx := B.exec
  have hb := B.bytes
  have hr := B.returns
  have hts := atoms_spec (ws := .code yX8_waitsFor cX8_waitsFor 2 none :: T0) B.pre
  have hT : ∀ w ∈ T0, w.before _ s = true := fun w h => hts w (List.mem_cons_of_mem _ h)
  have hown : s.vm.findClass RX8 = some m.cls := findClass_of_methodNamed B.named
  have hlocks := B.notSynchronized
  subst hsz
  have hD := hD0.self (sz := s.heap.size)
  generalize hAe : va_A (wM cA aa S L) s.heap.size = A at hD ⊢
  have hA : ∀ q : Nat, s.heap.size ≤ q → A q := fun q h => by rw [← hAe]; exact Or.inr h
  have hS : va_S A s.heap s.heap [] := va_S.rf
  have hl := lv_entry ([.ref (aa 0), .int x1]) (n := 2) (Nat.le_of_ble_eq_true rfl)
  rw [lg_entry_eq]
  generalize (lg_sl ([.ref (aa 0), .int x1]) ++ List.replicate (2 - (lg_sl ([.ref (aa 0), .int x1])).length) Slot.unset).toArray = ls at hl ⊢
  have hl : lv_has ls 2 [(0, .ref (aa 0)), (1, .int x1)] := hl
  have F : tF p s m ([.ref (aa 0), .int x1] : List Value).toArray meth c G cA A RX8 cX8_waitsFor 2 none := ⟨hx, hb, hr, hml, hT, hown, hlocks, hK, hN, hA⟩
  obtain ⟨H, hH⟩ : ∃ z, z = s.heap := ⟨_, rfl⟩
  rw [← hH] at hP
  have hS : va_S A s.heap H [] := by rw [hH]; exact hS
  suffices hgo : G_X8_waitsFor p l e s m below meth c G cA A aa L x1 S' H [] (F0 m 0 ls []) by rw [hH] at hgo; exact hgo
  generalize ([] : List Loc) = locs at hS ⊢
  unfold f_X8_waitsFor at h
  refine lv_aload_n hx hb dX8_waitsFor_0 rfl (lv_at hl 0 rfl) ?_
  refine va_get (D := G) (ci := 8) (v := .ref (aa 42)) (C := RX8) (T := TX8) (N := 91) hx hb hT ku_8 hown hK hP 0 rfl rfl 41 (by decide) (hT _ kw_10_9) (fun _ h9 => h9) rfl dX8_waitsFor_1 ?_
  refine lv_aload_n hx hb dX8_waitsFor_4 rfl (lv_at hl 0 rfl) ?_
  refine va_get (D := G) (ci := 8) (v := .int (S 0 43)) (C := RX8) (T := TX8) (N := 91) hx hb hT ku_8 hown hK hP 0 rfl rfl 43 (by decide) (hT _ kw_25_13) (fun _ h9 => h9) rfl dX8_waitsFor_5 ?_
  refine lv_iload_n hx hb dX8_waitsFor_8 rfl (lv_at hl 1 rfl) ?_
  obtain ⟨g1, h⟩ := tx_ck h
  refine va_iast (i := (S 0 43)) hx hb hK hP hD hS 23 0 rfl rfl (tx_in g1) dX8_waitsFor_9 (fun H locs hP hD hS => ?_)
  obtain ⟨S_2, eS_2, h⟩ := tx_lt h
  rw [sM_a41, eS_2] at hP hD
  refine lv_aload_n hx hb dX8_waitsFor_10 rfl (lv_at hl 0 rfl) ?_
  refine lv_dup hx hb dX8_waitsFor_11 rfl ?_
  refine va_get (D := G) (ci := 8) (v := .int (S_2 0 43)) (C := RX8) (T := TX8) (N := 91) hx hb hT ku_8 hown hK hP 0 rfl rfl 43 (by decide) (hT _ kw_25_13) (fun _ h9 => h9) rfl dX8_waitsFor_12 ?_
  refine lv_iconst (v := 1) hx hb dX8_waitsFor_15 (by decide) ?_
  refine lv_iadd hx hb dX8_waitsFor_16 ?_
  refine va_put (D := G) (ci := 8) (v := .int ((S_2 0 43) + 1)) (ty := .int) (C := RX8) (T := TX8) (N := 91) hx hb hT ku_8 tyX8 tyX8_ok nmX8 hown hK hP hD hS 0 rfl rfl 43 (by decide) (hT _ kw_25_13) (fun _ h9 => h9) rfl (by decide +kernel) rfl rfl (Nat.le_of_ble_eq_true rfl) dX8_waitsFor_17 (fun H locs hP hD hS => ?_)
  obtain ⟨S_3, eS_3, h⟩ := tx_lt h
  rw [sM_f43, eS_3] at hP hD
  obtain rfl := tx_1 h
  exact W.vret hx hb hr (fun t ht hW => ⟨⟨(), rfl, trivial, by rw [ht]; exact hP, hD⟩, hS.F ht⟩) hS.2.2 dX8_waitsFor_20
abbrev G_X8_nameMet (p : Program) (l : Launch) (e : Env) (s : State) (m : MethodId) (below : List Frame) (meth : Method) (c : Code) (G : va_G) (cA : Nat → ClassId) (A : Nat → Prop) (aa : Nat → Nat) (S : Tr) (L : Lo) (r0 : Int32) (H : Heap) (locs : List Loc) (g : JFrame) : Prop := W p l e (headSpec (.code yX8_nameMet cX8_nameMet 1 (some .int) :: T0) ({ frames := 0, cells := 0, slots := 0, locals := 0 } : Room)).room s m ([.ref (aa 0)] : List Value).toArray below meth c H locs 0 0 (MQ below (tqQi G cA (fun (r : Int32) (_ : Unit) => r = r0) (fun (_ : Unit) => wM cA aa S L) A) ([.ref (aa 0)] : List Value).toArray s 0 0 A) g
set_option maxHeartbeats 4000000 in
set_option maxRecDepth 100000 in
theorem c_X8_nameMet (l : Launch) (G : va_G) (cA : Nat → ClassId) (sz : Nat) (aa : Nat → Nat) (S : Tr) (L : Lo)  (r0 : Int32) (h : f_X8_nameMet S = some r0) : Met l yX8_nameMet (.code yX8_nameMet cX8_nameMet 1 (some .int) :: T0) ({ frames := 0, cells := 0, slots := 0, locals := 0 } : Room) (tqP G cA [.ref (aa 0)] (wM cA aa S L) sz) (tqQi G cA (fun (r : Int32) (_ : Unit) => r = r0) (fun (_ : Unit) => wM cA aa S L) (va_A (wM cA aa S L) sz)) 0 0 (va_A (wM cA aa S L) sz) := by
  refine Met.ofW (cc := cX8_nameMet) (maxL := 1) (ret := (some .int)) (by decide) rfl ?_
  intro p e s m args below meth c s₁ B hml hv
  obtain ⟨rfl, hsz, hP, hK, hD0, hN⟩ := hv
  have hx := B.exec
  have hb := B.bytes
  have hr := B.returns
  have hts := atoms_spec (ws := .code yX8_nameMet cX8_nameMet 1 (some .int) :: T0) B.pre
  have hT : ∀ w ∈ T0, w.before _ s = true := fun w h => hts w (List.mem_cons_of_mem _ h)
  have hown : s.vm.findClass RX8 = some m.cls := findClass_of_methodNamed B.named
  have hlocks := B.notSynchronized
  subst hsz
  have hD := hD0.self (sz := s.heap.size)
  generalize hAe : va_A (wM cA aa S L) s.heap.size = A at hD ⊢
  have hA : ∀ q : Nat, s.heap.size ≤ q → A q := fun q h => by rw [← hAe]; exact Or.inr h
  have hS : va_S A s.heap s.heap [] := va_S.rf
  have hl := lv_entry ([.ref (aa 0)]) (n := 1) (Nat.le_of_ble_eq_true rfl)
  rw [lg_entry_eq]
  generalize (lg_sl ([.ref (aa 0)]) ++ List.replicate (1 - (lg_sl ([.ref (aa 0)])).length) Slot.unset).toArray = ls at hl ⊢
  have hl : lv_has ls 1 [(0, .ref (aa 0))] := hl
  have F : tF p s m ([.ref (aa 0)] : List Value).toArray meth c G cA A RX8 cX8_nameMet 1 (some .int) := ⟨hx, hb, hr, hml, hT, hown, hlocks, hK, hN, hA⟩
  obtain ⟨H, hH⟩ : ∃ z, z = s.heap := ⟨_, rfl⟩
  rw [← hH] at hP
  have hS : va_S A s.heap H [] := by rw [hH]; exact hS
  suffices hgo : G_X8_nameMet p l e s m below meth c G cA A aa S L r0 H [] (F0 m 0 ls []) by rw [hH] at hgo; exact hgo
  generalize ([] : List Loc) = locs at hS ⊢
  unfold f_X8_nameMet at h
  refine lv_aload_n hx hb dX8_nameMet_0 rfl (lv_at hl 0 rfl) ?_
  refine va_get (D := G) (ci := 8) (v := .int (S 0 8)) (C := RX8) (T := TX8) (N := 91) hx hb hT ku_8 hown hK hP 0 rfl rfl 8 (by decide) (hT _ kw_22_14) (fun _ h9 => h9) rfl dX8_nameMet_1 ?_
  refine lv_iconst (v := 1) hx hb dX8_nameMet_4 (by decide) ?_
  refine lv_icmp_ne (tgt := 27) hx hb dX8_nameMet_5 (by decide) (fun c1 => ?_) (fun c1 => ?_)
  · have h := tx_neg c1 h
    refine lv_iconst (v := (-1)) hx hb dX8_nameMet_27 (by decide) ?_
    obtain rfl := tx_1 h
    exact W.iret hx hb hr (fun t ht hW => ⟨⟨_, (), rfl, rfl, by rw [ht]; exact hP, hD⟩, hS.F ht⟩) hS.2.2 dX8_nameMet_28
  · have h := tx_pos c1 h
    refine lv_aload_n hx hb dX8_nameMet_8 rfl (lv_at hl 0 rfl) ?_
    refine va_get (D := G) (ci := 8) (v := .int (S 0 9)) (C := RX8) (T := TX8) (N := 91) hx hb hT ku_8 hown hK hP 0 rfl rfl 9 (by decide) (hT _ kw_22_20) (fun _ h9 => h9) rfl dX8_nameMet_9 ?_
    refine lv_bipush (v := 22) hx hb dX8_nameMet_12 (by decide) ?_
    refine lv_icmp_lt (tgt := 27) hx hb dX8_nameMet_14 (by decide) (fun c2 => ?_) (fun c2 => ?_)
    · have h := tx_pos c2 h
      refine lv_iconst (v := (-1)) hx hb dX8_nameMet_27 (by decide) ?_
      obtain rfl := tx_1 h
      exact W.iret hx hb hr (fun t ht hW => ⟨⟨_, (), rfl, rfl, by rw [ht]; exact hP, hD⟩, hS.F ht⟩) hS.2.2 dX8_nameMet_28
    · have h := tx_neg c2 h
      refine lv_aload_n hx hb dX8_nameMet_17 rfl (lv_at hl 0 rfl) ?_
      refine va_get (D := G) (ci := 8) (v := .int (S 0 9)) (C := RX8) (T := TX8) (N := 91) hx hb hT ku_8 hown hK hP 0 rfl rfl 9 (by decide) (hT _ kw_22_20) (fun _ h9 => h9) rfl dX8_nameMet_18 ?_
      refine lv_bipush (v := 22) hx hb dX8_nameMet_21 (by decide) ?_
      refine lv_isub hx hb dX8_nameMet_23 ?_
      refine lv_goto (tgt := 28) hx hb dX8_nameMet_24 (by decide) ?_
      obtain rfl := tx_1 h
      exact W.iret hx hb hr (fun t ht hW => ⟨⟨_, (), rfl, rfl, by rw [ht]; exact hP, hD⟩, hS.F ht⟩) hS.2.2 dX8_nameMet_28
abbrev G_X8_leafRead (p : Program) (l : Launch) (e : Env) (s : State) (m : MethodId) (below : List Frame) (meth : Method) (c : Code) (G : va_G) (cA : Nat → ClassId) (A : Nat → Prop) (aa : Nat → Nat) (L : Lo) (r0 : Int32) (S' : Tr) (H : Heap) (locs : List Loc) (g : JFrame) : Prop := W p l e (headSpec (.code yX8_leafRead cX8_leafRead 2 (some .boolean) :: T0) ({ frames := 2, cells := 0, slots := 0, locals := 47 } : Room)).room s m ([.ref (aa 0)] : List Value).toArray below meth c H locs 0 0 (MQ below (tqQi G cA (fun (r : Int32) (_ : Unit) => r = r0) (fun (_ : Unit) => wM cA aa S' L) A) ([.ref (aa 0)] : List Value).toArray s 0 0 A) g
set_option maxHeartbeats 4000000 in
set_option maxRecDepth 100000 in
theorem w_X8_leafRead_J160 {p : Program} {l : Launch} {e : Env} {s : State} {m : MethodId} {below : List Frame} {meth : Method} {c : Code} {G : va_G} {cA : Nat → ClassId} {A : Nat → Prop} {aa : Nat → Nat} {L : Lo} {r0 : Int32} {S' : Tr} (F : tF p s m ([.ref (aa 0)] : List Value).toArray meth c G cA A RX8 cX8_leafRead 2 (some .boolean))    (s0 : Int32) (s1 : Int32) (S : Tr) (H : Heap) (locs : List Loc) (ls : Array Slot) (h : fJ_X8_leafRead_J160 s0 s1 S = some (r0, S')) (hP : va_P G vwCl (wM cA aa S_25 L) H) (hD : va_D A (wM cA aa S_25 L)) (hS : va_S A s.heap H locs) (hl : lv_has ls 2 [(0, .ref (aa 0))]) : G_X8_leafRead p l e s m below meth c G cA A aa L r0 S' H locs (F0 m 160 ls []) := by
  obtain ⟨hx, hb, hr, hml, hT, hown, hlocks, hK, hN, hA⟩ := id F
  unfold fJ_X8_leafRead_J160 at h
  refine lv_iconst (v := 0) hx hb dX8_leafRead_160 (by decide) ?_
  obtain ⟨S_21, hc22, h⟩ := tx_bd h
  refine tw_cv tw_all hP hD hS hA (va_runV (As := [.int s1, .int s0, .int 0]) (rest := []) ⟨hx, hb, hml, hown, hT⟩ (c_X8_grown l G cA H.size aa S L s1 s0 (0 : Int32)  S_21 hc22) (cwV 3 hT (tq_gV kw_26_18 kw_26_19 kw_26_20 kw_1_5 kw_26_21) rfl rfl rfl (by decide +kernel) ⟨Nat.le_of_ble_eq_true rfl, Nat.le_of_ble_eq_true rfl⟩) ⟨(tw_pre tw_all hP hD hK hN).1, va_recv hK hP (ci := 8) (q0 := 0) rfl rfl, (tw_pre tw_all hP hD hK hN).2⟩ rfl rfl hl.1 rfl (lv_room (Nat.le_of_ble_eq_true rfl)) dX8_leafRead_161 ⟨Nat.le_of_ble_eq_true rfl, Nat.le_of_ble_eq_true rfl⟩) (fun _ H locs z23 hP hD hS => ?_)
  rw [List.append_nil] at hP hD
  have hP : va_P G vwCl (wM cA aa S_21 L) H := hP
  have hD : va_D A (wM cA aa S_21 L) := hD
  refine lv_aload_n hx hb dX8_leafRead_164 rfl (lv_at hl 0 rfl) ?_
  refine lv_iconst (v := 0) hx hb dX8_leafRead_165 (by decide) ?_
  refine va_put (D := G) (ci := 8) (v := .int 0) (ty := .boolean) (C := RX8) (T := TX8) (N := 91) hx hb hT ku_8 tyX8 tyX8_ok nmX8 hown hK hP hD hS 0 rfl rfl 47 (by decide) (hT _ kw_25_16) (fun _ h9 => h9) rfl (by decide +kernel) rfl rfl (Nat.le_of_ble_eq_true rfl) dX8_leafRead_166 (fun H locs hP hD hS => ?_)
  obtain ⟨S_24, eS_24, h⟩ := tx_lt h
  rw [sM_f47, eS_24] at hP hD
  refine lv_aload_n hx hb dX8_leafRead_169 rfl (lv_at hl 0 rfl) ?_
  obtain ⟨S_25, hc26, h⟩ := tx_bd h
  refine tw_cv tw_all hP hD hS hA (va_runV (As := []) (rest := []) ⟨hx, hb, hml, hown, hT⟩ (c_X8_token l G cA H.size aa S_24 L  S_25 hc26) (cwV 0 hT (tq_gV kw_22_15 kw_22_16 kw_22_17 kw_1_5 kw_22_18) rfl rfl rfl (by decide +kernel) ⟨Nat.le_of_ble_eq_true rfl, Nat.le_of_ble_eq_true rfl⟩) ⟨(tw_pre tw_all hP hD hK hN).1, va_recv hK hP (ci := 8) (q0 := 0) rfl rfl, (tw_pre tw_all hP hD hK hN).2⟩ rfl rfl hl.1 rfl (lv_room (Nat.le_of_ble_eq_true rfl)) dX8_leafRead_170 ⟨Nat.le_of_ble_eq_true rfl, Nat.le_of_ble_eq_true rfl⟩) (fun _ H locs z27 hP hD hS => ?_)
  rw [List.append_nil] at hP hD
  have hP : va_P G vwCl (wM cA aa S_25 L) H := hP
  have hD : va_D A (wM cA aa S_25 L) := hD
  refine lv_iconst (v := 1) hx hb dX8_leafRead_173 (by decide) ?_
  obtain ⟨rfl, rfl⟩ := tx_2 h
  exact W.zret (ty := .boolean) hx hb hr rfl (fun t ht hW => ⟨⟨_, (), rfl, rfl, by rw [ht]; exact hP, hD⟩, hS.F ht⟩) hS.2.2 dX8_leafRead_174
set_option maxHeartbeats 4000000 in
set_option maxRecDepth 100000 in
theorem w_X8_leafRead_J148 {p : Program} {l : Launch} {e : Env} {s : State} {m : MethodId} {below : List Frame} {meth : Method} {c : Code} {G : va_G} {cA : Nat → ClassId} {A : Nat → Prop} {aa : Nat → Nat} {L : Lo} {r0 : Int32} {S' : Tr} (F : tF p s m ([.ref (aa 0)] : List Value).toArray meth c G cA A RX8 cX8_leafRead 2 (some .boolean))    (x1 : Int32) (s0 : Int32) (S : Tr) (H : Heap) (locs : List Loc) (ls : Array Slot) (h : fJ_X8_leafRead_J148 x1 s0 S = some (r0, S')) (hP : va_P G vwCl (wM cA aa S L) H) (hD : va_D A (wM cA aa S L)) (hS : va_S A s.heap H locs) (hl : lv_has ls 2 [(0, .ref (aa 0)), (1, .int x1)]) : G_X8_leafRead p l e s m below meth c G cA A aa L r0 S' H locs (F0 m 148 ls [.int s0, .ref (aa 0)]) := by
  obtain ⟨hx, hb, hr, hml, hT, hown, hlocks, hK, hN, hA⟩ := id F
  unfold fJ_X8_leafRead_J148 at h
  refine lv_iload_n hx hb dX8_leafRead_148 rfl (lv_at hl 1 rfl) ?_
  refine lv_if_lt (tgt := 156) hx hb dX8_leafRead_149 (by decide) (fun c20 => ?_) (fun c20 => ?_)
  · have h := tx_pos c20 h
    refine lv_aload_n hx hb dX8_leafRead_156 rfl (lv_at hl 0 rfl) ?_
    refine va_get (D := G) (ci := 8) (v := .int (S 0 9)) (C := RX8) (T := TX8) (N := 91) hx hb hT ku_8 hown hK hP 0 rfl rfl 9 (by decide) (hT _ kw_22_20) (fun _ h9 => h9) rfl dX8_leafRead_157 ?_
    exact w_X8_leafRead_J160 F (S 0 9) s0 S H locs ls h hP hD hS (lv_sub hl [0] rfl)
  · have h := tx_neg c20 h
    refine lv_iload_n hx hb dX8_leafRead_152 rfl (lv_at hl 1 rfl) ?_
    refine lv_goto (tgt := 160) hx hb dX8_leafRead_153 (by decide) ?_
    exact w_X8_leafRead_J160 F x1 s0 S H locs ls h hP hD hS (lv_sub hl [0] rfl)
set_option maxHeartbeats 4000000 in
set_option maxRecDepth 100000 in
theorem w_X8_leafRead_J129 {p : Program} {l : Launch} {e : Env} {s : State} {m : MethodId} {below : List Frame} {meth : Method} {c : Code} {G : va_G} {cA : Nat → ClassId} {A : Nat → Prop} {aa : Nat → Nat} {L : Lo} {r0 : Int32} {S' : Tr} (F : tF p s m ([.ref (aa 0)] : List Value).toArray meth c G cA A RX8 cX8_leafRead 2 (some .boolean))    (x1 : Int32) (S : Tr) (H : Heap) (locs : List Loc) (ls : Array Slot) (h : fJ_X8_leafRead_J129 x1 S = some (r0, S')) (hP : va_P G vwCl (wM cA aa S_15 L) H) (hD : va_D A (wM cA aa S_15 L)) (hS : va_S A s.heap H locs) (hl : lv_has ls 2 [(0, .ref (aa 0)), (1, .int x1)]) : G_X8_leafRead p l e s m below meth c G cA A aa L r0 S' H locs (F0 m 129 ls []) := by
  obtain ⟨hx, hb, hr, hml, hT, hown, hlocks, hK, hN, hA⟩ := id F
  unfold fJ_X8_leafRead_J129 at h
  refine lv_aload_n hx hb dX8_leafRead_129 rfl (lv_at hl 0 rfl) ?_
  obtain ⟨⟨r14, S_15⟩, hc16, h⟩ := tx_bd h
  replace h := tx_let (y := r14) rfl h
  replace h := tx_let (y := S_15) rfl h
  refine tw_ci tw_all hP hD hS hA (va_runV (As := []) (rest := []) ⟨hx, hb, hml, hown, hT⟩ (c_X8_isCounted l G cA H.size aa S L  r14 S_15 hc16) (cwV 0 hT (tq_gV kw_26_10 kw_26_11 kw_26_12 kw_1_5 kw_26_13) rfl rfl rfl (by decide +kernel) ⟨Nat.le_of_ble_eq_true rfl, Nat.le_of_ble_eq_true rfl⟩) ⟨(tw_pre tw_all hP hD hK hN).1, va_recv hK hP (ci := 8) (q0 := 0) rfl rfl, (tw_pre tw_all hP hD hK hN).2⟩ rfl rfl hl.1 rfl (lv_room (Nat.le_of_ble_eq_true rfl)) dX8_leafRead_130 ⟨Nat.le_of_ble_eq_true rfl, Nat.le_of_ble_eq_true rfl⟩) (fun _ _ H locs z17 hP hD hS => ?_)
  subst z17
  rw [List.append_nil] at hP hD
  have hP : va_P G vwCl (wM cA aa S_15 L) H := hP
  have hD : va_D A (wM cA aa S_15 L) := hD
  refine lv_if_ne (tgt := 138) hx hb dX8_leafRead_133 (by decide) (fun c18 => ?_) (fun c18 => ?_)
  · have h := tx_neg c18 h
    refine lv_aload_n hx hb dX8_leafRead_138 rfl (lv_at hl 0 rfl) ?_
    refine lv_iload_n hx hb dX8_leafRead_139 rfl (lv_at hl 1 rfl) ?_
    refine lv_if_lt (tgt := 147) hx hb dX8_leafRead_140 (by decide) (fun c19 => ?_) (fun c19 => ?_)
    · have h := tx_pos c19 h
      refine lv_iconst (v := 0) hx hb dX8_leafRead_147 (by decide) ?_
      exact w_X8_leafRead_J148 F x1 0 S_15 H locs ls h hP hD hS (lv_sub hl [0, 1] rfl)
    · have h := tx_neg c19 h
      refine lv_iconst (v := 1) hx hb dX8_leafRead_143 (by decide) ?_
      refine lv_goto (tgt := 148) hx hb dX8_leafRead_144 (by decide) ?_
      exact w_X8_leafRead_J148 F x1 1 S_15 H locs ls h hP hD hS (lv_sub hl [0, 1] rfl)
  · have h := tx_pos c18 h
    refine lv_iconst (v := 0) hx hb dX8_leafRead_136 (by decide) ?_
    obtain ⟨rfl, rfl⟩ := tx_2 h
    exact W.zret (ty := .boolean) hx hb hr rfl (fun t ht hW => ⟨⟨_, (), rfl, rfl, by rw [ht]; exact hP, hD⟩, hS.F ht⟩) hS.2.2 dX8_leafRead_137
set_option maxHeartbeats 4000000 in
set_option maxRecDepth 100000 in
theorem w_X8_leafRead_J109 {p : Program} {l : Launch} {e : Env} {s : State} {m : MethodId} {below : List Frame} {meth : Method} {c : Code} {G : va_G} {cA : Nat → ClassId} {A : Nat → Prop} {aa : Nat → Nat} {L : Lo} {r0 : Int32} {S' : Tr} (F : tF p s m ([.ref (aa 0)] : List Value).toArray meth c G cA A RX8 cX8_leafRead 2 (some .boolean))    (x1 : Int32) (S : Tr) (H : Heap) (locs : List Loc) (ls : Array Slot) (h : fJ_X8_leafRead_J109 x1 S = some (r0, S')) (hP : va_P G vwCl (wM cA aa S L) H) (hD : va_D A (wM cA aa S L)) (hS : va_S A s.heap H locs) (hl : lv_has ls 2 [(0, .ref (aa 0)), (1, .int x1)]) : G_X8_leafRead p l e s m below meth c G cA A aa L r0 S' H locs (F0 m 109 ls []) := by
  obtain ⟨hx, hb, hr, hml, hT, hown, hlocks, hK, hN, hA⟩ := id F
  unfold fJ_X8_leafRead_J109 at h
  refine lv_iload_n hx hb dX8_leafRead_109 rfl (lv_at hl 1 rfl) ?_
  refine lv_if_ge (tgt := 129) hx hb dX8_leafRead_110 (by decide) (fun c13 => ?_) (fun c13 => ?_)
  · have h := tx_pos c13 h
    exact w_X8_leafRead_J129 F x1 S H locs ls h hP hD hS (lv_sub hl [0, 1] rfl)
  · have h := tx_neg c13 h
    refine lv_aload_n hx hb dX8_leafRead_113 rfl (lv_at hl 0 rfl) ?_
    refine va_get (D := G) (ci := 8) (v := .int (S 0 9)) (C := RX8) (T := TX8) (N := 91) hx hb hT ku_8 hown hK hP 0 rfl rfl 9 (by decide) (hT _ kw_22_20) (fun _ h9 => h9) rfl dX8_leafRead_114 ?_
    refine lv_sipush (v := 9999) hx hb dX8_leafRead_117 (by decide) ?_
    refine lv_icmp_le (tgt := 129) hx hb dX8_leafRead_120 (by decide) (fun c28 => ?_) (fun c28 => ?_)
    · have h := tx_pos c28 h
      exact w_X8_leafRead_J129 F x1 S H locs ls h hP hD hS (lv_sub hl [0, 1] rfl)
    · have h := tx_neg c28 h
      refine lv_aload_n hx hb dX8_leafRead_123 rfl (lv_at hl 0 rfl) ?_
      refine lv_iconst (v := 2) hx hb dX8_leafRead_124 (by decide) ?_
      obtain ⟨⟨r29, S_30⟩, hc31, h⟩ := tx_bd h
      replace h := tx_let (y := r29) rfl h
      replace h := tx_let (y := S_30) rfl h
      refine tw_ci tw_all hP hD hS hA (va_runV (As := [.int 2]) (rest := []) ⟨hx, hb, hml, hown, hT⟩ (c_X8_wrong l G cA H.size aa S L (2 : Int32)  r29 S_30 hc31) (cwV 1 hT (tq_gV kw_23_23 kw_24_0 kw_24_1 kw_1_5 kw_24_2) rfl rfl rfl (by decide +kernel) ⟨Nat.le_of_ble_eq_true rfl, Nat.le_of_ble_eq_true rfl⟩) ⟨(tw_pre tw_all hP hD hK hN).1, va_recv hK hP (ci := 8) (q0 := 0) rfl rfl, (tw_pre tw_all hP hD hK hN).2⟩ rfl rfl hl.1 rfl (lv_room (Nat.le_of_ble_eq_true rfl)) dX8_leafRead_125 ⟨Nat.le_of_ble_eq_true rfl, Nat.le_of_ble_eq_true rfl⟩) (fun _ _ H locs z32 hP hD hS => ?_)
      subst z32
      rw [List.append_nil] at hP hD
      have hP : va_P G vwCl (wM cA aa S_30 L) H := hP
      have hD : va_D A (wM cA aa S_30 L) := hD
      obtain ⟨g33, h⟩ := tx_ck h
      obtain ⟨rfl, rfl⟩ := tx_2 h
      exact W.zret (ty := .boolean) hx hb hr (tx_z g33) (fun t ht hW => ⟨⟨_, (), rfl, rfl, by rw [ht]; exact hP, hD⟩, hS.F ht⟩) hS.2.2 dX8_leafRead_128
set_option maxHeartbeats 4000000 in
set_option maxRecDepth 100000 in
theorem w_X8_leafRead_J86 {p : Program} {l : Launch} {e : Env} {s : State} {m : MethodId} {below : List Frame} {meth : Method} {c : Code} {G : va_G} {cA : Nat → ClassId} {A : Nat → Prop} {aa : Nat → Nat} {L : Lo} {r0 : Int32} {S' : Tr} (F : tF p s m ([.ref (aa 0)] : List Value).toArray meth c G cA A RX8 cX8_leafRead 2 (some .boolean))    (S : Tr) (H : Heap) (locs : List Loc) (ls : Array Slot) (h : fJ_X8_leafRead_J86 S = some (r0, S')) (hP : va_P G vwCl (wM cA aa S L) H) (hD : va_D A (wM cA aa S L)) (hS : va_S A s.heap H locs) (hl : lv_has ls 2 [(1, .int r9), (0, .ref (aa 0))]) : G_X8_leafRead p l e s m below meth c G cA A aa L r0 S' H locs (F0 m 86 ls []) := by
  obtain ⟨hx, hb, hr, hml, hT, hown, hlocks, hK, hN, hA⟩ := id F
  unfold fJ_X8_leafRead_J86 at h
  refine lv_aload_n hx hb dX8_leafRead_86 rfl (lv_at hl 0 rfl) ?_
  obtain ⟨r9, hc10, h⟩ := tx_bd h
  refine tw_ci tw_all hP hD hS hA (va_runV (As := []) (rest := []) ⟨hx, hb, hml, hown, hT⟩ (c_X8_nameMet l G cA H.size aa S L  r9 hc10) (cwV 0 hT (tq_gV kw_26_14 kw_26_15 kw_26_16 kw_1_5 kw_26_17) rfl rfl rfl (by decide +kernel) ⟨Nat.le_of_ble_eq_true rfl, Nat.le_of_ble_eq_true rfl⟩) ⟨(tw_pre tw_all hP hD hK hN).1, va_recv hK hP (ci := 8) (q0 := 0) rfl rfl, (tw_pre tw_all hP hD hK hN).2⟩ rfl rfl hl.1 rfl (lv_room (Nat.le_of_ble_eq_true rfl)) dX8_leafRead_87 ⟨Nat.le_of_ble_eq_true rfl, Nat.le_of_ble_eq_true rfl⟩) (fun _ _ H locs z11 hP hD hS => ?_)
  subst z11
  rw [List.append_nil] at hP hD
  have hP : va_P G vwCl (wM cA aa S L) H := hP
  have hD : va_D A (wM cA aa S L) := hD
  refine lv_istore_n (lv' := [(1, .int r9), (0, .ref (aa 0))]) hx hb dX8_leafRead_90 rfl hl (by decide) rfl (fun ls hl => ?_)
  refine lv_iload_n hx hb dX8_leafRead_91 rfl (lv_at hl 0 rfl) ?_
  refine lv_if_ge (tgt := 109) hx hb dX8_leafRead_92 (by decide) (fun c12 => ?_) (fun c12 => ?_)
  · have h := tx_pos c12 h
    exact w_X8_leafRead_J109 F r9 S H locs ls h hP hD hS (lv_sub hl [1, 0] rfl)
  · have h := tx_neg c12 h
    refine lv_aload_n hx hb dX8_leafRead_95 rfl (lv_at hl 1 rfl) ?_
    refine va_get (D := G) (ci := 8) (v := .int (S 0 8)) (C := RX8) (T := TX8) (N := 91) hx hb hT ku_8 hown hK hP 0 rfl rfl 8 (by decide) (hT _ kw_22_14) (fun _ h9 => h9) rfl dX8_leafRead_96 ?_
    refine lv_iconst (v := 3) hx hb dX8_leafRead_99 (by decide) ?_
    refine lv_icmp_eq (tgt := 109) hx hb dX8_leafRead_100 (by decide) (fun c34 => ?_) (fun c34 => ?_)
    · have h := tx_pos c34 h
      exact w_X8_leafRead_J109 F r9 S H locs ls h hP hD hS (lv_sub hl [1, 0] rfl)
    · have h := tx_neg c34 h
      refine lv_aload_n hx hb dX8_leafRead_103 rfl (lv_at hl 1 rfl) ?_
      refine lv_iconst (v := 1) hx hb dX8_leafRead_104 (by decide) ?_
      obtain ⟨⟨r35, S_36⟩, hc37, h⟩ := tx_bd h
      replace h := tx_let (y := r35) rfl h
      replace h := tx_let (y := S_36) rfl h
      refine tw_ci tw_all hP hD hS hA (va_runV (As := [.int 1]) (rest := []) ⟨hx, hb, hml, hown, hT⟩ (c_X8_wrong l G cA H.size aa S L (1 : Int32)  r35 S_36 hc37) (cwV 1 hT (tq_gV kw_23_23 kw_24_0 kw_24_1 kw_1_5 kw_24_2) rfl rfl rfl (by decide +kernel) ⟨Nat.le_of_ble_eq_true rfl, Nat.le_of_ble_eq_true rfl⟩) ⟨(tw_pre tw_all hP hD hK hN).1, va_recv hK hP (ci := 8) (q0 := 0) rfl rfl, (tw_pre tw_all hP hD hK hN).2⟩ rfl rfl hl.1 rfl (lv_room (Nat.le_of_ble_eq_true rfl)) dX8_leafRead_105 ⟨Nat.le_of_ble_eq_true rfl, Nat.le_of_ble_eq_true rfl⟩) (fun _ _ H locs z38 hP hD hS => ?_)
      subst z38
      rw [List.append_nil] at hP hD
      have hP : va_P G vwCl (wM cA aa S_36 L) H := hP
      have hD : va_D A (wM cA aa S_36 L) := hD
      obtain ⟨g39, h⟩ := tx_ck h
      obtain ⟨rfl, rfl⟩ := tx_2 h
      exact W.zret (ty := .boolean) hx hb hr (tx_z g39) (fun t ht hW => ⟨⟨_, (), rfl, rfl, by rw [ht]; exact hP, hD⟩, hS.F ht⟩) hS.2.2 dX8_leafRead_108
set_option maxHeartbeats 4000000 in
set_option maxRecDepth 100000 in
theorem c_X8_leafRead (l : Launch) (G : va_G) (cA : Nat → ClassId) (sz : Nat) (aa : Nat → Nat) (S : Tr) (L : Lo)  (r0 : Int32) (S' : Tr) (h : f_X8_leafRead S = some (r0, S')) : Met l yX8_leafRead (.code yX8_leafRead cX8_leafRead 2 (some .boolean) :: T0) ({ frames := 2, cells := 0, slots := 0, locals := 47 } : Room) (tqP G cA [.ref (aa 0)] (wM cA aa S L) sz) (tqQi G cA (fun (r : Int32) (_ : Unit) => r = r0) (fun (_ : Unit) => wM cA aa S' L) (va_A (wM cA aa S L) sz)) 0 0 (va_A (wM cA aa S L) sz) := by
  refine Met.ofW (cc := cX8_leafRead) (maxL := 2) (ret := (some .boolean)) (by decide) rfl ?_
  intro p e s m args below meth c s₁ B hml hv
  obtain ⟨rfl, hsz, hP, hK, hD0, hN⟩ := hv
  have hx := B.exec
  have hb := B.bytes
  have hr := B.returns
  have hts := atoms_spec (ws := .code yX8_leafRead cX8_leafRead 2 (some .boolean) :: T0) B.pre
  have hT : ∀ w ∈ T0, w.before _ s = true := fun w h => hts w (List.mem_cons_of_mem _ h)
  have hown : s.vm.findClass RX8 = some m.cls := findClass_of_methodNamed B.named
  have hlocks := B.notSynchronized
  subst hsz
  have hD := hD0.self (sz := s.heap.size)
  generalize hAe : va_A (wM cA aa S L) s.heap.size = A at hD ⊢
  have hA : ∀ q : Nat, s.heap.size ≤ q → A q := fun q h => by rw [← hAe]; exact Or.inr h
  have hS : va_S A s.heap s.heap [] := va_S.rf
  have hl := lv_entry ([.ref (aa 0)]) (n := 2) (Nat.le_of_ble_eq_true rfl)
  rw [lg_entry_eq]
  generalize (lg_sl ([.ref (aa 0)]) ++ List.replicate (2 - (lg_sl ([.ref (aa 0)])).length) Slot.unset).toArray = ls at hl ⊢
  have hl : lv_has ls 2 [(0, .ref (aa 0))] := hl
  have F : tF p s m ([.ref (aa 0)] : List Value).toArray meth c G cA A RX8 cX8_leafRead 2 (some .boolean) := ⟨hx, hb, hr, hml, hT, hown, hlocks, hK, hN, hA⟩
  obtain ⟨H, hH⟩ : ∃ z, z = s.heap := ⟨_, rfl⟩
  rw [← hH] at hP
  have hS : va_S A s.heap H [] := by rw [hH]; exact hS
  suffices hgo : G_X8_leafRead p l e s m below meth c G cA A aa L r0 S' H [] (F0 m 0 ls []) by rw [hH] at hgo; exact hgo
  generalize ([] : List Loc) = locs at hS ⊢
  unfold f_X8_leafRead at h
  refine lv_aload_n hx hb dX8_leafRead_0 rfl (lv_at hl 0 rfl) ?_
  refine lv_bipush (v := 40) hx hb dX8_leafRead_1 (by decide) ?_
  obtain ⟨r1, hc2, h⟩ := tx_bd h
  refine tw_ci tw_all hP hD hS hA (va_runV (As := [.int 40]) (rest := []) ⟨hx, hb, hml, hown, hT⟩ (c_X8_isSign l G cA H.size aa S L (40 : Int32)  r1 hc2) (cwV 1 hT (tq_gV kw_25_18 kw_25_19 kw_25_20 kw_1_5 kw_25_21) rfl rfl rfl (by decide +kernel) ⟨Nat.le_of_ble_eq_true rfl, Nat.le_of_ble_eq_true rfl⟩) ⟨(tw_pre tw_all hP hD hK hN).1, va_recv hK hP (ci := 8) (q0 := 0) rfl rfl, (tw_pre tw_all hP hD hK hN).2⟩ rfl rfl hl.1 rfl (lv_room (Nat.le_of_ble_eq_true rfl)) dX8_leafRead_3 ⟨Nat.le_of_ble_eq_true rfl, Nat.le_of_ble_eq_true rfl⟩) (fun _ _ H locs z3 hP hD hS => ?_)
  subst z3
  rw [List.append_nil] at hP hD
  have hP : va_P G vwCl (wM cA aa S L) H := hP
  have hD : va_D A (wM cA aa S L) := hD
  refine lv_if_eq (tgt := 50) hx hb dX8_leafRead_6 (by decide) (fun c4 => ?_) (fun c4 => ?_)
  · have h := tx_pos c4 h
    refine lv_aload_n hx hb dX8_leafRead_50 rfl (lv_at hl 0 rfl) ?_
    refine lv_bipush (v := 21) hx hb dX8_leafRead_51 (by decide) ?_
    obtain ⟨r5, hc6, h⟩ := tx_bd h
    refine tw_ci tw_all hP hD hS hA (va_runV (As := [.int 21]) (rest := []) ⟨hx, hb, hml, hown, hT⟩ (c_X8_isKey l G cA H.size aa S L (21 : Int32)  r5 hc6) (cwV 1 hT (tq_gV kw_26_6 kw_26_7 kw_26_8 kw_1_5 kw_26_9) rfl rfl rfl (by decide +kernel) ⟨Nat.le_of_ble_eq_true rfl, Nat.le_of_ble_eq_true rfl⟩) ⟨(tw_pre tw_all hP hD hK hN).1, va_recv hK hP (ci := 8) (q0 := 0) rfl rfl, (tw_pre tw_all hP hD hK hN).2⟩ rfl rfl hl.1 rfl (lv_room (Nat.le_of_ble_eq_true rfl)) dX8_leafRead_53 ⟨Nat.le_of_ble_eq_true rfl, Nat.le_of_ble_eq_true rfl⟩) (fun _ _ H locs z7 hP hD hS => ?_)
    subst z7
    rw [List.append_nil] at hP hD
    have hP : va_P G vwCl (wM cA aa S L) H := hP
    have hD : va_D A (wM cA aa S L) := hD
    refine lv_if_eq (tgt := 86) hx hb dX8_leafRead_56 (by decide) (fun c8 => ?_) (fun c8 => ?_)
    · have h := tx_pos c8 h
      exact w_X8_leafRead_J86 F S H locs ls h hP hD hS (lv_sub hl [0] rfl)
    · have h := tx_neg c8 h
      refine lv_aload_n hx hb dX8_leafRead_59 rfl (lv_at hl 0 rfl) ?_
      refine va_get (D := G) (ci := 8) (v := .int (S 0 48)) (C := RX8) (T := TX8) (N := 91) hx hb hT ku_8 hown hK hP 0 rfl rfl 48 (by decide) (hT _ kw_25_17) (fun _ h9 => h9) rfl dX8_leafRead_60 ?_
      refine lv_if_eq (tgt := 86) hx hb dX8_leafRead_63 (by decide) (fun c40 => ?_) (fun c40 => ?_)
      · have h := tx_pos c40 h
        exact w_X8_leafRead_J86 F S H locs ls h hP hD hS (lv_sub hl [0] rfl)
      · have h := tx_neg c40 h
        refine lv_aload_n hx hb dX8_leafRead_66 rfl (lv_at hl 0 rfl) ?_
        obtain ⟨⟨r41, S_42⟩, hc43, h⟩ := tx_bd h
        replace h := tx_let (y := r41) rfl h
        replace h := tx_let (y := S_42) rfl h
        refine tw_ci tw_all hP hD hS hA (va_runV (As := []) (rest := []) ⟨hx, hb, hml, hown, hT⟩ (c_X8_isCounted l G cA H.size aa S L  r41 S_42 hc43) (cwV 0 hT (tq_gV kw_26_10 kw_26_11 kw_26_12 kw_1_5 kw_26_13) rfl rfl rfl (by decide +kernel) ⟨Nat.le_of_ble_eq_true rfl, Nat.le_of_ble_eq_true rfl⟩) ⟨(tw_pre tw_all hP hD hK hN).1, va_recv hK hP (ci := 8) (q0 := 0) rfl rfl, (tw_pre tw_all hP hD hK hN).2⟩ rfl rfl hl.1 rfl (lv_room (Nat.le_of_ble_eq_true rfl)) dX8_leafRead_67 ⟨Nat.le_of_ble_eq_true rfl, Nat.le_of_ble_eq_true rfl⟩) (fun _ _ H locs z44 hP hD hS => ?_)
        subst z44
        rw [List.append_nil] at hP hD
        have hP : va_P G vwCl (wM cA aa S_42 L) H := hP
        have hD : va_D A (wM cA aa S_42 L) := hD
        refine lv_if_ne (tgt := 75) hx hb dX8_leafRead_70 (by decide) (fun c45 => ?_) (fun c45 => ?_)
        · have h := tx_neg c45 h
          refine lv_aload_n hx hb dX8_leafRead_75 rfl (lv_at hl 0 rfl) ?_
          refine lv_iconst (v := 2) hx hb dX8_leafRead_76 (by decide) ?_
          obtain ⟨S_46, hc47, h⟩ := tx_bd h
          refine tw_cv tw_all hP hD hS hA (va_runV (As := [.int 2]) (rest := []) ⟨hx, hb, hml, hown, hT⟩ (c_X8_waitsFor l G cA H.size aa S_42 L (2 : Int32)  S_46 hc47) (cwV 1 hT (tq_gV kw_26_2 kw_26_3 kw_26_4 kw_1_5 kw_26_5) rfl rfl rfl (by decide +kernel) ⟨Nat.le_of_ble_eq_true rfl, Nat.le_of_ble_eq_true rfl⟩) ⟨(tw_pre tw_all hP hD hK hN).1, va_recv hK hP (ci := 8) (q0 := 0) rfl rfl, (tw_pre tw_all hP hD hK hN).2⟩ rfl rfl hl.1 rfl (lv_room (Nat.le_of_ble_eq_true rfl)) dX8_leafRead_77 ⟨Nat.le_of_ble_eq_true rfl, Nat.le_of_ble_eq_true rfl⟩) (fun _ H locs z48 hP hD hS => ?_)
          rw [List.append_nil] at hP hD
          have hP : va_P G vwCl (wM cA aa S_46 L) H := hP
          have hD : va_D A (wM cA aa S_46 L) := hD
          refine lv_aload_n hx hb dX8_leafRead_80 rfl (lv_at hl 0 rfl) ?_
          obtain ⟨S_49, hc50, h⟩ := tx_bd h
          refine tw_cv tw_all hP hD hS hA (va_runV (As := []) (rest := []) ⟨hx, hb, hml, hown, hT⟩ (c_X8_token l G cA H.size aa S_46 L  S_49 hc50) (cwV 0 hT (tq_gV kw_22_15 kw_22_16 kw_22_17 kw_1_5 kw_22_18) rfl rfl rfl (by decide +kernel) ⟨Nat.le_of_ble_eq_true rfl, Nat.le_of_ble_eq_true rfl⟩) ⟨(tw_pre tw_all hP hD hK hN).1, va_recv hK hP (ci := 8) (q0 := 0) rfl rfl, (tw_pre tw_all hP hD hK hN).2⟩ rfl rfl hl.1 rfl (lv_room (Nat.le_of_ble_eq_true rfl)) dX8_leafRead_81 ⟨Nat.le_of_ble_eq_true rfl, Nat.le_of_ble_eq_true rfl⟩) (fun _ H locs z51 hP hD hS => ?_)
          rw [List.append_nil] at hP hD
          have hP : va_P G vwCl (wM cA aa S_49 L) H := hP
          have hD : va_D A (wM cA aa S_49 L) := hD
          refine lv_iconst (v := 1) hx hb dX8_leafRead_84 (by decide) ?_
          obtain ⟨rfl, rfl⟩ := tx_2 h
          exact W.zret (ty := .boolean) hx hb hr rfl (fun t ht hW => ⟨⟨_, (), rfl, rfl, by rw [ht]; exact hP, hD⟩, hS.F ht⟩) hS.2.2 dX8_leafRead_85
        · have h := tx_pos c45 h
          refine lv_iconst (v := 0) hx hb dX8_leafRead_73 (by decide) ?_
          obtain ⟨rfl, rfl⟩ := tx_2 h
          exact W.zret (ty := .boolean) hx hb hr rfl (fun t ht hW => ⟨⟨_, (), rfl, rfl, by rw [ht]; exact hP, hD⟩, hS.F ht⟩) hS.2.2 dX8_leafRead_74
  · have h := tx_neg c4 h
    refine lv_aload_n hx hb dX8_leafRead_9 rfl (lv_at hl 0 rfl) ?_
    refine va_get (D := G) (ci := 8) (v := .int (S 0 45)) (C := RX8) (T := TX8) (N := 91) hx hb hT ku_8 hown hK hP 0 rfl rfl 45 (by decide) (hT _ kw_25_15) (fun _ h9 => h9) rfl dX8_leafRead_10 ?_
    refine lv_bipush (v := 8) hx hb dX8_leafRead_13 (by decide) ?_
    refine lv_icmp_ne (tgt := 24) hx hb dX8_leafRead_15 (by decide) (fun c52 => ?_) (fun c52 => ?_)
    · have h := tx_neg c52 h
      refine lv_aload_n hx hb dX8_leafRead_24 rfl (lv_at hl 0 rfl) ?_
      refine lv_dup hx hb dX8_leafRead_25 rfl ?_
      refine va_get (D := G) (ci := 8) (v := .int (S 0 45)) (C := RX8) (T := TX8) (N := 91) hx hb hT ku_8 hown hK hP 0 rfl rfl 45 (by decide) (hT _ kw_25_15) (fun _ h9 => h9) rfl dX8_leafRead_26 ?_
      refine lv_iconst (v := 1) hx hb dX8_leafRead_29 (by decide) ?_
      refine lv_iadd hx hb dX8_leafRead_30 ?_
      refine va_put (D := G) (ci := 8) (v := .int ((S 0 45) + 1)) (ty := .int) (C := RX8) (T := TX8) (N := 91) hx hb hT ku_8 tyX8 tyX8_ok nmX8 hown hK hP hD hS 0 rfl rfl 45 (by decide) (hT _ kw_25_15) (fun _ h9 => h9) rfl (by decide +kernel) rfl rfl (Nat.le_of_ble_eq_true rfl) dX8_leafRead_31 (fun H locs hP hD hS => ?_)
      obtain ⟨S_53, eS_53, h⟩ := tx_lt h
      rw [sM_f45, eS_53] at hP hD
      refine lv_aload_n hx hb dX8_leafRead_34 rfl (lv_at hl 0 rfl) ?_
      refine lv_iconst (v := 0) hx hb dX8_leafRead_35 (by decide) ?_
      obtain ⟨S_54, hc55, h⟩ := tx_bd h
      refine tw_cv tw_all hP hD hS hA (va_runV (As := [.int 0]) (rest := []) ⟨hx, hb, hml, hown, hT⟩ (c_X8_waitsFor l G cA H.size aa S_53 L (0 : Int32)  S_54 hc55) (cwV 1 hT (tq_gV kw_26_2 kw_26_3 kw_26_4 kw_1_5 kw_26_5) rfl rfl rfl (by decide +kernel) ⟨Nat.le_of_ble_eq_true rfl, Nat.le_of_ble_eq_true rfl⟩) ⟨(tw_pre tw_all hP hD hK hN).1, va_recv hK hP (ci := 8) (q0 := 0) rfl rfl, (tw_pre tw_all hP hD hK hN).2⟩ rfl rfl hl.1 rfl (lv_room (Nat.le_of_ble_eq_true rfl)) dX8_leafRead_36 ⟨Nat.le_of_ble_eq_true rfl, Nat.le_of_ble_eq_true rfl⟩) (fun _ H locs z56 hP hD hS => ?_)
      rw [List.append_nil] at hP hD
      have hP : va_P G vwCl (wM cA aa S_54 L) H := hP
      have hD : va_D A (wM cA aa S_54 L) := hD
      refine lv_aload_n hx hb dX8_leafRead_39 rfl (lv_at hl 0 rfl) ?_
      refine lv_iconst (v := 1) hx hb dX8_leafRead_40 (by decide) ?_
      refine va_put (D := G) (ci := 8) (v := .int 1) (ty := .boolean) (C := RX8) (T := TX8) (N := 91) hx hb hT ku_8 tyX8 tyX8_ok nmX8 hown hK hP hD hS 0 rfl rfl 48 (by decide) (hT _ kw_25_17) (fun _ h9 => h9) rfl (by decide +kernel) rfl rfl (Nat.le_of_ble_eq_true rfl) dX8_leafRead_41 (fun H locs hP hD hS => ?_)
      obtain ⟨S_57, eS_57, h⟩ := tx_lt h
      rw [sM_f48, eS_57] at hP hD
      refine lv_aload_n hx hb dX8_leafRead_44 rfl (lv_at hl 0 rfl) ?_
      obtain ⟨S_58, hc59, h⟩ := tx_bd h
      refine tw_cv tw_all hP hD hS hA (va_runV (As := []) (rest := []) ⟨hx, hb, hml, hown, hT⟩ (c_X8_token l G cA H.size aa S_57 L  S_58 hc59) (cwV 0 hT (tq_gV kw_22_15 kw_22_16 kw_22_17 kw_1_5 kw_22_18) rfl rfl rfl (by decide +kernel) ⟨Nat.le_of_ble_eq_true rfl, Nat.le_of_ble_eq_true rfl⟩) ⟨(tw_pre tw_all hP hD hK hN).1, va_recv hK hP (ci := 8) (q0 := 0) rfl rfl, (tw_pre tw_all hP hD hK hN).2⟩ rfl rfl hl.1 rfl (lv_room (Nat.le_of_ble_eq_true rfl)) dX8_leafRead_45 ⟨Nat.le_of_ble_eq_true rfl, Nat.le_of_ble_eq_true rfl⟩) (fun _ H locs z60 hP hD hS => ?_)
      rw [List.append_nil] at hP hD
      have hP : va_P G vwCl (wM cA aa S_58 L) H := hP
      have hD : va_D A (wM cA aa S_58 L) := hD
      refine lv_iconst (v := 1) hx hb dX8_leafRead_48 (by decide) ?_
      obtain ⟨rfl, rfl⟩ := tx_2 h
      exact W.zret (ty := .boolean) hx hb hr rfl (fun t ht hW => ⟨⟨_, (), rfl, rfl, by rw [ht]; exact hP, hD⟩, hS.F ht⟩) hS.2.2 dX8_leafRead_49
    · have h := tx_pos c52 h
      refine lv_aload_n hx hb dX8_leafRead_18 rfl (lv_at hl 0 rfl) ?_
      refine lv_iconst (v := 2) hx hb dX8_leafRead_19 (by decide) ?_
      obtain ⟨⟨r61, S_62⟩, hc63, h⟩ := tx_bd h
      replace h := tx_let (y := r61) rfl h
      replace h := tx_let (y := S_62) rfl h
      refine tw_ci tw_all hP hD hS hA (va_runV (As := [.int 2]) (rest := []) ⟨hx, hb, hml, hown, hT⟩ (c_X8_wrong l G cA H.size aa S L (2 : Int32)  r61 S_62 hc63) (cwV 1 hT (tq_gV kw_23_23 kw_24_0 kw_24_1 kw_1_5 kw_24_2) rfl rfl rfl (by decide +kernel) ⟨Nat.le_of_ble_eq_true rfl, Nat.le_of_ble_eq_true rfl⟩) ⟨(tw_pre tw_all hP hD hK hN).1, va_recv hK hP (ci := 8) (q0 := 0) rfl rfl, (tw_pre tw_all hP hD hK hN).2⟩ rfl rfl hl.1 rfl (lv_room (Nat.le_of_ble_eq_true rfl)) dX8_leafRead_20 ⟨Nat.le_of_ble_eq_true rfl, Nat.le_of_ble_eq_true rfl⟩) (fun _ _ H locs z64 hP hD hS => ?_)
      subst z64
      rw [List.append_nil] at hP hD
      have hP : va_P G vwCl (wM cA aa S_62 L) H := hP
      have hD : va_D A (wM cA aa S_62 L) := hD
      obtain ⟨g65, h⟩ := tx_ck h
      obtain ⟨rfl, rfl⟩ := tx_2 h
      exact W.zret (ty := .boolean) hx hb hr (tx_z g65) (fun t ht hW => ⟨⟨_, (), rfl, rfl, by rw [ht]; exact hP, hD⟩, hS.F ht⟩) hS.2.2 dX8_leafRead_23
abbrev G_X8_powerOf (p : Program) (l : Launch) (e : Env) (s : State) (m : MethodId) (below : List Frame) (meth : Method) (c : Code) (G : va_G) (cA : Nat → ClassId) (A : Nat → Prop) (x0 : Int32) (x1 : Int32) (r0 : Int32) (H : Heap) (locs : List Loc) (g : JFrame) : Prop := W p l e (headSpec (.code yX8_powerOf cX8_powerOf 4 (some .int) :: T0) ({ frames := 0, cells := 0, slots := 0, locals := 0 } : Room)).room s m ([.int x0, .int x1] : List Value).toArray below meth c H locs 0 0 (MQ below (tqQi G cA (fun (r : Int32) (_ : Unit) => r = r0) (fun (_ : Unit) => ([] : va_W)) A) ([.int x0, .int x1] : List Value).toArray s 0 0 A) g
set_option maxHeartbeats 4000000 in
set_option maxRecDepth 100000 in
theorem w_X8_powerOf_L4 {p : Program} {l : Launch} {e : Env} {s : State} {m : MethodId} {below : List Frame} {meth : Method} {c : Code} {G : va_G} {cA : Nat → ClassId} {A : Nat → Prop} {x0₀ : Int32} {x1₀ : Int32} {r0 : Int32} {x0 : Int32} {x1 : Int32} (F : tF p s m ([.int x0₀, .int x1₀] : List Value).toArray meth c G cA A RX8 cX8_powerOf 4 (some .int))    (N : Nat) : ∀ (x2 : Int32) (x3 : Int32) (H : Heap) (locs : List Loc) (ls : Array Slot), lpF (fun _ _ => none) (fB_X8_powerOf_L4 x0 x1) N x2 x3 = some r0 → va_P G vwCl (([] : va_W)) H → va_D A (([] : va_W)) → va_S A s.heap H locs → lv_has ls 4 [(0, .int x0), (1, .int x1), (2, .int x2), (3, .int x3)] → G_X8_powerOf p l e s m below meth c G cA A x0₀ x1₀ r0 H locs (F0 m 4 ls []) := by
  obtain ⟨hx, hb, hr, hml, hT, hown, hlocks, hK, hN, hA⟩ := id F
  induction N with
  | zero =>
    intro x2 x3 H locs ls h
    have h : (none : Option (Int32)) = some r0 := h
    cases h
  | succ N hk4 =>
    intro x2 x3 H locs ls h hP hD hS hl
    have h : fB_X8_powerOf_L4 x0 x1 (lpF (fun _ _ => none) (fB_X8_powerOf_L4 x0 x1) N) x2 x3 = some r0 := h
    generalize hk4e : lpF (fun _ _ => none) (fB_X8_powerOf_L4 x0 x1) N = k4 at h hk4
    unfold fB_X8_powerOf_L4 at h
    refine lv_iload_n hx hb dX8_powerOf_4 rfl (lv_at hl 3 rfl) ?_
    refine lv_iload_n hx hb dX8_powerOf_5 rfl (lv_at hl 1 rfl) ?_
    refine lv_icmp_ge (tgt := 19) hx hb dX8_powerOf_6 (by decide) (fun c1 => ?_) (fun c1 => ?_)
    · have h := tx_pos c1 h
      refine lv_iload_n hx hb dX8_powerOf_19 rfl (lv_at hl 2 rfl) ?_
      obtain rfl := tx_1 h
      exact W.iret hx hb hr (fun t ht hW => ⟨⟨_, (), rfl, rfl, by rw [ht]; exact hP, hD⟩, hS.F ht⟩) hS.2.2 dX8_powerOf_20
    · have h := tx_neg c1 h
      refine lv_iload_n hx hb dX8_powerOf_9 rfl (lv_at hl 2 rfl) ?_
      refine lv_iload_n hx hb dX8_powerOf_10 rfl (lv_at hl 0 rfl) ?_
      refine lv_imul hx hb dX8_powerOf_11 ?_
      refine lv_topi (fun y2 ey2 => ?_)
      have h := tx_let ey2 h
      refine lv_istore_n (lv' := [(2, .int y2), (0, .int x0), (1, .int x1), (3, .int x3)]) hx hb dX8_powerOf_12 rfl hl (by decide) rfl (fun ls hl => ?_)
      obtain ⟨y3, ey3, h⟩ := tx_lt h
      refine lv_iinc (v := y3) (lv' := [(3, .int y3), (2, .int y2), (0, .int x0), (1, .int x1)]) hx hb dX8_powerOf_13 hl (k := 3) rfl ey3 (by decide) rfl (fun ls hl => ?_)
      refine lv_goto (tgt := 4) hx hb dX8_powerOf_16 (by decide) ?_
      exact hk4 y2 y3 H locs ls h hP hD hS (lv_sub hl [2, 3, 1, 0] rfl)
set_option maxHeartbeats 4000000 in
set_option maxRecDepth 100000 in
theorem c_X8_powerOf (l : Launch) (G : va_G) (cA : Nat → ClassId) (sz : Nat) (x0 : Int32) (x1 : Int32)  (r0 : Int32) (h : f_X8_powerOf x0 x1 = some r0) : Met l yX8_powerOf (.code yX8_powerOf cX8_powerOf 4 (some .int) :: T0) ({ frames := 0, cells := 0, slots := 0, locals := 0 } : Room) (tqP G cA [.int x0, .int x1] (([] : va_W)) sz) (tqQi G cA (fun (r : Int32) (_ : Unit) => r = r0) (fun (_ : Unit) => ([] : va_W)) (va_A (([] : va_W)) sz)) 0 0 (va_A (([] : va_W)) sz) := by
  refine Met.ofW (cc := cX8_powerOf) (maxL := 4) (ret := (some .int)) (by decide) rfl ?_
  intro p e s m args below meth c s₁ B hml hv
  obtain ⟨rfl, hsz, hP, hK, hD0, hN⟩ := hv
  have hx := B.exec
  have hb := B.bytes
  have hr := B.returns
  have hts := atoms_spec (ws := .code yX8_powerOf cX8_powerOf 4 (some .int) :: T0) B.pre
  have hT : ∀ w ∈ T0, w.before _ s = true := fun w h => hts w (List.mem_cons_of_mem _ h)
  have hown : s.vm.findClass RX8 = some m.cls := findClass_of_methodNamed B.named
  have hlocks := B.notSynchronized
  subst hsz
  have hD := hD0.self (sz := s.heap.size)
  generalize hAe : va_A (([] : va_W)) s.heap.size = A at hD ⊢
  have hA : ∀ q : Nat, s.heap.size ≤ q → A q := fun q h => by rw [← hAe]; exact Or.inr h
  have hS : va_S A s.heap s.heap [] := va_S.rf
  have hl := lv_entry ([.int x0, .int x1]) (n := 4) (Nat.le_of_ble_eq_true rfl)
  rw [lg_entry_eq]
  generalize (lg_sl ([.int x0, .int x1]) ++ List.replicate (4 - (lg_sl ([.int x0, .int x1])).length) Slot.unset).toArray = ls at hl ⊢
  have hl : lv_has ls 4 [(0, .int x0), (1, .int x1)] := hl
  have F : tF p s m ([.int x0, .int x1] : List Value).toArray meth c G cA A RX8 cX8_powerOf 4 (some .int) := ⟨hx, hb, hr, hml, hT, hown, hlocks, hK, hN, hA⟩
  obtain ⟨H, hH⟩ : ∃ z, z = s.heap := ⟨_, rfl⟩
  rw [← hH] at hP
  have hS : va_S A s.heap H [] := by rw [hH]; exact hS
  suffices hgo : G_X8_powerOf p l e s m below meth c G cA A x0 x1 r0 H [] (F0 m 0 ls []) by rw [hH] at hgo; exact hgo
  generalize ([] : List Loc) = locs at hS ⊢
  unfold f_X8_powerOf at h
  refine lv_iconst (v := 1) hx hb dX8_powerOf_0 (by decide) ?_
  refine lv_istore_n (lv' := [(2, .int 1), (0, .int x0), (1, .int x1)]) hx hb dX8_powerOf_1 rfl hl (by decide) rfl (fun ls hl => ?_)
  refine lv_iconst (v := 0) hx hb dX8_powerOf_2 (by decide) ?_
  refine lv_istore_n (lv' := [(3, .int 0), (2, .int 1), (0, .int x0), (1, .int x1)]) hx hb dX8_powerOf_3 rfl hl (by decide) rfl (fun ls hl => ?_)
  exact w_X8_powerOf_L4 F 2000 1 0 H locs ls h hP hD hS (lv_sub hl [2, 3, 1, 0] rfl)
